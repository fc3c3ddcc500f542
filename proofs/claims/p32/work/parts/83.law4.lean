section KL
variable {p : Program} {l : Launch} {e : Env} {s : State} {m : MethodId} {below : List Frame} {meth : Method} {c : Code} {bb L i : Nat} {xs : Nat → Int32} {G : kz_G} {x : Nat} {a sv ah h t : Nat → Nat} {b : Nat → Nat → Nat} {np nq nc nl nv ng nu nf nk nt : Nat} {V S Y : kz_S} {R : Nat → kz_S} {zp zq zc zl zv zg zu zf zk zt : Nat → Int32} {why beh : Int32} {D nP mL : Nat} {hh : Int32}
set_option maxHeartbeats 4000000 in
set_option maxRecDepth 100000 in
theorem kl_c_pass (C0 : kl_C p s m c bb L xs G) (hI : ps_C i D nP mL V S Y zp zq zc zl zv zg zu zf zk zt why beh) (KK : kl_K p l e s m below meth c bb G x a sv ah h b t np nq nc nl nv ng nu nf nk nt i) : kl_at p l e s m below meth c bb G x a sv ah h b t np nq nc nl nv ng nu nf nk nt 852 [(0, .ref bb), (1, .ref x), (2, .ref np), (3, .ref nq), (4, .ref nc), (5, .ref nl), (6, .ref nv), (7, .ref ng), (8, .ref nu), (9, .ref nf), (10, .ref nk), (11, .ref nt), (12, .int why), (13, .int beh), (14, .int (nI i)), (15, .int hh)] V S Y R zp zq zc zl zv zg zu zf zk zt := by
  obtain ⟨hx, hb, hml, hown, hts, ⟨hX, hL⟩, hbl, hK, hZ0⟩ := C0
  have hA : ∀ q : Nat, s.heap.size ≤ q → kl_A s q := fun _ h => h
  have hbA : ¬ kl_A s bb := Nat.not_le.mpr hbl
  intro H locs ls hP hD hS hl
  have hR := hI.1
  have hin := hI.2.1
  have hNi := ps_hN hI
  have hDi := ps_hD hI
  have hnP := ps_n hR
  have hmL := ps_m hR
  have e5 := hR.2.2.2.2.1.1
  have e7 := hR.2.2.2.2.2.2.1.1
  have e8 := hR.2.2.2.2.2.2.2.1
  have h7 := ps_h7 hR hNi
  have h8 := ps_h8 hR hNi
  have h5 := ps_h5 hR (by omega)
  have ht := ps_t hR (by omega)
  have hJ := ps_J hR
  have hO := hI.2.2.2.1
  have hC := hI.2.2.2.2
  refine lv_iconst (v := 1) hx hb dL_law_852 (by decide +kernel) ?_
  refine lv_iload hx hb dL_law_853 (lv_at hl 15 rfl) ?_
  refine lv_iconst (v := 5) hx hb dL_law_855 (by decide +kernel) ?_
  refine lv_ishr hx hb dL_law_856 ?_
  refine lv_iload hx hb dL_law_857 (lv_at hl 15 rfl) ?_
  refine lv_bipush (v := 25) hx hb dL_law_859 (by decide +kernel) ?_
  refine lv_ishr hx hb dL_law_861 ?_
  refine lv_iconst (v := 4) hx hb dL_law_862 (by decide +kernel) ?_
  refine kz_rdS (As := [.int (hh >>> 25), .int 4]) (rest := [.int (hh >>> 5), .int 1]) ⟨hx, hb, hml, hown, hts⟩ (c_L_low l G (hh >>> 25) 4 (by omega) (by omega)) (va_cwS 2 hts gL_law_L_low rfl rfl rfl (by decide +kernel) ⟨Nat.le_of_ble_eq_true rfl, Nat.le_of_ble_eq_true rfl⟩) hK (hP.sub (cs := []) [] rfl) rfl hl.1 rfl (Nat.le_of_ble_eq_true rfl) dL_law_863 ⟨Nat.le_of_ble_eq_true rfl, Nat.le_of_ble_eq_true rfl⟩ ?_
  refine lv_if_ne (tgt := 874) hx hb dL_law_866 (by decide) (fun c_1 => ?_) (fun c_1 => ?_)
  · refine lv_iconst (v := 2) hx hb dL_law_874 (by decide +kernel) ?_
    refine kz_rdS (As := [.int (hh >>> 5), .int 2]) (rest := [.int 1]) ⟨hx, hb, hml, hown, hts⟩ (c_L_low l G (hh >>> 5) 2 (by omega) (by omega)) (va_cwS 2 hts gL_law_L_low rfl rfl rfl (by decide +kernel) ⟨Nat.le_of_ble_eq_true rfl, Nat.le_of_ble_eq_true rfl⟩) hK (hP.sub (cs := []) [] rfl) rfl hl.1 rfl (Nat.le_of_ble_eq_true rfl) dL_law_875 ⟨Nat.le_of_ble_eq_true rfl, Nat.le_of_ble_eq_true rfl⟩ ?_
    obtain ⟨dd, edd⟩ : ∃ z, z = ps_lo (hh >>> 5) 2 := ⟨_, rfl⟩
    have hdd : dd < 2 := by rw [edd]; exact ps_lo_lt (by omega)
    refine lv_topi (fun y_2 ey_3 => ?_)
    obtain rfl : y_2 = nI dd := by rw [ey_3, edd]
    refine lv_iadd hx hb dL_law_878 ?_
    refine lv_topi (fun y_4 ey_5 => ?_)
    obtain rfl : y_4 = (nI (dd + 1)) := by rw [ey_5]; rw [Int32.add_comm]; exact nI_1 dd
    refine lv_istore (lv' := [(18, .int (nI (dd + 1))), (0, .ref bb), (1, .ref x), (2, .ref np), (3, .ref nq), (4, .ref nc), (5, .ref nl), (6, .ref nv), (7, .ref ng), (8, .ref nu), (9, .ref nf), (10, .ref nk), (11, .ref nt), (12, .int why), (13, .int beh), (14, .int (nI i)), (15, .int hh)]) hx hb dL_law_879 hl (by decide) rfl (fun ls hl => ?_)
    refine lv_iconst (v := 0) hx hb dL_law_881 (by decide +kernel) ?_
    refine lv_istore (lv' := [(19, .int 0), (18, .int (nI (dd + 1))), (0, .ref bb), (1, .ref x), (2, .ref np), (3, .ref nq), (4, .ref nc), (5, .ref nl), (6, .ref nv), (7, .ref ng), (8, .ref nu), (9, .ref nf), (10, .ref nk), (11, .ref nt), (12, .int why), (13, .int beh), (14, .int (nI i)), (15, .int hh)]) hx hb dL_law_882 hl (by decide) rfl (fun ls hl => ?_)
    refine lv_iconst (v := 0) hx hb dL_law_884 (by decide +kernel) ?_
    refine lv_istore (lv' := [(20, .int 0), (19, .int 0), (18, .int (nI (dd + 1))), (0, .ref bb), (1, .ref x), (2, .ref np), (3, .ref nq), (4, .ref nc), (5, .ref nl), (6, .ref nv), (7, .ref ng), (8, .ref nu), (9, .ref nf), (10, .ref nk), (11, .ref nt), (12, .int why), (13, .int beh), (14, .int (nI i)), (15, .int hh)]) hx hb dL_law_885 hl (by decide) rfl (fun ls hl => ?_)
    have L887_6 : ∀ (n887 : Nat) (z : Nat) (x1 : Int32) (p2 l2 v2 g2 u2 k2 t2 : Nat → Int32), (dd + 1 - z < n887) → (z ≤ dd + 1) → (∃ m9, ps_R i (D + z) nP m9 (X3_psn S z).1 p2 zq zc l2 v2 g2 u2 zf k2 t2) → (x1 = (X3_psn S z).2) → ∀ (H : Heap) (locs : List Loc), kz_P G [xoW x (a 0) (sv 0) (ah 0) (h 0) (t 0) V, shW G a S, shW G sv kz_S0, shW G ah kz_S0, hsW G h (fun j => b j 0) Y, shW G (b 0) (R 0), shW G (b 1) (R 1), shW G (b 2) (R 2), shW G (b 3) (R 3), shW G (b 4) (R 4), shW G (b 5) (R 5), txW G t kz_T0, [(np, .inl (G.2.1, 64, .inl p2))], [(nq, .inl (G.2.1, 64, .inl zq))], [(nc, .inl (G.2.1, 64, .inl zc))], [(nl, .inl (G.2.1, 64, .inl l2))], [(nv, .inl (G.2.1, 64, .inl v2))], [(ng, .inl (G.2.1, 10, .inl g2))], [(nu, .inl (G.2.1, 10, .inl u2))], [(nf, .inl (G.2.1, 10, .inl zf))], [(nk, .inl (G.2.1, 10, .inl k2))], [(nt, .inl (G.2.1, 10, .inl t2))]] H → kz_D (kl_A s) [xoW x (a 0) (sv 0) (ah 0) (h 0) (t 0) V, shW G a S, shW G sv kz_S0, shW G ah kz_S0, hsW G h (fun j => b j 0) Y, shW G (b 0) (R 0), shW G (b 1) (R 1), shW G (b 2) (R 2), shW G (b 3) (R 3), shW G (b 4) (R 4), shW G (b 5) (R 5), txW G t kz_T0, [(np, .inl (G.2.1, 64, .inl p2))], [(nq, .inl (G.2.1, 64, .inl zq))], [(nc, .inl (G.2.1, 64, .inl zc))], [(nl, .inl (G.2.1, 64, .inl l2))], [(nv, .inl (G.2.1, 64, .inl v2))], [(ng, .inl (G.2.1, 10, .inl g2))], [(nu, .inl (G.2.1, 10, .inl u2))], [(nf, .inl (G.2.1, 10, .inl zf))], [(nk, .inl (G.2.1, 10, .inl k2))], [(nt, .inl (G.2.1, 10, .inl t2))]] → va_S (kl_A s) s.heap H locs → ∀ ls : Array Slot, lv_has ls 23 [(20, .int (nI z)), (19, .int x1), (18, .int (nI (dd + 1))), (0, .ref bb), (1, .ref x), (2, .ref np), (3, .ref nq), (4, .ref nc), (5, .ref nl), (6, .ref nv), (7, .ref ng), (8, .ref nu), (9, .ref nf), (10, .ref nk), (11, .ref nt), (12, .int why), (13, .int beh), (14, .int (nI i)), (15, .int hh)] → W p l e room_1 s m #[Value.ref bb] below meth c H locs 114 5752 (lw_Z below #[Value.ref bb] s) (F0 m 887 ls []) := by
      intro n887
      induction n887 with
      | zero => intro z x1 p2 l2 v2 g2 u2 k2 t2 h0; exact absurd h0 (Nat.not_lt_zero _)
      | succ n887 ih887_7 =>
        intro z x1 p2 l2 v2 g2 u2 k2 t2 hmeas887 hz hr2 hx2 H locs hP hD hS ls hl
        refine lv_iload hx hb dL_law_887 (lv_at hl 0 rfl) ?_
        refine lv_iload hx hb dL_law_889 (lv_at hl 2 rfl) ?_
        refine lv_icmp_ge (tgt := 924) hx hb dL_law_891 (by decide) (fun c_8 => ?_) (fun c_8 => ?_)
        · have hge := kz_le (a := dd + 1) (b := z) c_8 (by omega) (by omega)
          obtain rfl : z = dd + 1 := by omega
          refine lv_aload_n hx hb dL_law_924 rfl (lv_at hl 4 rfl) ?_
          refine lv_iload hx hb dL_law_925 (lv_at hl 2 rfl) ?_
          refine kz_miV (As := [.int (nI (dd + 1))]) (rest := []) (b := x) (wr := [shW G sv kz_S0, shW G ah kz_S0, txW G t kz_T0, [(np, .inl (G.2.1, 64, .inl p2))], [(nq, .inl (G.2.1, 64, .inl zq))], [(nc, .inl (G.2.1, 64, .inl zc))], [(nl, .inl (G.2.1, 64, .inl l2))], [(nv, .inl (G.2.1, 64, .inl v2))], [(ng, .inl (G.2.1, 10, .inl g2))], [(nu, .inl (G.2.1, 10, .inl u2))], [(nf, .inl (G.2.1, 10, .inl zf))], [(nk, .inl (G.2.1, 10, .inl k2))], [(nt, .inl (G.2.1, 10, .inl t2))]]) (bs' := [xoW x (a 0) (sv 0) (ah 0) (h 0) (t 0) V, shW G a (X3_pass_s1 V S Y R (nI (dd + 1))), shW G sv kz_S0, shW G ah kz_S0, hsW G h (fun j => b j 0) (X3_pass_s2 V S Y R (nI (dd + 1))), shW G (b 0) ((X3_pass_s3 V S Y R (nI (dd + 1))) 0), shW G (b 1) ((X3_pass_s3 V S Y R (nI (dd + 1))) 1), shW G (b 2) ((X3_pass_s3 V S Y R (nI (dd + 1))) 2), shW G (b 3) ((X3_pass_s3 V S Y R (nI (dd + 1))) 3), shW G (b 4) ((X3_pass_s3 V S Y R (nI (dd + 1))) 4), shW G (b 5) ((X3_pass_s3 V S Y R (nI (dd + 1))) 5), txW G t kz_T0, [(np, .inl (G.2.1, 64, .inl p2))], [(nq, .inl (G.2.1, 64, .inl zq))], [(nc, .inl (G.2.1, 64, .inl zc))], [(nl, .inl (G.2.1, 64, .inl l2))], [(nv, .inl (G.2.1, 64, .inl v2))], [(ng, .inl (G.2.1, 10, .inl g2))], [(nu, .inl (G.2.1, 10, .inl u2))], [(nf, .inl (G.2.1, 10, .inl zf))], [(nk, .inl (G.2.1, 10, .inl k2))], [(nt, .inl (G.2.1, 10, .inl t2))]]) ⟨hx, hb, hml, hown, hts⟩ (c_X3_pass l G x (sv 0) (ah 0) (t 0) V a S h Y b R (nI (dd + 1)) (by assumption) (by assumption) (by assumption)) (cwV 1 hts gL_law_X3_pass rfl rfl rfl (by decide +kernel) ⟨Nat.le_of_ble_eq_true rfl, Nat.le_of_ble_eq_true rfl⟩) hK hP hD hS hA [0, 1, 4, 5, 6, 7, 8, 9, 10] [2, 3, 11, 12, 13, 14, 15, 16, 17, 18, 19, 20, 21] [13, 14, 0, 1, 15, 16, 17, 18, 19, 20, 21, 2, 3, 4, 5, 6, 7, 8, 9, 10, 11, 12] rfl (by decide) rfl (by decide) (by decide) rfl (by decide) (kz_recv hK hP (ci := 3) (q0 := 0) rfl rfl) rfl hl.1 rfl (Nat.le_of_ble_eq_true rfl) dL_law_927 ⟨Nat.le_of_ble_eq_true rfl, Nat.le_of_ble_eq_true rfl⟩ (fun H locs hP hD hS => ?_)
          obtain ⟨eans, I2⟩ := ps_opPass hI R (d := dd + 1) (by omega) (by omega) hr2 hx2
          refine lv_iload hx hb dL_law_930 (lv_at hl 1 rfl) ?_
          refine lv_icmp_ne (tgt := 939) hx hb dL_law_932 (by decide) (fun c => absurd c (by exact fun z => z (eans))) (fun c_9 => ?_)
          refine lv_iconst (v := 1) hx hb dL_law_935 (by decide +kernel) ?_
          refine lv_goto (tgt := 940) hx hb dL_law_936 (by decide) ?_
          refine lv_istore (lv' := [(17, .int 1), (20, .int (nI (dd + 1))), (19, .int x1), (18, .int (nI (dd + 1))), (0, .ref bb), (1, .ref x), (2, .ref np), (3, .ref nq), (4, .ref nc), (5, .ref nl), (6, .ref nv), (7, .ref ng), (8, .ref nu), (9, .ref nf), (10, .ref nk), (11, .ref nt), (12, .int why), (13, .int beh), (14, .int (nI i)), (15, .int hh)]) hx hb dL_law_940 hl (by decide) rfl (fun ls hl => ?_)
          refine lv_goto (tgt := 1172) hx hb dL_law_942 (by decide) ?_
          exact KK V (X3_pass_s1 V S Y R (nI (dd + 1))) (X3_pass_s2 V S Y R (nI (dd + 1))) (X3_pass_s3 V S Y R (nI (dd + 1))) p2 zq zc l2 v2 g2 u2 zf k2 t2 why beh I2 H locs ls hP hD hS (lv_sub hl [0, 4, 5, 6, 7, 8, 9, 10, 11, 12, 13, 14, 15, 16, 17, 18] rfl)
        · have hlt := kz_gt (a := dd + 1) (b := z) c_8 (by omega) (by omega)
          refine lv_iload hx hb dL_law_894 (lv_at hl 1 rfl) ?_
          refine lv_aload_n hx hb dL_law_896 rfl (lv_at hl 5 rfl) ?_
          refine lv_aload_n hx hb dL_law_897 rfl (lv_at hl 6 rfl) ?_
          refine lv_aload hx hb dL_law_898 (lv_at hl 7 rfl) ?_
          refine lv_aload hx hb dL_law_900 (lv_at hl 8 rfl) ?_
          refine lv_aload hx hb dL_law_902 (lv_at hl 9 rfl) ?_
          refine lv_aload hx hb dL_law_904 (lv_at hl 10 rfl) ?_
          refine lv_aload hx hb dL_law_906 (lv_at hl 11 rfl) ?_
          refine lv_aload hx hb dL_law_908 (lv_at hl 13 rfl) ?_
          refine lv_aload hx hb dL_law_910 (lv_at hl 14 rfl) ?_
          obtain ⟨m9, r9⟩ := id hr2
          obtain ⟨m8, r8, e8x⟩ := ps_day r9 hNi (by omega)
          refine kz_miS (As := [.ref np, .ref nq, .ref nc, .ref nl, .ref nv, .ref ng, .ref nu, .ref nk, .ref nt]) (rest := [.int x1]) (wr := [xoW x (a 0) (sv 0) (ah 0) (h 0) (t 0) V, shW G a S, shW G sv kz_S0, shW G ah kz_S0, hsW G h (fun j => b j 0) Y, shW G (b 0) (R 0), shW G (b 1) (R 1), shW G (b 2) (R 2), shW G (b 3) (R 3), shW G (b 4) (R 4), shW G (b 5) (R 5), txW G t kz_T0, [(nf, .inl (G.2.1, 10, .inl zf))]]) (bs' := [xoW x (a 0) (sv 0) (ah 0) (h 0) (t 0) V, shW G a S, shW G sv kz_S0, shW G ah kz_S0, hsW G h (fun j => b j 0) Y, shW G (b 0) (R 0), shW G (b 1) (R 1), shW G (b 2) (R 2), shW G (b 3) (R 3), shW G (b 4) (R 4), shW G (b 5) (R 5), txW G t kz_T0, [(np, .inl (G.2.1, 64, .inl (L_day_s0 p2 zq zc l2 v2 g2 u2 k2 t2)))], [(nq, .inl (G.2.1, 64, .inl zq))], [(nc, .inl (G.2.1, 64, .inl zc))], [(nl, .inl (G.2.1, 64, .inl (L_day_s3 p2 zq zc l2 v2 g2 u2 k2 t2)))], [(nv, .inl (G.2.1, 64, .inl (L_day_s4 p2 zq zc l2 v2 g2 u2 k2 t2)))], [(ng, .inl (G.2.1, 10, .inl (L_day_s5 p2 zq zc l2 v2 g2 u2 k2 t2)))], [(nu, .inl (G.2.1, 10, .inl (L_day_s6 p2 zq zc l2 v2 g2 u2 k2 t2)))], [(nf, .inl (G.2.1, 10, .inl zf))], [(nk, .inl (G.2.1, 10, .inl (L_day_s7 p2 zq zc l2 v2 g2 u2 k2 t2)))], [(nt, .inl (G.2.1, 10, .inl (L_day_s8 p2 zq zc l2 v2 g2 u2 k2 t2)))]]) ⟨hx, hb, hml, hown, hts⟩ (c_L_day l G np p2 nq zq nc zc nl l2 nv v2 ng g2 nu u2 nk k2 nt t2 (ps_dyR r9 hNi (by omega))) (va_cwS 9 hts gL_law_L_day rfl rfl rfl (by decide +kernel) ⟨Nat.le_of_ble_eq_true rfl, Nat.le_of_ble_eq_true rfl⟩) hK hP hD hS hA [12, 13, 14, 15, 16, 17, 18, 20, 21] [0, 1, 2, 3, 4, 5, 6, 7, 8, 9, 10, 11, 19] [0, 1, 2, 3, 4, 5, 6, 7, 8, 9, 10, 11, 13, 14, 15, 16, 17, 18, 19, 12, 20, 21] rfl (by decide) rfl (by decide) (by decide) rfl (by decide) rfl hl.1 rfl (Nat.le_of_ble_eq_true rfl) dL_law_912 ⟨Nat.le_of_ble_eq_true rfl, Nat.le_of_ble_eq_true rfl⟩ (fun H locs hP hD hS => ?_)
          refine lv_iadd hx hb dL_law_915 ?_
          refine lv_istore (lv' := [(19, .int (x1 + (L_day_r p2 zq zc l2 v2 g2 u2 k2 t2))), (20, .int (nI z)), (18, .int (nI (dd + 1))), (0, .ref bb), (1, .ref x), (2, .ref np), (3, .ref nq), (4, .ref nc), (5, .ref nl), (6, .ref nv), (7, .ref ng), (8, .ref nu), (9, .ref nf), (10, .ref nk), (11, .ref nt), (12, .int why), (13, .int beh), (14, .int (nI i)), (15, .int hh)]) hx hb dL_law_916 hl (by decide) rfl (fun ls hl => ?_)
          refine lv_iinc (v := (nI (z + 1))) (lv' := [(20, .int (nI (z + 1))), (19, .int (x1 + (L_day_r p2 zq zc l2 v2 g2 u2 k2 t2))), (18, .int (nI (dd + 1))), (0, .ref bb), (1, .ref x), (2, .ref np), (3, .ref nq), (4, .ref nc), (5, .ref nl), (6, .ref nv), (7, .ref ng), (8, .ref nu), (9, .ref nf), (10, .ref nk), (11, .ref nt), (12, .int why), (13, .int beh), (14, .int (nI i)), (15, .int hh)]) hx hb dL_law_918 hl (k := 1) rfl (nI_1 _) (by decide) rfl (fun ls hl => ?_)
          refine lv_goto (tgt := 887) hx hb dL_law_921 (by decide) ?_
          exact ih887_7 (z + 1) (x1 + (L_day_r p2 zq zc l2 v2 g2 u2 k2 t2)) (L_day_s0 p2 zq zc l2 v2 g2 u2 k2 t2) (L_day_s3 p2 zq zc l2 v2 g2 u2 k2 t2) (L_day_s4 p2 zq zc l2 v2 g2 u2 k2 t2) (L_day_s5 p2 zq zc l2 v2 g2 u2 k2 t2) (L_day_s6 p2 zq zc l2 v2 g2 u2 k2 t2) (L_day_s7 p2 zq zc l2 v2 g2 u2 k2 t2) (L_day_s8 p2 zq zc l2 v2 g2 u2 k2 t2) (by omega) (by omega) ⟨m8, (show ps_R i (D + z + 1) nP m8 (X1_beginDay_s (X3_psn S z).1) _ zq zc _ _ _ _ zf _ _ from r8)⟩ (by rw [X3_psn, e8x, hx2]) H locs hP hD hS ls (lv_sub hl [0, 1, 2, 3, 4, 5, 6, 7, 8, 9, 10, 11, 12, 13, 14, 15, 16, 17, 18] rfl)
    exact L887_6 _ 0 0 zp zl zv zg zu zk zt (Nat.lt_succ_self _) (Nat.zero_le _) ⟨mL, hR⟩ rfl H locs hP hD hS ls (lv_sub hl [0, 1, 2, 3, 4, 5, 6, 7, 8, 9, 10, 11, 12, 13, 14, 15, 16, 17, 18] rfl)
  · refine lv_bipush (v := 9) hx hb dL_law_869 (by decide +kernel) ?_
    refine lv_goto (tgt := 875) hx hb dL_law_871 (by decide) ?_
    refine kz_rdS (As := [.int (hh >>> 5), .int 9]) (rest := [.int 1]) ⟨hx, hb, hml, hown, hts⟩ (c_L_low l G (hh >>> 5) 9 (by omega) (by omega)) (va_cwS 2 hts gL_law_L_low rfl rfl rfl (by decide +kernel) ⟨Nat.le_of_ble_eq_true rfl, Nat.le_of_ble_eq_true rfl⟩) hK (hP.sub (cs := []) [] rfl) rfl hl.1 rfl (Nat.le_of_ble_eq_true rfl) dL_law_875 ⟨Nat.le_of_ble_eq_true rfl, Nat.le_of_ble_eq_true rfl⟩ ?_
    obtain ⟨dd, edd⟩ : ∃ z, z = ps_lo (hh >>> 5) 9 := ⟨_, rfl⟩
    have hdd : dd < 9 := by rw [edd]; exact ps_lo_lt (by omega)
    refine lv_topi (fun y_10 ey_11 => ?_)
    obtain rfl : y_10 = nI dd := by rw [ey_11, edd]
    refine lv_iadd hx hb dL_law_878 ?_
    refine lv_topi (fun y_12 ey_13 => ?_)
    obtain rfl : y_12 = (nI (dd + 1)) := by rw [ey_13]; rw [Int32.add_comm]; exact nI_1 dd
    refine lv_istore (lv' := [(18, .int (nI (dd + 1))), (0, .ref bb), (1, .ref x), (2, .ref np), (3, .ref nq), (4, .ref nc), (5, .ref nl), (6, .ref nv), (7, .ref ng), (8, .ref nu), (9, .ref nf), (10, .ref nk), (11, .ref nt), (12, .int why), (13, .int beh), (14, .int (nI i)), (15, .int hh)]) hx hb dL_law_879 hl (by decide) rfl (fun ls hl => ?_)
    refine lv_iconst (v := 0) hx hb dL_law_881 (by decide +kernel) ?_
    refine lv_istore (lv' := [(19, .int 0), (18, .int (nI (dd + 1))), (0, .ref bb), (1, .ref x), (2, .ref np), (3, .ref nq), (4, .ref nc), (5, .ref nl), (6, .ref nv), (7, .ref ng), (8, .ref nu), (9, .ref nf), (10, .ref nk), (11, .ref nt), (12, .int why), (13, .int beh), (14, .int (nI i)), (15, .int hh)]) hx hb dL_law_882 hl (by decide) rfl (fun ls hl => ?_)
    refine lv_iconst (v := 0) hx hb dL_law_884 (by decide +kernel) ?_
    refine lv_istore (lv' := [(20, .int 0), (19, .int 0), (18, .int (nI (dd + 1))), (0, .ref bb), (1, .ref x), (2, .ref np), (3, .ref nq), (4, .ref nc), (5, .ref nl), (6, .ref nv), (7, .ref ng), (8, .ref nu), (9, .ref nf), (10, .ref nk), (11, .ref nt), (12, .int why), (13, .int beh), (14, .int (nI i)), (15, .int hh)]) hx hb dL_law_885 hl (by decide) rfl (fun ls hl => ?_)
    have L887_14 : ∀ (n887 : Nat) (z : Nat) (x1 : Int32) (p2 l2 v2 g2 u2 k2 t2 : Nat → Int32), (dd + 1 - z < n887) → (z ≤ dd + 1) → (∃ m9, ps_R i (D + z) nP m9 (X3_psn S z).1 p2 zq zc l2 v2 g2 u2 zf k2 t2) → (x1 = (X3_psn S z).2) → ∀ (H : Heap) (locs : List Loc), kz_P G [xoW x (a 0) (sv 0) (ah 0) (h 0) (t 0) V, shW G a S, shW G sv kz_S0, shW G ah kz_S0, hsW G h (fun j => b j 0) Y, shW G (b 0) (R 0), shW G (b 1) (R 1), shW G (b 2) (R 2), shW G (b 3) (R 3), shW G (b 4) (R 4), shW G (b 5) (R 5), txW G t kz_T0, [(np, .inl (G.2.1, 64, .inl p2))], [(nq, .inl (G.2.1, 64, .inl zq))], [(nc, .inl (G.2.1, 64, .inl zc))], [(nl, .inl (G.2.1, 64, .inl l2))], [(nv, .inl (G.2.1, 64, .inl v2))], [(ng, .inl (G.2.1, 10, .inl g2))], [(nu, .inl (G.2.1, 10, .inl u2))], [(nf, .inl (G.2.1, 10, .inl zf))], [(nk, .inl (G.2.1, 10, .inl k2))], [(nt, .inl (G.2.1, 10, .inl t2))]] H → kz_D (kl_A s) [xoW x (a 0) (sv 0) (ah 0) (h 0) (t 0) V, shW G a S, shW G sv kz_S0, shW G ah kz_S0, hsW G h (fun j => b j 0) Y, shW G (b 0) (R 0), shW G (b 1) (R 1), shW G (b 2) (R 2), shW G (b 3) (R 3), shW G (b 4) (R 4), shW G (b 5) (R 5), txW G t kz_T0, [(np, .inl (G.2.1, 64, .inl p2))], [(nq, .inl (G.2.1, 64, .inl zq))], [(nc, .inl (G.2.1, 64, .inl zc))], [(nl, .inl (G.2.1, 64, .inl l2))], [(nv, .inl (G.2.1, 64, .inl v2))], [(ng, .inl (G.2.1, 10, .inl g2))], [(nu, .inl (G.2.1, 10, .inl u2))], [(nf, .inl (G.2.1, 10, .inl zf))], [(nk, .inl (G.2.1, 10, .inl k2))], [(nt, .inl (G.2.1, 10, .inl t2))]] → va_S (kl_A s) s.heap H locs → ∀ ls : Array Slot, lv_has ls 23 [(20, .int (nI z)), (19, .int x1), (18, .int (nI (dd + 1))), (0, .ref bb), (1, .ref x), (2, .ref np), (3, .ref nq), (4, .ref nc), (5, .ref nl), (6, .ref nv), (7, .ref ng), (8, .ref nu), (9, .ref nf), (10, .ref nk), (11, .ref nt), (12, .int why), (13, .int beh), (14, .int (nI i)), (15, .int hh)] → W p l e room_1 s m #[Value.ref bb] below meth c H locs 114 5752 (lw_Z below #[Value.ref bb] s) (F0 m 887 ls []) := by
      intro n887
      induction n887 with
      | zero => intro z x1 p2 l2 v2 g2 u2 k2 t2 h0; exact absurd h0 (Nat.not_lt_zero _)
      | succ n887 ih887_15 =>
        intro z x1 p2 l2 v2 g2 u2 k2 t2 hmeas887 hz hr2 hx2 H locs hP hD hS ls hl
        refine lv_iload hx hb dL_law_887 (lv_at hl 0 rfl) ?_
        refine lv_iload hx hb dL_law_889 (lv_at hl 2 rfl) ?_
        refine lv_icmp_ge (tgt := 924) hx hb dL_law_891 (by decide) (fun c_16 => ?_) (fun c_16 => ?_)
        · have hge := kz_le (a := dd + 1) (b := z) c_16 (by omega) (by omega)
          obtain rfl : z = dd + 1 := by omega
          refine lv_aload_n hx hb dL_law_924 rfl (lv_at hl 4 rfl) ?_
          refine lv_iload hx hb dL_law_925 (lv_at hl 2 rfl) ?_
          refine kz_miV (As := [.int (nI (dd + 1))]) (rest := []) (b := x) (wr := [shW G sv kz_S0, shW G ah kz_S0, txW G t kz_T0, [(np, .inl (G.2.1, 64, .inl p2))], [(nq, .inl (G.2.1, 64, .inl zq))], [(nc, .inl (G.2.1, 64, .inl zc))], [(nl, .inl (G.2.1, 64, .inl l2))], [(nv, .inl (G.2.1, 64, .inl v2))], [(ng, .inl (G.2.1, 10, .inl g2))], [(nu, .inl (G.2.1, 10, .inl u2))], [(nf, .inl (G.2.1, 10, .inl zf))], [(nk, .inl (G.2.1, 10, .inl k2))], [(nt, .inl (G.2.1, 10, .inl t2))]]) (bs' := [xoW x (a 0) (sv 0) (ah 0) (h 0) (t 0) V, shW G a (X3_pass_s1 V S Y R (nI (dd + 1))), shW G sv kz_S0, shW G ah kz_S0, hsW G h (fun j => b j 0) (X3_pass_s2 V S Y R (nI (dd + 1))), shW G (b 0) ((X3_pass_s3 V S Y R (nI (dd + 1))) 0), shW G (b 1) ((X3_pass_s3 V S Y R (nI (dd + 1))) 1), shW G (b 2) ((X3_pass_s3 V S Y R (nI (dd + 1))) 2), shW G (b 3) ((X3_pass_s3 V S Y R (nI (dd + 1))) 3), shW G (b 4) ((X3_pass_s3 V S Y R (nI (dd + 1))) 4), shW G (b 5) ((X3_pass_s3 V S Y R (nI (dd + 1))) 5), txW G t kz_T0, [(np, .inl (G.2.1, 64, .inl p2))], [(nq, .inl (G.2.1, 64, .inl zq))], [(nc, .inl (G.2.1, 64, .inl zc))], [(nl, .inl (G.2.1, 64, .inl l2))], [(nv, .inl (G.2.1, 64, .inl v2))], [(ng, .inl (G.2.1, 10, .inl g2))], [(nu, .inl (G.2.1, 10, .inl u2))], [(nf, .inl (G.2.1, 10, .inl zf))], [(nk, .inl (G.2.1, 10, .inl k2))], [(nt, .inl (G.2.1, 10, .inl t2))]]) ⟨hx, hb, hml, hown, hts⟩ (c_X3_pass l G x (sv 0) (ah 0) (t 0) V a S h Y b R (nI (dd + 1)) (by assumption) (by assumption) (by assumption)) (cwV 1 hts gL_law_X3_pass rfl rfl rfl (by decide +kernel) ⟨Nat.le_of_ble_eq_true rfl, Nat.le_of_ble_eq_true rfl⟩) hK hP hD hS hA [0, 1, 4, 5, 6, 7, 8, 9, 10] [2, 3, 11, 12, 13, 14, 15, 16, 17, 18, 19, 20, 21] [13, 14, 0, 1, 15, 16, 17, 18, 19, 20, 21, 2, 3, 4, 5, 6, 7, 8, 9, 10, 11, 12] rfl (by decide) rfl (by decide) (by decide) rfl (by decide) (kz_recv hK hP (ci := 3) (q0 := 0) rfl rfl) rfl hl.1 rfl (Nat.le_of_ble_eq_true rfl) dL_law_927 ⟨Nat.le_of_ble_eq_true rfl, Nat.le_of_ble_eq_true rfl⟩ (fun H locs hP hD hS => ?_)
          obtain ⟨eans, I2⟩ := ps_opPass hI R (d := dd + 1) (by omega) (by omega) hr2 hx2
          refine lv_iload hx hb dL_law_930 (lv_at hl 1 rfl) ?_
          refine lv_icmp_ne (tgt := 939) hx hb dL_law_932 (by decide) (fun c => absurd c (by exact fun z => z (eans))) (fun c_17 => ?_)
          refine lv_iconst (v := 1) hx hb dL_law_935 (by decide +kernel) ?_
          refine lv_goto (tgt := 940) hx hb dL_law_936 (by decide) ?_
          refine lv_istore (lv' := [(17, .int 1), (20, .int (nI (dd + 1))), (19, .int x1), (18, .int (nI (dd + 1))), (0, .ref bb), (1, .ref x), (2, .ref np), (3, .ref nq), (4, .ref nc), (5, .ref nl), (6, .ref nv), (7, .ref ng), (8, .ref nu), (9, .ref nf), (10, .ref nk), (11, .ref nt), (12, .int why), (13, .int beh), (14, .int (nI i)), (15, .int hh)]) hx hb dL_law_940 hl (by decide) rfl (fun ls hl => ?_)
          refine lv_goto (tgt := 1172) hx hb dL_law_942 (by decide) ?_
          exact KK V (X3_pass_s1 V S Y R (nI (dd + 1))) (X3_pass_s2 V S Y R (nI (dd + 1))) (X3_pass_s3 V S Y R (nI (dd + 1))) p2 zq zc l2 v2 g2 u2 zf k2 t2 why beh I2 H locs ls hP hD hS (lv_sub hl [0, 4, 5, 6, 7, 8, 9, 10, 11, 12, 13, 14, 15, 16, 17, 18] rfl)
        · have hlt := kz_gt (a := dd + 1) (b := z) c_16 (by omega) (by omega)
          refine lv_iload hx hb dL_law_894 (lv_at hl 1 rfl) ?_
          refine lv_aload_n hx hb dL_law_896 rfl (lv_at hl 5 rfl) ?_
          refine lv_aload_n hx hb dL_law_897 rfl (lv_at hl 6 rfl) ?_
          refine lv_aload hx hb dL_law_898 (lv_at hl 7 rfl) ?_
          refine lv_aload hx hb dL_law_900 (lv_at hl 8 rfl) ?_
          refine lv_aload hx hb dL_law_902 (lv_at hl 9 rfl) ?_
          refine lv_aload hx hb dL_law_904 (lv_at hl 10 rfl) ?_
          refine lv_aload hx hb dL_law_906 (lv_at hl 11 rfl) ?_
          refine lv_aload hx hb dL_law_908 (lv_at hl 13 rfl) ?_
          refine lv_aload hx hb dL_law_910 (lv_at hl 14 rfl) ?_
          obtain ⟨m9, r9⟩ := id hr2
          obtain ⟨m8, r8, e8x⟩ := ps_day r9 hNi (by omega)
          refine kz_miS (As := [.ref np, .ref nq, .ref nc, .ref nl, .ref nv, .ref ng, .ref nu, .ref nk, .ref nt]) (rest := [.int x1]) (wr := [xoW x (a 0) (sv 0) (ah 0) (h 0) (t 0) V, shW G a S, shW G sv kz_S0, shW G ah kz_S0, hsW G h (fun j => b j 0) Y, shW G (b 0) (R 0), shW G (b 1) (R 1), shW G (b 2) (R 2), shW G (b 3) (R 3), shW G (b 4) (R 4), shW G (b 5) (R 5), txW G t kz_T0, [(nf, .inl (G.2.1, 10, .inl zf))]]) (bs' := [xoW x (a 0) (sv 0) (ah 0) (h 0) (t 0) V, shW G a S, shW G sv kz_S0, shW G ah kz_S0, hsW G h (fun j => b j 0) Y, shW G (b 0) (R 0), shW G (b 1) (R 1), shW G (b 2) (R 2), shW G (b 3) (R 3), shW G (b 4) (R 4), shW G (b 5) (R 5), txW G t kz_T0, [(np, .inl (G.2.1, 64, .inl (L_day_s0 p2 zq zc l2 v2 g2 u2 k2 t2)))], [(nq, .inl (G.2.1, 64, .inl zq))], [(nc, .inl (G.2.1, 64, .inl zc))], [(nl, .inl (G.2.1, 64, .inl (L_day_s3 p2 zq zc l2 v2 g2 u2 k2 t2)))], [(nv, .inl (G.2.1, 64, .inl (L_day_s4 p2 zq zc l2 v2 g2 u2 k2 t2)))], [(ng, .inl (G.2.1, 10, .inl (L_day_s5 p2 zq zc l2 v2 g2 u2 k2 t2)))], [(nu, .inl (G.2.1, 10, .inl (L_day_s6 p2 zq zc l2 v2 g2 u2 k2 t2)))], [(nf, .inl (G.2.1, 10, .inl zf))], [(nk, .inl (G.2.1, 10, .inl (L_day_s7 p2 zq zc l2 v2 g2 u2 k2 t2)))], [(nt, .inl (G.2.1, 10, .inl (L_day_s8 p2 zq zc l2 v2 g2 u2 k2 t2)))]]) ⟨hx, hb, hml, hown, hts⟩ (c_L_day l G np p2 nq zq nc zc nl l2 nv v2 ng g2 nu u2 nk k2 nt t2 (ps_dyR r9 hNi (by omega))) (va_cwS 9 hts gL_law_L_day rfl rfl rfl (by decide +kernel) ⟨Nat.le_of_ble_eq_true rfl, Nat.le_of_ble_eq_true rfl⟩) hK hP hD hS hA [12, 13, 14, 15, 16, 17, 18, 20, 21] [0, 1, 2, 3, 4, 5, 6, 7, 8, 9, 10, 11, 19] [0, 1, 2, 3, 4, 5, 6, 7, 8, 9, 10, 11, 13, 14, 15, 16, 17, 18, 19, 12, 20, 21] rfl (by decide) rfl (by decide) (by decide) rfl (by decide) rfl hl.1 rfl (Nat.le_of_ble_eq_true rfl) dL_law_912 ⟨Nat.le_of_ble_eq_true rfl, Nat.le_of_ble_eq_true rfl⟩ (fun H locs hP hD hS => ?_)
          refine lv_iadd hx hb dL_law_915 ?_
          refine lv_istore (lv' := [(19, .int (x1 + (L_day_r p2 zq zc l2 v2 g2 u2 k2 t2))), (20, .int (nI z)), (18, .int (nI (dd + 1))), (0, .ref bb), (1, .ref x), (2, .ref np), (3, .ref nq), (4, .ref nc), (5, .ref nl), (6, .ref nv), (7, .ref ng), (8, .ref nu), (9, .ref nf), (10, .ref nk), (11, .ref nt), (12, .int why), (13, .int beh), (14, .int (nI i)), (15, .int hh)]) hx hb dL_law_916 hl (by decide) rfl (fun ls hl => ?_)
          refine lv_iinc (v := (nI (z + 1))) (lv' := [(20, .int (nI (z + 1))), (19, .int (x1 + (L_day_r p2 zq zc l2 v2 g2 u2 k2 t2))), (18, .int (nI (dd + 1))), (0, .ref bb), (1, .ref x), (2, .ref np), (3, .ref nq), (4, .ref nc), (5, .ref nl), (6, .ref nv), (7, .ref ng), (8, .ref nu), (9, .ref nf), (10, .ref nk), (11, .ref nt), (12, .int why), (13, .int beh), (14, .int (nI i)), (15, .int hh)]) hx hb dL_law_918 hl (k := 1) rfl (nI_1 _) (by decide) rfl (fun ls hl => ?_)
          refine lv_goto (tgt := 887) hx hb dL_law_921 (by decide) ?_
          exact ih887_15 (z + 1) (x1 + (L_day_r p2 zq zc l2 v2 g2 u2 k2 t2)) (L_day_s0 p2 zq zc l2 v2 g2 u2 k2 t2) (L_day_s3 p2 zq zc l2 v2 g2 u2 k2 t2) (L_day_s4 p2 zq zc l2 v2 g2 u2 k2 t2) (L_day_s5 p2 zq zc l2 v2 g2 u2 k2 t2) (L_day_s6 p2 zq zc l2 v2 g2 u2 k2 t2) (L_day_s7 p2 zq zc l2 v2 g2 u2 k2 t2) (L_day_s8 p2 zq zc l2 v2 g2 u2 k2 t2) (by omega) (by omega) ⟨m8, (show ps_R i (D + z + 1) nP m8 (X1_beginDay_s (X3_psn S z).1) _ zq zc _ _ _ _ zf _ _ from r8)⟩ (by rw [X3_psn, e8x, hx2]) H locs hP hD hS ls (lv_sub hl [0, 1, 2, 3, 4, 5, 6, 7, 8, 9, 10, 11, 12, 13, 14, 15, 16, 17, 18] rfl)
    exact L887_14 _ 0 0 zp zl zv zg zu zk zt (Nat.lt_succ_self _) (Nat.zero_le _) ⟨mL, hR⟩ rfl H locs hP hD hS ls (lv_sub hl [0, 1, 2, 3, 4, 5, 6, 7, 8, 9, 10, 11, 12, 13, 14, 15, 16, 17, 18] rfl)
set_option maxHeartbeats 4000000 in
set_option maxRecDepth 100000 in
theorem kl_c_call (C0 : kl_C p s m c bb L xs G) (hI : ps_C i D nP mL V S Y zp zq zc zl zv zg zu zf zk zt why beh) (KK : kl_K p l e s m below meth c bb G x a sv ah h b t np nq nc nl nv ng nu nf nk nt i) : kl_at p l e s m below meth c bb G x a sv ah h b t np nq nc nl nv ng nu nf nk nt 952 [(0, .ref bb), (1, .ref x), (2, .ref np), (3, .ref nq), (4, .ref nc), (5, .ref nl), (6, .ref nv), (7, .ref ng), (8, .ref nu), (9, .ref nf), (10, .ref nk), (11, .ref nt), (12, .int why), (13, .int beh), (14, .int (nI i)), (15, .int hh)] V S Y R zp zq zc zl zv zg zu zf zk zt := by
  obtain ⟨hx, hb, hml, hown, hts, ⟨hX, hL⟩, hbl, hK, hZ0⟩ := C0
  have hA : ∀ q : Nat, s.heap.size ≤ q → kl_A s q := fun _ h => h
  have hbA : ¬ kl_A s bb := Nat.not_le.mpr hbl
  intro H locs ls hP hD hS hl
  have hR := hI.1
  have hin := hI.2.1
  have hNi := ps_hN hI
  have hDi := ps_hD hI
  have hnP := ps_n hR
  have hmL := ps_m hR
  have e5 := hR.2.2.2.2.1.1
  have e7 := hR.2.2.2.2.2.2.1.1
  have e8 := hR.2.2.2.2.2.2.2.1
  have h7 := ps_h7 hR hNi
  have h8 := ps_h8 hR hNi
  have h5 := ps_h5 hR (by omega)
  have ht := ps_t hR (by omega)
  have hJ := ps_J hR
  have hO := hI.2.2.2.1
  have hC := hI.2.2.2.2
  refine lv_iload hx hb dL_law_952 (lv_at hl 15 rfl) ?_
  refine lv_iconst (v := 5) hx hb dL_law_954 (by decide +kernel) ?_
  refine lv_ishr hx hb dL_law_955 ?_
  refine lv_iload hx hb dL_law_956 (lv_at hl 15 rfl) ?_
  refine lv_bipush (v := 25) hx hb dL_law_958 (by decide +kernel) ?_
  refine lv_ishr hx hb dL_law_960 ?_
  refine lv_iconst (v := 2) hx hb dL_law_961 (by decide +kernel) ?_
  refine kz_rdS (As := [.int (hh >>> 25), .int 2]) (rest := [.int (hh >>> 5)]) ⟨hx, hb, hml, hown, hts⟩ (c_L_low l G (hh >>> 25) 2 (by omega) (by omega)) (va_cwS 2 hts gL_law_L_low rfl rfl rfl (by decide +kernel) ⟨Nat.le_of_ble_eq_true rfl, Nat.le_of_ble_eq_true rfl⟩) hK (hP.sub (cs := []) [] rfl) rfl hl.1 rfl (Nat.le_of_ble_eq_true rfl) dL_law_962 ⟨Nat.le_of_ble_eq_true rfl, Nat.le_of_ble_eq_true rfl⟩ ?_
  refine lv_if_ne (tgt := 973) hx hb dL_law_965 (by decide) (fun c_1 => ?_) (fun c_1 => ?_)
  · refine lv_iconst (v := 2) hx hb dL_law_973 (by decide +kernel) ?_
    refine kz_rdS (As := [.int (hh >>> 5), .int 2]) (rest := []) ⟨hx, hb, hml, hown, hts⟩ (c_L_low l G (hh >>> 5) 2 (by omega) (by omega)) (va_cwS 2 hts gL_law_L_low rfl rfl rfl (by decide +kernel) ⟨Nat.le_of_ble_eq_true rfl, Nat.le_of_ble_eq_true rfl⟩) hK (hP.sub (cs := []) [] rfl) rfl hl.1 rfl (Nat.le_of_ble_eq_true rfl) dL_law_974 ⟨Nat.le_of_ble_eq_true rfl, Nat.le_of_ble_eq_true rfl⟩ ?_
    obtain ⟨sd, esd⟩ : ∃ z, z = ps_lo (hh >>> 5) 2 := ⟨_, rfl⟩
    have hsd : sd < 2 := by rw [esd]; exact ps_lo_lt (by omega)
    refine lv_topi (fun y_2 ey_3 => ?_)
    obtain rfl : y_2 = nI sd := by rw [ey_3, esd]
    refine lv_istore (lv' := [(18, .int (nI sd)), (0, .ref bb), (1, .ref x), (2, .ref np), (3, .ref nq), (4, .ref nc), (5, .ref nl), (6, .ref nv), (7, .ref ng), (8, .ref nu), (9, .ref nf), (10, .ref nk), (11, .ref nt), (12, .int why), (13, .int beh), (14, .int (nI i)), (15, .int hh)]) hx hb dL_law_977 hl (by decide) rfl (fun ls hl => ?_)
    refine lv_aload hx hb dL_law_979 (lv_at hl 8 rfl) ?_
    refine lv_iload hx hb dL_law_981 (lv_at hl 0 rfl) ?_
    refine va_iald (f := zg) hx hb hK.1 hP 109 0 rfl rfl (vp_in_nI (n := sd) (N := 10) (by omega) (by decide)) dL_law_983 ?_
    refine lv_topi (fun y_4 ey_5 => ?_)
    obtain rfl : y_4 = (zg sd) := by rw [ey_5, kz_nI_clamp (n := sd) (by omega)]
    refine lv_if_ne (tgt := 1006) hx hb dL_law_984 (by decide) (fun c_6 => ?_) (fun c_6 => ?_)
    · refine lv_aload hx hb dL_law_1006 (lv_at hl 8 rfl) ?_
      refine lv_aload hx hb dL_law_1008 (lv_at hl 9 rfl) ?_
      refine lv_aload hx hb dL_law_1010 (lv_at hl 11 rfl) ?_
      refine lv_aload hx hb dL_law_1012 (lv_at hl 12 rfl) ?_
      refine lv_iload hx hb dL_law_1014 (lv_at hl 0 rfl) ?_
      refine lv_bipush (v := 6) hx hb dL_law_1016 (by decide +kernel) ?_
      refine kz_miS (As := [.ref ng, .ref nu, .ref nk, .ref nt, .int (nI sd), .int 6]) (rest := []) (wr := [xoW x (a 0) (sv 0) (ah 0) (h 0) (t 0) V, shW G a S, shW G sv kz_S0, shW G ah kz_S0, hsW G h (fun j => b j 0) Y, shW G (b 0) (R 0), shW G (b 1) (R 1), shW G (b 2) (R 2), shW G (b 3) (R 3), shW G (b 4) (R 4), shW G (b 5) (R 5), txW G t kz_T0, [(np, .inl (G.2.1, 64, .inl zp))], [(nq, .inl (G.2.1, 64, .inl zq))], [(nc, .inl (G.2.1, 64, .inl zc))], [(nl, .inl (G.2.1, 64, .inl zl))], [(nv, .inl (G.2.1, 64, .inl zv))], [(nf, .inl (G.2.1, 10, .inl zf))]]) (bs' := [xoW x (a 0) (sv 0) (ah 0) (h 0) (t 0) V, shW G a S, shW G sv kz_S0, shW G ah kz_S0, hsW G h (fun j => b j 0) Y, shW G (b 0) (R 0), shW G (b 1) (R 1), shW G (b 2) (R 2), shW G (b 3) (R 3), shW G (b 4) (R 4), shW G (b 5) (R 5), txW G t kz_T0, [(np, .inl (G.2.1, 64, .inl zp))], [(nq, .inl (G.2.1, 64, .inl zq))], [(nc, .inl (G.2.1, 64, .inl zc))], [(nl, .inl (G.2.1, 64, .inl zl))], [(nv, .inl (G.2.1, 64, .inl zv))], [(ng, .inl (G.2.1, 10, .inl (L_takes_s0 zg zu zk zt sd 6)))], [(nu, .inl (G.2.1, 10, .inl (L_takes_s1 zg zu zk zt sd 6)))], [(nf, .inl (G.2.1, 10, .inl zf))], [(nk, .inl (G.2.1, 10, .inl (L_takes_s2 zg zu zk zt sd 6)))], [(nt, .inl (G.2.1, 10, .inl zt))]]) ⟨hx, hb, hml, hown, hts⟩ (c_L_takes l G ng zg nu zu nk zk nt zt sd 6 (by omega)) (va_cwS 6 hts gL_law_L_takes rfl rfl rfl (by decide +kernel) ⟨Nat.le_of_ble_eq_true rfl, Nat.le_of_ble_eq_true rfl⟩) hK hP hD hS hA [17, 18, 20, 21] [0, 1, 2, 3, 4, 5, 6, 7, 8, 9, 10, 11, 12, 13, 14, 15, 16, 19] [0, 1, 2, 3, 4, 5, 6, 7, 8, 9, 10, 11, 12, 13, 14, 15, 16, 18, 19, 17, 20, 21] rfl (by decide) rfl (by decide) (by decide) rfl (by decide) rfl hl.1 rfl (Nat.le_of_ble_eq_true rfl) dL_law_1018 ⟨Nat.le_of_ble_eq_true rfl, Nat.le_of_ble_eq_true rfl⟩ (fun H locs hP hD hS => ?_)
      refine lv_aload_n hx hb dL_law_1021 rfl (lv_at hl 2 rfl) ?_
      refine lv_iload hx hb dL_law_1022 (lv_at hl 0 rfl) ?_
      refine kz_miV (As := [.int (nI sd)]) (rest := [.int (L_takes_r zg zu zk zt sd 6)]) (b := x) (wr := [shW G sv kz_S0, shW G ah kz_S0, txW G t kz_T0, [(np, .inl (G.2.1, 64, .inl zp))], [(nq, .inl (G.2.1, 64, .inl zq))], [(nc, .inl (G.2.1, 64, .inl zc))], [(nl, .inl (G.2.1, 64, .inl zl))], [(nv, .inl (G.2.1, 64, .inl zv))], [(ng, .inl (G.2.1, 10, .inl (L_takes_s0 zg zu zk zt sd 6)))], [(nu, .inl (G.2.1, 10, .inl (L_takes_s1 zg zu zk zt sd 6)))], [(nf, .inl (G.2.1, 10, .inl zf))], [(nk, .inl (G.2.1, 10, .inl (L_takes_s2 zg zu zk zt sd 6)))], [(nt, .inl (G.2.1, 10, .inl zt))]]) (bs' := [xoW x (a 0) (sv 0) (ah 0) (h 0) (t 0) V, shW G a (X3_call_s1 V S Y R (nI sd)), shW G sv kz_S0, shW G ah kz_S0, hsW G h (fun j => b j 0) (X3_call_s2 V S Y R (nI sd)), shW G (b 0) ((X3_call_s3 V S Y R (nI sd)) 0), shW G (b 1) ((X3_call_s3 V S Y R (nI sd)) 1), shW G (b 2) ((X3_call_s3 V S Y R (nI sd)) 2), shW G (b 3) ((X3_call_s3 V S Y R (nI sd)) 3), shW G (b 4) ((X3_call_s3 V S Y R (nI sd)) 4), shW G (b 5) ((X3_call_s3 V S Y R (nI sd)) 5), txW G t kz_T0, [(np, .inl (G.2.1, 64, .inl zp))], [(nq, .inl (G.2.1, 64, .inl zq))], [(nc, .inl (G.2.1, 64, .inl zc))], [(nl, .inl (G.2.1, 64, .inl zl))], [(nv, .inl (G.2.1, 64, .inl zv))], [(ng, .inl (G.2.1, 10, .inl (L_takes_s0 zg zu zk zt sd 6)))], [(nu, .inl (G.2.1, 10, .inl (L_takes_s1 zg zu zk zt sd 6)))], [(nf, .inl (G.2.1, 10, .inl zf))], [(nk, .inl (G.2.1, 10, .inl (L_takes_s2 zg zu zk zt sd 6)))], [(nt, .inl (G.2.1, 10, .inl zt))]]) ⟨hx, hb, hml, hown, hts⟩ (c_X3_call l G x (sv 0) (ah 0) (t 0) V a S h Y b R (nI sd) (by assumption) (by assumption)) (cwV 1 hts gL_law_X3_call rfl rfl rfl (by decide +kernel) ⟨Nat.le_of_ble_eq_true rfl, Nat.le_of_ble_eq_true rfl⟩) hK hP hD hS hA [0, 1, 4, 5, 6, 7, 8, 9, 10] [2, 3, 11, 12, 13, 14, 15, 16, 17, 18, 19, 20, 21] [13, 14, 0, 1, 15, 16, 17, 18, 19, 20, 21, 2, 3, 4, 5, 6, 7, 8, 9, 10, 11, 12] rfl (by decide) rfl (by decide) (by decide) rfl (by decide) (kz_recv hK hP (ci := 3) (q0 := 0) rfl rfl) rfl hl.1 rfl (Nat.le_of_ble_eq_true rfl) dL_law_1024 ⟨Nat.le_of_ble_eq_true rfl, Nat.le_of_ble_eq_true rfl⟩ (fun H locs hP hD hS => ?_)
      obtain ⟨eans, I2⟩ := ps_opCall2 hI R (s := sd) (by omega) c_6
      refine lv_icmp_ne (tgt := 1034) hx hb dL_law_1027 (by decide) (fun c => absurd c (by exact fun z => z (eans.symm))) (fun c_7 => ?_)
      refine lv_iconst (v := 1) hx hb dL_law_1030 (by decide +kernel) ?_
      refine lv_goto (tgt := 1035) hx hb dL_law_1031 (by decide) ?_
      refine lv_istore (lv' := [(17, .int 1), (18, .int (nI sd)), (0, .ref bb), (1, .ref x), (2, .ref np), (3, .ref nq), (4, .ref nc), (5, .ref nl), (6, .ref nv), (7, .ref ng), (8, .ref nu), (9, .ref nf), (10, .ref nk), (11, .ref nt), (12, .int why), (13, .int beh), (14, .int (nI i)), (15, .int hh)]) hx hb dL_law_1035 hl (by decide) rfl (fun ls hl => ?_)
      refine lv_goto (tgt := 1172) hx hb dL_law_1037 (by decide) ?_
      exact KK V (X3_call_s1 V S Y R (nI sd)) (X3_call_s2 V S Y R (nI sd)) (X3_call_s3 V S Y R (nI sd)) zp zq zc zl zv (L_takes_s0 zg zu zk zt sd 6) (L_takes_s1 zg zu zk zt sd 6) zf (L_takes_s2 zg zu zk zt sd 6) zt why beh I2 H locs ls hP hD hS (lv_sub hl [0, 2, 3, 4, 5, 6, 7, 8, 9, 10, 11, 12, 13, 14, 15, 16] rfl)
    · refine lv_aload_n hx hb dL_law_987 rfl (lv_at hl 2 rfl) ?_
      refine lv_iload hx hb dL_law_988 (lv_at hl 0 rfl) ?_
      refine kz_miV (As := [.int (nI sd)]) (rest := []) (b := x) (wr := [shW G sv kz_S0, shW G ah kz_S0, txW G t kz_T0, [(np, .inl (G.2.1, 64, .inl zp))], [(nq, .inl (G.2.1, 64, .inl zq))], [(nc, .inl (G.2.1, 64, .inl zc))], [(nl, .inl (G.2.1, 64, .inl zl))], [(nv, .inl (G.2.1, 64, .inl zv))], [(ng, .inl (G.2.1, 10, .inl zg))], [(nu, .inl (G.2.1, 10, .inl zu))], [(nf, .inl (G.2.1, 10, .inl zf))], [(nk, .inl (G.2.1, 10, .inl zk))], [(nt, .inl (G.2.1, 10, .inl zt))]]) (bs' := [xoW x (a 0) (sv 0) (ah 0) (h 0) (t 0) V, shW G a (X3_call_s1 V S Y R (nI sd)), shW G sv kz_S0, shW G ah kz_S0, hsW G h (fun j => b j 0) (X3_call_s2 V S Y R (nI sd)), shW G (b 0) ((X3_call_s3 V S Y R (nI sd)) 0), shW G (b 1) ((X3_call_s3 V S Y R (nI sd)) 1), shW G (b 2) ((X3_call_s3 V S Y R (nI sd)) 2), shW G (b 3) ((X3_call_s3 V S Y R (nI sd)) 3), shW G (b 4) ((X3_call_s3 V S Y R (nI sd)) 4), shW G (b 5) ((X3_call_s3 V S Y R (nI sd)) 5), txW G t kz_T0, [(np, .inl (G.2.1, 64, .inl zp))], [(nq, .inl (G.2.1, 64, .inl zq))], [(nc, .inl (G.2.1, 64, .inl zc))], [(nl, .inl (G.2.1, 64, .inl zl))], [(nv, .inl (G.2.1, 64, .inl zv))], [(ng, .inl (G.2.1, 10, .inl zg))], [(nu, .inl (G.2.1, 10, .inl zu))], [(nf, .inl (G.2.1, 10, .inl zf))], [(nk, .inl (G.2.1, 10, .inl zk))], [(nt, .inl (G.2.1, 10, .inl zt))]]) ⟨hx, hb, hml, hown, hts⟩ (c_X3_call l G x (sv 0) (ah 0) (t 0) V a S h Y b R (nI sd) (by assumption) (by assumption)) (cwV 1 hts gL_law_X3_call rfl rfl rfl (by decide +kernel) ⟨Nat.le_of_ble_eq_true rfl, Nat.le_of_ble_eq_true rfl⟩) hK hP hD hS hA [0, 1, 4, 5, 6, 7, 8, 9, 10] [2, 3, 11, 12, 13, 14, 15, 16, 17, 18, 19, 20, 21] [13, 14, 0, 1, 15, 16, 17, 18, 19, 20, 21, 2, 3, 4, 5, 6, 7, 8, 9, 10, 11, 12] rfl (by decide) rfl (by decide) (by decide) rfl (by decide) (kz_recv hK hP (ci := 3) (q0 := 0) rfl rfl) rfl hl.1 rfl (Nat.le_of_ble_eq_true rfl) dL_law_990 ⟨Nat.le_of_ble_eq_true rfl, Nat.le_of_ble_eq_true rfl⟩ (fun H locs hP hD hS => ?_)
      obtain ⟨eans, I2⟩ := ps_opCall1 hI R (s := sd) (by omega) c_6
      refine lv_bipush (v := (-3)) hx hb dL_law_993 (by decide +kernel) ?_
      refine lv_icmp_ne (tgt := 1002) hx hb dL_law_995 (by decide) (fun c => absurd c (by exact fun z => z (eans))) (fun c_8 => ?_)
      refine lv_iconst (v := 1) hx hb dL_law_998 (by decide +kernel) ?_
      refine lv_goto (tgt := 1035) hx hb dL_law_999 (by decide) ?_
      refine lv_istore (lv' := [(17, .int 1), (18, .int (nI sd)), (0, .ref bb), (1, .ref x), (2, .ref np), (3, .ref nq), (4, .ref nc), (5, .ref nl), (6, .ref nv), (7, .ref ng), (8, .ref nu), (9, .ref nf), (10, .ref nk), (11, .ref nt), (12, .int why), (13, .int beh), (14, .int (nI i)), (15, .int hh)]) hx hb dL_law_1035 hl (by decide) rfl (fun ls hl => ?_)
      refine lv_goto (tgt := 1172) hx hb dL_law_1037 (by decide) ?_
      exact KK V (X3_call_s1 V S Y R (nI sd)) (X3_call_s2 V S Y R (nI sd)) (X3_call_s3 V S Y R (nI sd)) zp zq zc zl zv zg zu zf zk zt why beh I2 H locs ls hP hD hS (lv_sub hl [0, 2, 3, 4, 5, 6, 7, 8, 9, 10, 11, 12, 13, 14, 15, 16] rfl)
  · refine lv_bipush (v := 10) hx hb dL_law_968 (by decide +kernel) ?_
    refine lv_goto (tgt := 974) hx hb dL_law_970 (by decide) ?_
    refine kz_rdS (As := [.int (hh >>> 5), .int 10]) (rest := []) ⟨hx, hb, hml, hown, hts⟩ (c_L_low l G (hh >>> 5) 10 (by omega) (by omega)) (va_cwS 2 hts gL_law_L_low rfl rfl rfl (by decide +kernel) ⟨Nat.le_of_ble_eq_true rfl, Nat.le_of_ble_eq_true rfl⟩) hK (hP.sub (cs := []) [] rfl) rfl hl.1 rfl (Nat.le_of_ble_eq_true rfl) dL_law_974 ⟨Nat.le_of_ble_eq_true rfl, Nat.le_of_ble_eq_true rfl⟩ ?_
    obtain ⟨sd, esd⟩ : ∃ z, z = ps_lo (hh >>> 5) 10 := ⟨_, rfl⟩
    have hsd : sd < 10 := by rw [esd]; exact ps_lo_lt (by omega)
    refine lv_topi (fun y_9 ey_10 => ?_)
    obtain rfl : y_9 = nI sd := by rw [ey_10, esd]
    refine lv_istore (lv' := [(18, .int (nI sd)), (0, .ref bb), (1, .ref x), (2, .ref np), (3, .ref nq), (4, .ref nc), (5, .ref nl), (6, .ref nv), (7, .ref ng), (8, .ref nu), (9, .ref nf), (10, .ref nk), (11, .ref nt), (12, .int why), (13, .int beh), (14, .int (nI i)), (15, .int hh)]) hx hb dL_law_977 hl (by decide) rfl (fun ls hl => ?_)
    refine lv_aload hx hb dL_law_979 (lv_at hl 8 rfl) ?_
    refine lv_iload hx hb dL_law_981 (lv_at hl 0 rfl) ?_
    refine va_iald (f := zg) hx hb hK.1 hP 109 0 rfl rfl (vp_in_nI (n := sd) (N := 10) (by omega) (by decide)) dL_law_983 ?_
    refine lv_topi (fun y_11 ey_12 => ?_)
    obtain rfl : y_11 = (zg sd) := by rw [ey_12, kz_nI_clamp (n := sd) (by omega)]
    refine lv_if_ne (tgt := 1006) hx hb dL_law_984 (by decide) (fun c_13 => ?_) (fun c_13 => ?_)
    · refine lv_aload hx hb dL_law_1006 (lv_at hl 8 rfl) ?_
      refine lv_aload hx hb dL_law_1008 (lv_at hl 9 rfl) ?_
      refine lv_aload hx hb dL_law_1010 (lv_at hl 11 rfl) ?_
      refine lv_aload hx hb dL_law_1012 (lv_at hl 12 rfl) ?_
      refine lv_iload hx hb dL_law_1014 (lv_at hl 0 rfl) ?_
      refine lv_bipush (v := 6) hx hb dL_law_1016 (by decide +kernel) ?_
      refine kz_miS (As := [.ref ng, .ref nu, .ref nk, .ref nt, .int (nI sd), .int 6]) (rest := []) (wr := [xoW x (a 0) (sv 0) (ah 0) (h 0) (t 0) V, shW G a S, shW G sv kz_S0, shW G ah kz_S0, hsW G h (fun j => b j 0) Y, shW G (b 0) (R 0), shW G (b 1) (R 1), shW G (b 2) (R 2), shW G (b 3) (R 3), shW G (b 4) (R 4), shW G (b 5) (R 5), txW G t kz_T0, [(np, .inl (G.2.1, 64, .inl zp))], [(nq, .inl (G.2.1, 64, .inl zq))], [(nc, .inl (G.2.1, 64, .inl zc))], [(nl, .inl (G.2.1, 64, .inl zl))], [(nv, .inl (G.2.1, 64, .inl zv))], [(nf, .inl (G.2.1, 10, .inl zf))]]) (bs' := [xoW x (a 0) (sv 0) (ah 0) (h 0) (t 0) V, shW G a S, shW G sv kz_S0, shW G ah kz_S0, hsW G h (fun j => b j 0) Y, shW G (b 0) (R 0), shW G (b 1) (R 1), shW G (b 2) (R 2), shW G (b 3) (R 3), shW G (b 4) (R 4), shW G (b 5) (R 5), txW G t kz_T0, [(np, .inl (G.2.1, 64, .inl zp))], [(nq, .inl (G.2.1, 64, .inl zq))], [(nc, .inl (G.2.1, 64, .inl zc))], [(nl, .inl (G.2.1, 64, .inl zl))], [(nv, .inl (G.2.1, 64, .inl zv))], [(ng, .inl (G.2.1, 10, .inl (L_takes_s0 zg zu zk zt sd 6)))], [(nu, .inl (G.2.1, 10, .inl (L_takes_s1 zg zu zk zt sd 6)))], [(nf, .inl (G.2.1, 10, .inl zf))], [(nk, .inl (G.2.1, 10, .inl (L_takes_s2 zg zu zk zt sd 6)))], [(nt, .inl (G.2.1, 10, .inl zt))]]) ⟨hx, hb, hml, hown, hts⟩ (c_L_takes l G ng zg nu zu nk zk nt zt sd 6 (by omega)) (va_cwS 6 hts gL_law_L_takes rfl rfl rfl (by decide +kernel) ⟨Nat.le_of_ble_eq_true rfl, Nat.le_of_ble_eq_true rfl⟩) hK hP hD hS hA [17, 18, 20, 21] [0, 1, 2, 3, 4, 5, 6, 7, 8, 9, 10, 11, 12, 13, 14, 15, 16, 19] [0, 1, 2, 3, 4, 5, 6, 7, 8, 9, 10, 11, 12, 13, 14, 15, 16, 18, 19, 17, 20, 21] rfl (by decide) rfl (by decide) (by decide) rfl (by decide) rfl hl.1 rfl (Nat.le_of_ble_eq_true rfl) dL_law_1018 ⟨Nat.le_of_ble_eq_true rfl, Nat.le_of_ble_eq_true rfl⟩ (fun H locs hP hD hS => ?_)
      refine lv_aload_n hx hb dL_law_1021 rfl (lv_at hl 2 rfl) ?_
      refine lv_iload hx hb dL_law_1022 (lv_at hl 0 rfl) ?_
      refine kz_miV (As := [.int (nI sd)]) (rest := [.int (L_takes_r zg zu zk zt sd 6)]) (b := x) (wr := [shW G sv kz_S0, shW G ah kz_S0, txW G t kz_T0, [(np, .inl (G.2.1, 64, .inl zp))], [(nq, .inl (G.2.1, 64, .inl zq))], [(nc, .inl (G.2.1, 64, .inl zc))], [(nl, .inl (G.2.1, 64, .inl zl))], [(nv, .inl (G.2.1, 64, .inl zv))], [(ng, .inl (G.2.1, 10, .inl (L_takes_s0 zg zu zk zt sd 6)))], [(nu, .inl (G.2.1, 10, .inl (L_takes_s1 zg zu zk zt sd 6)))], [(nf, .inl (G.2.1, 10, .inl zf))], [(nk, .inl (G.2.1, 10, .inl (L_takes_s2 zg zu zk zt sd 6)))], [(nt, .inl (G.2.1, 10, .inl zt))]]) (bs' := [xoW x (a 0) (sv 0) (ah 0) (h 0) (t 0) V, shW G a (X3_call_s1 V S Y R (nI sd)), shW G sv kz_S0, shW G ah kz_S0, hsW G h (fun j => b j 0) (X3_call_s2 V S Y R (nI sd)), shW G (b 0) ((X3_call_s3 V S Y R (nI sd)) 0), shW G (b 1) ((X3_call_s3 V S Y R (nI sd)) 1), shW G (b 2) ((X3_call_s3 V S Y R (nI sd)) 2), shW G (b 3) ((X3_call_s3 V S Y R (nI sd)) 3), shW G (b 4) ((X3_call_s3 V S Y R (nI sd)) 4), shW G (b 5) ((X3_call_s3 V S Y R (nI sd)) 5), txW G t kz_T0, [(np, .inl (G.2.1, 64, .inl zp))], [(nq, .inl (G.2.1, 64, .inl zq))], [(nc, .inl (G.2.1, 64, .inl zc))], [(nl, .inl (G.2.1, 64, .inl zl))], [(nv, .inl (G.2.1, 64, .inl zv))], [(ng, .inl (G.2.1, 10, .inl (L_takes_s0 zg zu zk zt sd 6)))], [(nu, .inl (G.2.1, 10, .inl (L_takes_s1 zg zu zk zt sd 6)))], [(nf, .inl (G.2.1, 10, .inl zf))], [(nk, .inl (G.2.1, 10, .inl (L_takes_s2 zg zu zk zt sd 6)))], [(nt, .inl (G.2.1, 10, .inl zt))]]) ⟨hx, hb, hml, hown, hts⟩ (c_X3_call l G x (sv 0) (ah 0) (t 0) V a S h Y b R (nI sd) (by assumption) (by assumption)) (cwV 1 hts gL_law_X3_call rfl rfl rfl (by decide +kernel) ⟨Nat.le_of_ble_eq_true rfl, Nat.le_of_ble_eq_true rfl⟩) hK hP hD hS hA [0, 1, 4, 5, 6, 7, 8, 9, 10] [2, 3, 11, 12, 13, 14, 15, 16, 17, 18, 19, 20, 21] [13, 14, 0, 1, 15, 16, 17, 18, 19, 20, 21, 2, 3, 4, 5, 6, 7, 8, 9, 10, 11, 12] rfl (by decide) rfl (by decide) (by decide) rfl (by decide) (kz_recv hK hP (ci := 3) (q0 := 0) rfl rfl) rfl hl.1 rfl (Nat.le_of_ble_eq_true rfl) dL_law_1024 ⟨Nat.le_of_ble_eq_true rfl, Nat.le_of_ble_eq_true rfl⟩ (fun H locs hP hD hS => ?_)
      obtain ⟨eans, I2⟩ := ps_opCall2 hI R (s := sd) (by omega) c_13
      refine lv_icmp_ne (tgt := 1034) hx hb dL_law_1027 (by decide) (fun c => absurd c (by exact fun z => z (eans.symm))) (fun c_14 => ?_)
      refine lv_iconst (v := 1) hx hb dL_law_1030 (by decide +kernel) ?_
      refine lv_goto (tgt := 1035) hx hb dL_law_1031 (by decide) ?_
      refine lv_istore (lv' := [(17, .int 1), (18, .int (nI sd)), (0, .ref bb), (1, .ref x), (2, .ref np), (3, .ref nq), (4, .ref nc), (5, .ref nl), (6, .ref nv), (7, .ref ng), (8, .ref nu), (9, .ref nf), (10, .ref nk), (11, .ref nt), (12, .int why), (13, .int beh), (14, .int (nI i)), (15, .int hh)]) hx hb dL_law_1035 hl (by decide) rfl (fun ls hl => ?_)
      refine lv_goto (tgt := 1172) hx hb dL_law_1037 (by decide) ?_
      exact KK V (X3_call_s1 V S Y R (nI sd)) (X3_call_s2 V S Y R (nI sd)) (X3_call_s3 V S Y R (nI sd)) zp zq zc zl zv (L_takes_s0 zg zu zk zt sd 6) (L_takes_s1 zg zu zk zt sd 6) zf (L_takes_s2 zg zu zk zt sd 6) zt why beh I2 H locs ls hP hD hS (lv_sub hl [0, 2, 3, 4, 5, 6, 7, 8, 9, 10, 11, 12, 13, 14, 15, 16] rfl)
    · refine lv_aload_n hx hb dL_law_987 rfl (lv_at hl 2 rfl) ?_
      refine lv_iload hx hb dL_law_988 (lv_at hl 0 rfl) ?_
      refine kz_miV (As := [.int (nI sd)]) (rest := []) (b := x) (wr := [shW G sv kz_S0, shW G ah kz_S0, txW G t kz_T0, [(np, .inl (G.2.1, 64, .inl zp))], [(nq, .inl (G.2.1, 64, .inl zq))], [(nc, .inl (G.2.1, 64, .inl zc))], [(nl, .inl (G.2.1, 64, .inl zl))], [(nv, .inl (G.2.1, 64, .inl zv))], [(ng, .inl (G.2.1, 10, .inl zg))], [(nu, .inl (G.2.1, 10, .inl zu))], [(nf, .inl (G.2.1, 10, .inl zf))], [(nk, .inl (G.2.1, 10, .inl zk))], [(nt, .inl (G.2.1, 10, .inl zt))]]) (bs' := [xoW x (a 0) (sv 0) (ah 0) (h 0) (t 0) V, shW G a (X3_call_s1 V S Y R (nI sd)), shW G sv kz_S0, shW G ah kz_S0, hsW G h (fun j => b j 0) (X3_call_s2 V S Y R (nI sd)), shW G (b 0) ((X3_call_s3 V S Y R (nI sd)) 0), shW G (b 1) ((X3_call_s3 V S Y R (nI sd)) 1), shW G (b 2) ((X3_call_s3 V S Y R (nI sd)) 2), shW G (b 3) ((X3_call_s3 V S Y R (nI sd)) 3), shW G (b 4) ((X3_call_s3 V S Y R (nI sd)) 4), shW G (b 5) ((X3_call_s3 V S Y R (nI sd)) 5), txW G t kz_T0, [(np, .inl (G.2.1, 64, .inl zp))], [(nq, .inl (G.2.1, 64, .inl zq))], [(nc, .inl (G.2.1, 64, .inl zc))], [(nl, .inl (G.2.1, 64, .inl zl))], [(nv, .inl (G.2.1, 64, .inl zv))], [(ng, .inl (G.2.1, 10, .inl zg))], [(nu, .inl (G.2.1, 10, .inl zu))], [(nf, .inl (G.2.1, 10, .inl zf))], [(nk, .inl (G.2.1, 10, .inl zk))], [(nt, .inl (G.2.1, 10, .inl zt))]]) ⟨hx, hb, hml, hown, hts⟩ (c_X3_call l G x (sv 0) (ah 0) (t 0) V a S h Y b R (nI sd) (by assumption) (by assumption)) (cwV 1 hts gL_law_X3_call rfl rfl rfl (by decide +kernel) ⟨Nat.le_of_ble_eq_true rfl, Nat.le_of_ble_eq_true rfl⟩) hK hP hD hS hA [0, 1, 4, 5, 6, 7, 8, 9, 10] [2, 3, 11, 12, 13, 14, 15, 16, 17, 18, 19, 20, 21] [13, 14, 0, 1, 15, 16, 17, 18, 19, 20, 21, 2, 3, 4, 5, 6, 7, 8, 9, 10, 11, 12] rfl (by decide) rfl (by decide) (by decide) rfl (by decide) (kz_recv hK hP (ci := 3) (q0 := 0) rfl rfl) rfl hl.1 rfl (Nat.le_of_ble_eq_true rfl) dL_law_990 ⟨Nat.le_of_ble_eq_true rfl, Nat.le_of_ble_eq_true rfl⟩ (fun H locs hP hD hS => ?_)
      obtain ⟨eans, I2⟩ := ps_opCall1 hI R (s := sd) (by omega) c_13
      refine lv_bipush (v := (-3)) hx hb dL_law_993 (by decide +kernel) ?_
      refine lv_icmp_ne (tgt := 1002) hx hb dL_law_995 (by decide) (fun c => absurd c (by exact fun z => z (eans))) (fun c_15 => ?_)
      refine lv_iconst (v := 1) hx hb dL_law_998 (by decide +kernel) ?_
      refine lv_goto (tgt := 1035) hx hb dL_law_999 (by decide) ?_
      refine lv_istore (lv' := [(17, .int 1), (18, .int (nI sd)), (0, .ref bb), (1, .ref x), (2, .ref np), (3, .ref nq), (4, .ref nc), (5, .ref nl), (6, .ref nv), (7, .ref ng), (8, .ref nu), (9, .ref nf), (10, .ref nk), (11, .ref nt), (12, .int why), (13, .int beh), (14, .int (nI i)), (15, .int hh)]) hx hb dL_law_1035 hl (by decide) rfl (fun ls hl => ?_)
      refine lv_goto (tgt := 1172) hx hb dL_law_1037 (by decide) ?_
      exact KK V (X3_call_s1 V S Y R (nI sd)) (X3_call_s2 V S Y R (nI sd)) (X3_call_s3 V S Y R (nI sd)) zp zq zc zl zv zg zu zf zk zt why beh I2 H locs ls hP hD hS (lv_sub hl [0, 2, 3, 4, 5, 6, 7, 8, 9, 10, 11, 12, 13, 14, 15, 16] rfl)
set_option maxHeartbeats 4000000 in
set_option maxRecDepth 100000 in
theorem kl_c_set (C0 : kl_C p s m c bb L xs G) (hI : ps_C i D nP mL V S Y zp zq zc zl zv zg zu zf zk zt why beh) (KK : kl_K p l e s m below meth c bb G x a sv ah h b t np nq nc nl nv ng nu nf nk nt i) : kl_at p l e s m below meth c bb G x a sv ah h b t np nq nc nl nv ng nu nf nk nt 1040 [(0, .ref bb), (1, .ref x), (2, .ref np), (3, .ref nq), (4, .ref nc), (5, .ref nl), (6, .ref nv), (7, .ref ng), (8, .ref nu), (9, .ref nf), (10, .ref nk), (11, .ref nt), (12, .int why), (13, .int beh), (14, .int (nI i)), (15, .int hh)] V S Y R zp zq zc zl zv zg zu zf zk zt := by
  obtain ⟨hx, hb, hml, hown, hts, ⟨hX, hL⟩, hbl, hK, hZ0⟩ := C0
  have hA : ∀ q : Nat, s.heap.size ≤ q → kl_A s q := fun _ h => h
  have hbA : ¬ kl_A s bb := Nat.not_le.mpr hbl
  intro H locs ls hP hD hS hl
  have hR := hI.1
  have hin := hI.2.1
  have hNi := ps_hN hI
  have hDi := ps_hD hI
  have hnP := ps_n hR
  have hmL := ps_m hR
  have e5 := hR.2.2.2.2.1.1
  have e7 := hR.2.2.2.2.2.2.1.1
  have e8 := hR.2.2.2.2.2.2.2.1
  have h7 := ps_h7 hR hNi
  have h8 := ps_h8 hR hNi
  have h5 := ps_h5 hR (by omega)
  have ht := ps_t hR (by omega)
  have hJ := ps_J hR
  have hO := hI.2.2.2.1
  have hC := hI.2.2.2.2
  refine lv_iload hx hb dL_law_1040 (lv_at hl 15 rfl) ?_
  refine lv_iconst (v := 5) hx hb dL_law_1042 (by decide +kernel) ?_
  refine lv_ishr hx hb dL_law_1043 ?_
  refine lv_iconst (v := 5) hx hb dL_law_1044 (by decide +kernel) ?_
  refine kz_rdS (As := [.int (hh >>> 5), .int 5]) (rest := []) ⟨hx, hb, hml, hown, hts⟩ (c_L_low l G (hh >>> 5) 5 (by omega) (by omega)) (va_cwS 2 hts gL_law_L_low rfl rfl rfl (by decide +kernel) ⟨Nat.le_of_ble_eq_true rfl, Nat.le_of_ble_eq_true rfl⟩) hK (hP.sub (cs := []) [] rfl) rfl hl.1 rfl (Nat.le_of_ble_eq_true rfl) dL_law_1045 ⟨Nat.le_of_ble_eq_true rfl, Nat.le_of_ble_eq_true rfl⟩ ?_
  obtain ⟨ks, eks⟩ : ∃ z, z = ps_lo (hh >>> 5) 5 := ⟨_, rfl⟩
  have hks : ks < 5 := by rw [eks]; exact ps_lo_lt (by omega)
  refine lv_topi (fun y_1 ey_2 => ?_)
  obtain rfl : y_1 = nI ks := by rw [ey_2, eks]
  refine lv_istore (lv' := [(18, .int (nI ks)), (0, .ref bb), (1, .ref x), (2, .ref np), (3, .ref nq), (4, .ref nc), (5, .ref nl), (6, .ref nv), (7, .ref ng), (8, .ref nu), (9, .ref nf), (10, .ref nk), (11, .ref nt), (12, .int why), (13, .int beh), (14, .int (nI i)), (15, .int hh)]) hx hb dL_law_1048 hl (by decide) rfl (fun ls hl => ?_)
  refine lv_iload hx hb dL_law_1050 (lv_at hl 0 rfl) ?_
  refine lv_if_ne (tgt := 1068) hx hb dL_law_1052 (by decide) (fun c_3 => ?_) (fun c_3 => ?_)
  · have ek0 := ps_nz c_3
    refine lv_iload hx hb dL_law_1068 (lv_at hl 0 rfl) ?_
    refine lv_iconst (v := 1) hx hb dL_law_1070 (by decide +kernel) ?_
    refine lv_icmp_ne (tgt := 1087) hx hb dL_law_1071 (by decide) (fun c_4 => ?_) (fun c_4 => ?_)
    · have ek1 : ks ≠ 1 := fun q => c_4 (by rw [q]; rfl)
      refine lv_iload hx hb dL_law_1087 (lv_at hl 0 rfl) ?_
      refine lv_iconst (v := 2) hx hb dL_law_1089 (by decide +kernel) ?_
      refine lv_icmp_ne (tgt := 1106) hx hb dL_law_1090 (by decide) (fun c_5 => ?_) (fun c_5 => ?_)
      · have ek2 : ks ≠ 2 := fun q => c_5 (by rw [q]; rfl)
        refine lv_iconst (v := 1) hx hb dL_law_1106 (by decide +kernel) ?_
        refine lv_iload hx hb dL_law_1107 (lv_at hl 16 rfl) ?_
        refine lv_bipush (v := 8) hx hb dL_law_1109 (by decide +kernel) ?_
        refine lv_ishr hx hb dL_law_1111 ?_
        refine lv_iload hx hb dL_law_1112 (lv_at hl 0 rfl) ?_
        refine lv_iconst (v := 3) hx hb dL_law_1114 (by decide +kernel) ?_
        refine lv_icmp_ne (tgt := 1123) hx hb dL_law_1115 (by decide) (fun c_6 => ?_) (fun c_6 => ?_)
        · have ek3 : ks ≠ 3 := fun q => c_6 (by rw [q]; rfl)
          have ek : ks = 4 := by omega
          refine lv_bipush (v := 9) hx hb dL_law_1123 (by decide +kernel) ?_
          refine kz_rdS (As := [.int (hh >>> 8), .int 9]) (rest := [.int 1]) ⟨hx, hb, hml, hown, hts⟩ (c_L_low l G (hh >>> 8) 9 (by omega) (by omega)) (va_cwS 2 hts gL_law_L_low rfl rfl rfl (by decide +kernel) ⟨Nat.le_of_ble_eq_true rfl, Nat.le_of_ble_eq_true rfl⟩) hK (hP.sub (cs := []) [] rfl) rfl hl.1 rfl (Nat.le_of_ble_eq_true rfl) dL_law_1125 ⟨Nat.le_of_ble_eq_true rfl, Nat.le_of_ble_eq_true rfl⟩ ?_
          obtain ⟨yv, eyv⟩ : ∃ z, z = ps_lo (hh >>> 8) 9 := ⟨_, rfl⟩
          have hyv : yv < 9 := by rw [eyv]; exact ps_lo_lt (by omega)
          refine lv_topi (fun y_7 ey_8 => ?_)
          obtain rfl : y_7 = nI yv := by rw [ey_8, eyv]
          refine lv_iadd hx hb dL_law_1128 ?_
          refine lv_topi (fun y_9 ey_10 => ?_)
          obtain rfl : y_9 = (nI (yv + 1)) := by rw [ey_10]; rw [Int32.add_comm]; exact nI_1 yv
          refine lv_istore (lv' := [(19, .int (nI (yv + 1))), (18, .int (nI ks)), (0, .ref bb), (1, .ref x), (2, .ref np), (3, .ref nq), (4, .ref nc), (5, .ref nl), (6, .ref nv), (7, .ref ng), (8, .ref nu), (9, .ref nf), (10, .ref nk), (11, .ref nt), (12, .int why), (13, .int beh), (14, .int (nI i)), (15, .int hh)]) hx hb dL_law_1129 hl (by decide) rfl (fun ls hl => ?_)
          refine lv_aload_n hx hb dL_law_1131 rfl (lv_at hl 3 rfl) ?_
          refine lv_iload hx hb dL_law_1132 (lv_at hl 1 rfl) ?_
          refine lv_iload hx hb dL_law_1134 (lv_at hl 0 rfl) ?_
          refine kz_mzV (As := [.int (nI ks), .int (nI (yv + 1))]) (rest := []) (b := x) (wr := [shW G sv kz_S0, shW G ah kz_S0, txW G t kz_T0, [(np, .inl (G.2.1, 64, .inl zp))], [(nq, .inl (G.2.1, 64, .inl zq))], [(nc, .inl (G.2.1, 64, .inl zc))], [(nl, .inl (G.2.1, 64, .inl zl))], [(nv, .inl (G.2.1, 64, .inl zv))], [(ng, .inl (G.2.1, 10, .inl zg))], [(nu, .inl (G.2.1, 10, .inl zu))], [(nf, .inl (G.2.1, 10, .inl zf))], [(nk, .inl (G.2.1, 10, .inl zk))], [(nt, .inl (G.2.1, 10, .inl zt))]]) (bs' := [xoW x (a 0) (sv 0) (ah 0) (h 0) (t 0) V, shW G a (X3_set_s1 V S Y R (nI ks) (nI (yv + 1))), shW G sv kz_S0, shW G ah kz_S0, hsW G h (fun j => b j 0) (X3_set_s2 V S Y R (nI ks) (nI (yv + 1))), shW G (b 0) ((X3_set_s3 V S Y R (nI ks) (nI (yv + 1))) 0), shW G (b 1) ((X3_set_s3 V S Y R (nI ks) (nI (yv + 1))) 1), shW G (b 2) ((X3_set_s3 V S Y R (nI ks) (nI (yv + 1))) 2), shW G (b 3) ((X3_set_s3 V S Y R (nI ks) (nI (yv + 1))) 3), shW G (b 4) ((X3_set_s3 V S Y R (nI ks) (nI (yv + 1))) 4), shW G (b 5) ((X3_set_s3 V S Y R (nI ks) (nI (yv + 1))) 5), txW G t kz_T0, [(np, .inl (G.2.1, 64, .inl zp))], [(nq, .inl (G.2.1, 64, .inl zq))], [(nc, .inl (G.2.1, 64, .inl zc))], [(nl, .inl (G.2.1, 64, .inl zl))], [(nv, .inl (G.2.1, 64, .inl zv))], [(ng, .inl (G.2.1, 10, .inl zg))], [(nu, .inl (G.2.1, 10, .inl zu))], [(nf, .inl (G.2.1, 10, .inl zf))], [(nk, .inl (G.2.1, 10, .inl zk))], [(nt, .inl (G.2.1, 10, .inl zt))]]) ⟨hx, hb, hml, hown, hts⟩ (c_X3_set l G x (sv 0) (ah 0) (t 0) V a S h Y b R (nI ks) (nI (yv + 1)) (by assumption) (by assumption)) (cwV 2 hts gL_law_X3_set rfl rfl rfl (by decide +kernel) ⟨Nat.le_of_ble_eq_true rfl, Nat.le_of_ble_eq_true rfl⟩) hK hP hD hS hA hZ0 [0, 1, 4, 5, 6, 7, 8, 9, 10] [2, 3, 11, 12, 13, 14, 15, 16, 17, 18, 19, 20, 21] [13, 14, 0, 1, 15, 16, 17, 18, 19, 20, 21, 2, 3, 4, 5, 6, 7, 8, 9, 10, 11, 12] rfl (by decide) rfl (by decide) (by decide) rfl (by decide) (kz_recv hK hP (ci := 3) (q0 := 0) rfl rfl) rfl hl.1 rfl (Nat.le_of_ble_eq_true rfl) dL_law_1136 ⟨Nat.le_of_ble_eq_true rfl, Nat.le_of_ble_eq_true rfl⟩ (fun H locs hP hD hS => ?_)
          obtain ⟨eans, eans2, I2⟩ := ps_opSet hI R (k := ks) (y := (yv + 1)) hks (by omega) (ps_v4 ek hyv)
          refine lv_aload hx hb dL_law_1139 (lv_at hl 13 rfl) ?_
          refine lv_iload hx hb dL_law_1141 (lv_at hl 1 rfl) ?_
          refine va_iald (f := zt) hx hb hK.1 hP 113 0 rfl rfl (vp_in_nI (n := ks) (N := 10) (by omega) (by decide)) dL_law_1143 ?_
          refine lv_topi (fun y_11 ey_12 => ?_)
          obtain rfl : y_11 = (zt ks) := by rw [ey_12, kz_nI_clamp (n := ks) (by omega)]
          refine lv_icmp_ne (tgt := 1162) hx hb dL_law_1144 (by decide) (fun c => absurd c (by exact fun z => z (eans))) (fun c_13 => ?_)
          refine lv_aload_n hx hb dL_law_1147 rfl (lv_at hl 3 rfl) ?_
          refine lv_iload hx hb dL_law_1148 (lv_at hl 1 rfl) ?_
          refine kz_rdV (As := [.int (nI ks)]) (rest := []) (b := x) ⟨hx, hb, hml, hown, hts⟩ (c_X3_setting l G x (sv 0) (ah 0) (h 0) (t 0) V a (X3_set_s1 V S Y R (nI ks) (nI (yv + 1))) (nI ks)) (cwV 1 hts gL_law_X3_setting rfl rfl rfl (by decide +kernel) ⟨Nat.le_of_ble_eq_true rfl, Nat.le_of_ble_eq_true rfl⟩) hK (hP.sub (cs := [xoW x (a 0) (sv 0) (ah 0) (h 0) (t 0) V, shW G a (X3_set_s1 V S Y R (nI ks) (nI (yv + 1)))]) [0, 1] rfl) (kz_recv hK hP (ci := 3) (q0 := 0) rfl rfl) rfl hl.1 rfl (Nat.le_of_ble_eq_true rfl) dL_law_1150 ⟨Nat.le_of_ble_eq_true rfl, Nat.le_of_ble_eq_true rfl⟩ ?_
          refine lv_iload hx hb dL_law_1153 (lv_at hl 0 rfl) ?_
          refine lv_icmp_ne (tgt := 1162) hx hb dL_law_1155 (by decide) (fun c => absurd c (by exact fun z => z (eans2))) (fun c_14 => ?_)
          refine lv_iconst (v := 1) hx hb dL_law_1158 (by decide +kernel) ?_
          refine lv_goto (tgt := 1163) hx hb dL_law_1159 (by decide) ?_
          refine lv_istore (lv' := [(17, .int 1), (19, .int (nI (yv + 1))), (18, .int (nI ks)), (0, .ref bb), (1, .ref x), (2, .ref np), (3, .ref nq), (4, .ref nc), (5, .ref nl), (6, .ref nv), (7, .ref ng), (8, .ref nu), (9, .ref nf), (10, .ref nk), (11, .ref nt), (12, .int why), (13, .int beh), (14, .int (nI i)), (15, .int hh)]) hx hb dL_law_1163 hl (by decide) rfl (fun ls hl => ?_)
          refine lv_aload hx hb dL_law_1165 (lv_at hl 14 rfl) ?_
          refine lv_iload hx hb dL_law_1167 (lv_at hl 2 rfl) ?_
          refine lv_iload hx hb dL_law_1169 (lv_at hl 1 rfl) ?_
          refine va_iast hx hb hK.1 hP hD hS 113 0 rfl rfl (vp_in_nI (n := ks) (N := 10) (by omega) (by decide)) dL_law_1171 (fun H locs hP hD hS => ?_)
          rw [kz_nI_clamp (n := ks) (by omega)] at hP hD
          have hP : kz_P G [xoW x (a 0) (sv 0) (ah 0) (h 0) (t 0) V, shW G a (X3_set_s1 V S Y R (nI ks) (nI (yv + 1))), shW G sv kz_S0, shW G ah kz_S0, hsW G h (fun j => b j 0) (X3_set_s2 V S Y R (nI ks) (nI (yv + 1))), shW G (b 0) ((X3_set_s3 V S Y R (nI ks) (nI (yv + 1))) 0), shW G (b 1) ((X3_set_s3 V S Y R (nI ks) (nI (yv + 1))) 1), shW G (b 2) ((X3_set_s3 V S Y R (nI ks) (nI (yv + 1))) 2), shW G (b 3) ((X3_set_s3 V S Y R (nI ks) (nI (yv + 1))) 3), shW G (b 4) ((X3_set_s3 V S Y R (nI ks) (nI (yv + 1))) 4), shW G (b 5) ((X3_set_s3 V S Y R (nI ks) (nI (yv + 1))) 5), txW G t kz_T0, [(np, .inl (G.2.1, 64, .inl zp))], [(nq, .inl (G.2.1, 64, .inl zq))], [(nc, .inl (G.2.1, 64, .inl zc))], [(nl, .inl (G.2.1, 64, .inl zl))], [(nv, .inl (G.2.1, 64, .inl zv))], [(ng, .inl (G.2.1, 10, .inl zg))], [(nu, .inl (G.2.1, 10, .inl zu))], [(nf, .inl (G.2.1, 10, .inl zf))], [(nk, .inl (G.2.1, 10, .inl zk))], [(nt, .inl (G.2.1, 10, .inl (upd zt ks (nI (yv + 1)))))]] H := hP
          have hD : kz_D (kl_A s) [xoW x (a 0) (sv 0) (ah 0) (h 0) (t 0) V, shW G a (X3_set_s1 V S Y R (nI ks) (nI (yv + 1))), shW G sv kz_S0, shW G ah kz_S0, hsW G h (fun j => b j 0) (X3_set_s2 V S Y R (nI ks) (nI (yv + 1))), shW G (b 0) ((X3_set_s3 V S Y R (nI ks) (nI (yv + 1))) 0), shW G (b 1) ((X3_set_s3 V S Y R (nI ks) (nI (yv + 1))) 1), shW G (b 2) ((X3_set_s3 V S Y R (nI ks) (nI (yv + 1))) 2), shW G (b 3) ((X3_set_s3 V S Y R (nI ks) (nI (yv + 1))) 3), shW G (b 4) ((X3_set_s3 V S Y R (nI ks) (nI (yv + 1))) 4), shW G (b 5) ((X3_set_s3 V S Y R (nI ks) (nI (yv + 1))) 5), txW G t kz_T0, [(np, .inl (G.2.1, 64, .inl zp))], [(nq, .inl (G.2.1, 64, .inl zq))], [(nc, .inl (G.2.1, 64, .inl zc))], [(nl, .inl (G.2.1, 64, .inl zl))], [(nv, .inl (G.2.1, 64, .inl zv))], [(ng, .inl (G.2.1, 10, .inl zg))], [(nu, .inl (G.2.1, 10, .inl zu))], [(nf, .inl (G.2.1, 10, .inl zf))], [(nk, .inl (G.2.1, 10, .inl zk))], [(nt, .inl (G.2.1, 10, .inl (upd zt ks (nI (yv + 1)))))]] := hD
          exact KK V (X3_set_s1 V S Y R (nI ks) (nI (yv + 1))) (X3_set_s2 V S Y R (nI ks) (nI (yv + 1))) (X3_set_s3 V S Y R (nI ks) (nI (yv + 1))) zp zq zc zl zv zg zu zf zk (upd zt ks (nI (yv + 1))) why beh I2 H locs ls hP hD hS (lv_sub hl [0, 3, 4, 5, 6, 7, 8, 9, 10, 11, 12, 13, 14, 15, 16, 17] rfl)
        · have ek : ks = 3 := (nI_eq (by omega) (by omega)).mp c_6
          refine lv_bipush (v := 20) hx hb dL_law_1118 (by decide +kernel) ?_
          refine lv_goto (tgt := 1125) hx hb dL_law_1120 (by decide) ?_
          refine kz_rdS (As := [.int (hh >>> 8), .int 20]) (rest := [.int 1]) ⟨hx, hb, hml, hown, hts⟩ (c_L_low l G (hh >>> 8) 20 (by omega) (by omega)) (va_cwS 2 hts gL_law_L_low rfl rfl rfl (by decide +kernel) ⟨Nat.le_of_ble_eq_true rfl, Nat.le_of_ble_eq_true rfl⟩) hK (hP.sub (cs := []) [] rfl) rfl hl.1 rfl (Nat.le_of_ble_eq_true rfl) dL_law_1125 ⟨Nat.le_of_ble_eq_true rfl, Nat.le_of_ble_eq_true rfl⟩ ?_
          obtain ⟨yv, eyv⟩ : ∃ z, z = ps_lo (hh >>> 8) 20 := ⟨_, rfl⟩
          have hyv : yv < 20 := by rw [eyv]; exact ps_lo_lt (by omega)
          refine lv_topi (fun y_15 ey_16 => ?_)
          obtain rfl : y_15 = nI yv := by rw [ey_16, eyv]
          refine lv_iadd hx hb dL_law_1128 ?_
          refine lv_topi (fun y_17 ey_18 => ?_)
          obtain rfl : y_17 = (nI (yv + 1)) := by rw [ey_18]; rw [Int32.add_comm]; exact nI_1 yv
          refine lv_istore (lv' := [(19, .int (nI (yv + 1))), (18, .int (nI ks)), (0, .ref bb), (1, .ref x), (2, .ref np), (3, .ref nq), (4, .ref nc), (5, .ref nl), (6, .ref nv), (7, .ref ng), (8, .ref nu), (9, .ref nf), (10, .ref nk), (11, .ref nt), (12, .int why), (13, .int beh), (14, .int (nI i)), (15, .int hh)]) hx hb dL_law_1129 hl (by decide) rfl (fun ls hl => ?_)
          refine lv_aload_n hx hb dL_law_1131 rfl (lv_at hl 3 rfl) ?_
          refine lv_iload hx hb dL_law_1132 (lv_at hl 1 rfl) ?_
          refine lv_iload hx hb dL_law_1134 (lv_at hl 0 rfl) ?_
          refine kz_mzV (As := [.int (nI ks), .int (nI (yv + 1))]) (rest := []) (b := x) (wr := [shW G sv kz_S0, shW G ah kz_S0, txW G t kz_T0, [(np, .inl (G.2.1, 64, .inl zp))], [(nq, .inl (G.2.1, 64, .inl zq))], [(nc, .inl (G.2.1, 64, .inl zc))], [(nl, .inl (G.2.1, 64, .inl zl))], [(nv, .inl (G.2.1, 64, .inl zv))], [(ng, .inl (G.2.1, 10, .inl zg))], [(nu, .inl (G.2.1, 10, .inl zu))], [(nf, .inl (G.2.1, 10, .inl zf))], [(nk, .inl (G.2.1, 10, .inl zk))], [(nt, .inl (G.2.1, 10, .inl zt))]]) (bs' := [xoW x (a 0) (sv 0) (ah 0) (h 0) (t 0) V, shW G a (X3_set_s1 V S Y R (nI ks) (nI (yv + 1))), shW G sv kz_S0, shW G ah kz_S0, hsW G h (fun j => b j 0) (X3_set_s2 V S Y R (nI ks) (nI (yv + 1))), shW G (b 0) ((X3_set_s3 V S Y R (nI ks) (nI (yv + 1))) 0), shW G (b 1) ((X3_set_s3 V S Y R (nI ks) (nI (yv + 1))) 1), shW G (b 2) ((X3_set_s3 V S Y R (nI ks) (nI (yv + 1))) 2), shW G (b 3) ((X3_set_s3 V S Y R (nI ks) (nI (yv + 1))) 3), shW G (b 4) ((X3_set_s3 V S Y R (nI ks) (nI (yv + 1))) 4), shW G (b 5) ((X3_set_s3 V S Y R (nI ks) (nI (yv + 1))) 5), txW G t kz_T0, [(np, .inl (G.2.1, 64, .inl zp))], [(nq, .inl (G.2.1, 64, .inl zq))], [(nc, .inl (G.2.1, 64, .inl zc))], [(nl, .inl (G.2.1, 64, .inl zl))], [(nv, .inl (G.2.1, 64, .inl zv))], [(ng, .inl (G.2.1, 10, .inl zg))], [(nu, .inl (G.2.1, 10, .inl zu))], [(nf, .inl (G.2.1, 10, .inl zf))], [(nk, .inl (G.2.1, 10, .inl zk))], [(nt, .inl (G.2.1, 10, .inl zt))]]) ⟨hx, hb, hml, hown, hts⟩ (c_X3_set l G x (sv 0) (ah 0) (t 0) V a S h Y b R (nI ks) (nI (yv + 1)) (by assumption) (by assumption)) (cwV 2 hts gL_law_X3_set rfl rfl rfl (by decide +kernel) ⟨Nat.le_of_ble_eq_true rfl, Nat.le_of_ble_eq_true rfl⟩) hK hP hD hS hA hZ0 [0, 1, 4, 5, 6, 7, 8, 9, 10] [2, 3, 11, 12, 13, 14, 15, 16, 17, 18, 19, 20, 21] [13, 14, 0, 1, 15, 16, 17, 18, 19, 20, 21, 2, 3, 4, 5, 6, 7, 8, 9, 10, 11, 12] rfl (by decide) rfl (by decide) (by decide) rfl (by decide) (kz_recv hK hP (ci := 3) (q0 := 0) rfl rfl) rfl hl.1 rfl (Nat.le_of_ble_eq_true rfl) dL_law_1136 ⟨Nat.le_of_ble_eq_true rfl, Nat.le_of_ble_eq_true rfl⟩ (fun H locs hP hD hS => ?_)
          obtain ⟨eans, eans2, I2⟩ := ps_opSet hI R (k := ks) (y := (yv + 1)) hks (by omega) (ps_v3 ek hyv)
          refine lv_aload hx hb dL_law_1139 (lv_at hl 13 rfl) ?_
          refine lv_iload hx hb dL_law_1141 (lv_at hl 1 rfl) ?_
          refine va_iald (f := zt) hx hb hK.1 hP 113 0 rfl rfl (vp_in_nI (n := ks) (N := 10) (by omega) (by decide)) dL_law_1143 ?_
          refine lv_topi (fun y_19 ey_20 => ?_)
          obtain rfl : y_19 = (zt ks) := by rw [ey_20, kz_nI_clamp (n := ks) (by omega)]
          refine lv_icmp_ne (tgt := 1162) hx hb dL_law_1144 (by decide) (fun c => absurd c (by exact fun z => z (eans))) (fun c_21 => ?_)
          refine lv_aload_n hx hb dL_law_1147 rfl (lv_at hl 3 rfl) ?_
          refine lv_iload hx hb dL_law_1148 (lv_at hl 1 rfl) ?_
          refine kz_rdV (As := [.int (nI ks)]) (rest := []) (b := x) ⟨hx, hb, hml, hown, hts⟩ (c_X3_setting l G x (sv 0) (ah 0) (h 0) (t 0) V a (X3_set_s1 V S Y R (nI ks) (nI (yv + 1))) (nI ks)) (cwV 1 hts gL_law_X3_setting rfl rfl rfl (by decide +kernel) ⟨Nat.le_of_ble_eq_true rfl, Nat.le_of_ble_eq_true rfl⟩) hK (hP.sub (cs := [xoW x (a 0) (sv 0) (ah 0) (h 0) (t 0) V, shW G a (X3_set_s1 V S Y R (nI ks) (nI (yv + 1)))]) [0, 1] rfl) (kz_recv hK hP (ci := 3) (q0 := 0) rfl rfl) rfl hl.1 rfl (Nat.le_of_ble_eq_true rfl) dL_law_1150 ⟨Nat.le_of_ble_eq_true rfl, Nat.le_of_ble_eq_true rfl⟩ ?_
          refine lv_iload hx hb dL_law_1153 (lv_at hl 0 rfl) ?_
          refine lv_icmp_ne (tgt := 1162) hx hb dL_law_1155 (by decide) (fun c => absurd c (by exact fun z => z (eans2))) (fun c_22 => ?_)
          refine lv_iconst (v := 1) hx hb dL_law_1158 (by decide +kernel) ?_
          refine lv_goto (tgt := 1163) hx hb dL_law_1159 (by decide) ?_
          refine lv_istore (lv' := [(17, .int 1), (19, .int (nI (yv + 1))), (18, .int (nI ks)), (0, .ref bb), (1, .ref x), (2, .ref np), (3, .ref nq), (4, .ref nc), (5, .ref nl), (6, .ref nv), (7, .ref ng), (8, .ref nu), (9, .ref nf), (10, .ref nk), (11, .ref nt), (12, .int why), (13, .int beh), (14, .int (nI i)), (15, .int hh)]) hx hb dL_law_1163 hl (by decide) rfl (fun ls hl => ?_)
          refine lv_aload hx hb dL_law_1165 (lv_at hl 14 rfl) ?_
          refine lv_iload hx hb dL_law_1167 (lv_at hl 2 rfl) ?_
          refine lv_iload hx hb dL_law_1169 (lv_at hl 1 rfl) ?_
          refine va_iast hx hb hK.1 hP hD hS 113 0 rfl rfl (vp_in_nI (n := ks) (N := 10) (by omega) (by decide)) dL_law_1171 (fun H locs hP hD hS => ?_)
          rw [kz_nI_clamp (n := ks) (by omega)] at hP hD
          have hP : kz_P G [xoW x (a 0) (sv 0) (ah 0) (h 0) (t 0) V, shW G a (X3_set_s1 V S Y R (nI ks) (nI (yv + 1))), shW G sv kz_S0, shW G ah kz_S0, hsW G h (fun j => b j 0) (X3_set_s2 V S Y R (nI ks) (nI (yv + 1))), shW G (b 0) ((X3_set_s3 V S Y R (nI ks) (nI (yv + 1))) 0), shW G (b 1) ((X3_set_s3 V S Y R (nI ks) (nI (yv + 1))) 1), shW G (b 2) ((X3_set_s3 V S Y R (nI ks) (nI (yv + 1))) 2), shW G (b 3) ((X3_set_s3 V S Y R (nI ks) (nI (yv + 1))) 3), shW G (b 4) ((X3_set_s3 V S Y R (nI ks) (nI (yv + 1))) 4), shW G (b 5) ((X3_set_s3 V S Y R (nI ks) (nI (yv + 1))) 5), txW G t kz_T0, [(np, .inl (G.2.1, 64, .inl zp))], [(nq, .inl (G.2.1, 64, .inl zq))], [(nc, .inl (G.2.1, 64, .inl zc))], [(nl, .inl (G.2.1, 64, .inl zl))], [(nv, .inl (G.2.1, 64, .inl zv))], [(ng, .inl (G.2.1, 10, .inl zg))], [(nu, .inl (G.2.1, 10, .inl zu))], [(nf, .inl (G.2.1, 10, .inl zf))], [(nk, .inl (G.2.1, 10, .inl zk))], [(nt, .inl (G.2.1, 10, .inl (upd zt ks (nI (yv + 1)))))]] H := hP
          have hD : kz_D (kl_A s) [xoW x (a 0) (sv 0) (ah 0) (h 0) (t 0) V, shW G a (X3_set_s1 V S Y R (nI ks) (nI (yv + 1))), shW G sv kz_S0, shW G ah kz_S0, hsW G h (fun j => b j 0) (X3_set_s2 V S Y R (nI ks) (nI (yv + 1))), shW G (b 0) ((X3_set_s3 V S Y R (nI ks) (nI (yv + 1))) 0), shW G (b 1) ((X3_set_s3 V S Y R (nI ks) (nI (yv + 1))) 1), shW G (b 2) ((X3_set_s3 V S Y R (nI ks) (nI (yv + 1))) 2), shW G (b 3) ((X3_set_s3 V S Y R (nI ks) (nI (yv + 1))) 3), shW G (b 4) ((X3_set_s3 V S Y R (nI ks) (nI (yv + 1))) 4), shW G (b 5) ((X3_set_s3 V S Y R (nI ks) (nI (yv + 1))) 5), txW G t kz_T0, [(np, .inl (G.2.1, 64, .inl zp))], [(nq, .inl (G.2.1, 64, .inl zq))], [(nc, .inl (G.2.1, 64, .inl zc))], [(nl, .inl (G.2.1, 64, .inl zl))], [(nv, .inl (G.2.1, 64, .inl zv))], [(ng, .inl (G.2.1, 10, .inl zg))], [(nu, .inl (G.2.1, 10, .inl zu))], [(nf, .inl (G.2.1, 10, .inl zf))], [(nk, .inl (G.2.1, 10, .inl zk))], [(nt, .inl (G.2.1, 10, .inl (upd zt ks (nI (yv + 1)))))]] := hD
          exact KK V (X3_set_s1 V S Y R (nI ks) (nI (yv + 1))) (X3_set_s2 V S Y R (nI ks) (nI (yv + 1))) (X3_set_s3 V S Y R (nI ks) (nI (yv + 1))) zp zq zc zl zv zg zu zf zk (upd zt ks (nI (yv + 1))) why beh I2 H locs ls hP hD hS (lv_sub hl [0, 3, 4, 5, 6, 7, 8, 9, 10, 11, 12, 13, 14, 15, 16, 17] rfl)
      · have ek : ks = 2 := (nI_eq (by omega) (by omega)).mp c_5
        refine lv_iload hx hb dL_law_1093 (lv_at hl 16 rfl) ?_
        refine lv_bipush (v := 8) hx hb dL_law_1095 (by decide +kernel) ?_
        refine lv_ishr hx hb dL_law_1097 ?_
        refine lv_bipush (v := 51) hx hb dL_law_1098 (by decide +kernel) ?_
        refine kz_rdS (As := [.int (hh >>> 8), .int 51]) (rest := []) ⟨hx, hb, hml, hown, hts⟩ (c_L_low l G (hh >>> 8) 51 (by omega) (by omega)) (va_cwS 2 hts gL_law_L_low rfl rfl rfl (by decide +kernel) ⟨Nat.le_of_ble_eq_true rfl, Nat.le_of_ble_eq_true rfl⟩) hK (hP.sub (cs := []) [] rfl) rfl hl.1 rfl (Nat.le_of_ble_eq_true rfl) dL_law_1100 ⟨Nat.le_of_ble_eq_true rfl, Nat.le_of_ble_eq_true rfl⟩ ?_
        obtain ⟨yv, eyv⟩ : ∃ z, z = ps_lo (hh >>> 8) 51 := ⟨_, rfl⟩
        have hyv : yv < 51 := by rw [eyv]; exact ps_lo_lt (by omega)
        refine lv_topi (fun y_23 ey_24 => ?_)
        obtain rfl : y_23 = nI yv := by rw [ey_24, eyv]
        refine lv_goto (tgt := 1129) hx hb dL_law_1103 (by decide) ?_
        refine lv_istore (lv' := [(19, .int (nI yv)), (18, .int (nI ks)), (0, .ref bb), (1, .ref x), (2, .ref np), (3, .ref nq), (4, .ref nc), (5, .ref nl), (6, .ref nv), (7, .ref ng), (8, .ref nu), (9, .ref nf), (10, .ref nk), (11, .ref nt), (12, .int why), (13, .int beh), (14, .int (nI i)), (15, .int hh)]) hx hb dL_law_1129 hl (by decide) rfl (fun ls hl => ?_)
        refine lv_aload_n hx hb dL_law_1131 rfl (lv_at hl 3 rfl) ?_
        refine lv_iload hx hb dL_law_1132 (lv_at hl 1 rfl) ?_
        refine lv_iload hx hb dL_law_1134 (lv_at hl 0 rfl) ?_
        refine kz_mzV (As := [.int (nI ks), .int (nI yv)]) (rest := []) (b := x) (wr := [shW G sv kz_S0, shW G ah kz_S0, txW G t kz_T0, [(np, .inl (G.2.1, 64, .inl zp))], [(nq, .inl (G.2.1, 64, .inl zq))], [(nc, .inl (G.2.1, 64, .inl zc))], [(nl, .inl (G.2.1, 64, .inl zl))], [(nv, .inl (G.2.1, 64, .inl zv))], [(ng, .inl (G.2.1, 10, .inl zg))], [(nu, .inl (G.2.1, 10, .inl zu))], [(nf, .inl (G.2.1, 10, .inl zf))], [(nk, .inl (G.2.1, 10, .inl zk))], [(nt, .inl (G.2.1, 10, .inl zt))]]) (bs' := [xoW x (a 0) (sv 0) (ah 0) (h 0) (t 0) V, shW G a (X3_set_s1 V S Y R (nI ks) (nI yv)), shW G sv kz_S0, shW G ah kz_S0, hsW G h (fun j => b j 0) (X3_set_s2 V S Y R (nI ks) (nI yv)), shW G (b 0) ((X3_set_s3 V S Y R (nI ks) (nI yv)) 0), shW G (b 1) ((X3_set_s3 V S Y R (nI ks) (nI yv)) 1), shW G (b 2) ((X3_set_s3 V S Y R (nI ks) (nI yv)) 2), shW G (b 3) ((X3_set_s3 V S Y R (nI ks) (nI yv)) 3), shW G (b 4) ((X3_set_s3 V S Y R (nI ks) (nI yv)) 4), shW G (b 5) ((X3_set_s3 V S Y R (nI ks) (nI yv)) 5), txW G t kz_T0, [(np, .inl (G.2.1, 64, .inl zp))], [(nq, .inl (G.2.1, 64, .inl zq))], [(nc, .inl (G.2.1, 64, .inl zc))], [(nl, .inl (G.2.1, 64, .inl zl))], [(nv, .inl (G.2.1, 64, .inl zv))], [(ng, .inl (G.2.1, 10, .inl zg))], [(nu, .inl (G.2.1, 10, .inl zu))], [(nf, .inl (G.2.1, 10, .inl zf))], [(nk, .inl (G.2.1, 10, .inl zk))], [(nt, .inl (G.2.1, 10, .inl zt))]]) ⟨hx, hb, hml, hown, hts⟩ (c_X3_set l G x (sv 0) (ah 0) (t 0) V a S h Y b R (nI ks) (nI yv) (by assumption) (by assumption)) (cwV 2 hts gL_law_X3_set rfl rfl rfl (by decide +kernel) ⟨Nat.le_of_ble_eq_true rfl, Nat.le_of_ble_eq_true rfl⟩) hK hP hD hS hA hZ0 [0, 1, 4, 5, 6, 7, 8, 9, 10] [2, 3, 11, 12, 13, 14, 15, 16, 17, 18, 19, 20, 21] [13, 14, 0, 1, 15, 16, 17, 18, 19, 20, 21, 2, 3, 4, 5, 6, 7, 8, 9, 10, 11, 12] rfl (by decide) rfl (by decide) (by decide) rfl (by decide) (kz_recv hK hP (ci := 3) (q0 := 0) rfl rfl) rfl hl.1 rfl (Nat.le_of_ble_eq_true rfl) dL_law_1136 ⟨Nat.le_of_ble_eq_true rfl, Nat.le_of_ble_eq_true rfl⟩ (fun H locs hP hD hS => ?_)
        obtain ⟨eans, eans2, I2⟩ := ps_opSet hI R (k := ks) (y := yv) hks (by omega) (ps_v2 ek hyv)
        refine lv_aload hx hb dL_law_1139 (lv_at hl 13 rfl) ?_
        refine lv_iload hx hb dL_law_1141 (lv_at hl 1 rfl) ?_
        refine va_iald (f := zt) hx hb hK.1 hP 113 0 rfl rfl (vp_in_nI (n := ks) (N := 10) (by omega) (by decide)) dL_law_1143 ?_
        refine lv_topi (fun y_25 ey_26 => ?_)
        obtain rfl : y_25 = (zt ks) := by rw [ey_26, kz_nI_clamp (n := ks) (by omega)]
        refine lv_icmp_ne (tgt := 1162) hx hb dL_law_1144 (by decide) (fun c => absurd c (by exact fun z => z (eans))) (fun c_27 => ?_)
        refine lv_aload_n hx hb dL_law_1147 rfl (lv_at hl 3 rfl) ?_
        refine lv_iload hx hb dL_law_1148 (lv_at hl 1 rfl) ?_
        refine kz_rdV (As := [.int (nI ks)]) (rest := []) (b := x) ⟨hx, hb, hml, hown, hts⟩ (c_X3_setting l G x (sv 0) (ah 0) (h 0) (t 0) V a (X3_set_s1 V S Y R (nI ks) (nI yv)) (nI ks)) (cwV 1 hts gL_law_X3_setting rfl rfl rfl (by decide +kernel) ⟨Nat.le_of_ble_eq_true rfl, Nat.le_of_ble_eq_true rfl⟩) hK (hP.sub (cs := [xoW x (a 0) (sv 0) (ah 0) (h 0) (t 0) V, shW G a (X3_set_s1 V S Y R (nI ks) (nI yv))]) [0, 1] rfl) (kz_recv hK hP (ci := 3) (q0 := 0) rfl rfl) rfl hl.1 rfl (Nat.le_of_ble_eq_true rfl) dL_law_1150 ⟨Nat.le_of_ble_eq_true rfl, Nat.le_of_ble_eq_true rfl⟩ ?_
        refine lv_iload hx hb dL_law_1153 (lv_at hl 0 rfl) ?_
        refine lv_icmp_ne (tgt := 1162) hx hb dL_law_1155 (by decide) (fun c => absurd c (by exact fun z => z (eans2))) (fun c_28 => ?_)
        refine lv_iconst (v := 1) hx hb dL_law_1158 (by decide +kernel) ?_
        refine lv_goto (tgt := 1163) hx hb dL_law_1159 (by decide) ?_
        refine lv_istore (lv' := [(17, .int 1), (19, .int (nI yv)), (18, .int (nI ks)), (0, .ref bb), (1, .ref x), (2, .ref np), (3, .ref nq), (4, .ref nc), (5, .ref nl), (6, .ref nv), (7, .ref ng), (8, .ref nu), (9, .ref nf), (10, .ref nk), (11, .ref nt), (12, .int why), (13, .int beh), (14, .int (nI i)), (15, .int hh)]) hx hb dL_law_1163 hl (by decide) rfl (fun ls hl => ?_)
        refine lv_aload hx hb dL_law_1165 (lv_at hl 14 rfl) ?_
        refine lv_iload hx hb dL_law_1167 (lv_at hl 2 rfl) ?_
        refine lv_iload hx hb dL_law_1169 (lv_at hl 1 rfl) ?_
        refine va_iast hx hb hK.1 hP hD hS 113 0 rfl rfl (vp_in_nI (n := ks) (N := 10) (by omega) (by decide)) dL_law_1171 (fun H locs hP hD hS => ?_)
        rw [kz_nI_clamp (n := ks) (by omega)] at hP hD
        have hP : kz_P G [xoW x (a 0) (sv 0) (ah 0) (h 0) (t 0) V, shW G a (X3_set_s1 V S Y R (nI ks) (nI yv)), shW G sv kz_S0, shW G ah kz_S0, hsW G h (fun j => b j 0) (X3_set_s2 V S Y R (nI ks) (nI yv)), shW G (b 0) ((X3_set_s3 V S Y R (nI ks) (nI yv)) 0), shW G (b 1) ((X3_set_s3 V S Y R (nI ks) (nI yv)) 1), shW G (b 2) ((X3_set_s3 V S Y R (nI ks) (nI yv)) 2), shW G (b 3) ((X3_set_s3 V S Y R (nI ks) (nI yv)) 3), shW G (b 4) ((X3_set_s3 V S Y R (nI ks) (nI yv)) 4), shW G (b 5) ((X3_set_s3 V S Y R (nI ks) (nI yv)) 5), txW G t kz_T0, [(np, .inl (G.2.1, 64, .inl zp))], [(nq, .inl (G.2.1, 64, .inl zq))], [(nc, .inl (G.2.1, 64, .inl zc))], [(nl, .inl (G.2.1, 64, .inl zl))], [(nv, .inl (G.2.1, 64, .inl zv))], [(ng, .inl (G.2.1, 10, .inl zg))], [(nu, .inl (G.2.1, 10, .inl zu))], [(nf, .inl (G.2.1, 10, .inl zf))], [(nk, .inl (G.2.1, 10, .inl zk))], [(nt, .inl (G.2.1, 10, .inl (upd zt ks (nI yv))))]] H := hP
        have hD : kz_D (kl_A s) [xoW x (a 0) (sv 0) (ah 0) (h 0) (t 0) V, shW G a (X3_set_s1 V S Y R (nI ks) (nI yv)), shW G sv kz_S0, shW G ah kz_S0, hsW G h (fun j => b j 0) (X3_set_s2 V S Y R (nI ks) (nI yv)), shW G (b 0) ((X3_set_s3 V S Y R (nI ks) (nI yv)) 0), shW G (b 1) ((X3_set_s3 V S Y R (nI ks) (nI yv)) 1), shW G (b 2) ((X3_set_s3 V S Y R (nI ks) (nI yv)) 2), shW G (b 3) ((X3_set_s3 V S Y R (nI ks) (nI yv)) 3), shW G (b 4) ((X3_set_s3 V S Y R (nI ks) (nI yv)) 4), shW G (b 5) ((X3_set_s3 V S Y R (nI ks) (nI yv)) 5), txW G t kz_T0, [(np, .inl (G.2.1, 64, .inl zp))], [(nq, .inl (G.2.1, 64, .inl zq))], [(nc, .inl (G.2.1, 64, .inl zc))], [(nl, .inl (G.2.1, 64, .inl zl))], [(nv, .inl (G.2.1, 64, .inl zv))], [(ng, .inl (G.2.1, 10, .inl zg))], [(nu, .inl (G.2.1, 10, .inl zu))], [(nf, .inl (G.2.1, 10, .inl zf))], [(nk, .inl (G.2.1, 10, .inl zk))], [(nt, .inl (G.2.1, 10, .inl (upd zt ks (nI yv))))]] := hD
        exact KK V (X3_set_s1 V S Y R (nI ks) (nI yv)) (X3_set_s2 V S Y R (nI ks) (nI yv)) (X3_set_s3 V S Y R (nI ks) (nI yv)) zp zq zc zl zv zg zu zf zk (upd zt ks (nI yv)) why beh I2 H locs ls hP hD hS (lv_sub hl [0, 3, 4, 5, 6, 7, 8, 9, 10, 11, 12, 13, 14, 15, 16, 17] rfl)
    · have ek : ks = 1 := (nI_eq (by omega) (by omega)).mp c_4
      refine lv_iload hx hb dL_law_1074 (lv_at hl 16 rfl) ?_
      refine lv_bipush (v := 8) hx hb dL_law_1076 (by decide +kernel) ?_
      refine lv_ishr hx hb dL_law_1078 ?_
      refine lv_bipush (v := 10) hx hb dL_law_1079 (by decide +kernel) ?_
      refine kz_rdS (As := [.int (hh >>> 8), .int 10]) (rest := []) ⟨hx, hb, hml, hown, hts⟩ (c_L_low l G (hh >>> 8) 10 (by omega) (by omega)) (va_cwS 2 hts gL_law_L_low rfl rfl rfl (by decide +kernel) ⟨Nat.le_of_ble_eq_true rfl, Nat.le_of_ble_eq_true rfl⟩) hK (hP.sub (cs := []) [] rfl) rfl hl.1 rfl (Nat.le_of_ble_eq_true rfl) dL_law_1081 ⟨Nat.le_of_ble_eq_true rfl, Nat.le_of_ble_eq_true rfl⟩ ?_
      obtain ⟨yv, eyv⟩ : ∃ z, z = ps_lo (hh >>> 8) 10 := ⟨_, rfl⟩
      have hyv : yv < 10 := by rw [eyv]; exact ps_lo_lt (by omega)
      refine lv_topi (fun y_29 ey_30 => ?_)
      obtain rfl : y_29 = nI yv := by rw [ey_30, eyv]
      refine lv_goto (tgt := 1129) hx hb dL_law_1084 (by decide) ?_
      refine lv_istore (lv' := [(19, .int (nI yv)), (18, .int (nI ks)), (0, .ref bb), (1, .ref x), (2, .ref np), (3, .ref nq), (4, .ref nc), (5, .ref nl), (6, .ref nv), (7, .ref ng), (8, .ref nu), (9, .ref nf), (10, .ref nk), (11, .ref nt), (12, .int why), (13, .int beh), (14, .int (nI i)), (15, .int hh)]) hx hb dL_law_1129 hl (by decide) rfl (fun ls hl => ?_)
      refine lv_aload_n hx hb dL_law_1131 rfl (lv_at hl 3 rfl) ?_
      refine lv_iload hx hb dL_law_1132 (lv_at hl 1 rfl) ?_
      refine lv_iload hx hb dL_law_1134 (lv_at hl 0 rfl) ?_
      refine kz_mzV (As := [.int (nI ks), .int (nI yv)]) (rest := []) (b := x) (wr := [shW G sv kz_S0, shW G ah kz_S0, txW G t kz_T0, [(np, .inl (G.2.1, 64, .inl zp))], [(nq, .inl (G.2.1, 64, .inl zq))], [(nc, .inl (G.2.1, 64, .inl zc))], [(nl, .inl (G.2.1, 64, .inl zl))], [(nv, .inl (G.2.1, 64, .inl zv))], [(ng, .inl (G.2.1, 10, .inl zg))], [(nu, .inl (G.2.1, 10, .inl zu))], [(nf, .inl (G.2.1, 10, .inl zf))], [(nk, .inl (G.2.1, 10, .inl zk))], [(nt, .inl (G.2.1, 10, .inl zt))]]) (bs' := [xoW x (a 0) (sv 0) (ah 0) (h 0) (t 0) V, shW G a (X3_set_s1 V S Y R (nI ks) (nI yv)), shW G sv kz_S0, shW G ah kz_S0, hsW G h (fun j => b j 0) (X3_set_s2 V S Y R (nI ks) (nI yv)), shW G (b 0) ((X3_set_s3 V S Y R (nI ks) (nI yv)) 0), shW G (b 1) ((X3_set_s3 V S Y R (nI ks) (nI yv)) 1), shW G (b 2) ((X3_set_s3 V S Y R (nI ks) (nI yv)) 2), shW G (b 3) ((X3_set_s3 V S Y R (nI ks) (nI yv)) 3), shW G (b 4) ((X3_set_s3 V S Y R (nI ks) (nI yv)) 4), shW G (b 5) ((X3_set_s3 V S Y R (nI ks) (nI yv)) 5), txW G t kz_T0, [(np, .inl (G.2.1, 64, .inl zp))], [(nq, .inl (G.2.1, 64, .inl zq))], [(nc, .inl (G.2.1, 64, .inl zc))], [(nl, .inl (G.2.1, 64, .inl zl))], [(nv, .inl (G.2.1, 64, .inl zv))], [(ng, .inl (G.2.1, 10, .inl zg))], [(nu, .inl (G.2.1, 10, .inl zu))], [(nf, .inl (G.2.1, 10, .inl zf))], [(nk, .inl (G.2.1, 10, .inl zk))], [(nt, .inl (G.2.1, 10, .inl zt))]]) ⟨hx, hb, hml, hown, hts⟩ (c_X3_set l G x (sv 0) (ah 0) (t 0) V a S h Y b R (nI ks) (nI yv) (by assumption) (by assumption)) (cwV 2 hts gL_law_X3_set rfl rfl rfl (by decide +kernel) ⟨Nat.le_of_ble_eq_true rfl, Nat.le_of_ble_eq_true rfl⟩) hK hP hD hS hA hZ0 [0, 1, 4, 5, 6, 7, 8, 9, 10] [2, 3, 11, 12, 13, 14, 15, 16, 17, 18, 19, 20, 21] [13, 14, 0, 1, 15, 16, 17, 18, 19, 20, 21, 2, 3, 4, 5, 6, 7, 8, 9, 10, 11, 12] rfl (by decide) rfl (by decide) (by decide) rfl (by decide) (kz_recv hK hP (ci := 3) (q0 := 0) rfl rfl) rfl hl.1 rfl (Nat.le_of_ble_eq_true rfl) dL_law_1136 ⟨Nat.le_of_ble_eq_true rfl, Nat.le_of_ble_eq_true rfl⟩ (fun H locs hP hD hS => ?_)
      obtain ⟨eans, eans2, I2⟩ := ps_opSet hI R (k := ks) (y := yv) hks (by omega) (ps_v1 ek hyv)
      refine lv_aload hx hb dL_law_1139 (lv_at hl 13 rfl) ?_
      refine lv_iload hx hb dL_law_1141 (lv_at hl 1 rfl) ?_
      refine va_iald (f := zt) hx hb hK.1 hP 113 0 rfl rfl (vp_in_nI (n := ks) (N := 10) (by omega) (by decide)) dL_law_1143 ?_
      refine lv_topi (fun y_31 ey_32 => ?_)
      obtain rfl : y_31 = (zt ks) := by rw [ey_32, kz_nI_clamp (n := ks) (by omega)]
      refine lv_icmp_ne (tgt := 1162) hx hb dL_law_1144 (by decide) (fun c => absurd c (by exact fun z => z (eans))) (fun c_33 => ?_)
      refine lv_aload_n hx hb dL_law_1147 rfl (lv_at hl 3 rfl) ?_
      refine lv_iload hx hb dL_law_1148 (lv_at hl 1 rfl) ?_
      refine kz_rdV (As := [.int (nI ks)]) (rest := []) (b := x) ⟨hx, hb, hml, hown, hts⟩ (c_X3_setting l G x (sv 0) (ah 0) (h 0) (t 0) V a (X3_set_s1 V S Y R (nI ks) (nI yv)) (nI ks)) (cwV 1 hts gL_law_X3_setting rfl rfl rfl (by decide +kernel) ⟨Nat.le_of_ble_eq_true rfl, Nat.le_of_ble_eq_true rfl⟩) hK (hP.sub (cs := [xoW x (a 0) (sv 0) (ah 0) (h 0) (t 0) V, shW G a (X3_set_s1 V S Y R (nI ks) (nI yv))]) [0, 1] rfl) (kz_recv hK hP (ci := 3) (q0 := 0) rfl rfl) rfl hl.1 rfl (Nat.le_of_ble_eq_true rfl) dL_law_1150 ⟨Nat.le_of_ble_eq_true rfl, Nat.le_of_ble_eq_true rfl⟩ ?_
      refine lv_iload hx hb dL_law_1153 (lv_at hl 0 rfl) ?_
      refine lv_icmp_ne (tgt := 1162) hx hb dL_law_1155 (by decide) (fun c => absurd c (by exact fun z => z (eans2))) (fun c_34 => ?_)
      refine lv_iconst (v := 1) hx hb dL_law_1158 (by decide +kernel) ?_
      refine lv_goto (tgt := 1163) hx hb dL_law_1159 (by decide) ?_
      refine lv_istore (lv' := [(17, .int 1), (19, .int (nI yv)), (18, .int (nI ks)), (0, .ref bb), (1, .ref x), (2, .ref np), (3, .ref nq), (4, .ref nc), (5, .ref nl), (6, .ref nv), (7, .ref ng), (8, .ref nu), (9, .ref nf), (10, .ref nk), (11, .ref nt), (12, .int why), (13, .int beh), (14, .int (nI i)), (15, .int hh)]) hx hb dL_law_1163 hl (by decide) rfl (fun ls hl => ?_)
      refine lv_aload hx hb dL_law_1165 (lv_at hl 14 rfl) ?_
      refine lv_iload hx hb dL_law_1167 (lv_at hl 2 rfl) ?_
      refine lv_iload hx hb dL_law_1169 (lv_at hl 1 rfl) ?_
      refine va_iast hx hb hK.1 hP hD hS 113 0 rfl rfl (vp_in_nI (n := ks) (N := 10) (by omega) (by decide)) dL_law_1171 (fun H locs hP hD hS => ?_)
      rw [kz_nI_clamp (n := ks) (by omega)] at hP hD
      have hP : kz_P G [xoW x (a 0) (sv 0) (ah 0) (h 0) (t 0) V, shW G a (X3_set_s1 V S Y R (nI ks) (nI yv)), shW G sv kz_S0, shW G ah kz_S0, hsW G h (fun j => b j 0) (X3_set_s2 V S Y R (nI ks) (nI yv)), shW G (b 0) ((X3_set_s3 V S Y R (nI ks) (nI yv)) 0), shW G (b 1) ((X3_set_s3 V S Y R (nI ks) (nI yv)) 1), shW G (b 2) ((X3_set_s3 V S Y R (nI ks) (nI yv)) 2), shW G (b 3) ((X3_set_s3 V S Y R (nI ks) (nI yv)) 3), shW G (b 4) ((X3_set_s3 V S Y R (nI ks) (nI yv)) 4), shW G (b 5) ((X3_set_s3 V S Y R (nI ks) (nI yv)) 5), txW G t kz_T0, [(np, .inl (G.2.1, 64, .inl zp))], [(nq, .inl (G.2.1, 64, .inl zq))], [(nc, .inl (G.2.1, 64, .inl zc))], [(nl, .inl (G.2.1, 64, .inl zl))], [(nv, .inl (G.2.1, 64, .inl zv))], [(ng, .inl (G.2.1, 10, .inl zg))], [(nu, .inl (G.2.1, 10, .inl zu))], [(nf, .inl (G.2.1, 10, .inl zf))], [(nk, .inl (G.2.1, 10, .inl zk))], [(nt, .inl (G.2.1, 10, .inl (upd zt ks (nI yv))))]] H := hP
      have hD : kz_D (kl_A s) [xoW x (a 0) (sv 0) (ah 0) (h 0) (t 0) V, shW G a (X3_set_s1 V S Y R (nI ks) (nI yv)), shW G sv kz_S0, shW G ah kz_S0, hsW G h (fun j => b j 0) (X3_set_s2 V S Y R (nI ks) (nI yv)), shW G (b 0) ((X3_set_s3 V S Y R (nI ks) (nI yv)) 0), shW G (b 1) ((X3_set_s3 V S Y R (nI ks) (nI yv)) 1), shW G (b 2) ((X3_set_s3 V S Y R (nI ks) (nI yv)) 2), shW G (b 3) ((X3_set_s3 V S Y R (nI ks) (nI yv)) 3), shW G (b 4) ((X3_set_s3 V S Y R (nI ks) (nI yv)) 4), shW G (b 5) ((X3_set_s3 V S Y R (nI ks) (nI yv)) 5), txW G t kz_T0, [(np, .inl (G.2.1, 64, .inl zp))], [(nq, .inl (G.2.1, 64, .inl zq))], [(nc, .inl (G.2.1, 64, .inl zc))], [(nl, .inl (G.2.1, 64, .inl zl))], [(nv, .inl (G.2.1, 64, .inl zv))], [(ng, .inl (G.2.1, 10, .inl zg))], [(nu, .inl (G.2.1, 10, .inl zu))], [(nf, .inl (G.2.1, 10, .inl zf))], [(nk, .inl (G.2.1, 10, .inl zk))], [(nt, .inl (G.2.1, 10, .inl (upd zt ks (nI yv))))]] := hD
      exact KK V (X3_set_s1 V S Y R (nI ks) (nI yv)) (X3_set_s2 V S Y R (nI ks) (nI yv)) (X3_set_s3 V S Y R (nI ks) (nI yv)) zp zq zc zl zv zg zu zf zk (upd zt ks (nI yv)) why beh I2 H locs ls hP hD hS (lv_sub hl [0, 3, 4, 5, 6, 7, 8, 9, 10, 11, 12, 13, 14, 15, 16, 17] rfl)
  · have ek := ps_z (by omega) c_3
    refine lv_iload hx hb dL_law_1055 (lv_at hl 16 rfl) ?_
    refine lv_bipush (v := 8) hx hb dL_law_1057 (by decide +kernel) ?_
    refine lv_ishr hx hb dL_law_1059 ?_
    refine lv_bipush (v := 21) hx hb dL_law_1060 (by decide +kernel) ?_
    refine kz_rdS (As := [.int (hh >>> 8), .int 21]) (rest := []) ⟨hx, hb, hml, hown, hts⟩ (c_L_low l G (hh >>> 8) 21 (by omega) (by omega)) (va_cwS 2 hts gL_law_L_low rfl rfl rfl (by decide +kernel) ⟨Nat.le_of_ble_eq_true rfl, Nat.le_of_ble_eq_true rfl⟩) hK (hP.sub (cs := []) [] rfl) rfl hl.1 rfl (Nat.le_of_ble_eq_true rfl) dL_law_1062 ⟨Nat.le_of_ble_eq_true rfl, Nat.le_of_ble_eq_true rfl⟩ ?_
    obtain ⟨yv, eyv⟩ : ∃ z, z = ps_lo (hh >>> 8) 21 := ⟨_, rfl⟩
    have hyv : yv < 21 := by rw [eyv]; exact ps_lo_lt (by omega)
    refine lv_topi (fun y_35 ey_36 => ?_)
    obtain rfl : y_35 = nI yv := by rw [ey_36, eyv]
    refine lv_goto (tgt := 1129) hx hb dL_law_1065 (by decide) ?_
    refine lv_istore (lv' := [(19, .int (nI yv)), (18, .int (nI ks)), (0, .ref bb), (1, .ref x), (2, .ref np), (3, .ref nq), (4, .ref nc), (5, .ref nl), (6, .ref nv), (7, .ref ng), (8, .ref nu), (9, .ref nf), (10, .ref nk), (11, .ref nt), (12, .int why), (13, .int beh), (14, .int (nI i)), (15, .int hh)]) hx hb dL_law_1129 hl (by decide) rfl (fun ls hl => ?_)
    refine lv_aload_n hx hb dL_law_1131 rfl (lv_at hl 3 rfl) ?_
    refine lv_iload hx hb dL_law_1132 (lv_at hl 1 rfl) ?_
    refine lv_iload hx hb dL_law_1134 (lv_at hl 0 rfl) ?_
    refine kz_mzV (As := [.int (nI ks), .int (nI yv)]) (rest := []) (b := x) (wr := [shW G sv kz_S0, shW G ah kz_S0, txW G t kz_T0, [(np, .inl (G.2.1, 64, .inl zp))], [(nq, .inl (G.2.1, 64, .inl zq))], [(nc, .inl (G.2.1, 64, .inl zc))], [(nl, .inl (G.2.1, 64, .inl zl))], [(nv, .inl (G.2.1, 64, .inl zv))], [(ng, .inl (G.2.1, 10, .inl zg))], [(nu, .inl (G.2.1, 10, .inl zu))], [(nf, .inl (G.2.1, 10, .inl zf))], [(nk, .inl (G.2.1, 10, .inl zk))], [(nt, .inl (G.2.1, 10, .inl zt))]]) (bs' := [xoW x (a 0) (sv 0) (ah 0) (h 0) (t 0) V, shW G a (X3_set_s1 V S Y R (nI ks) (nI yv)), shW G sv kz_S0, shW G ah kz_S0, hsW G h (fun j => b j 0) (X3_set_s2 V S Y R (nI ks) (nI yv)), shW G (b 0) ((X3_set_s3 V S Y R (nI ks) (nI yv)) 0), shW G (b 1) ((X3_set_s3 V S Y R (nI ks) (nI yv)) 1), shW G (b 2) ((X3_set_s3 V S Y R (nI ks) (nI yv)) 2), shW G (b 3) ((X3_set_s3 V S Y R (nI ks) (nI yv)) 3), shW G (b 4) ((X3_set_s3 V S Y R (nI ks) (nI yv)) 4), shW G (b 5) ((X3_set_s3 V S Y R (nI ks) (nI yv)) 5), txW G t kz_T0, [(np, .inl (G.2.1, 64, .inl zp))], [(nq, .inl (G.2.1, 64, .inl zq))], [(nc, .inl (G.2.1, 64, .inl zc))], [(nl, .inl (G.2.1, 64, .inl zl))], [(nv, .inl (G.2.1, 64, .inl zv))], [(ng, .inl (G.2.1, 10, .inl zg))], [(nu, .inl (G.2.1, 10, .inl zu))], [(nf, .inl (G.2.1, 10, .inl zf))], [(nk, .inl (G.2.1, 10, .inl zk))], [(nt, .inl (G.2.1, 10, .inl zt))]]) ⟨hx, hb, hml, hown, hts⟩ (c_X3_set l G x (sv 0) (ah 0) (t 0) V a S h Y b R (nI ks) (nI yv) (by assumption) (by assumption)) (cwV 2 hts gL_law_X3_set rfl rfl rfl (by decide +kernel) ⟨Nat.le_of_ble_eq_true rfl, Nat.le_of_ble_eq_true rfl⟩) hK hP hD hS hA hZ0 [0, 1, 4, 5, 6, 7, 8, 9, 10] [2, 3, 11, 12, 13, 14, 15, 16, 17, 18, 19, 20, 21] [13, 14, 0, 1, 15, 16, 17, 18, 19, 20, 21, 2, 3, 4, 5, 6, 7, 8, 9, 10, 11, 12] rfl (by decide) rfl (by decide) (by decide) rfl (by decide) (kz_recv hK hP (ci := 3) (q0 := 0) rfl rfl) rfl hl.1 rfl (Nat.le_of_ble_eq_true rfl) dL_law_1136 ⟨Nat.le_of_ble_eq_true rfl, Nat.le_of_ble_eq_true rfl⟩ (fun H locs hP hD hS => ?_)
    obtain ⟨eans, eans2, I2⟩ := ps_opSet hI R (k := ks) (y := yv) hks (by omega) (ps_v0 ek hyv)
    refine lv_aload hx hb dL_law_1139 (lv_at hl 13 rfl) ?_
    refine lv_iload hx hb dL_law_1141 (lv_at hl 1 rfl) ?_
    refine va_iald (f := zt) hx hb hK.1 hP 113 0 rfl rfl (vp_in_nI (n := ks) (N := 10) (by omega) (by decide)) dL_law_1143 ?_
    refine lv_topi (fun y_37 ey_38 => ?_)
    obtain rfl : y_37 = (zt ks) := by rw [ey_38, kz_nI_clamp (n := ks) (by omega)]
    refine lv_icmp_ne (tgt := 1162) hx hb dL_law_1144 (by decide) (fun c => absurd c (by exact fun z => z (eans))) (fun c_39 => ?_)
    refine lv_aload_n hx hb dL_law_1147 rfl (lv_at hl 3 rfl) ?_
    refine lv_iload hx hb dL_law_1148 (lv_at hl 1 rfl) ?_
    refine kz_rdV (As := [.int (nI ks)]) (rest := []) (b := x) ⟨hx, hb, hml, hown, hts⟩ (c_X3_setting l G x (sv 0) (ah 0) (h 0) (t 0) V a (X3_set_s1 V S Y R (nI ks) (nI yv)) (nI ks)) (cwV 1 hts gL_law_X3_setting rfl rfl rfl (by decide +kernel) ⟨Nat.le_of_ble_eq_true rfl, Nat.le_of_ble_eq_true rfl⟩) hK (hP.sub (cs := [xoW x (a 0) (sv 0) (ah 0) (h 0) (t 0) V, shW G a (X3_set_s1 V S Y R (nI ks) (nI yv))]) [0, 1] rfl) (kz_recv hK hP (ci := 3) (q0 := 0) rfl rfl) rfl hl.1 rfl (Nat.le_of_ble_eq_true rfl) dL_law_1150 ⟨Nat.le_of_ble_eq_true rfl, Nat.le_of_ble_eq_true rfl⟩ ?_
    refine lv_iload hx hb dL_law_1153 (lv_at hl 0 rfl) ?_
    refine lv_icmp_ne (tgt := 1162) hx hb dL_law_1155 (by decide) (fun c => absurd c (by exact fun z => z (eans2))) (fun c_40 => ?_)
    refine lv_iconst (v := 1) hx hb dL_law_1158 (by decide +kernel) ?_
    refine lv_goto (tgt := 1163) hx hb dL_law_1159 (by decide) ?_
    refine lv_istore (lv' := [(17, .int 1), (19, .int (nI yv)), (18, .int (nI ks)), (0, .ref bb), (1, .ref x), (2, .ref np), (3, .ref nq), (4, .ref nc), (5, .ref nl), (6, .ref nv), (7, .ref ng), (8, .ref nu), (9, .ref nf), (10, .ref nk), (11, .ref nt), (12, .int why), (13, .int beh), (14, .int (nI i)), (15, .int hh)]) hx hb dL_law_1163 hl (by decide) rfl (fun ls hl => ?_)
    refine lv_aload hx hb dL_law_1165 (lv_at hl 14 rfl) ?_
    refine lv_iload hx hb dL_law_1167 (lv_at hl 2 rfl) ?_
    refine lv_iload hx hb dL_law_1169 (lv_at hl 1 rfl) ?_
    refine va_iast hx hb hK.1 hP hD hS 113 0 rfl rfl (vp_in_nI (n := ks) (N := 10) (by omega) (by decide)) dL_law_1171 (fun H locs hP hD hS => ?_)
    rw [kz_nI_clamp (n := ks) (by omega)] at hP hD
    have hP : kz_P G [xoW x (a 0) (sv 0) (ah 0) (h 0) (t 0) V, shW G a (X3_set_s1 V S Y R (nI ks) (nI yv)), shW G sv kz_S0, shW G ah kz_S0, hsW G h (fun j => b j 0) (X3_set_s2 V S Y R (nI ks) (nI yv)), shW G (b 0) ((X3_set_s3 V S Y R (nI ks) (nI yv)) 0), shW G (b 1) ((X3_set_s3 V S Y R (nI ks) (nI yv)) 1), shW G (b 2) ((X3_set_s3 V S Y R (nI ks) (nI yv)) 2), shW G (b 3) ((X3_set_s3 V S Y R (nI ks) (nI yv)) 3), shW G (b 4) ((X3_set_s3 V S Y R (nI ks) (nI yv)) 4), shW G (b 5) ((X3_set_s3 V S Y R (nI ks) (nI yv)) 5), txW G t kz_T0, [(np, .inl (G.2.1, 64, .inl zp))], [(nq, .inl (G.2.1, 64, .inl zq))], [(nc, .inl (G.2.1, 64, .inl zc))], [(nl, .inl (G.2.1, 64, .inl zl))], [(nv, .inl (G.2.1, 64, .inl zv))], [(ng, .inl (G.2.1, 10, .inl zg))], [(nu, .inl (G.2.1, 10, .inl zu))], [(nf, .inl (G.2.1, 10, .inl zf))], [(nk, .inl (G.2.1, 10, .inl zk))], [(nt, .inl (G.2.1, 10, .inl (upd zt ks (nI yv))))]] H := hP
    have hD : kz_D (kl_A s) [xoW x (a 0) (sv 0) (ah 0) (h 0) (t 0) V, shW G a (X3_set_s1 V S Y R (nI ks) (nI yv)), shW G sv kz_S0, shW G ah kz_S0, hsW G h (fun j => b j 0) (X3_set_s2 V S Y R (nI ks) (nI yv)), shW G (b 0) ((X3_set_s3 V S Y R (nI ks) (nI yv)) 0), shW G (b 1) ((X3_set_s3 V S Y R (nI ks) (nI yv)) 1), shW G (b 2) ((X3_set_s3 V S Y R (nI ks) (nI yv)) 2), shW G (b 3) ((X3_set_s3 V S Y R (nI ks) (nI yv)) 3), shW G (b 4) ((X3_set_s3 V S Y R (nI ks) (nI yv)) 4), shW G (b 5) ((X3_set_s3 V S Y R (nI ks) (nI yv)) 5), txW G t kz_T0, [(np, .inl (G.2.1, 64, .inl zp))], [(nq, .inl (G.2.1, 64, .inl zq))], [(nc, .inl (G.2.1, 64, .inl zc))], [(nl, .inl (G.2.1, 64, .inl zl))], [(nv, .inl (G.2.1, 64, .inl zv))], [(ng, .inl (G.2.1, 10, .inl zg))], [(nu, .inl (G.2.1, 10, .inl zu))], [(nf, .inl (G.2.1, 10, .inl zf))], [(nk, .inl (G.2.1, 10, .inl zk))], [(nt, .inl (G.2.1, 10, .inl (upd zt ks (nI yv))))]] := hD
    exact KK V (X3_set_s1 V S Y R (nI ks) (nI yv)) (X3_set_s2 V S Y R (nI ks) (nI yv)) (X3_set_s3 V S Y R (nI ks) (nI yv)) zp zq zc zl zv zg zu zf zk (upd zt ks (nI yv)) why beh I2 H locs ls hP hD hS (lv_sub hl [0, 3, 4, 5, 6, 7, 8, 9, 10, 11, 12, 13, 14, 15, 16, 17] rfl)
end KL
