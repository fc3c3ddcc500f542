theorem kl_r1 {s : State} {bb : Nat} (hts : ∀ w ∈ lw_tbl, w.before #[Value.ref bb] s = true) {w : Cond} (h : w ∈ wsL_law_r1) : w.before #[Value.ref bb] s = true := hts w (lx_wsL_law_r1 w h)
theorem kl_r3 {s : State} {bb : Nat} (hts : ∀ w ∈ lw_tbl, w.before #[Value.ref bb] s = true) {w : Cond} (h : w ∈ wsL_law_r3) : w.before #[Value.ref bb] s = true := hts w (lx_wsL_law_r3 w h)
theorem kl_I0 : kl_I kz_V0 kz_S0 kz_S0 kz_Y0 (fun _ => kz_S0) kz_T0 kz_M0 := ⟨kr_ini, kr_iniH _ _, kr_iniV _ _, rfl, rfl, kr_iniT⟩
set_option maxHeartbeats 4000000 in
set_option maxRecDepth 100000 in
/-- THE LAW, from its entry -/
theorem whole_start {p : Program} {e : Env} {s : State} {m : MethodId} {below : List Frame} {meth : Method} {c : Code} (l : Launch) (hflags : l.flags = flags0) {b L : Nat} {xs : Nat → Int32} (hL : L ≤ 2048) (C0 : lw_At p s m meth c b L xs) : W p l e room_1 s m #[Value.ref b] below meth c s.heap [] 0 0 (lw_Z below #[Value.ref b] s) (entryFrame m ([Value.ref b] : List Value).toArray 4) := by
  obtain ⟨hx, hb, hr, hml, hown, hts0, hX, hbl, hlocks, hgv⟩ := C0
  have hts : ∀ w ∈ wsL_law, w.before #[Value.ref b] s = true := fun w h => hts0 w (wsL_law_in w h)
  have hA : ∀ q : Nat, s.heap.size ≤ q → (fun q : Nat => s.heap.size ≤ q) q := fun _ h => h
  have hZ := kl_Zs hts0 hgv
  have hAO : va_AO RX1 s := va_AO.of (kl_tb hts0 95 (w := .arrayOver (.object RX1)) (by decide +kernel))
  obtain ⟨G, hK⟩ := kl_Kn hts0
  have CC : kl_C p s m c b L xs G := ⟨hx, hb, hml, hown, hts, hX, hbl, hK, hZ⟩
  obtain ⟨bb, ebb⟩ : ∃ z, z = b := ⟨_, rfl⟩
  subst ebb
  have hS : va_S (fun q : Nat => s.heap.size ≤ q) s.heap s.heap [] := va_S.rf
  have hP : kz_P G [] s.heap := fun k q h => (by cases h)
  have hD : kz_D (fun q : Nat => s.heap.size ≤ q) [] := ⟨fun i j p q h => (by cases h), fun k q h => (by cases h)⟩
  have hl := lv_entry ([.ref bb]) (n := 4) (Nat.le_of_ble_eq_true rfl)
  rw [lg_entry_eq]
  generalize (lg_sl ([.ref bb]) ++ List.replicate (4 - (lg_sl ([.ref bb])).length) Slot.unset).toArray = ls at hl ⊢
  have hl : lv_has ls 4 [(0, .ref bb)] := hl
  refine va_new (ci := 3) (fs := [.null, .null, .null, .null, .null, .int 0, .int 0, .int 0]) (C := RX3) (T := TX3) (N := 8) hx hb hts0 lx_wsX30 tyX3 tyX3_ok hown (kl_r1 hts0 (w := .classLink RL 7 RX3) (by decide +kernel)) (kl_tb hts0 10 (by decide +kernel)) (kl_tb hts0 1 (by decide +kernel)) hK.1 hP hD hS hA rfl (fun j hj => by rcases (show j = 0 ∨ j = 1 ∨ j = 2 ∨ j = 3 ∨ j = 4 ∨ j = 5 ∨ j = 6 ∨ j = 7 by omega) with rfl | rfl | rfl | rfl | rfl | rfl | rfl | rfl <;> rfl) (Nat.le_of_ble_eq_true rfl) (Nat.le_of_ble_eq_true rfl) dL_law_0 (fun x H hP hD hS => ?_)
  have hP : kz_P G [[(x, .inr (3, [.null, .null, .null, .null, .null, .int 0, .int 0, .int 0]))]] H := hP
  have hD : kz_D (fun q : Nat => s.heap.size ≤ q) [[(x, .inr (3, [.null, .null, .null, .null, .null, .int 0, .int 0, .int 0]))]] := hD
  refine lv_dup hx hb dL_law_3 rfl ?_
  refine kz_iniIQ (rest := [.ref x]) (wr := []) ⟨hx, hb, hml, hown, hts⟩ (c_X3_init l G x) (cwI 0 hts gL_law_X3_init rfl rfl rfl (kl_tb hts0 1 (by decide +kernel)) (kl_r1 hts0 (w := .methodLink RL 9 yX3_init) (by decide +kernel)) (kl_r1 hts0 (w := .instanceMethod yX3_init) (by decide +kernel)) rfl (by decide +kernel) ⟨Nat.le_of_ble_eq_true rfl, Nat.le_of_ble_eq_true rfl⟩) hK hP hD hS hA hZ hAO [0] [] rfl (by decide) rfl (by decide) (by decide) hl.1 rfl (Nat.le_of_ble_eq_true rfl) dL_law_4 ⟨Nat.le_of_ble_eq_true rfl, Nat.le_of_ble_eq_true rfl⟩ (fun u H locs hu hP hD hS => ?_)
  obtain ⟨a, sv, ah, h, b, t⟩ := u
  have hP : kz_P G [xoW x (a 0) (sv 0) (ah 0) (h 0) (t 0) kz_V0, shW G a kz_S0, shW G sv kz_S0, shW G ah kz_S0, hsW G h (fun j => b j 0) kz_Y0, shW G (b 0) kz_S0, shW G (b 1) kz_S0, shW G (b 2) kz_S0, shW G (b 3) kz_S0, shW G (b 4) kz_S0, shW G (b 5) kz_S0, txW G t kz_T0] H := hP
  have hD : kz_D (fun q : Nat => s.heap.size ≤ q) [xoW x (a 0) (sv 0) (ah 0) (h 0) (t 0) kz_V0, shW G a kz_S0, shW G sv kz_S0, shW G ah kz_S0, hsW G h (fun j => b j 0) kz_Y0, shW G (b 0) kz_S0, shW G (b 1) kz_S0, shW G (b 2) kz_S0, shW G (b 3) kz_S0, shW G (b 4) kz_S0, shW G (b 5) kz_S0, txW G t kz_T0] := hD
  refine lv_astore_n (lv' := [(1, .ref x), (0, .ref bb)]) hx hb dL_law_7 rfl hl (by decide) rfl (fun ls hl => ?_)
  refine va_new (ci := 4) (fs := [.null, .null, .int 0, .null, .int 0, .null, .int 0, .int 0, .null, .int 0, .null, .int 0, .int 0, .int 0]) (C := RX4) (T := TX4) (N := 14) hx hb hts0 lx_wsX40 tyX4 tyX4_ok hown (kl_r1 hts0 (w := .classLink RL 10 RX4) (by decide +kernel)) (kl_tb hts0 523 (by decide +kernel)) (kl_tb hts0 7 (by decide +kernel)) hK.1 hP hD hS hA rfl (fun j hj => by rcases (show j = 0 ∨ j = 1 ∨ j = 2 ∨ j = 3 ∨ j = 4 ∨ j = 5 ∨ j = 6 ∨ j = 7 ∨ j = 8 ∨ j = 9 ∨ j = 10 ∨ j = 11 ∨ j = 12 ∨ j = 13 by omega) with rfl | rfl | rfl | rfl | rfl | rfl | rfl | rfl | rfl | rfl | rfl | rfl | rfl | rfl <;> rfl) (Nat.le_of_ble_eq_true rfl) (Nat.le_of_ble_eq_true rfl) dL_law_8 (fun o0 H hP hD hS => ?_)
  have hP : kz_P G [xoW x (a 0) (sv 0) (ah 0) (h 0) (t 0) kz_V0, shW G a kz_S0, shW G sv kz_S0, shW G ah kz_S0, hsW G h (fun j => b j 0) kz_Y0, shW G (b 0) kz_S0, shW G (b 1) kz_S0, shW G (b 2) kz_S0, shW G (b 3) kz_S0, shW G (b 4) kz_S0, shW G (b 5) kz_S0, txW G t kz_T0, [(o0, .inr (4, [.null, .null, .int 0, .null, .int 0, .null, .int 0, .int 0, .null, .int 0, .null, .int 0, .int 0, .int 0]))]] H := hP
  have hD : kz_D (fun q : Nat => s.heap.size ≤ q) [xoW x (a 0) (sv 0) (ah 0) (h 0) (t 0) kz_V0, shW G a kz_S0, shW G sv kz_S0, shW G ah kz_S0, hsW G h (fun j => b j 0) kz_Y0, shW G (b 0) kz_S0, shW G (b 1) kz_S0, shW G (b 2) kz_S0, shW G (b 3) kz_S0, shW G (b 4) kz_S0, shW G (b 5) kz_S0, txW G t kz_T0, [(o0, .inr (4, [.null, .null, .int 0, .null, .int 0, .null, .int 0, .int 0, .null, .int 0, .null, .int 0, .int 0, .int 0]))]] := hD
  refine lv_dup hx hb dL_law_11 rfl ?_
  refine kz_iniI (rest := [.ref o0]) (wr := [xoW x (a 0) (sv 0) (ah 0) (h 0) (t 0) kz_V0, shW G a kz_S0, shW G sv kz_S0, shW G ah kz_S0, hsW G h (fun j => b j 0) kz_Y0, shW G (b 0) kz_S0, shW G (b 1) kz_S0, shW G (b 2) kz_S0, shW G (b 3) kz_S0, shW G (b 4) kz_S0, shW G (b 5) kz_S0, txW G t kz_T0]) ⟨hx, hb, hml, hown, hts⟩ (c_X4_init l G o0) (cwI 0 hts gL_law_X4_init rfl rfl rfl (kl_tb hts0 7 (by decide +kernel)) (kl_r3 hts0 (w := .methodLink RL 12 yX4_init) (by decide +kernel)) (kl_r3 hts0 (w := .instanceMethod yX4_init) (by decide +kernel)) rfl (by decide +kernel) ⟨Nat.le_of_ble_eq_true rfl, Nat.le_of_ble_eq_true rfl⟩) hK hP hD hS hA hZ [12] [0, 1, 2, 3, 4, 5, 6, 7, 8, 9, 10, 11] rfl (by decide) rfl (by decide) (by decide) hl.1 rfl (Nat.le_of_ble_eq_true rfl) dL_law_12 ⟨Nat.le_of_ble_eq_true rfl, Nat.le_of_ble_eq_true rfl⟩ (fun o H locs ho hPn hDn hS => ?_)
  have ho : o 0 = o0 := ho
  subst ho
  have hP : kz_P G (kl_W G x a sv ah h b t o kz_V0 kz_S0 kz_S0 kz_S0 kz_Y0 (fun _ => kz_S0) kz_T0 kz_M0) H := hPn
  have hD : kz_D (fun q : Nat => s.heap.size ≤ q) (kl_W G x a sv ah h b t o kz_V0 kz_S0 kz_S0 kz_S0 kz_Y0 (fun _ => kz_S0) kz_T0 kz_M0) := hDn
  refine W.widen (k := 111) (n := 10200) (Nat.le_of_ble_eq_true rfl) (Nat.le_of_ble_eq_true rfl) ?_
  refine lv_astore_n (lv' := [(2, .ref (o 0)), (1, .ref x), (0, .ref bb)]) hx hb dL_law_15 rfl hl (by decide) rfl (fun ls hl => ?_)
  refine lv_iconst (v := 0) hx hb dL_law_16 (by decide +kernel) ?_
  refine lv_istore_n (lv' := [(3, .int (nI 0)), (2, .ref (o 0)), (1, .ref x), (0, .ref bb)]) hx hb dL_law_17 rfl hl (by decide) rfl (fun ls hl => ?_)
  exact (kl_loop CC hL hr hlocks (L + 1) 0 kz_V0 kz_S0 kz_S0 kz_S0 kz_Y0 (fun _ => kz_S0) kz_T0 kz_M0 (Nat.zero_le L) (by omega) kl_I0) _ _ _ hP hD hS (lv_sub hl [3, 2, 1, 0] rfl)
