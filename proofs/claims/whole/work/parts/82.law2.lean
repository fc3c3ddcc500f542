section KL
variable {p : Program} {l : Launch} {e : Env} {s : State} {m : MethodId} {below : List Frame} {meth : Method} {c : Code} {bb L i : Nat} {xs : Nat → Int32} {G : kz_G} {x : Nat} {a sv ah h t o : Nat → Nat} {b : Nat → Nat → Nat} {V S Sv Sa Y : kz_S} {R : Nat → kz_S} {T M : kz_S}
set_option maxHeartbeats 1000000 in
set_option maxRecDepth 100000 in
theorem kl_c_set (C0 : kl_C p s m c bb L xs G) (hi : i + 4 ≤ L) (hL : L ≤ 2048) (I : kl_I V S Sv Y R T M) (KK : kl_K p l e s m below meth c bb G x a sv ah h t o b i) : kl_at p l e s m below meth c bb G x a sv ah h t o b i 164 V S Sv Sa Y R T M := by
  obtain ⟨hx, hb, hml, hown, hts, hX, hbl, hK, hZ⟩ := C0
  have hA : ∀ q : Nat, s.heap.size ≤ q → (fun q : Nat => s.heap.size ≤ q) q := fun _ h => h
  have hbA : ¬ (fun q : Nat => s.heap.size ≤ q) bb := Nat.not_le.mpr hbl
  intro H locs ls hP hD hS hl
  have hi1 : vp_in (nI i + 1) L := kl_in (k := 1) (by omega) hi hL
  obtain ⟨k, hk⟩ : ∃ z : Int32, z = xs (nI i + 1).toNatClampNeg := ⟨_, rfl⟩
  have hi2 : vp_in (nI i + 2) L := kl_in (k := 2) (by omega) hi hL
  obtain ⟨v, hv⟩ : ∃ z : Int32, z = xs (nI i + 2).toNatClampNeg := ⟨_, rfl⟩
  refine lv_aload_n hx hb dL_law_164 rfl (lv_at hl 1 rfl) ?_
  refine lv_aload_n hx hb dL_law_165 rfl (lv_at hl 0 rfl) ?_
  refine lv_iload_n hx hb dL_law_166 rfl (lv_at hl 3 rfl) ?_
  refine lv_iconst (v := 1) hx hb dL_law_167 (by decide +kernel) ?_
  refine lv_iadd hx hb dL_law_168 ?_
  refine va_sld hx hb hX hbl hbA hS hi1 dL_law_169 ?_
  refine lv_topi (fun y ey => ?_)
  obtain rfl : k = y := hk.trans ey.symm
  refine lv_aload_n hx hb dL_law_170 rfl (lv_at hl 0 rfl) ?_
  refine lv_iload_n hx hb dL_law_171 rfl (lv_at hl 3 rfl) ?_
  refine lv_iconst (v := 2) hx hb dL_law_172 (by decide +kernel) ?_
  refine lv_iadd hx hb dL_law_173 ?_
  refine va_sld hx hb hX hbl hbA hS hi2 dL_law_174 ?_
  refine lv_topi (fun y ey => ?_)
  obtain rfl : v = y := hv.trans ey.symm
  refine kz_mzV (As := [.int k, .int v]) (rest := []) (b := x) (wr := [shW G sv Sv, shW G ah Sa, txW G t T, mdW G o M]) (bs' := kl_W G x a sv ah h b t o V (X3_set_s1 V S Y R k v) Sv Sa (X3_set_s2 V S Y R k v) (X3_set_s3 V S Y R k v) T M) ⟨hx, hb, hml, hown, hts⟩ (c_X3_set l G x (sv 0) (ah 0) (t 0) V a S h Y b R k v (kl_O I) (kl_Cn I)) (cwV 2 hts gL_law_X3_set rfl rfl rfl (by decide +kernel) ⟨Nat.le_of_ble_eq_true rfl, Nat.le_of_ble_eq_true rfl⟩) hK hP hD hS hA hZ [0, 1, 4, 5, 6, 7, 8, 9, 10] [2, 3, 11, 12] [4, 5, 0, 1, 6, 7, 8, 9, 10, 11, 12, 2, 3] rfl (by decide) rfl (by decide) (by decide) rfl (by decide) (kz_recv hK hP (ci := 3) (q0 := 0) rfl rfl) rfl hl.1 rfl (Nat.le_of_ble_eq_true rfl) dL_law_175 ⟨Nat.le_of_ble_eq_true rfl, Nat.le_of_ble_eq_true rfl⟩ (fun H locs hP hD hS => ?_)
  refine lv_aload_n hx hb dL_law_178 rfl (lv_at hl 2 rfl) ?_
  refine lv_aload_n hx hb dL_law_179 rfl (lv_at hl 0 rfl) ?_
  refine lv_iload_n hx hb dL_law_180 rfl (lv_at hl 3 rfl) ?_
  refine lv_iconst (v := 1) hx hb dL_law_181 (by decide +kernel) ?_
  refine lv_iadd hx hb dL_law_182 ?_
  refine va_sld hx hb hX hbl hbA hS hi1 dL_law_183 ?_
  refine lv_topi (fun y ey => ?_)
  obtain rfl : k = y := hk.trans ey.symm
  refine lv_aload_n hx hb dL_law_184 rfl (lv_at hl 0 rfl) ?_
  refine lv_iload_n hx hb dL_law_185 rfl (lv_at hl 3 rfl) ?_
  refine lv_iconst (v := 2) hx hb dL_law_186 (by decide +kernel) ?_
  refine lv_iadd hx hb dL_law_187 ?_
  refine va_sld hx hb hX hbl hbA hS hi2 dL_law_188 ?_
  refine lv_topi (fun y ey => ?_)
  obtain rfl : v = y := hv.trans ey.symm
  refine kz_miV (As := [.int k, .int v]) (rest := [.int (X3_set_r V S Y R k v)]) (b := o 0) (wr := [xoW x (a 0) (sv 0) (ah 0) (h 0) (t 0) V, shW G a (X3_set_s1 V S Y R k v), shW G sv Sv, shW G ah Sa, hsW G h (fun j => b j 0) (X3_set_s2 V S Y R k v), shW G (b 0) ((X3_set_s3 V S Y R k v) 0), shW G (b 1) ((X3_set_s3 V S Y R k v) 1), shW G (b 2) ((X3_set_s3 V S Y R k v) 2), shW G (b 3) ((X3_set_s3 V S Y R k v) 3), shW G (b 4) ((X3_set_s3 V S Y R k v) 4), shW G (b 5) ((X3_set_s3 V S Y R k v) 5), txW G t T]) (bs' := kl_W G x a sv ah h b t o V (X3_set_s1 V S Y R k v) Sv Sa (X3_set_s2 V S Y R k v) (X3_set_s3 V S Y R k v) T ((va_up (va_up (va_up M 0 (X4_set_c0 (M 0) (M 1) (M 2 0) k v)) 1 (X4_set_c1 (M 0) (M 1) (M 2 0) k v)) 2 (fun _ => (X4_set_c2 (M 0) (M 1) (M 2 0) k v))))) ⟨hx, hb, hml, hown, hts⟩ (c_X4_set l G o M k v (kl_pm I)) (cwV 2 hts gL_law_X4_set rfl rfl rfl (by decide +kernel) ⟨Nat.le_of_ble_eq_true rfl, Nat.le_of_ble_eq_true rfl⟩) hK hP hD hS hA [12] [0, 1, 2, 3, 4, 5, 6, 7, 8, 9, 10, 11] [0, 1, 2, 3, 4, 5, 6, 7, 8, 9, 10, 11, 12] rfl (by decide) rfl (by decide) (by decide) rfl (by decide) (kz_recv hK (hP.sub (cs := [mdW G o M]) [12] rfl) (ci := 4) (q0 := 0) rfl rfl) rfl hl.1 rfl (Nat.le_of_ble_eq_true rfl) dL_law_189 ⟨Nat.le_of_ble_eq_true rfl, Nat.le_of_ble_eq_true rfl⟩ (fun H locs hP hD hS => ?_)
  obtain ⟨e9, I2⟩ := kl_p_set I k v
  refine lv_icmp_eq (tgt := 861) hx hb dL_law_192 (by decide) (fun _ => ?_) (fun c9 => absurd e9 c9)
  exact (KK _ _ _ _ _ _ _ _ I2) _ _ _ hP hD hS hl
set_option maxHeartbeats 1000000 in
set_option maxRecDepth 100000 in
theorem kl_c_setting (C0 : kl_C p s m c bb L xs G) (hi : i + 4 ≤ L) (hL : L ≤ 2048) (I : kl_I V S Sv Y R T M) (KK : kl_K p l e s m below meth c bb G x a sv ah h t o b i) : kl_at p l e s m below meth c bb G x a sv ah h t o b i 197 V S Sv Sa Y R T M := by
  obtain ⟨hx, hb, hml, hown, hts, hX, hbl, hK, hZ⟩ := C0
  have hA : ∀ q : Nat, s.heap.size ≤ q → (fun q : Nat => s.heap.size ≤ q) q := fun _ h => h
  have hbA : ¬ (fun q : Nat => s.heap.size ≤ q) bb := Nat.not_le.mpr hbl
  intro H locs ls hP hD hS hl
  have hi1 : vp_in (nI i + 1) L := kl_in (k := 1) (by omega) hi hL
  obtain ⟨k, hk⟩ : ∃ z : Int32, z = xs (nI i + 1).toNatClampNeg := ⟨_, rfl⟩
  refine lv_aload_n hx hb dL_law_197 rfl (lv_at hl 1 rfl) ?_
  refine lv_aload_n hx hb dL_law_198 rfl (lv_at hl 0 rfl) ?_
  refine lv_iload_n hx hb dL_law_199 rfl (lv_at hl 3 rfl) ?_
  refine lv_iconst (v := 1) hx hb dL_law_200 (by decide +kernel) ?_
  refine lv_iadd hx hb dL_law_201 ?_
  refine va_sld hx hb hX hbl hbA hS hi1 dL_law_202 ?_
  refine lv_topi (fun y ey => ?_)
  obtain rfl : k = y := hk.trans ey.symm
  refine kz_rdV (As := [.int k]) (rest := []) (b := x) ⟨hx, hb, hml, hown, hts⟩ (c_X3_setting l G x (sv 0) (ah 0) (h 0) (t 0) V a S k) (cwV 1 hts gL_law_X3_setting rfl rfl rfl (by decide +kernel) ⟨Nat.le_of_ble_eq_true rfl, Nat.le_of_ble_eq_true rfl⟩) hK (hP.sub [0, 1] rfl) (kz_recv hK hP (ci := 3) (q0 := 0) rfl rfl) rfl hl.1 rfl (Nat.le_of_ble_eq_true rfl) dL_law_203 ⟨Nat.le_of_ble_eq_true rfl, Nat.le_of_ble_eq_true rfl⟩ ?_
  refine lv_aload_n hx hb dL_law_206 rfl (lv_at hl 2 rfl) ?_
  refine lv_aload_n hx hb dL_law_207 rfl (lv_at hl 0 rfl) ?_
  refine lv_iload_n hx hb dL_law_208 rfl (lv_at hl 3 rfl) ?_
  refine lv_iconst (v := 1) hx hb dL_law_209 (by decide +kernel) ?_
  refine lv_iadd hx hb dL_law_210 ?_
  refine va_sld hx hb hX hbl hbA hS hi1 dL_law_211 ?_
  refine lv_topi (fun y ey => ?_)
  obtain rfl : k = y := hk.trans ey.symm
  refine kz_rdV (As := [.int k]) (rest := [.int (X3_setting_r V S k)]) (b := o 0) ⟨hx, hb, hml, hown, hts⟩ (c_X4_setting l G o M k) (cwV 1 hts gL_law_X4_setting rfl rfl rfl (by decide +kernel) ⟨Nat.le_of_ble_eq_true rfl, Nat.le_of_ble_eq_true rfl⟩) hK (hP.sub [12] rfl) (kz_recv hK (hP.sub (cs := [mdW G o M]) [12] rfl) (ci := 4) (q0 := 0) rfl rfl) rfl hl.1 rfl (Nat.le_of_ble_eq_true rfl) dL_law_212 ⟨Nat.le_of_ble_eq_true rfl, Nat.le_of_ble_eq_true rfl⟩ ?_
  refine lv_icmp_eq (tgt := 861) hx hb dL_law_215 (by decide) (fun _ => ?_) (fun c9 => absurd (kl_p_setting I k) c9)
  exact (KK _ _ _ _ _ _ _ _ I) _ _ _ hP hD hS hl
set_option maxHeartbeats 1000000 in
set_option maxRecDepth 100000 in
theorem kl_c_come (C0 : kl_C p s m c bb L xs G) (hi : i + 4 ≤ L) (hL : L ≤ 2048) (I : kl_I V S Sv Y R T M) (KK : kl_K p l e s m below meth c bb G x a sv ah h t o b i) : kl_at p l e s m below meth c bb G x a sv ah h t o b i 220 V S Sv Sa Y R T M := by
  obtain ⟨hx, hb, hml, hown, hts, hX, hbl, hK, hZ⟩ := C0
  have hA : ∀ q : Nat, s.heap.size ≤ q → (fun q : Nat => s.heap.size ≤ q) q := fun _ h => h
  have hbA : ¬ (fun q : Nat => s.heap.size ≤ q) bb := Nat.not_le.mpr hbl
  intro H locs ls hP hD hS hl
  have hi1 : vp_in (nI i + 1) L := kl_in (k := 1) (by omega) hi hL
  obtain ⟨q, hq⟩ : ∃ z : Int32, z = xs (nI i + 1).toNatClampNeg := ⟨_, rfl⟩
  have hi2 : vp_in (nI i + 2) L := kl_in (k := 2) (by omega) hi hL
  obtain ⟨v, hv⟩ : ∃ z : Int32, z = xs (nI i + 2).toNatClampNeg := ⟨_, rfl⟩
  refine lv_aload_n hx hb dL_law_220 rfl (lv_at hl 1 rfl) ?_
  refine lv_aload_n hx hb dL_law_221 rfl (lv_at hl 0 rfl) ?_
  refine lv_iload_n hx hb dL_law_222 rfl (lv_at hl 3 rfl) ?_
  refine lv_iconst (v := 1) hx hb dL_law_223 (by decide +kernel) ?_
  refine lv_iadd hx hb dL_law_224 ?_
  refine va_sld hx hb hX hbl hbA hS hi1 dL_law_225 ?_
  refine lv_topi (fun y ey => ?_)
  obtain rfl : q = y := hq.trans ey.symm
  refine lv_aload_n hx hb dL_law_226 rfl (lv_at hl 0 rfl) ?_
  refine lv_iload_n hx hb dL_law_227 rfl (lv_at hl 3 rfl) ?_
  refine lv_iconst (v := 2) hx hb dL_law_228 (by decide +kernel) ?_
  refine lv_iadd hx hb dL_law_229 ?_
  refine va_sld hx hb hX hbl hbA hS hi2 dL_law_230 ?_
  refine lv_topi (fun y ey => ?_)
  obtain rfl : v = y := hv.trans ey.symm
  refine kz_miV (As := [.int q, .int v]) (rest := []) (b := x) (wr := [shW G sv Sv, shW G ah Sa, txW G t T, mdW G o M]) (bs' := kl_W G x a sv ah h b t o (X3_come_s0 V S Y R q v) (X3_come_s1 V S Y R q v) Sv Sa (X3_come_s2 V S Y R q v) (X3_come_s3 V S Y R q v) T M) ⟨hx, hb, hml, hown, hts⟩ (c_X3_come l G x (sv 0) (ah 0) (t 0) V a S h Y b R q v (kl_t I) (kl_O I) (kl_Cn I)) (cwV 2 hts gL_law_X3_come rfl rfl rfl (by decide +kernel) ⟨Nat.le_of_ble_eq_true rfl, Nat.le_of_ble_eq_true rfl⟩) hK hP hD hS hA [0, 1, 4, 5, 6, 7, 8, 9, 10] [2, 3, 11, 12] [4, 5, 0, 1, 6, 7, 8, 9, 10, 11, 12, 2, 3] rfl (by decide) rfl (by decide) (by decide) rfl (by decide) (kz_recv hK hP (ci := 3) (q0 := 0) rfl rfl) rfl hl.1 rfl (Nat.le_of_ble_eq_true rfl) dL_law_231 ⟨Nat.le_of_ble_eq_true rfl, Nat.le_of_ble_eq_true rfl⟩ (fun H locs hP hD hS => ?_)
  refine lv_aload_n hx hb dL_law_234 rfl (lv_at hl 2 rfl) ?_
  refine lv_aload_n hx hb dL_law_235 rfl (lv_at hl 0 rfl) ?_
  refine lv_iload_n hx hb dL_law_236 rfl (lv_at hl 3 rfl) ?_
  refine lv_iconst (v := 1) hx hb dL_law_237 (by decide +kernel) ?_
  refine lv_iadd hx hb dL_law_238 ?_
  refine va_sld hx hb hX hbl hbA hS hi1 dL_law_239 ?_
  refine lv_topi (fun y ey => ?_)
  obtain rfl : q = y := hq.trans ey.symm
  refine lv_aload_n hx hb dL_law_240 rfl (lv_at hl 0 rfl) ?_
  refine lv_iload_n hx hb dL_law_241 rfl (lv_at hl 3 rfl) ?_
  refine lv_iconst (v := 2) hx hb dL_law_242 (by decide +kernel) ?_
  refine lv_iadd hx hb dL_law_243 ?_
  refine va_sld hx hb hX hbl hbA hS hi2 dL_law_244 ?_
  refine lv_topi (fun y ey => ?_)
  obtain rfl : v = y := hv.trans ey.symm
  refine kz_miV (As := [.int q, .int v]) (rest := [.int (X3_come_r V S Y R q v)]) (b := o 0) (wr := [xoW x (a 0) (sv 0) (ah 0) (h 0) (t 0) (X3_come_s0 V S Y R q v), shW G a (X3_come_s1 V S Y R q v), shW G sv Sv, shW G ah Sa, hsW G h (fun j => b j 0) (X3_come_s2 V S Y R q v), shW G (b 0) ((X3_come_s3 V S Y R q v) 0), shW G (b 1) ((X3_come_s3 V S Y R q v) 1), shW G (b 2) ((X3_come_s3 V S Y R q v) 2), shW G (b 3) ((X3_come_s3 V S Y R q v) 3), shW G (b 4) ((X3_come_s3 V S Y R q v) 4), shW G (b 5) ((X3_come_s3 V S Y R q v) 5), txW G t T]) (bs' := kl_W G x a sv ah h b t o (X3_come_s0 V S Y R q v) (X3_come_s1 V S Y R q v) Sv Sa (X3_come_s2 V S Y R q v) (X3_come_s3 V S Y R q v) T ((va_up (va_up (va_up (va_up (va_up M 0 (X4_come_c0 (M 0) (M 1) (M 2 0) (M 6 0) (M 7 0) q v)) 1 (X4_come_c1 (M 0) (M 1) (M 2 0) (M 6 0) (M 7 0) q v)) 2 (fun _ => (X4_come_c2 (M 0) (M 1) (M 2 0) (M 6 0) (M 7 0) q v))) 6 (fun _ => (X4_come_c6 (M 0) (M 1) (M 2 0) (M 6 0) (M 7 0) q v))) 7 (fun _ => (X4_come_c7 (M 0) (M 1) (M 2 0) (M 6 0) (M 7 0) q v))))) ⟨hx, hb, hml, hown, hts⟩ (c_X4_come l G o M q v (kl_zt I) (kl_pm I)) (cwV 2 hts gL_law_X4_come rfl rfl rfl (by decide +kernel) ⟨Nat.le_of_ble_eq_true rfl, Nat.le_of_ble_eq_true rfl⟩) hK hP hD hS hA [12] [0, 1, 2, 3, 4, 5, 6, 7, 8, 9, 10, 11] [0, 1, 2, 3, 4, 5, 6, 7, 8, 9, 10, 11, 12] rfl (by decide) rfl (by decide) (by decide) rfl (by decide) (kz_recv hK (hP.sub (cs := [mdW G o M]) [12] rfl) (ci := 4) (q0 := 0) rfl rfl) rfl hl.1 rfl (Nat.le_of_ble_eq_true rfl) dL_law_245 ⟨Nat.le_of_ble_eq_true rfl, Nat.le_of_ble_eq_true rfl⟩ (fun H locs hP hD hS => ?_)
  obtain ⟨e9, I2⟩ := kl_p_come I q v
  refine lv_icmp_eq (tgt := 861) hx hb dL_law_248 (by decide) (fun _ => ?_) (fun c9 => absurd e9 c9)
  exact (KK _ _ _ _ _ _ _ _ I2) _ _ _ hP hD hS hl
set_option maxHeartbeats 1000000 in
set_option maxRecDepth 100000 in
theorem kl_c_fetch (C0 : kl_C p s m c bb L xs G) (hi : i + 4 ≤ L) (hL : L ≤ 2048) (I : kl_I V S Sv Y R T M) (KK : kl_K p l e s m below meth c bb G x a sv ah h t o b i) : kl_at p l e s m below meth c bb G x a sv ah h t o b i 253 V S Sv Sa Y R T M := by
  obtain ⟨hx, hb, hml, hown, hts, hX, hbl, hK, hZ⟩ := C0
  have hA : ∀ q : Nat, s.heap.size ≤ q → (fun q : Nat => s.heap.size ≤ q) q := fun _ h => h
  have hbA : ¬ (fun q : Nat => s.heap.size ≤ q) bb := Nat.not_le.mpr hbl
  intro H locs ls hP hD hS hl
  have hi1 : vp_in (nI i + 1) L := kl_in (k := 1) (by omega) hi hL
  obtain ⟨q, hq⟩ : ∃ z : Int32, z = xs (nI i + 1).toNatClampNeg := ⟨_, rfl⟩
  refine lv_aload_n hx hb dL_law_253 rfl (lv_at hl 1 rfl) ?_
  refine lv_aload_n hx hb dL_law_254 rfl (lv_at hl 0 rfl) ?_
  refine lv_iload_n hx hb dL_law_255 rfl (lv_at hl 3 rfl) ?_
  refine lv_iconst (v := 1) hx hb dL_law_256 (by decide +kernel) ?_
  refine lv_iadd hx hb dL_law_257 ?_
  refine va_sld hx hb hX hbl hbA hS hi1 dL_law_258 ?_
  refine lv_topi (fun y ey => ?_)
  obtain rfl : q = y := hq.trans ey.symm
  refine kz_miV (As := [.int q]) (rest := []) (b := x) (wr := [shW G sv Sv, shW G ah Sa, txW G t T, mdW G o M]) (bs' := kl_W G x a sv ah h b t o (X3_fetch_s0 V S Y R q) (X3_fetch_s1 V S Y R q) Sv Sa (X3_fetch_s2 V S Y R q) (X3_fetch_s3 V S Y R q) T M) ⟨hx, hb, hml, hown, hts⟩ (c_X3_fetch l G x (sv 0) (ah 0) (t 0) V a S h Y b R q (kl_J I) (kl_O I) (kl_Cn I)) (cwV 1 hts gL_law_X3_fetch rfl rfl rfl (by decide +kernel) ⟨Nat.le_of_ble_eq_true rfl, Nat.le_of_ble_eq_true rfl⟩) hK hP hD hS hA [0, 1, 4, 5, 6, 7, 8, 9, 10] [2, 3, 11, 12] [4, 5, 0, 1, 6, 7, 8, 9, 10, 11, 12, 2, 3] rfl (by decide) rfl (by decide) (by decide) rfl (by decide) (kz_recv hK hP (ci := 3) (q0 := 0) rfl rfl) rfl hl.1 rfl (Nat.le_of_ble_eq_true rfl) dL_law_259 ⟨Nat.le_of_ble_eq_true rfl, Nat.le_of_ble_eq_true rfl⟩ (fun H locs hP hD hS => ?_)
  refine lv_aload_n hx hb dL_law_262 rfl (lv_at hl 2 rfl) ?_
  refine lv_aload_n hx hb dL_law_263 rfl (lv_at hl 0 rfl) ?_
  refine lv_iload_n hx hb dL_law_264 rfl (lv_at hl 3 rfl) ?_
  refine lv_iconst (v := 1) hx hb dL_law_265 (by decide +kernel) ?_
  refine lv_iadd hx hb dL_law_266 ?_
  refine va_sld hx hb hX hbl hbA hS hi1 dL_law_267 ?_
  refine lv_topi (fun y ey => ?_)
  obtain rfl : q = y := hq.trans ey.symm
  refine kz_miV (As := [.int q]) (rest := [.int (X3_fetch_r V S Y R q)]) (b := o 0) (wr := [xoW x (a 0) (sv 0) (ah 0) (h 0) (t 0) (X3_fetch_s0 V S Y R q), shW G a (X3_fetch_s1 V S Y R q), shW G sv Sv, shW G ah Sa, hsW G h (fun j => b j 0) (X3_fetch_s2 V S Y R q), shW G (b 0) ((X3_fetch_s3 V S Y R q) 0), shW G (b 1) ((X3_fetch_s3 V S Y R q) 1), shW G (b 2) ((X3_fetch_s3 V S Y R q) 2), shW G (b 3) ((X3_fetch_s3 V S Y R q) 3), shW G (b 4) ((X3_fetch_s3 V S Y R q) 4), shW G (b 5) ((X3_fetch_s3 V S Y R q) 5), txW G t T]) (bs' := kl_W G x a sv ah h b t o (X3_fetch_s0 V S Y R q) (X3_fetch_s1 V S Y R q) Sv Sa (X3_fetch_s2 V S Y R q) (X3_fetch_s3 V S Y R q) T ((va_up (va_up (va_up (va_up (va_up M 0 (X4_fetch_c0 (M 0) (M 1) (M 2 0) (M 6 0) (M 7 0) q)) 1 (X4_fetch_c1 (M 0) (M 1) (M 2 0) (M 6 0) (M 7 0) q)) 2 (fun _ => (X4_fetch_c2 (M 0) (M 1) (M 2 0) (M 6 0) (M 7 0) q))) 6 (fun _ => (X4_fetch_c6 (M 0) (M 1) (M 2 0) (M 6 0) (M 7 0) q))) 7 (fun _ => (X4_fetch_c7 (M 0) (M 1) (M 2 0) (M 6 0) (M 7 0) q))))) ⟨hx, hb, hml, hown, hts⟩ (c_X4_fetch l G o M q (kl_M I) (kl_pm I)) (cwV 1 hts gL_law_X4_fetch rfl rfl rfl (by decide +kernel) ⟨Nat.le_of_ble_eq_true rfl, Nat.le_of_ble_eq_true rfl⟩) hK hP hD hS hA [12] [0, 1, 2, 3, 4, 5, 6, 7, 8, 9, 10, 11] [0, 1, 2, 3, 4, 5, 6, 7, 8, 9, 10, 11, 12] rfl (by decide) rfl (by decide) (by decide) rfl (by decide) (kz_recv hK (hP.sub (cs := [mdW G o M]) [12] rfl) (ci := 4) (q0 := 0) rfl rfl) rfl hl.1 rfl (Nat.le_of_ble_eq_true rfl) dL_law_268 ⟨Nat.le_of_ble_eq_true rfl, Nat.le_of_ble_eq_true rfl⟩ (fun H locs hP hD hS => ?_)
  obtain ⟨e9, I2⟩ := kl_p_fetch I q
  refine lv_icmp_eq (tgt := 861) hx hb dL_law_271 (by decide) (fun _ => ?_) (fun c9 => absurd e9 c9)
  exact (KK _ _ _ _ _ _ _ _ I2) _ _ _ hP hD hS hl
set_option maxHeartbeats 1000000 in
set_option maxRecDepth 100000 in
theorem kl_c_refuse (C0 : kl_C p s m c bb L xs G) (hi : i + 4 ≤ L) (hL : L ≤ 2048) (I : kl_I V S Sv Y R T M) (KK : kl_K p l e s m below meth c bb G x a sv ah h t o b i) : kl_at p l e s m below meth c bb G x a sv ah h t o b i 276 V S Sv Sa Y R T M := by
  obtain ⟨hx, hb, hml, hown, hts, hX, hbl, hK, hZ⟩ := C0
  have hA : ∀ q : Nat, s.heap.size ≤ q → (fun q : Nat => s.heap.size ≤ q) q := fun _ h => h
  have hbA : ¬ (fun q : Nat => s.heap.size ≤ q) bb := Nat.not_le.mpr hbl
  intro H locs ls hP hD hS hl
  have hi1 : vp_in (nI i + 1) L := kl_in (k := 1) (by omega) hi hL
  obtain ⟨q, hq⟩ : ∃ z : Int32, z = xs (nI i + 1).toNatClampNeg := ⟨_, rfl⟩
  refine lv_aload_n hx hb dL_law_276 rfl (lv_at hl 1 rfl) ?_
  refine lv_aload_n hx hb dL_law_277 rfl (lv_at hl 0 rfl) ?_
  refine lv_iload_n hx hb dL_law_278 rfl (lv_at hl 3 rfl) ?_
  refine lv_iconst (v := 1) hx hb dL_law_279 (by decide +kernel) ?_
  refine lv_iadd hx hb dL_law_280 ?_
  refine va_sld hx hb hX hbl hbA hS hi1 dL_law_281 ?_
  refine lv_topi (fun y ey => ?_)
  obtain rfl : q = y := hq.trans ey.symm
  refine kz_miV (As := [.int q]) (rest := []) (b := x) (wr := [shW G sv Sv, shW G ah Sa, txW G t T, mdW G o M]) (bs' := kl_W G x a sv ah h b t o (X3_refuse_s0 V S Y R q) (X3_refuse_s1 V S Y R q) Sv Sa (X3_refuse_s2 V S Y R q) (X3_refuse_s3 V S Y R q) T M) ⟨hx, hb, hml, hown, hts⟩ (c_X3_refuse l G x (sv 0) (ah 0) (t 0) V a S h Y b R q (kl_J I) (kl_O I) (kl_Cn I)) (cwV 1 hts gL_law_X3_refuse rfl rfl rfl (by decide +kernel) ⟨Nat.le_of_ble_eq_true rfl, Nat.le_of_ble_eq_true rfl⟩) hK hP hD hS hA [0, 1, 4, 5, 6, 7, 8, 9, 10] [2, 3, 11, 12] [4, 5, 0, 1, 6, 7, 8, 9, 10, 11, 12, 2, 3] rfl (by decide) rfl (by decide) (by decide) rfl (by decide) (kz_recv hK hP (ci := 3) (q0 := 0) rfl rfl) rfl hl.1 rfl (Nat.le_of_ble_eq_true rfl) dL_law_282 ⟨Nat.le_of_ble_eq_true rfl, Nat.le_of_ble_eq_true rfl⟩ (fun H locs hP hD hS => ?_)
  refine lv_aload_n hx hb dL_law_285 rfl (lv_at hl 2 rfl) ?_
  refine lv_aload_n hx hb dL_law_286 rfl (lv_at hl 0 rfl) ?_
  refine lv_iload_n hx hb dL_law_287 rfl (lv_at hl 3 rfl) ?_
  refine lv_iconst (v := 1) hx hb dL_law_288 (by decide +kernel) ?_
  refine lv_iadd hx hb dL_law_289 ?_
  refine va_sld hx hb hX hbl hbA hS hi1 dL_law_290 ?_
  refine lv_topi (fun y ey => ?_)
  obtain rfl : q = y := hq.trans ey.symm
  refine kz_miV (As := [.int q]) (rest := [.int (X3_refuse_r V S Y R q)]) (b := o 0) (wr := [xoW x (a 0) (sv 0) (ah 0) (h 0) (t 0) (X3_refuse_s0 V S Y R q), shW G a (X3_refuse_s1 V S Y R q), shW G sv Sv, shW G ah Sa, hsW G h (fun j => b j 0) (X3_refuse_s2 V S Y R q), shW G (b 0) ((X3_refuse_s3 V S Y R q) 0), shW G (b 1) ((X3_refuse_s3 V S Y R q) 1), shW G (b 2) ((X3_refuse_s3 V S Y R q) 2), shW G (b 3) ((X3_refuse_s3 V S Y R q) 3), shW G (b 4) ((X3_refuse_s3 V S Y R q) 4), shW G (b 5) ((X3_refuse_s3 V S Y R q) 5), txW G t T]) (bs' := kl_W G x a sv ah h b t o (X3_refuse_s0 V S Y R q) (X3_refuse_s1 V S Y R q) Sv Sa (X3_refuse_s2 V S Y R q) (X3_refuse_s3 V S Y R q) T ((va_up (va_up (va_up (va_up (va_up M 0 (X4_refuse_c0 (M 0) (M 1) (M 2 0) (M 6 0) (M 7 0) q)) 1 (X4_refuse_c1 (M 0) (M 1) (M 2 0) (M 6 0) (M 7 0) q)) 2 (fun _ => (X4_refuse_c2 (M 0) (M 1) (M 2 0) (M 6 0) (M 7 0) q))) 6 (fun _ => (X4_refuse_c6 (M 0) (M 1) (M 2 0) (M 6 0) (M 7 0) q))) 7 (fun _ => (X4_refuse_c7 (M 0) (M 1) (M 2 0) (M 6 0) (M 7 0) q))))) ⟨hx, hb, hml, hown, hts⟩ (c_X4_refuse l G o M q (kl_M I) (kl_pm I)) (cwV 1 hts gL_law_X4_refuse rfl rfl rfl (by decide +kernel) ⟨Nat.le_of_ble_eq_true rfl, Nat.le_of_ble_eq_true rfl⟩) hK hP hD hS hA [12] [0, 1, 2, 3, 4, 5, 6, 7, 8, 9, 10, 11] [0, 1, 2, 3, 4, 5, 6, 7, 8, 9, 10, 11, 12] rfl (by decide) rfl (by decide) (by decide) rfl (by decide) (kz_recv hK (hP.sub (cs := [mdW G o M]) [12] rfl) (ci := 4) (q0 := 0) rfl rfl) rfl hl.1 rfl (Nat.le_of_ble_eq_true rfl) dL_law_291 ⟨Nat.le_of_ble_eq_true rfl, Nat.le_of_ble_eq_true rfl⟩ (fun H locs hP hD hS => ?_)
  obtain ⟨e9, I2⟩ := kl_p_refuse I q
  refine lv_icmp_eq (tgt := 861) hx hb dL_law_294 (by decide) (fun _ => ?_) (fun c9 => absurd e9 c9)
  exact (KK _ _ _ _ _ _ _ _ I2) _ _ _ hP hD hS hl
set_option maxHeartbeats 1000000 in
set_option maxRecDepth 100000 in
theorem kl_c_move (C0 : kl_C p s m c bb L xs G) (hi : i + 4 ≤ L) (hL : L ≤ 2048) (I : kl_I V S Sv Y R T M) (KK : kl_K p l e s m below meth c bb G x a sv ah h t o b i) : kl_at p l e s m below meth c bb G x a sv ah h t o b i 299 V S Sv Sa Y R T M := by
  obtain ⟨hx, hb, hml, hown, hts, hX, hbl, hK, hZ⟩ := C0
  have hA : ∀ q : Nat, s.heap.size ≤ q → (fun q : Nat => s.heap.size ≤ q) q := fun _ h => h
  have hbA : ¬ (fun q : Nat => s.heap.size ≤ q) bb := Nat.not_le.mpr hbl
  intro H locs ls hP hD hS hl
  have hi1 : vp_in (nI i + 1) L := kl_in (k := 1) (by omega) hi hL
  obtain ⟨q, hq⟩ : ∃ z : Int32, z = xs (nI i + 1).toNatClampNeg := ⟨_, rfl⟩
  have hi2 : vp_in (nI i + 2) L := kl_in (k := 2) (by omega) hi hL
  obtain ⟨v, hv⟩ : ∃ z : Int32, z = xs (nI i + 2).toNatClampNeg := ⟨_, rfl⟩
  refine lv_aload_n hx hb dL_law_299 rfl (lv_at hl 1 rfl) ?_
  refine lv_aload_n hx hb dL_law_300 rfl (lv_at hl 0 rfl) ?_
  refine lv_iload_n hx hb dL_law_301 rfl (lv_at hl 3 rfl) ?_
  refine lv_iconst (v := 1) hx hb dL_law_302 (by decide +kernel) ?_
  refine lv_iadd hx hb dL_law_303 ?_
  refine va_sld hx hb hX hbl hbA hS hi1 dL_law_304 ?_
  refine lv_topi (fun y ey => ?_)
  obtain rfl : q = y := hq.trans ey.symm
  refine lv_aload_n hx hb dL_law_305 rfl (lv_at hl 0 rfl) ?_
  refine lv_iload_n hx hb dL_law_306 rfl (lv_at hl 3 rfl) ?_
  refine lv_iconst (v := 2) hx hb dL_law_307 (by decide +kernel) ?_
  refine lv_iadd hx hb dL_law_308 ?_
  refine va_sld hx hb hX hbl hbA hS hi2 dL_law_309 ?_
  refine lv_topi (fun y ey => ?_)
  obtain rfl : v = y := hv.trans ey.symm
  refine kz_miV (As := [.int q, .int v]) (rest := []) (b := x) (wr := [shW G sv Sv, shW G ah Sa, txW G t T, mdW G o M]) (bs' := kl_W G x a sv ah h b t o (X3_move_s0 V S Y R q v) (X3_move_s1 V S Y R q v) Sv Sa (X3_move_s2 V S Y R q v) (X3_move_s3 V S Y R q v) T M) ⟨hx, hb, hml, hown, hts⟩ (c_X3_move l G x (sv 0) (ah 0) (t 0) V a S h Y b R q v (kl_J I) (kl_t I) (kl_O I) (kl_Cn I)) (cwV 2 hts gL_law_X3_move rfl rfl rfl (by decide +kernel) ⟨Nat.le_of_ble_eq_true rfl, Nat.le_of_ble_eq_true rfl⟩) hK hP hD hS hA [0, 1, 4, 5, 6, 7, 8, 9, 10] [2, 3, 11, 12] [4, 5, 0, 1, 6, 7, 8, 9, 10, 11, 12, 2, 3] rfl (by decide) rfl (by decide) (by decide) rfl (by decide) (kz_recv hK hP (ci := 3) (q0 := 0) rfl rfl) rfl hl.1 rfl (Nat.le_of_ble_eq_true rfl) dL_law_310 ⟨Nat.le_of_ble_eq_true rfl, Nat.le_of_ble_eq_true rfl⟩ (fun H locs hP hD hS => ?_)
  refine lv_aload_n hx hb dL_law_313 rfl (lv_at hl 2 rfl) ?_
  refine lv_aload_n hx hb dL_law_314 rfl (lv_at hl 0 rfl) ?_
  refine lv_iload_n hx hb dL_law_315 rfl (lv_at hl 3 rfl) ?_
  refine lv_iconst (v := 1) hx hb dL_law_316 (by decide +kernel) ?_
  refine lv_iadd hx hb dL_law_317 ?_
  refine va_sld hx hb hX hbl hbA hS hi1 dL_law_318 ?_
  refine lv_topi (fun y ey => ?_)
  obtain rfl : q = y := hq.trans ey.symm
  refine lv_aload_n hx hb dL_law_319 rfl (lv_at hl 0 rfl) ?_
  refine lv_iload_n hx hb dL_law_320 rfl (lv_at hl 3 rfl) ?_
  refine lv_iconst (v := 2) hx hb dL_law_321 (by decide +kernel) ?_
  refine lv_iadd hx hb dL_law_322 ?_
  refine va_sld hx hb hX hbl hbA hS hi2 dL_law_323 ?_
  refine lv_topi (fun y ey => ?_)
  obtain rfl : v = y := hv.trans ey.symm
  refine kz_miV (As := [.int q, .int v]) (rest := [.int (X3_move_r V S Y R q v)]) (b := o 0) (wr := [xoW x (a 0) (sv 0) (ah 0) (h 0) (t 0) (X3_move_s0 V S Y R q v), shW G a (X3_move_s1 V S Y R q v), shW G sv Sv, shW G ah Sa, hsW G h (fun j => b j 0) (X3_move_s2 V S Y R q v), shW G (b 0) ((X3_move_s3 V S Y R q v) 0), shW G (b 1) ((X3_move_s3 V S Y R q v) 1), shW G (b 2) ((X3_move_s3 V S Y R q v) 2), shW G (b 3) ((X3_move_s3 V S Y R q v) 3), shW G (b 4) ((X3_move_s3 V S Y R q v) 4), shW G (b 5) ((X3_move_s3 V S Y R q v) 5), txW G t T]) (bs' := kl_W G x a sv ah h b t o (X3_move_s0 V S Y R q v) (X3_move_s1 V S Y R q v) Sv Sa (X3_move_s2 V S Y R q v) (X3_move_s3 V S Y R q v) T ((va_up (va_up (va_up (va_up (va_up M 0 (X4_move_c0 (M 0) (M 1) (M 2 0) (M 6 0) (M 7 0) q v)) 1 (X4_move_c1 (M 0) (M 1) (M 2 0) (M 6 0) (M 7 0) q v)) 2 (fun _ => (X4_move_c2 (M 0) (M 1) (M 2 0) (M 6 0) (M 7 0) q v))) 6 (fun _ => (X4_move_c6 (M 0) (M 1) (M 2 0) (M 6 0) (M 7 0) q v))) 7 (fun _ => (X4_move_c7 (M 0) (M 1) (M 2 0) (M 6 0) (M 7 0) q v))))) ⟨hx, hb, hml, hown, hts⟩ (c_X4_move l G o M q v (kl_M I) (kl_zt I) (kl_pm I)) (cwV 2 hts gL_law_X4_move rfl rfl rfl (by decide +kernel) ⟨Nat.le_of_ble_eq_true rfl, Nat.le_of_ble_eq_true rfl⟩) hK hP hD hS hA [12] [0, 1, 2, 3, 4, 5, 6, 7, 8, 9, 10, 11] [0, 1, 2, 3, 4, 5, 6, 7, 8, 9, 10, 11, 12] rfl (by decide) rfl (by decide) (by decide) rfl (by decide) (kz_recv hK (hP.sub (cs := [mdW G o M]) [12] rfl) (ci := 4) (q0 := 0) rfl rfl) rfl hl.1 rfl (Nat.le_of_ble_eq_true rfl) dL_law_324 ⟨Nat.le_of_ble_eq_true rfl, Nat.le_of_ble_eq_true rfl⟩ (fun H locs hP hD hS => ?_)
  obtain ⟨e9, I2⟩ := kl_p_move I q v
  refine lv_icmp_eq (tgt := 861) hx hb dL_law_327 (by decide) (fun _ => ?_) (fun c9 => absurd e9 c9)
  exact (KK _ _ _ _ _ _ _ _ I2) _ _ _ hP hD hS hl
set_option maxHeartbeats 1000000 in
set_option maxRecDepth 100000 in
theorem kl_c_pass (C0 : kl_C p s m c bb L xs G) (hi : i + 4 ≤ L) (hL : L ≤ 2048) (I : kl_I V S Sv Y R T M) (KK : kl_K p l e s m below meth c bb G x a sv ah h t o b i) : kl_at p l e s m below meth c bb G x a sv ah h t o b i 332 V S Sv Sa Y R T M := by
  obtain ⟨hx, hb, hml, hown, hts, hX, hbl, hK, hZ⟩ := C0
  have hA : ∀ q : Nat, s.heap.size ≤ q → (fun q : Nat => s.heap.size ≤ q) q := fun _ h => h
  have hbA : ¬ (fun q : Nat => s.heap.size ≤ q) bb := Nat.not_le.mpr hbl
  intro H locs ls hP hD hS hl
  have hi1 : vp_in (nI i + 1) L := kl_in (k := 1) (by omega) hi hL
  obtain ⟨q, hq⟩ : ∃ z : Int32, z = xs (nI i + 1).toNatClampNeg := ⟨_, rfl⟩
  refine lv_aload_n hx hb dL_law_332 rfl (lv_at hl 1 rfl) ?_
  refine lv_aload_n hx hb dL_law_333 rfl (lv_at hl 0 rfl) ?_
  refine lv_iload_n hx hb dL_law_334 rfl (lv_at hl 3 rfl) ?_
  refine lv_iconst (v := 1) hx hb dL_law_335 (by decide +kernel) ?_
  refine lv_iadd hx hb dL_law_336 ?_
  refine va_sld hx hb hX hbl hbA hS hi1 dL_law_337 ?_
  refine lv_topi (fun y ey => ?_)
  obtain rfl : q = y := hq.trans ey.symm
  refine kz_miV (As := [.int q]) (rest := []) (b := x) (wr := [shW G sv Sv, shW G ah Sa, txW G t T, mdW G o M]) (bs' := kl_W G x a sv ah h b t o V (X3_pass_s1 V S Y R q) Sv Sa (X3_pass_s2 V S Y R q) (X3_pass_s3 V S Y R q) T M) ⟨hx, hb, hml, hown, hts⟩ (c_X3_pass l G x (sv 0) (ah 0) (t 0) V a S h Y b R q (kl_J I) (kl_O I) (kl_Cn I)) (cwV 1 hts gL_law_X3_pass rfl rfl rfl (by decide +kernel) ⟨Nat.le_of_ble_eq_true rfl, Nat.le_of_ble_eq_true rfl⟩) hK hP hD hS hA [0, 1, 4, 5, 6, 7, 8, 9, 10] [2, 3, 11, 12] [4, 5, 0, 1, 6, 7, 8, 9, 10, 11, 12, 2, 3] rfl (by decide) rfl (by decide) (by decide) rfl (by decide) (kz_recv hK hP (ci := 3) (q0 := 0) rfl rfl) rfl hl.1 rfl (Nat.le_of_ble_eq_true rfl) dL_law_338 ⟨Nat.le_of_ble_eq_true rfl, Nat.le_of_ble_eq_true rfl⟩ (fun H locs hP hD hS => ?_)
  refine lv_aload_n hx hb dL_law_341 rfl (lv_at hl 2 rfl) ?_
  refine lv_aload_n hx hb dL_law_342 rfl (lv_at hl 0 rfl) ?_
  refine lv_iload_n hx hb dL_law_343 rfl (lv_at hl 3 rfl) ?_
  refine lv_iconst (v := 1) hx hb dL_law_344 (by decide +kernel) ?_
  refine lv_iadd hx hb dL_law_345 ?_
  refine va_sld hx hb hX hbl hbA hS hi1 dL_law_346 ?_
  refine lv_topi (fun y ey => ?_)
  obtain rfl : q = y := hq.trans ey.symm
  refine kz_miV (As := [.int q]) (rest := [.int (X3_pass_r V S Y R q)]) (b := o 0) (wr := [xoW x (a 0) (sv 0) (ah 0) (h 0) (t 0) V, shW G a (X3_pass_s1 V S Y R q), shW G sv Sv, shW G ah Sa, hsW G h (fun j => b j 0) (X3_pass_s2 V S Y R q), shW G (b 0) ((X3_pass_s3 V S Y R q) 0), shW G (b 1) ((X3_pass_s3 V S Y R q) 1), shW G (b 2) ((X3_pass_s3 V S Y R q) 2), shW G (b 3) ((X3_pass_s3 V S Y R q) 3), shW G (b 4) ((X3_pass_s3 V S Y R q) 4), shW G (b 5) ((X3_pass_s3 V S Y R q) 5), txW G t T]) (bs' := kl_W G x a sv ah h b t o V (X3_pass_s1 V S Y R q) Sv Sa (X3_pass_s2 V S Y R q) (X3_pass_s3 V S Y R q) T ((va_up (va_up (va_up M 0 (X4_pass_c0 (M 0) (M 1) (M 2 0) q)) 1 (X4_pass_c1 (M 0) (M 1) (M 2 0) q)) 2 (fun _ => (X4_pass_c2 (M 0) (M 1) (M 2 0) q))))) ⟨hx, hb, hml, hown, hts⟩ (c_X4_pass l G o M q (kl_MP I) (kl_pm I)) (cwV 1 hts gL_law_X4_pass rfl rfl rfl (by decide +kernel) ⟨Nat.le_of_ble_eq_true rfl, Nat.le_of_ble_eq_true rfl⟩) hK hP hD hS hA [12] [0, 1, 2, 3, 4, 5, 6, 7, 8, 9, 10, 11] [0, 1, 2, 3, 4, 5, 6, 7, 8, 9, 10, 11, 12] rfl (by decide) rfl (by decide) (by decide) rfl (by decide) (kz_recv hK (hP.sub (cs := [mdW G o M]) [12] rfl) (ci := 4) (q0 := 0) rfl rfl) rfl hl.1 rfl (Nat.le_of_ble_eq_true rfl) dL_law_347 ⟨Nat.le_of_ble_eq_true rfl, Nat.le_of_ble_eq_true rfl⟩ (fun H locs hP hD hS => ?_)
  obtain ⟨e9, I2⟩ := kl_p_pass I q
  refine lv_icmp_eq (tgt := 861) hx hb dL_law_350 (by decide) (fun _ => ?_) (fun c9 => absurd e9 c9)
  exact (KK _ _ _ _ _ _ _ _ I2) _ _ _ hP hD hS hl
set_option maxHeartbeats 1000000 in
set_option maxRecDepth 100000 in
theorem kl_c_call (C0 : kl_C p s m c bb L xs G) (hi : i + 4 ≤ L) (hL : L ≤ 2048) (I : kl_I V S Sv Y R T M) (KK : kl_K p l e s m below meth c bb G x a sv ah h t o b i) : kl_at p l e s m below meth c bb G x a sv ah h t o b i 355 V S Sv Sa Y R T M := by
  obtain ⟨hx, hb, hml, hown, hts, hX, hbl, hK, hZ⟩ := C0
  have hA : ∀ q : Nat, s.heap.size ≤ q → (fun q : Nat => s.heap.size ≤ q) q := fun _ h => h
  have hbA : ¬ (fun q : Nat => s.heap.size ≤ q) bb := Nat.not_le.mpr hbl
  intro H locs ls hP hD hS hl
  have hi1 : vp_in (nI i + 1) L := kl_in (k := 1) (by omega) hi hL
  obtain ⟨q, hq⟩ : ∃ z : Int32, z = xs (nI i + 1).toNatClampNeg := ⟨_, rfl⟩
  refine lv_aload_n hx hb dL_law_355 rfl (lv_at hl 1 rfl) ?_
  refine lv_aload_n hx hb dL_law_356 rfl (lv_at hl 0 rfl) ?_
  refine lv_iload_n hx hb dL_law_357 rfl (lv_at hl 3 rfl) ?_
  refine lv_iconst (v := 1) hx hb dL_law_358 (by decide +kernel) ?_
  refine lv_iadd hx hb dL_law_359 ?_
  refine va_sld hx hb hX hbl hbA hS hi1 dL_law_360 ?_
  refine lv_topi (fun y ey => ?_)
  obtain rfl : q = y := hq.trans ey.symm
  refine kz_miV (As := [.int q]) (rest := []) (b := x) (wr := [shW G sv Sv, shW G ah Sa, txW G t T, mdW G o M]) (bs' := kl_W G x a sv ah h b t o V (X3_call_s1 V S Y R q) Sv Sa (X3_call_s2 V S Y R q) (X3_call_s3 V S Y R q) T M) ⟨hx, hb, hml, hown, hts⟩ (c_X3_call l G x (sv 0) (ah 0) (t 0) V a S h Y b R q (kl_O I) (kl_Cn I)) (cwV 1 hts gL_law_X3_call rfl rfl rfl (by decide +kernel) ⟨Nat.le_of_ble_eq_true rfl, Nat.le_of_ble_eq_true rfl⟩) hK hP hD hS hA [0, 1, 4, 5, 6, 7, 8, 9, 10] [2, 3, 11, 12] [4, 5, 0, 1, 6, 7, 8, 9, 10, 11, 12, 2, 3] rfl (by decide) rfl (by decide) (by decide) rfl (by decide) (kz_recv hK hP (ci := 3) (q0 := 0) rfl rfl) rfl hl.1 rfl (Nat.le_of_ble_eq_true rfl) dL_law_361 ⟨Nat.le_of_ble_eq_true rfl, Nat.le_of_ble_eq_true rfl⟩ (fun H locs hP hD hS => ?_)
  refine lv_aload_n hx hb dL_law_364 rfl (lv_at hl 2 rfl) ?_
  refine lv_aload_n hx hb dL_law_365 rfl (lv_at hl 0 rfl) ?_
  refine lv_iload_n hx hb dL_law_366 rfl (lv_at hl 3 rfl) ?_
  refine lv_iconst (v := 1) hx hb dL_law_367 (by decide +kernel) ?_
  refine lv_iadd hx hb dL_law_368 ?_
  refine va_sld hx hb hX hbl hbA hS hi1 dL_law_369 ?_
  refine lv_topi (fun y ey => ?_)
  obtain rfl : q = y := hq.trans ey.symm
  refine kz_miV (As := [.int q]) (rest := [.int (X3_call_r V S Y R q)]) (b := o 0) (wr := [xoW x (a 0) (sv 0) (ah 0) (h 0) (t 0) V, shW G a (X3_call_s1 V S Y R q), shW G sv Sv, shW G ah Sa, hsW G h (fun j => b j 0) (X3_call_s2 V S Y R q), shW G (b 0) ((X3_call_s3 V S Y R q) 0), shW G (b 1) ((X3_call_s3 V S Y R q) 1), shW G (b 2) ((X3_call_s3 V S Y R q) 2), shW G (b 3) ((X3_call_s3 V S Y R q) 3), shW G (b 4) ((X3_call_s3 V S Y R q) 4), shW G (b 5) ((X3_call_s3 V S Y R q) 5), txW G t T]) (bs' := kl_W G x a sv ah h b t o V (X3_call_s1 V S Y R q) Sv Sa (X3_call_s2 V S Y R q) (X3_call_s3 V S Y R q) T ((va_up (va_up (va_up M 0 (X4_call_c0 (M 0) (M 1) (M 2 0) q)) 1 (X4_call_c1 (M 0) (M 1) (M 2 0) q)) 2 (fun _ => (X4_call_c2 (M 0) (M 1) (M 2 0) q))))) ⟨hx, hb, hml, hown, hts⟩ (c_X4_call l G o M q (kl_pm I)) (cwV 1 hts gL_law_X4_call rfl rfl rfl (by decide +kernel) ⟨Nat.le_of_ble_eq_true rfl, Nat.le_of_ble_eq_true rfl⟩) hK hP hD hS hA [12] [0, 1, 2, 3, 4, 5, 6, 7, 8, 9, 10, 11] [0, 1, 2, 3, 4, 5, 6, 7, 8, 9, 10, 11, 12] rfl (by decide) rfl (by decide) (by decide) rfl (by decide) (kz_recv hK (hP.sub (cs := [mdW G o M]) [12] rfl) (ci := 4) (q0 := 0) rfl rfl) rfl hl.1 rfl (Nat.le_of_ble_eq_true rfl) dL_law_370 ⟨Nat.le_of_ble_eq_true rfl, Nat.le_of_ble_eq_true rfl⟩ (fun H locs hP hD hS => ?_)
  obtain ⟨e9, I2⟩ := kl_p_call I q
  refine lv_icmp_eq (tgt := 861) hx hb dL_law_373 (by decide) (fun _ => ?_) (fun c9 => absurd e9 c9)
  exact (KK _ _ _ _ _ _ _ _ I2) _ _ _ hP hD hS hl
end KL
