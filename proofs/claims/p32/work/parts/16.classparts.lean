theorem kz_back {x : Int32} {n : Nat} (h : vp_in x n) (hn : n < 2 ^ 31) : x = nI x.toNatClampNeg ∧ x.toNatClampNeg < n := by
  obtain ⟨j, hj, rfl⟩ := vp_in_of h hn
  rw [nI_clamp (by omega)]
  exact ⟨rfl, hj⟩
theorem kz_wiE {x y : Int32} {n : Nat} (h : X3_isWithin_p x 0 y) (hy : y = nI n) (hn : n < 2 ^ 30) : ∃ j, j ≤ n ∧ x = nI j := by
  subst hy
  obtain ⟨j, hj, rfl⟩ := nI_of h.1
  exact ⟨j, kz_ge h.2 (by omega) hj, rfl⟩
theorem kz_wiIn {x y : Int32} (n : Nat) (h : X3_isWithin_p x 0 y) (hy : y = nI n) (hn : n < 2 ^ 30) : vp_in x (n + 1) := by
  obtain ⟨j, hj, rfl⟩ := kz_wiE h hy hn
  exact vp_in_nI (by omega) (by omega)
theorem kz_wi1 {x y : Int32} {n : Nat} (h : X3_isWithin_p x 1 y) (hy : y = nI n) (hn : n < 2 ^ 30) : ∃ j, j < n ∧ x = nI (j + 1) := by
  subst hy
  have h1 : ¬ x < 0 := fun q => h.1 (Int32.lt_trans q (by decide))
  obtain ⟨j, hj, rfl⟩ := nI_of h1
  have h2 := kz_ge (a := j) (b := 1) h.1 hj (by omega)
  have h3 := kz_ge h.2 (by omega) hj
  exact ⟨j - 1, by omega, by rw [show j - 1 + 1 = j by omega]⟩
theorem kz_wi1In {x y : Int32} (n : Nat) (h : X3_isWithin_p x 1 y) (hy : y = nI n) (hn : n < 2 ^ 30) : vp_in x (n + 1) := by
  obtain ⟨j, hj, rfl⟩ := kz_wi1 h hy hn
  exact vp_in_nI (by omega) (by omega)
theorem kz_ff_in (P : Nat → Prop) [DecidablePred P] (nf : Int32) : ∀ n i, kz_ff P nf i n = nf ∨ ∃ j, i ≤ j ∧ j < i + n ∧ P j ∧ kz_ff P nf i n = nI j
  | 0, i => Or.inl rfl
  | n + 1, i => by
    rw [kz_ff]
    split
    · rename_i h
      exact Or.inr ⟨i, Nat.le_refl i, by omega, h, rfl⟩
    · rcases kz_ff_in P nf n (i + 1) with e | ⟨j, h1, h2, h3, e⟩
      · exact Or.inl e
      · exact Or.inr ⟨j, by omega, by omega, h3, e⟩
theorem kz_giveIn {S : kz_S} {p q : Nat} (hq : q < 6) (h : ¬ X1_placeToGive_r S p q = (-1)) : vp_in (X1_placeToGive_r S p q) 48 := by
  rcases kz_ff_in (X1_give_p S) (-1) (8 * (q + 1) - 8 * p) (8 * p) with e | ⟨j, h1, h2, h3, e⟩
  · exact absurd e h
  · rw [X1_placeToGive_r, e]
    exact vp_in_nI (by omega) (by decide)
theorem kz_pwIn {S : kz_S} {code : Int32} (h : ¬ X1_placeWith_r S code = (-1)) : vp_in (X1_placeWith_r S code) 48 := by
  rw [X1_placeWith_r] at h ⊢
  by_cases c1 : 0 ≤ X3_indexOfCode_r code
  · rw [if_pos c1] at h ⊢
    split
    · exact kz_ixIn c1
    · rename_i c2
      rw [if_neg c2] at h
      exact absurd rfl h
  · rw [if_neg c1] at h
    exact absurd rfl h
theorem kz_icIn {code : Int32} (h : ¬ X3_indexOfCode_r code < 0) : vp_in (X3_indexOfCode_r code) 336 := by
  rw [X3_indexOfCode_r] at h ⊢
  by_cases c1 : X3_isWithin_p code 0 9999
  · rw [if_pos c1] at h ⊢
    by_cases c2 : X3_isWithin_p (code / 1000) 1 7
    · rw [if_pos c2] at h ⊢
      by_cases c3 : X3_isPlace_p (kz_rem (code / 100) 10) (kz_rem (code / 10) 10)
      · rw [if_pos c3] at h ⊢
        obtain ⟨w, hw, e1⟩ := kz_wi1 (n := 7) c2 rfl (by decide)
        obtain ⟨s, hs, e2⟩ := kz_wiE (n := 5) c3.1 rfl (by decide)
        obtain ⟨q, hq, e3⟩ := kz_wiE (n := 7) c3.2 rfl (by decide)
        split
        · rw [e1, e2, e3, kz_e4, X3_indexFor_r, kz_ixN]
          exact vp_in_nI (by omega) (by decide)
        · rename_i c4
          rw [if_neg c4] at h
          exact absurd (by decide) h
      · rw [if_neg c3] at h
        exact absurd (by decide) h
    · rw [if_neg c2] at h
      exact absurd (by decide) h
  · rw [if_neg c1] at h
    exact absurd (by decide) h
theorem kz_fs2 {z : Int32} (h : X3_isWithin_p z 0 2) : X3_firstShelfFor_r z = nI (2 * z.toNatClampNeg) := by
  obtain ⟨j, hj, rfl⟩ := kz_wiE (n := 2) h rfl (by decide)
  rw [nI_clamp (by omega), X3_firstShelfFor_r]
  exact (pk_mul j 2).trans (by rw [Nat.mul_comm])
theorem kz_chrN {x : Int32} (h : X3_isWithin_p x 33 126) : kz_chr x = nI x.toNatClampNeg ∧ x.toNatClampNeg < 128 := by
  have h1 : ¬ x < 0 := fun q => h.1 (Int32.lt_trans q (by decide))
  obtain ⟨j, hj, rfl⟩ := nI_of h1
  have h3 := kz_ge (a := 126) (b := j) h.2 (by omega) hj
  rw [nI_clamp hj]
  refine ⟨?_, by omega⟩
  rw [kz_chr, pk_char, pk_tn (by omega), Nat.mod_eq_of_lt (by omega)]
theorem kz_put5 {S : kz_S} {j k : Nat} {q z d : Int32} (ht : ∃ d, d < 2 ^ 30 ∧ S 1 0 = nI d) (hJ : kz_J S) (hk : k < 48) : ∃ w, w < 8 ∧ X1_put_s S j q z d 5 k = nI w := by
  show ∃ w, w < 8 ∧ upd (S 5) j (X3_weekdayOf_r (S 1 0)) k = nI w
  by_cases e : k = j
  · subst e
    obtain ⟨d, hd, e⟩ := ht
    exact ⟨d % 7 + 1, by omega, by rw [pk_us, e, X3_weekdayOf_r, kz_wdN hd]⟩
  · rw [pk_un e]; exact hJ.1 k hk
theorem kz_cpos {Y : kz_S} (h : ∃ c, c ≤ 5 ∧ Y 2 0 = nI c) (h0 : ¬ Y 2 0 = 0) : ∃ c, c < 5 ∧ Y 2 0 = nI (c + 1) := by
  obtain ⟨c, hc, e⟩ := h
  cases c with
  | zero => exact absurd (e.trans nI_0) h0
  | succ c => exact ⟨c, by omega, e⟩

def X3_refuseFor_s (V : kz_S) (y : Int32) (z : Int32) : kz_S := (va_up (va_up V 6 (fun _ => y)) 7 (fun _ => z))
set_option maxHeartbeats 4000000 in
set_option maxRecDepth 100000 in
theorem c_X3_refuseFor (l : Launch) (G : kz_G) (x : Nat) (u0 : Nat) (u1 : Nat) (u2 : Nat) (u3 : Nat) (u4 : Nat) (V : kz_S) (y : Int32) (z : Int32) : kz_mv l G yX3_refuseFor wsX3_refuseFor 0 0 [.ref x, .int y, .int z] [xoW x u0 u1 u2 u3 u4 V] [xoW x u0 u1 u2 u3 u4 (X3_refuseFor_s V y z)] := by
  intro sz
  refine Met.ofW (cc := cX3_refuseFor) (maxL := 3) (ret := none) (by decide) rfl ?_
  intro p e s m args below meth c s₁ B hml hv
  obtain ⟨rfl, hsz, hP, hK, hD0⟩ := hv
  have hx := B.exec
  have hb := B.bytes
  have hr := B.returns
  have hts := atoms_spec (ws := wsX3_refuseFor) B.pre
  have hown : s.vm.findClass RX3 = some m.cls := findClass_of_methodNamed B.named
  have hlocks := B.notSynchronized
  have hinX3 : ∀ w ∈ u_ws RX3 TX3 8, w ∈ wsX3_refuseFor := by decide +kernel
  subst hsz
  have hD := hD0.self (sz := s.heap.size)
  generalize hAe : kz_A [xoW x u0 u1 u2 u3 u4 V] s.heap.size = A at hD ⊢
  have hA : ∀ q : Nat, s.heap.size ≤ q → A q := fun q h => by rw [← hAe]; exact Or.inr h
  have hS : va_S A s.heap s.heap [] := va_S.rf
  have hl := lv_entry ([.ref x, .int y, .int z]) (n := 3) (Nat.le_of_ble_eq_true rfl)
  rw [lg_entry_eq]
  generalize (lg_sl ([.ref x, .int y, .int z]) ++ List.replicate (3 - (lg_sl ([.ref x, .int y, .int z])).length) Slot.unset).toArray = ls at hl ⊢
  have hl : lv_has ls 3 [(0, .ref x), (1, .int y), (2, .int z)] := hl
  refine kz_start (fun QQ hQ => ?_)
  have hP : kz_P G [xoW x u0 u1 u2 u3 u4 V] s.heap := hP
  refine lv_aload_n hx hb dX3_refuseFor_0 rfl (lv_at hl 0 rfl) ?_
  refine lv_iload_n hx hb dX3_refuseFor_1 rfl (lv_at hl 1 rfl) ?_
  refine va_put (D := G.1) (ci := 3) (v := .int y) (ty := .int) (C := RX3) (T := TX3) (N := 8) hx hb hts hinX3 tyX3 tyX3_ok nmX3 hown hK.1 hP hD hS 0 rfl rfl 6 (by decide) (hts (.fieldLink RX3 40 "ParcelShelves" "reason" "I") (by decide +kernel)) (fun _ h9 => h9) rfl (by decide +kernel) rfl rfl (Nat.le_of_ble_eq_true rfl) dX3_refuseFor_2 (fun H locs hP hD hS => ?_)
  have hP : kz_P G [xoW x u0 u1 u2 u3 u4 (va_up V 6 (fun _ => y))] H := hP
  have hD : kz_D A [xoW x u0 u1 u2 u3 u4 (va_up V 6 (fun _ => y))] := hD
  refine lv_aload_n hx hb dX3_refuseFor_5 rfl (lv_at hl 0 rfl) ?_
  refine lv_iload_n hx hb dX3_refuseFor_6 rfl (lv_at hl 2 rfl) ?_
  refine va_put (D := G.1) (ci := 3) (v := .int z) (ty := .int) (C := RX3) (T := TX3) (N := 8) hx hb hts hinX3 tyX3 tyX3_ok nmX3 hown hK.1 hP hD hS 0 rfl rfl 7 (by decide) (hts (.fieldLink RX3 44 "ParcelShelves" "behind" "I") (by decide +kernel)) (fun _ h9 => h9) rfl (by decide +kernel) rfl rfl (Nat.le_of_ble_eq_true rfl) dX3_refuseFor_7 (fun H locs hP hD hS => ?_)
  have hP : kz_P G [xoW x u0 u1 u2 u3 u4 (va_up (va_up V 6 (fun _ => y)) 7 (fun _ => z))] H := hP
  have hD : kz_D A [xoW x u0 u1 u2 u3 u4 (va_up (va_up V 6 (fun _ => y)) 7 (fun _ => z))] := hD
  subst hQ
  have hP9 : kz_P G [xoW x u0 u1 u2 u3 u4 (X3_refuseFor_s V y z)] H := hP
  have hD9 : kz_D A [xoW x u0 u1 u2 u3 u4 (X3_refuseFor_s V y z)] := hD
  exact W.vret hx hb hr (fun t ht hW => ⟨⟨(), rfl, trivial, by rw [ht]; exact hP9, hD9⟩, hS.F ht⟩) hS.2.2 dX3_refuseFor_10
def X3_refuseForNoPlace_s (V : kz_S) (S : kz_S) (p0 : Nat) (q : Nat) : kz_S := if X1_hasFreePlace_p S p0 q then (X3_refuseFor_s V 1 5) else (X3_refuseFor_s V 1 6)
set_option maxHeartbeats 4000000 in
set_option maxRecDepth 100000 in
theorem c_X3_refuseForNoPlace (l : Launch) (G : kz_G) (x : Nat) (u1 : Nat) (u2 : Nat) (u3 : Nat) (u4 : Nat) (V : kz_S) (a : Nat → Nat) (S : kz_S) (p0 : Nat) (q : Nat) (hp : p0 < 6) (hq : q < 6) : kz_mv l G yX3_refuseForNoPlace wsX3_refuseForNoPlace 2 45 [.ref x, .int (nI p0), .int (nI q)] [xoW x (a 0) u1 u2 u3 u4 V, shW G a S] [xoW x (a 0) u1 u2 u3 u4 (X3_refuseForNoPlace_s V S p0 q), shW G a S] := by
  intro sz
  refine Met.ofW (cc := cX3_refuseForNoPlace) (maxL := 4) (ret := none) (by decide) rfl ?_
  intro p e s m args below meth c s₁ B hml hv
  obtain ⟨rfl, hsz, hP, hK, hD0⟩ := hv
  have hx := B.exec
  have hb := B.bytes
  have hr := B.returns
  have hts := atoms_spec (ws := wsX3_refuseForNoPlace) B.pre
  have hown : s.vm.findClass RX3 = some m.cls := findClass_of_methodNamed B.named
  have hlocks := B.notSynchronized
  have hinX3 : ∀ w ∈ u_ws RX3 TX3 8, w ∈ wsX3_refuseForNoPlace := by decide +kernel
  subst hsz
  have hD := hD0.self (sz := s.heap.size)
  generalize hAe : kz_A [xoW x (a 0) u1 u2 u3 u4 V, shW G a S] s.heap.size = A at hD ⊢
  have hA : ∀ q : Nat, s.heap.size ≤ q → A q := fun q h => by rw [← hAe]; exact Or.inr h
  have hS : va_S A s.heap s.heap [] := va_S.rf
  have hl := lv_entry ([.ref x, .int (nI p0), .int (nI q)]) (n := 4) (Nat.le_of_ble_eq_true rfl)
  rw [lg_entry_eq]
  generalize (lg_sl ([.ref x, .int (nI p0), .int (nI q)]) ++ List.replicate (4 - (lg_sl ([.ref x, .int (nI p0), .int (nI q)])).length) Slot.unset).toArray = ls at hl ⊢
  have hl : lv_has ls 4 [(0, .ref x), (1, .int (nI p0)), (2, .int (nI q))] := hl
  refine kz_start (fun QQ hQ => ?_)
  have hP : kz_P G [xoW x (a 0) u1 u2 u3 u4 V, shW G a S] s.heap := hP
  refine lv_aload_n hx hb dX3_refuseForNoPlace_0 rfl (lv_at hl 0 rfl) ?_
  refine va_get (D := G.1) (ci := 3) (v := .ref (a 0)) (C := RX3) (T := TX3) (N := 8) hx hb hts hinX3 hown hK.1 hP 0 rfl rfl 0 (by decide) (hts (.fieldLink RX3 12 "ParcelShelves" "now" "LParcelShelves$Shop;") (by decide +kernel)) (fun _ h9 => h9) rfl dX3_refuseForNoPlace_1 ?_
  refine lv_iload_n hx hb dX3_refuseForNoPlace_4 rfl (lv_at hl 1 rfl) ?_
  refine lv_iload_n hx hb dX3_refuseForNoPlace_5 rfl (lv_at hl 2 rfl) ?_
  refine kz_rdV (As := [.int (nI p0), .int (nI q)]) (rest := []) (b := a 0) ⟨hx, hb, hml, hown, hts⟩ (c_X1_hasFreePlace l G a S p0 q (by omega) (by omega)) (cwV 2 hts gX3_refuseForNoPlace_X1_hasFreePlace rfl rfl rfl (by decide +kernel) ⟨Nat.le_of_ble_eq_true rfl, Nat.le_of_ble_eq_true rfl⟩) hK (hP.sub (cs := [shW G a S]) [1] rfl) (kz_recv hK hP (ci := 1) (q0 := 1) rfl rfl) rfl hl.1 rfl (Nat.le_of_ble_eq_true rfl) dX3_refuseForNoPlace_6 ⟨Nat.le_of_ble_eq_true rfl, Nat.le_of_ble_eq_true rfl⟩ ?_
  refine lv_topi (fun y_1 ey_2 => ?_)
  by_cases c_3 : X1_hasFreePlace_p S p0 q
  · rw [if_pos c_3] at ey_2
    subst ey_2
    refine lv_istore_n (lv' := [(3, .int 1), (0, .ref x), (1, .int (nI p0)), (2, .int (nI q))]) hx hb dX3_refuseForNoPlace_9 rfl hl (by decide) rfl (fun ls hl => ?_)
    refine lv_aload_n hx hb dX3_refuseForNoPlace_10 rfl (lv_at hl 1 rfl) ?_
    refine lv_iconst (v := 1) hx hb dX3_refuseForNoPlace_11 (by decide +kernel) ?_
    refine lv_iload_n hx hb dX3_refuseForNoPlace_12 rfl (lv_at hl 0 rfl) ?_
    refine lv_if_eq (tgt := 20) hx hb dX3_refuseForNoPlace_13 (by decide) (fun c => absurd c (by decide)) (fun _ => ?_)
    refine lv_iconst (v := 5) hx hb dX3_refuseForNoPlace_16 (by decide +kernel) ?_
    refine lv_goto (tgt := 22) hx hb dX3_refuseForNoPlace_17 (by decide) ?_
    refine kz_mvV (As := [.int 1, .int 5]) (rest := []) (b := x) (wr := [shW G a S]) (bs' := [xoW x (a 0) u1 u2 u3 u4 (X3_refuseFor_s V 1 5), shW G a S]) ⟨hx, hb, hml, hown, hts⟩ (c_X3_refuseFor l G x (a 0) u1 u2 u3 u4 V 1 5) (cwV 2 hts gX3_refuseForNoPlace_X3_refuseFor rfl rfl rfl (by decide +kernel) ⟨Nat.le_of_ble_eq_true rfl, Nat.le_of_ble_eq_true rfl⟩) hK hP hD hS hA [0] [1] [1, 0] rfl (by decide) rfl (by decide) (by decide) rfl (by decide) (kz_recv hK hP (ci := 3) (q0 := 0) rfl rfl) rfl hl.1 rfl (Nat.le_of_ble_eq_true rfl) dX3_refuseForNoPlace_22 ⟨Nat.le_of_ble_eq_true rfl, Nat.le_of_ble_eq_true rfl⟩ (fun H locs hP hD hS => ?_)
    subst hQ
    have hP9 : kz_P G [xoW x (a 0) u1 u2 u3 u4 (X3_refuseForNoPlace_s V S p0 q), shW G a S] H := by rw [X3_refuseForNoPlace_s, if_pos c_3]; exact hP
    have hD9 : kz_D A [xoW x (a 0) u1 u2 u3 u4 (X3_refuseForNoPlace_s V S p0 q), shW G a S] := by rw [X3_refuseForNoPlace_s, if_pos c_3]; exact hD
    exact W.vret hx hb hr (fun t ht hW => ⟨⟨(), rfl, trivial, by rw [ht]; exact hP9, hD9⟩, hS.F ht⟩) hS.2.2 dX3_refuseForNoPlace_25
  · rw [if_neg c_3] at ey_2
    subst ey_2
    refine lv_istore_n (lv' := [(3, .int 0), (0, .ref x), (1, .int (nI p0)), (2, .int (nI q))]) hx hb dX3_refuseForNoPlace_9 rfl hl (by decide) rfl (fun ls hl => ?_)
    refine lv_aload_n hx hb dX3_refuseForNoPlace_10 rfl (lv_at hl 1 rfl) ?_
    refine lv_iconst (v := 1) hx hb dX3_refuseForNoPlace_11 (by decide +kernel) ?_
    refine lv_iload_n hx hb dX3_refuseForNoPlace_12 rfl (lv_at hl 0 rfl) ?_
    refine lv_if_eq (tgt := 20) hx hb dX3_refuseForNoPlace_13 (by decide) (fun _ => ?_) (fun c => absurd c (by decide))
    refine lv_bipush (v := 6) hx hb dX3_refuseForNoPlace_20 (by decide +kernel) ?_
    refine kz_mvV (As := [.int 1, .int 6]) (rest := []) (b := x) (wr := [shW G a S]) (bs' := [xoW x (a 0) u1 u2 u3 u4 (X3_refuseFor_s V 1 6), shW G a S]) ⟨hx, hb, hml, hown, hts⟩ (c_X3_refuseFor l G x (a 0) u1 u2 u3 u4 V 1 6) (cwV 2 hts gX3_refuseForNoPlace_X3_refuseFor rfl rfl rfl (by decide +kernel) ⟨Nat.le_of_ble_eq_true rfl, Nat.le_of_ble_eq_true rfl⟩) hK hP hD hS hA [0] [1] [1, 0] rfl (by decide) rfl (by decide) (by decide) rfl (by decide) (kz_recv hK hP (ci := 3) (q0 := 0) rfl rfl) rfl hl.1 rfl (Nat.le_of_ble_eq_true rfl) dX3_refuseForNoPlace_22 ⟨Nat.le_of_ble_eq_true rfl, Nat.le_of_ble_eq_true rfl⟩ (fun H locs hP hD hS => ?_)
    subst hQ
    have hP9 : kz_P G [xoW x (a 0) u1 u2 u3 u4 (X3_refuseForNoPlace_s V S p0 q), shW G a S] H := by rw [X3_refuseForNoPlace_s, if_neg c_3]; exact hP
    have hD9 : kz_D A [xoW x (a 0) u1 u2 u3 u4 (X3_refuseForNoPlace_s V S p0 q), shW G a S] := by rw [X3_refuseForNoPlace_s, if_neg c_3]; exact hD
    exact W.vret hx hb hr (fun t ht hW => ⟨⟨(), rfl, trivial, by rw [ht]; exact hP9, hD9⟩, hS.F ht⟩) hS.2.2 dX3_refuseForNoPlace_25
def X3_refuseForNoParcel_s (V : kz_S) (S : kz_S) (code : Int32) : kz_S := if (X3_indexOfCode_r code) < 0 then (X3_refuseFor_s V 4 (-6)) else if X1_rests_p S (X3_indexOfCode_r code) then (X3_refuseFor_s V 4 5) else (X3_refuseFor_s V 4 (-6))
set_option maxHeartbeats 4000000 in
set_option maxRecDepth 100000 in
theorem c_X3_refuseForNoParcel (l : Launch) (G : kz_G) (x : Nat) (u1 : Nat) (u2 : Nat) (u3 : Nat) (u4 : Nat) (V : kz_S) (a : Nat → Nat) (S : kz_S) (code : Int32) : kz_mv l G yX3_refuseForNoParcel wsX3_refuseForNoParcel 3 66 [.ref x, .int code] [xoW x (a 0) u1 u2 u3 u4 V, shW G a S] [xoW x (a 0) u1 u2 u3 u4 (X3_refuseForNoParcel_s V S code), shW G a S] := by
  intro sz
  refine Met.ofW (cc := cX3_refuseForNoParcel) (maxL := 4) (ret := none) (by decide) rfl ?_
  intro p e s m args below meth c s₁ B hml hv
  obtain ⟨rfl, hsz, hP, hK, hD0⟩ := hv
  have hx := B.exec
  have hb := B.bytes
  have hr := B.returns
  have hts := atoms_spec (ws := wsX3_refuseForNoParcel) B.pre
  have hown : s.vm.findClass RX3 = some m.cls := findClass_of_methodNamed B.named
  have hlocks := B.notSynchronized
  have hinX3 : ∀ w ∈ u_ws RX3 TX3 8, w ∈ wsX3_refuseForNoParcel := by decide +kernel
  subst hsz
  have hD := hD0.self (sz := s.heap.size)
  generalize hAe : kz_A [xoW x (a 0) u1 u2 u3 u4 V, shW G a S] s.heap.size = A at hD ⊢
  have hA : ∀ q : Nat, s.heap.size ≤ q → A q := fun q h => by rw [← hAe]; exact Or.inr h
  have hS : va_S A s.heap s.heap [] := va_S.rf
  have hl := lv_entry ([.ref x, .int code]) (n := 4) (Nat.le_of_ble_eq_true rfl)
  rw [lg_entry_eq]
  generalize (lg_sl ([.ref x, .int code]) ++ List.replicate (4 - (lg_sl ([.ref x, .int code])).length) Slot.unset).toArray = ls at hl ⊢
  have hl : lv_has ls 4 [(0, .ref x), (1, .int code)] := hl
  refine kz_start (fun QQ hQ => ?_)
  have hP : kz_P G [xoW x (a 0) u1 u2 u3 u4 V, shW G a S] s.heap := hP
  refine lv_iload_n hx hb dX3_refuseForNoParcel_0 rfl (lv_at hl 1 rfl) ?_
  refine kz_rdS (As := [.int code]) (rest := []) ⟨hx, hb, hml, hown, hts⟩ (c_X3_indexOfCode l G code) (va_cwS 1 hts gX3_refuseForNoParcel_X3_indexOfCode rfl rfl rfl (by decide +kernel) ⟨Nat.le_of_ble_eq_true rfl, Nat.le_of_ble_eq_true rfl⟩) hK (hP.sub (cs := []) [] rfl) rfl hl.1 rfl (Nat.le_of_ble_eq_true rfl) dX3_refuseForNoParcel_1 ⟨Nat.le_of_ble_eq_true rfl, Nat.le_of_ble_eq_true rfl⟩ ?_
  refine lv_istore_n (lv' := [(2, .int (X3_indexOfCode_r code)), (0, .ref x), (1, .int code)]) hx hb dX3_refuseForNoParcel_4 rfl hl (by decide) rfl (fun ls hl => ?_)
  refine lv_iload_n hx hb dX3_refuseForNoParcel_5 rfl (lv_at hl 0 rfl) ?_
  refine lv_if_lt (tgt := 24) hx hb dX3_refuseForNoParcel_6 (by decide) (fun c_1 => ?_) (fun c_1 => ?_)
  · refine lv_iconst (v := 0) hx hb dX3_refuseForNoParcel_24 (by decide +kernel) ?_
    refine lv_istore_n (lv' := [(3, .int 0), (2, .int (X3_indexOfCode_r code)), (0, .ref x), (1, .int code)]) hx hb dX3_refuseForNoParcel_25 rfl hl (by decide) rfl (fun ls hl => ?_)
    refine lv_aload_n hx hb dX3_refuseForNoParcel_26 rfl (lv_at hl 2 rfl) ?_
    refine lv_iconst (v := 4) hx hb dX3_refuseForNoParcel_27 (by decide +kernel) ?_
    refine lv_iload_n hx hb dX3_refuseForNoParcel_28 rfl (lv_at hl 0 rfl) ?_
    refine lv_if_eq (tgt := 36) hx hb dX3_refuseForNoParcel_29 (by decide) (fun _ => ?_) (fun c => absurd c (by decide))
    refine lv_bipush (v := (-6)) hx hb dX3_refuseForNoParcel_36 (by decide +kernel) ?_
    refine kz_mvV (As := [.int 4, .int (-6)]) (rest := []) (b := x) (wr := [shW G a S]) (bs' := [xoW x (a 0) u1 u2 u3 u4 (X3_refuseFor_s V 4 (-6)), shW G a S]) ⟨hx, hb, hml, hown, hts⟩ (c_X3_refuseFor l G x (a 0) u1 u2 u3 u4 V 4 (-6)) (cwV 2 hts gX3_refuseForNoParcel_X3_refuseFor rfl rfl rfl (by decide +kernel) ⟨Nat.le_of_ble_eq_true rfl, Nat.le_of_ble_eq_true rfl⟩) hK hP hD hS hA [0] [1] [1, 0] rfl (by decide) rfl (by decide) (by decide) rfl (by decide) (kz_recv hK hP (ci := 3) (q0 := 0) rfl rfl) rfl hl.1 rfl (Nat.le_of_ble_eq_true rfl) dX3_refuseForNoParcel_38 ⟨Nat.le_of_ble_eq_true rfl, Nat.le_of_ble_eq_true rfl⟩ (fun H locs hP hD hS => ?_)
    subst hQ
    have hP9 : kz_P G [xoW x (a 0) u1 u2 u3 u4 (X3_refuseForNoParcel_s V S code), shW G a S] H := by rw [X3_refuseForNoParcel_s, if_pos c_1]; exact hP
    have hD9 : kz_D A [xoW x (a 0) u1 u2 u3 u4 (X3_refuseForNoParcel_s V S code), shW G a S] := by rw [X3_refuseForNoParcel_s, if_pos c_1]; exact hD
    exact W.vret hx hb hr (fun t ht hW => ⟨⟨(), rfl, trivial, by rw [ht]; exact hP9, hD9⟩, hS.F ht⟩) hS.2.2 dX3_refuseForNoParcel_41
  · refine lv_aload_n hx hb dX3_refuseForNoParcel_9 rfl (lv_at hl 1 rfl) ?_
    refine va_get (D := G.1) (ci := 3) (v := .ref (a 0)) (C := RX3) (T := TX3) (N := 8) hx hb hts hinX3 hown hK.1 hP 0 rfl rfl 0 (by decide) (hts (.fieldLink RX3 12 "ParcelShelves" "now" "LParcelShelves$Shop;") (by decide +kernel)) (fun _ h9 => h9) rfl dX3_refuseForNoParcel_10 ?_
    refine lv_iload_n hx hb dX3_refuseForNoParcel_13 rfl (lv_at hl 0 rfl) ?_
    refine kz_rdV (As := [.int (X3_indexOfCode_r code)]) (rest := []) (b := a 0) ⟨hx, hb, hml, hown, hts⟩ (c_X1_rests l G a S (X3_indexOfCode_r code) (kz_icIn c_1)) (cwV 1 hts gX3_refuseForNoParcel_X1_rests rfl rfl rfl (by decide +kernel) ⟨Nat.le_of_ble_eq_true rfl, Nat.le_of_ble_eq_true rfl⟩) hK (hP.sub (cs := [shW G a S]) [1] rfl) (kz_recv hK hP (ci := 1) (q0 := 1) rfl rfl) rfl hl.1 rfl (Nat.le_of_ble_eq_true rfl) dX3_refuseForNoParcel_14 ⟨Nat.le_of_ble_eq_true rfl, Nat.le_of_ble_eq_true rfl⟩ ?_
    refine lv_topi (fun y_2 ey_3 => ?_)
    by_cases c_4 : X1_rests_p S (X3_indexOfCode_r code)
    · rw [if_pos c_4] at ey_3
      subst ey_3
      refine lv_if_eq (tgt := 24) hx hb dX3_refuseForNoParcel_17 (by decide) (fun c => absurd c (by decide)) (fun _ => ?_)
      refine lv_iconst (v := 1) hx hb dX3_refuseForNoParcel_20 (by decide +kernel) ?_
      refine lv_goto (tgt := 25) hx hb dX3_refuseForNoParcel_21 (by decide) ?_
      refine lv_istore_n (lv' := [(3, .int 1), (2, .int (X3_indexOfCode_r code)), (0, .ref x), (1, .int code)]) hx hb dX3_refuseForNoParcel_25 rfl hl (by decide) rfl (fun ls hl => ?_)
      refine lv_aload_n hx hb dX3_refuseForNoParcel_26 rfl (lv_at hl 2 rfl) ?_
      refine lv_iconst (v := 4) hx hb dX3_refuseForNoParcel_27 (by decide +kernel) ?_
      refine lv_iload_n hx hb dX3_refuseForNoParcel_28 rfl (lv_at hl 0 rfl) ?_
      refine lv_if_eq (tgt := 36) hx hb dX3_refuseForNoParcel_29 (by decide) (fun c => absurd c (by decide)) (fun _ => ?_)
      refine lv_iconst (v := 5) hx hb dX3_refuseForNoParcel_32 (by decide +kernel) ?_
      refine lv_goto (tgt := 38) hx hb dX3_refuseForNoParcel_33 (by decide) ?_
      refine kz_mvV (As := [.int 4, .int 5]) (rest := []) (b := x) (wr := [shW G a S]) (bs' := [xoW x (a 0) u1 u2 u3 u4 (X3_refuseFor_s V 4 5), shW G a S]) ⟨hx, hb, hml, hown, hts⟩ (c_X3_refuseFor l G x (a 0) u1 u2 u3 u4 V 4 5) (cwV 2 hts gX3_refuseForNoParcel_X3_refuseFor rfl rfl rfl (by decide +kernel) ⟨Nat.le_of_ble_eq_true rfl, Nat.le_of_ble_eq_true rfl⟩) hK hP hD hS hA [0] [1] [1, 0] rfl (by decide) rfl (by decide) (by decide) rfl (by decide) (kz_recv hK hP (ci := 3) (q0 := 0) rfl rfl) rfl hl.1 rfl (Nat.le_of_ble_eq_true rfl) dX3_refuseForNoParcel_38 ⟨Nat.le_of_ble_eq_true rfl, Nat.le_of_ble_eq_true rfl⟩ (fun H locs hP hD hS => ?_)
      subst hQ
      have hP9 : kz_P G [xoW x (a 0) u1 u2 u3 u4 (X3_refuseForNoParcel_s V S code), shW G a S] H := by rw [X3_refuseForNoParcel_s, if_neg c_1, if_pos c_4]; exact hP
      have hD9 : kz_D A [xoW x (a 0) u1 u2 u3 u4 (X3_refuseForNoParcel_s V S code), shW G a S] := by rw [X3_refuseForNoParcel_s, if_neg c_1, if_pos c_4]; exact hD
      exact W.vret hx hb hr (fun t ht hW => ⟨⟨(), rfl, trivial, by rw [ht]; exact hP9, hD9⟩, hS.F ht⟩) hS.2.2 dX3_refuseForNoParcel_41
    · rw [if_neg c_4] at ey_3
      subst ey_3
      refine lv_if_eq (tgt := 24) hx hb dX3_refuseForNoParcel_17 (by decide) (fun _ => ?_) (fun c => absurd c (by decide))
      refine lv_iconst (v := 0) hx hb dX3_refuseForNoParcel_24 (by decide +kernel) ?_
      refine lv_istore_n (lv' := [(3, .int 0), (2, .int (X3_indexOfCode_r code)), (0, .ref x), (1, .int code)]) hx hb dX3_refuseForNoParcel_25 rfl hl (by decide) rfl (fun ls hl => ?_)
      refine lv_aload_n hx hb dX3_refuseForNoParcel_26 rfl (lv_at hl 2 rfl) ?_
      refine lv_iconst (v := 4) hx hb dX3_refuseForNoParcel_27 (by decide +kernel) ?_
      refine lv_iload_n hx hb dX3_refuseForNoParcel_28 rfl (lv_at hl 0 rfl) ?_
      refine lv_if_eq (tgt := 36) hx hb dX3_refuseForNoParcel_29 (by decide) (fun _ => ?_) (fun c => absurd c (by decide))
      refine lv_bipush (v := (-6)) hx hb dX3_refuseForNoParcel_36 (by decide +kernel) ?_
      refine kz_mvV (As := [.int 4, .int (-6)]) (rest := []) (b := x) (wr := [shW G a S]) (bs' := [xoW x (a 0) u1 u2 u3 u4 (X3_refuseFor_s V 4 (-6)), shW G a S]) ⟨hx, hb, hml, hown, hts⟩ (c_X3_refuseFor l G x (a 0) u1 u2 u3 u4 V 4 (-6)) (cwV 2 hts gX3_refuseForNoParcel_X3_refuseFor rfl rfl rfl (by decide +kernel) ⟨Nat.le_of_ble_eq_true rfl, Nat.le_of_ble_eq_true rfl⟩) hK hP hD hS hA [0] [1] [1, 0] rfl (by decide) rfl (by decide) (by decide) rfl (by decide) (kz_recv hK hP (ci := 3) (q0 := 0) rfl rfl) rfl hl.1 rfl (Nat.le_of_ble_eq_true rfl) dX3_refuseForNoParcel_38 ⟨Nat.le_of_ble_eq_true rfl, Nat.le_of_ble_eq_true rfl⟩ (fun H locs hP hD hS => ?_)
      subst hQ
      have hP9 : kz_P G [xoW x (a 0) u1 u2 u3 u4 (X3_refuseForNoParcel_s V S code), shW G a S] H := by rw [X3_refuseForNoParcel_s, if_neg c_1, if_neg c_4]; exact hP
      have hD9 : kz_D A [xoW x (a 0) u1 u2 u3 u4 (X3_refuseForNoParcel_s V S code), shW G a S] := by rw [X3_refuseForNoParcel_s, if_neg c_1, if_neg c_4]; exact hD
      exact W.vret hx hb hr (fun t ht hW => ⟨⟨(), rfl, trivial, by rw [ht]; exact hP9, hD9⟩, hS.F ht⟩) hS.2.2 dX3_refuseForNoParcel_41
def X3_recorded_s (V : kz_S) (Y : kz_S) (y : Int32) : kz_S := if X3_isError_p y then Y else (X0_keepPrepared_s Y)
set_option maxHeartbeats 4000000 in
set_option maxRecDepth 100000 in
theorem c_X3_recorded (l : Launch) (G : kz_G) (x : Nat) (u0 : Nat) (u1 : Nat) (u2 : Nat) (u4 : Nat) (V : kz_S) (h : Nat → Nat) (rw : Nat → Nat) (Y : kz_S) (y : Int32) : kz_mi l G yX3_recorded wsX3_recorded 2 42 [.ref x, .int y] [xoW x u0 u1 u2 (h 0) u4 V, hsW G h rw Y] [xoW x u0 u1 u2 (h 0) u4 V, hsW G h rw (X3_recorded_s V Y y)] y := by
  intro sz
  refine Met.ofW (cc := cX3_recorded) (maxL := 2) (ret := (some .int)) (by decide) rfl ?_
  intro p e s m args below meth c s₁ B hml hv
  obtain ⟨rfl, hsz, hP, hK, hD0⟩ := hv
  have hx := B.exec
  have hb := B.bytes
  have hr := B.returns
  have hts := atoms_spec (ws := wsX3_recorded) B.pre
  have hown : s.vm.findClass RX3 = some m.cls := findClass_of_methodNamed B.named
  have hlocks := B.notSynchronized
  have hinX3 : ∀ w ∈ u_ws RX3 TX3 8, w ∈ wsX3_recorded := by decide +kernel
  subst hsz
  have hD := hD0.self (sz := s.heap.size)
  generalize hAe : kz_A [xoW x u0 u1 u2 (h 0) u4 V, hsW G h rw Y] s.heap.size = A at hD ⊢
  have hA : ∀ q : Nat, s.heap.size ≤ q → A q := fun q h => by rw [← hAe]; exact Or.inr h
  have hS : va_S A s.heap s.heap [] := va_S.rf
  have hl := lv_entry ([.ref x, .int y]) (n := 2) (Nat.le_of_ble_eq_true rfl)
  rw [lg_entry_eq]
  generalize (lg_sl ([.ref x, .int y]) ++ List.replicate (2 - (lg_sl ([.ref x, .int y])).length) Slot.unset).toArray = ls at hl ⊢
  have hl : lv_has ls 2 [(0, .ref x), (1, .int y)] := hl
  refine kz_start (fun QQ hQ => ?_)
  have hP : kz_P G [xoW x u0 u1 u2 (h 0) u4 V, hsW G h rw Y] s.heap := hP
  refine lv_iload_n hx hb dX3_recorded_0 rfl (lv_at hl 1 rfl) ?_
  refine kz_rdS (As := [.int y]) (rest := []) ⟨hx, hb, hml, hown, hts⟩ (c_X3_isError l G y) (va_cwS 1 hts gX3_recorded_X3_isError rfl rfl rfl (by decide +kernel) ⟨Nat.le_of_ble_eq_true rfl, Nat.le_of_ble_eq_true rfl⟩) hK (hP.sub (cs := []) [] rfl) rfl hl.1 rfl (Nat.le_of_ble_eq_true rfl) dX3_recorded_1 ⟨Nat.le_of_ble_eq_true rfl, Nat.le_of_ble_eq_true rfl⟩ ?_
  refine lv_topi (fun y_1 ey_2 => ?_)
  by_cases c_3 : X3_isError_p y
  · rw [if_pos c_3] at ey_2
    subst ey_2
    refine lv_if_ne (tgt := 14) hx hb dX3_recorded_4 (by decide) (fun _ => ?_) (fun c => absurd c (by decide))
    refine lv_iload_n hx hb dX3_recorded_14 rfl (lv_at hl 1 rfl) ?_
    subst hQ
    have hP9 : kz_P G [xoW x u0 u1 u2 (h 0) u4 V, hsW G h rw (X3_recorded_s V Y y)] s.heap := by rw [X3_recorded_s, if_pos c_3]; exact hP
    have hD9 : kz_D A [xoW x u0 u1 u2 (h 0) u4 V, hsW G h rw (X3_recorded_s V Y y)] := by rw [X3_recorded_s, if_pos c_3]; exact hD
    exact W.iret (v := y) hx hb hr (fun t ht hW => ⟨⟨y, (), rfl, rfl, by rw [ht]; exact hP9, hD9⟩, hS.F ht⟩) hS.2.2 dX3_recorded_15
  · rw [if_neg c_3] at ey_2
    subst ey_2
    refine lv_if_ne (tgt := 14) hx hb dX3_recorded_4 (by decide) (fun c => absurd c (by decide)) (fun _ => ?_)
    refine lv_aload_n hx hb dX3_recorded_7 rfl (lv_at hl 0 rfl) ?_
    refine va_get (D := G.1) (ci := 3) (v := .ref (h 0)) (C := RX3) (T := TX3) (N := 8) hx hb hts hinX3 hown hK.1 hP 0 rfl rfl 3 (by decide) (hts (.fieldLink RX3 25 "ParcelShelves" "history" "LParcelShelves$History;") (by decide +kernel)) (fun _ h9 => h9) rfl dX3_recorded_8 ?_
    refine kz_mvV (As := []) (rest := []) (b := h 0) (wr := [xoW x u0 u1 u2 (h 0) u4 V]) (bs' := [xoW x u0 u1 u2 (h 0) u4 V, hsW G h rw (X0_keepPrepared_s Y)]) ⟨hx, hb, hml, hown, hts⟩ (c_X0_keepPrepared l G h rw Y) (cwV 0 hts gX3_recorded_X0_keepPrepared rfl rfl rfl (by decide +kernel) ⟨Nat.le_of_ble_eq_true rfl, Nat.le_of_ble_eq_true rfl⟩) hK hP hD hS hA [1] [0] [0, 1] rfl (by decide) rfl (by decide) (by decide) rfl (by decide) (kz_recv hK hP (ci := 0) (q0 := 1) rfl rfl) rfl hl.1 rfl (Nat.le_of_ble_eq_true rfl) dX3_recorded_11 ⟨Nat.le_of_ble_eq_true rfl, Nat.le_of_ble_eq_true rfl⟩ (fun H locs hP hD hS => ?_)
    refine lv_iload_n hx hb dX3_recorded_14 rfl (lv_at hl 1 rfl) ?_
    subst hQ
    have hP9 : kz_P G [xoW x u0 u1 u2 (h 0) u4 V, hsW G h rw (X3_recorded_s V Y y)] H := by rw [X3_recorded_s, if_neg c_3]; exact hP
    have hD9 : kz_D A [xoW x u0 u1 u2 (h 0) u4 V, hsW G h rw (X3_recorded_s V Y y)] := by rw [X3_recorded_s, if_neg c_3]; exact hD
    exact W.iret (v := y) hx hb hr (fun t ht hW => ⟨⟨y, (), rfl, rfl, by rw [ht]; exact hP9, hD9⟩, hS.F ht⟩) hS.2.2 dX3_recorded_15
def X3_letCome_r (V : kz_S) (S : kz_S) (q : Int32) (z : Int32) : Int32 := if X3_isWithin_p q 0 9 then (if X3_isWithin_p z 0 2 then (if (X1_placeToGive_r S (2 * z.toNatClampNeg) 5) = (-1) then (-4) else (X1_codeOn_r (va_up (X1_put_s S ((X1_placeToGive_r S (2 * z.toNatClampNeg) 5).toNatClampNeg) q z (S 1 0)) 3 (fun _ => (((X1_put_s S ((X1_placeToGive_r S (2 * z.toNatClampNeg) 5).toNatClampNeg) q z (S 1 0)) 3 0) + 1))) ((X1_placeToGive_r S (2 * z.toNatClampNeg) 5).toNatClampNeg))) else (-2)) else (-1)
def X3_letCome_s0 (V : kz_S) (S : kz_S) (q : Int32) (z : Int32) : kz_S := if X3_isWithin_p q 0 9 then (if X3_isWithin_p z 0 2 then (if (X1_placeToGive_r S (2 * z.toNatClampNeg) 5) = (-1) then (X3_refuseForNoPlace_s V S (2 * z.toNatClampNeg) 5) else V) else V) else V
def X3_letCome_s1 (V : kz_S) (S : kz_S) (q : Int32) (z : Int32) : kz_S := if X3_isWithin_p q 0 9 then (if X3_isWithin_p z 0 2 then (if (X1_placeToGive_r S (2 * z.toNatClampNeg) 5) = (-1) then S else (va_up (X1_put_s S ((X1_placeToGive_r S (2 * z.toNatClampNeg) 5).toNatClampNeg) q z (S 1 0)) 3 (fun _ => (((X1_put_s S ((X1_placeToGive_r S (2 * z.toNatClampNeg) 5).toNatClampNeg) q z (S 1 0)) 3 0) + 1)))) else S) else S
set_option maxHeartbeats 4000000 in
set_option maxRecDepth 100000 in
theorem c_X3_letCome (l : Launch) (G : kz_G) (x : Nat) (u1 : Nat) (u2 : Nat) (u3 : Nat) (u4 : Nat) (V : kz_S) (a : Nat → Nat) (S : kz_S) (q : Int32) (z : Int32) (ht : ∃ d, d < 2 ^ 30 ∧ S 1 0 = nI d) : kz_mi l G yX3_letCome wsX3_letCome 3 68 [.ref x, .int q, .int z] [xoW x (a 0) u1 u2 u3 u4 V, shW G a S] [xoW x (a 0) u1 u2 u3 u4 (X3_letCome_s0 V S q z), shW G a (X3_letCome_s1 V S q z)] (X3_letCome_r V S q z) := by
  intro sz
  refine Met.ofW (cc := cX3_letCome) (maxL := 4) (ret := (some .int)) (by decide) rfl ?_
  intro p e s m args below meth c s₁ B hml hv
  obtain ⟨rfl, hsz, hP, hK, hD0⟩ := hv
  have hx := B.exec
  have hb := B.bytes
  have hr := B.returns
  have hts := atoms_spec (ws := wsX3_letCome) B.pre
  have hown : s.vm.findClass RX3 = some m.cls := findClass_of_methodNamed B.named
  have hlocks := B.notSynchronized
  have hinX3 : ∀ w ∈ u_ws RX3 TX3 8, w ∈ wsX3_letCome := by decide +kernel
  have hinX1 : ∀ w ∈ u_ws RX1 TX1 14, w ∈ wsX3_letCome := by decide +kernel
  subst hsz
  have hD := hD0.self (sz := s.heap.size)
  generalize hAe : kz_A [xoW x (a 0) u1 u2 u3 u4 V, shW G a S] s.heap.size = A at hD ⊢
  have hA : ∀ q : Nat, s.heap.size ≤ q → A q := fun q h => by rw [← hAe]; exact Or.inr h
  have hS : va_S A s.heap s.heap [] := va_S.rf
  have hl := lv_entry ([.ref x, .int q, .int z]) (n := 4) (Nat.le_of_ble_eq_true rfl)
  rw [lg_entry_eq]
  generalize (lg_sl ([.ref x, .int q, .int z]) ++ List.replicate (4 - (lg_sl ([.ref x, .int q, .int z])).length) Slot.unset).toArray = ls at hl ⊢
  have hl : lv_has ls 4 [(0, .ref x), (1, .int q), (2, .int z)] := hl
  refine kz_start (fun QQ hQ => ?_)
  have hP : kz_P G [xoW x (a 0) u1 u2 u3 u4 V, shW G a S] s.heap := hP
  refine lv_iload_n hx hb dX3_letCome_0 rfl (lv_at hl 1 rfl) ?_
  refine lv_iconst (v := 0) hx hb dX3_letCome_1 (by decide +kernel) ?_
  refine lv_bipush (v := 9) hx hb dX3_letCome_2 (by decide +kernel) ?_
  refine kz_rdS (As := [.int q, .int 0, .int 9]) (rest := []) ⟨hx, hb, hml, hown, hts⟩ (c_X3_isWithin l G q 0 9) (va_cwS 3 hts gX3_letCome_X3_isWithin rfl rfl rfl (by decide +kernel) ⟨Nat.le_of_ble_eq_true rfl, Nat.le_of_ble_eq_true rfl⟩) hK (hP.sub (cs := []) [] rfl) rfl hl.1 rfl (Nat.le_of_ble_eq_true rfl) dX3_letCome_4 ⟨Nat.le_of_ble_eq_true rfl, Nat.le_of_ble_eq_true rfl⟩ ?_
  refine lv_topi (fun y_1 ey_2 => ?_)
  by_cases c_3 : X3_isWithin_p q 0 9
  · rw [if_pos c_3] at ey_2
    subst ey_2
    refine lv_if_ne (tgt := 12) hx hb dX3_letCome_7 (by decide) (fun _ => ?_) (fun c => absurd c (by decide))
    refine lv_iload_n hx hb dX3_letCome_12 rfl (lv_at hl 2 rfl) ?_
    refine lv_iconst (v := 0) hx hb dX3_letCome_13 (by decide +kernel) ?_
    refine lv_iconst (v := 2) hx hb dX3_letCome_14 (by decide +kernel) ?_
    refine kz_rdS (As := [.int z, .int 0, .int 2]) (rest := []) ⟨hx, hb, hml, hown, hts⟩ (c_X3_isWithin l G z 0 2) (va_cwS 3 hts gX3_letCome_X3_isWithin rfl rfl rfl (by decide +kernel) ⟨Nat.le_of_ble_eq_true rfl, Nat.le_of_ble_eq_true rfl⟩) hK (hP.sub (cs := []) [] rfl) rfl hl.1 rfl (Nat.le_of_ble_eq_true rfl) dX3_letCome_15 ⟨Nat.le_of_ble_eq_true rfl, Nat.le_of_ble_eq_true rfl⟩ ?_
    refine lv_topi (fun y_4 ey_5 => ?_)
    by_cases c_6 : X3_isWithin_p z 0 2
    · rw [if_pos c_6] at ey_5
      subst ey_5
      have hz := (kz_back (kz_wiIn 2 c_6 rfl (by decide)) (by decide)).2
      refine lv_if_ne (tgt := 24) hx hb dX3_letCome_18 (by decide) (fun _ => ?_) (fun c => absurd c (by decide))
      refine lv_aload_n hx hb dX3_letCome_24 rfl (lv_at hl 0 rfl) ?_
      refine va_get (D := G.1) (ci := 3) (v := .ref (a 0)) (C := RX3) (T := TX3) (N := 8) hx hb hts hinX3 hown hK.1 hP 0 rfl rfl 0 (by decide) (hts (.fieldLink RX3 12 "ParcelShelves" "now" "LParcelShelves$Shop;") (by decide +kernel)) (fun _ h9 => h9) rfl dX3_letCome_25 ?_
      refine lv_iload_n hx hb dX3_letCome_28 rfl (lv_at hl 2 rfl) ?_
      refine kz_rdS (As := [.int z]) (rest := [.ref (a 0)]) ⟨hx, hb, hml, hown, hts⟩ (c_X3_firstShelfFor l G z) (va_cwS 1 hts gX3_letCome_X3_firstShelfFor rfl rfl rfl (by decide +kernel) ⟨Nat.le_of_ble_eq_true rfl, Nat.le_of_ble_eq_true rfl⟩) hK (hP.sub (cs := []) [] rfl) rfl hl.1 rfl (Nat.le_of_ble_eq_true rfl) dX3_letCome_29 ⟨Nat.le_of_ble_eq_true rfl, Nat.le_of_ble_eq_true rfl⟩ ?_
      refine lv_topi (fun y_7 ey_8 => ?_)
      obtain rfl : y_7 = (nI (2 * z.toNatClampNeg)) := by rw [ey_8]; exact kz_fs2 c_6
      refine lv_iconst (v := 5) hx hb dX3_letCome_32 (by decide +kernel) ?_
      refine kz_rdV (As := [.int (nI (2 * z.toNatClampNeg)), .int 5]) (rest := []) (b := a 0) ⟨hx, hb, hml, hown, hts⟩ (c_X1_placeToGive l G a S (2 * z.toNatClampNeg) 5 (by omega) (by omega) (by assumption)) (cwV 2 hts gX3_letCome_X1_placeToGive rfl rfl rfl (by decide +kernel) ⟨Nat.le_of_ble_eq_true rfl, Nat.le_of_ble_eq_true rfl⟩) hK (hP.sub (cs := [shW G a S]) [1] rfl) (kz_recv hK hP (ci := 1) (q0 := 1) rfl rfl) rfl hl.1 rfl (Nat.le_of_ble_eq_true rfl) dX3_letCome_33 ⟨Nat.le_of_ble_eq_true rfl, Nat.le_of_ble_eq_true rfl⟩ ?_
      refine lv_istore_n (lv' := [(3, .int (X1_placeToGive_r S (2 * z.toNatClampNeg) 5)), (0, .ref x), (1, .int q), (2, .int z)]) hx hb dX3_letCome_36 rfl hl (by decide) rfl (fun ls hl => ?_)
      refine lv_iload_n hx hb dX3_letCome_37 rfl (lv_at hl 0 rfl) ?_
      refine lv_iconst (v := (-1)) hx hb dX3_letCome_38 (by decide +kernel) ?_
      refine lv_icmp_ne (tgt := 54) hx hb dX3_letCome_39 (by decide) (fun c_9 => ?_) (fun c_9 => ?_)
      · obtain ⟨hcv10, hcl10⟩ := kz_back (kz_giveIn (by omega) c_9) (by decide)
        have hl : lv_has ls 4 [(3, .int (nI (X1_placeToGive_r S (2 * z.toNatClampNeg) 5).toNatClampNeg)), (0, .ref x), (1, .int q), (2, .int z)] := by rw [← hcv10]; exact hl
        refine lv_aload_n hx hb dX3_letCome_54 rfl (lv_at hl 1 rfl) ?_
        refine va_get (D := G.1) (ci := 3) (v := .ref (a 0)) (C := RX3) (T := TX3) (N := 8) hx hb hts hinX3 hown hK.1 hP 0 rfl rfl 0 (by decide) (hts (.fieldLink RX3 12 "ParcelShelves" "now" "LParcelShelves$Shop;") (by decide +kernel)) (fun _ h9 => h9) rfl dX3_letCome_55 ?_
        refine lv_iload_n hx hb dX3_letCome_58 rfl (lv_at hl 0 rfl) ?_
        refine lv_iload_n hx hb dX3_letCome_59 rfl (lv_at hl 2 rfl) ?_
        refine lv_iload_n hx hb dX3_letCome_60 rfl (lv_at hl 3 rfl) ?_
        refine lv_aload_n hx hb dX3_letCome_61 rfl (lv_at hl 1 rfl) ?_
        refine va_get (D := G.1) (ci := 3) (v := .ref (a 0)) (C := RX3) (T := TX3) (N := 8) hx hb hts hinX3 hown hK.1 hP 0 rfl rfl 0 (by decide) (hts (.fieldLink RX3 12 "ParcelShelves" "now" "LParcelShelves$Shop;") (by decide +kernel)) (fun _ h9 => h9) rfl dX3_letCome_62 ?_
        refine va_get (D := G.1) (ci := 1) (v := .int (S 1 0)) (C := RX1) (T := TX1) (N := 14) hx hb hts hinX1 hown hK.1 hP 1 rfl rfl 1 (by decide) (hts (.fieldLink RX3 85 "ParcelShelves$Shop" "today" "I") (by decide +kernel)) (fun _ h9 => h9) rfl dX3_letCome_65 ?_
        refine kz_mvV (As := [.int (nI (X1_placeToGive_r S (2 * z.toNatClampNeg) 5).toNatClampNeg), .int q, .int z, .int (S 1 0)]) (rest := []) (b := a 0) (wr := [xoW x (a 0) u1 u2 u3 u4 V]) (bs' := [xoW x (a 0) u1 u2 u3 u4 V, shW G a (X1_put_s S ((X1_placeToGive_r S (2 * z.toNatClampNeg) 5).toNatClampNeg) q z (S 1 0))]) ⟨hx, hb, hml, hown, hts⟩ (c_X1_put l G a S ((X1_placeToGive_r S (2 * z.toNatClampNeg) 5).toNatClampNeg) q z (S 1 0) (by omega)) (cwV 4 hts gX3_letCome_X1_put rfl rfl rfl (by decide +kernel) ⟨Nat.le_of_ble_eq_true rfl, Nat.le_of_ble_eq_true rfl⟩) hK hP hD hS hA [1] [0] [0, 1] rfl (by decide) rfl (by decide) (by decide) rfl (by decide) (kz_recv hK hP (ci := 1) (q0 := 1) rfl rfl) rfl hl.1 rfl (Nat.le_of_ble_eq_true rfl) dX3_letCome_68 ⟨Nat.le_of_ble_eq_true rfl, Nat.le_of_ble_eq_true rfl⟩ (fun H locs hP hD hS => ?_)
        refine lv_aload_n hx hb dX3_letCome_71 rfl (lv_at hl 1 rfl) ?_
        refine va_get (D := G.1) (ci := 3) (v := .ref (a 0)) (C := RX3) (T := TX3) (N := 8) hx hb hts hinX3 hown hK.1 hP 0 rfl rfl 0 (by decide) (hts (.fieldLink RX3 12 "ParcelShelves" "now" "LParcelShelves$Shop;") (by decide +kernel)) (fun _ h9 => h9) rfl dX3_letCome_72 ?_
        refine lv_dup hx hb dX3_letCome_75 rfl ?_
        refine va_get (D := G.1) (ci := 1) (v := .int ((X1_put_s S ((X1_placeToGive_r S (2 * z.toNatClampNeg) 5).toNatClampNeg) q z (S 1 0)) 3 0)) (C := RX1) (T := TX1) (N := 14) hx hb hts hinX1 hown hK.1 hP 1 rfl rfl 3 (by decide) (hts (.fieldLink RX3 146 "ParcelShelves$Shop" "cameSoFar" "I") (by decide +kernel)) (fun _ h9 => h9) rfl dX3_letCome_76 ?_
        refine lv_iconst (v := 1) hx hb dX3_letCome_79 (by decide +kernel) ?_
        refine lv_iadd hx hb dX3_letCome_80 ?_
        refine va_put (D := G.1) (ci := 1) (v := .int (((X1_put_s S ((X1_placeToGive_r S (2 * z.toNatClampNeg) 5).toNatClampNeg) q z (S 1 0)) 3 0) + 1)) (ty := .int) (C := RX1) (T := TX1) (N := 14) hx hb hts hinX1 tyX1 tyX1_ok nmX1 hown hK.1 hP hD hS 1 rfl rfl 3 (by decide) (hts (.fieldLink RX3 146 "ParcelShelves$Shop" "cameSoFar" "I") (by decide +kernel)) (fun _ h9 => h9) rfl (by decide +kernel) rfl rfl (Nat.le_of_ble_eq_true rfl) dX3_letCome_81 (fun H locs hP hD hS => ?_)
        have hP : kz_P G [xoW x (a 0) u1 u2 u3 u4 V, shW G a (va_up (X1_put_s S ((X1_placeToGive_r S (2 * z.toNatClampNeg) 5).toNatClampNeg) q z (S 1 0)) 3 (fun _ => (((X1_put_s S ((X1_placeToGive_r S (2 * z.toNatClampNeg) 5).toNatClampNeg) q z (S 1 0)) 3 0) + 1)))] H := hP
        have hD : kz_D A [xoW x (a 0) u1 u2 u3 u4 V, shW G a (va_up (X1_put_s S ((X1_placeToGive_r S (2 * z.toNatClampNeg) 5).toNatClampNeg) q z (S 1 0)) 3 (fun _ => (((X1_put_s S ((X1_placeToGive_r S (2 * z.toNatClampNeg) 5).toNatClampNeg) q z (S 1 0)) 3 0) + 1)))] := hD
        refine lv_aload_n hx hb dX3_letCome_84 rfl (lv_at hl 1 rfl) ?_
        refine va_get (D := G.1) (ci := 3) (v := .ref (a 0)) (C := RX3) (T := TX3) (N := 8) hx hb hts hinX3 hown hK.1 hP 0 rfl rfl 0 (by decide) (hts (.fieldLink RX3 12 "ParcelShelves" "now" "LParcelShelves$Shop;") (by decide +kernel)) (fun _ h9 => h9) rfl dX3_letCome_85 ?_
        refine lv_iload_n hx hb dX3_letCome_88 rfl (lv_at hl 0 rfl) ?_
        refine kz_rdV (As := [.int (nI (X1_placeToGive_r S (2 * z.toNatClampNeg) 5).toNatClampNeg)]) (rest := []) (b := a 0) ⟨hx, hb, hml, hown, hts⟩ (c_X1_codeOn l G a (va_up (X1_put_s S ((X1_placeToGive_r S (2 * z.toNatClampNeg) 5).toNatClampNeg) q z (S 1 0)) 3 (fun _ => (((X1_put_s S ((X1_placeToGive_r S (2 * z.toNatClampNeg) 5).toNatClampNeg) q z (S 1 0)) 3 0) + 1))) ((X1_placeToGive_r S (2 * z.toNatClampNeg) 5).toNatClampNeg) (by omega)) (cwV 1 hts gX3_letCome_X1_codeOn rfl rfl rfl (by decide +kernel) ⟨Nat.le_of_ble_eq_true rfl, Nat.le_of_ble_eq_true rfl⟩) hK (hP.sub (cs := [shW G a (va_up (X1_put_s S ((X1_placeToGive_r S (2 * z.toNatClampNeg) 5).toNatClampNeg) q z (S 1 0)) 3 (fun _ => (((X1_put_s S ((X1_placeToGive_r S (2 * z.toNatClampNeg) 5).toNatClampNeg) q z (S 1 0)) 3 0) + 1)))]) [1] rfl) (kz_recv hK hP (ci := 1) (q0 := 1) rfl rfl) rfl hl.1 rfl (Nat.le_of_ble_eq_true rfl) dX3_letCome_89 ⟨Nat.le_of_ble_eq_true rfl, Nat.le_of_ble_eq_true rfl⟩ ?_
        subst hQ
        have hP9 : kz_P G [xoW x (a 0) u1 u2 u3 u4 (X3_letCome_s0 V S q z), shW G a (X3_letCome_s1 V S q z)] H := by rw [X3_letCome_s0, if_pos c_3, if_pos c_6, if_neg c_9]; rw [X3_letCome_s1, if_pos c_3, if_pos c_6, if_neg c_9]; exact hP
        have hD9 : kz_D A [xoW x (a 0) u1 u2 u3 u4 (X3_letCome_s0 V S q z), shW G a (X3_letCome_s1 V S q z)] := by rw [X3_letCome_s0, if_pos c_3, if_pos c_6, if_neg c_9]; rw [X3_letCome_s1, if_pos c_3, if_pos c_6, if_neg c_9]; exact hD
        exact W.iret (v := (X1_codeOn_r (va_up (X1_put_s S ((X1_placeToGive_r S (2 * z.toNatClampNeg) 5).toNatClampNeg) q z (S 1 0)) 3 (fun _ => (((X1_put_s S ((X1_placeToGive_r S (2 * z.toNatClampNeg) 5).toNatClampNeg) q z (S 1 0)) 3 0) + 1))) ((X1_placeToGive_r S (2 * z.toNatClampNeg) 5).toNatClampNeg))) hx hb hr (fun t ht hW => ⟨⟨(X1_codeOn_r (va_up (X1_put_s S ((X1_placeToGive_r S (2 * z.toNatClampNeg) 5).toNatClampNeg) q z (S 1 0)) 3 (fun _ => (((X1_put_s S ((X1_placeToGive_r S (2 * z.toNatClampNeg) 5).toNatClampNeg) q z (S 1 0)) 3 0) + 1))) ((X1_placeToGive_r S (2 * z.toNatClampNeg) 5).toNatClampNeg)), (), rfl, (by rw [X3_letCome_r, if_pos c_3, if_pos c_6, if_neg c_9]), by rw [ht]; exact hP9, hD9⟩, hS.F ht⟩) hS.2.2 dX3_letCome_92
      · refine lv_aload_n hx hb dX3_letCome_42 rfl (lv_at hl 1 rfl) ?_
        refine lv_iload_n hx hb dX3_letCome_43 rfl (lv_at hl 3 rfl) ?_
        refine kz_rdS (As := [.int z]) (rest := [.ref x]) ⟨hx, hb, hml, hown, hts⟩ (c_X3_firstShelfFor l G z) (va_cwS 1 hts gX3_letCome_X3_firstShelfFor rfl rfl rfl (by decide +kernel) ⟨Nat.le_of_ble_eq_true rfl, Nat.le_of_ble_eq_true rfl⟩) hK (hP.sub (cs := []) [] rfl) rfl hl.1 rfl (Nat.le_of_ble_eq_true rfl) dX3_letCome_44 ⟨Nat.le_of_ble_eq_true rfl, Nat.le_of_ble_eq_true rfl⟩ ?_
        refine lv_topi (fun y_11 ey_12 => ?_)
        obtain rfl : y_11 = (nI (2 * z.toNatClampNeg)) := by rw [ey_12]; exact kz_fs2 c_6
        refine lv_iconst (v := 5) hx hb dX3_letCome_47 (by decide +kernel) ?_
        refine kz_mvV (As := [.int (nI (2 * z.toNatClampNeg)), .int 5]) (rest := []) (b := x) (wr := []) (bs' := [xoW x (a 0) u1 u2 u3 u4 (X3_refuseForNoPlace_s V S (2 * z.toNatClampNeg) 5), shW G a S]) ⟨hx, hb, hml, hown, hts⟩ (c_X3_refuseForNoPlace l G x u1 u2 u3 u4 V a S (2 * z.toNatClampNeg) 5 (by omega) (by omega)) (cwV 2 hts gX3_letCome_X3_refuseForNoPlace rfl rfl rfl (by decide +kernel) ⟨Nat.le_of_ble_eq_true rfl, Nat.le_of_ble_eq_true rfl⟩) hK hP hD hS hA [0, 1] [] [0, 1] rfl (by decide) rfl (by decide) (by decide) rfl (by decide) (kz_recv hK hP (ci := 3) (q0 := 0) rfl rfl) rfl hl.1 rfl (Nat.le_of_ble_eq_true rfl) dX3_letCome_48 ⟨Nat.le_of_ble_eq_true rfl, Nat.le_of_ble_eq_true rfl⟩ (fun H locs hP hD hS => ?_)
        refine lv_bipush (v := (-4)) hx hb dX3_letCome_51 (by decide +kernel) ?_
        subst hQ
        have hP9 : kz_P G [xoW x (a 0) u1 u2 u3 u4 (X3_letCome_s0 V S q z), shW G a (X3_letCome_s1 V S q z)] H := by rw [X3_letCome_s0, if_pos c_3, if_pos c_6, if_pos c_9]; rw [X3_letCome_s1, if_pos c_3, if_pos c_6, if_pos c_9]; exact hP
        have hD9 : kz_D A [xoW x (a 0) u1 u2 u3 u4 (X3_letCome_s0 V S q z), shW G a (X3_letCome_s1 V S q z)] := by rw [X3_letCome_s0, if_pos c_3, if_pos c_6, if_pos c_9]; rw [X3_letCome_s1, if_pos c_3, if_pos c_6, if_pos c_9]; exact hD
        exact W.iret (v := (-4)) hx hb hr (fun t ht hW => ⟨⟨(-4), (), rfl, (by rw [X3_letCome_r, if_pos c_3, if_pos c_6, if_pos c_9]), by rw [ht]; exact hP9, hD9⟩, hS.F ht⟩) hS.2.2 dX3_letCome_53
    · rw [if_neg c_6] at ey_5
      subst ey_5
      refine lv_if_ne (tgt := 24) hx hb dX3_letCome_18 (by decide) (fun c => absurd c (by decide)) (fun _ => ?_)
      refine lv_bipush (v := (-2)) hx hb dX3_letCome_21 (by decide +kernel) ?_
      subst hQ
      have hP9 : kz_P G [xoW x (a 0) u1 u2 u3 u4 (X3_letCome_s0 V S q z), shW G a (X3_letCome_s1 V S q z)] s.heap := by rw [X3_letCome_s0, if_pos c_3, if_neg c_6]; rw [X3_letCome_s1, if_pos c_3, if_neg c_6]; exact hP
      have hD9 : kz_D A [xoW x (a 0) u1 u2 u3 u4 (X3_letCome_s0 V S q z), shW G a (X3_letCome_s1 V S q z)] := by rw [X3_letCome_s0, if_pos c_3, if_neg c_6]; rw [X3_letCome_s1, if_pos c_3, if_neg c_6]; exact hD
      exact W.iret (v := (-2)) hx hb hr (fun t ht hW => ⟨⟨(-2), (), rfl, (by rw [X3_letCome_r, if_pos c_3, if_neg c_6]), by rw [ht]; exact hP9, hD9⟩, hS.F ht⟩) hS.2.2 dX3_letCome_23
  · rw [if_neg c_3] at ey_2
    subst ey_2
    refine lv_if_ne (tgt := 12) hx hb dX3_letCome_7 (by decide) (fun c => absurd c (by decide)) (fun _ => ?_)
    refine lv_iconst (v := (-1)) hx hb dX3_letCome_10 (by decide +kernel) ?_
    subst hQ
    have hP9 : kz_P G [xoW x (a 0) u1 u2 u3 u4 (X3_letCome_s0 V S q z), shW G a (X3_letCome_s1 V S q z)] s.heap := by rw [X3_letCome_s0, if_neg c_3]; rw [X3_letCome_s1, if_neg c_3]; exact hP
    have hD9 : kz_D A [xoW x (a 0) u1 u2 u3 u4 (X3_letCome_s0 V S q z), shW G a (X3_letCome_s1 V S q z)] := by rw [X3_letCome_s0, if_neg c_3]; rw [X3_letCome_s1, if_neg c_3]; exact hD
    exact W.iret (v := (-1)) hx hb hr (fun t ht hW => ⟨⟨(-1), (), rfl, (by rw [X3_letCome_r, if_neg c_3]), by rw [ht]; exact hP9, hD9⟩, hS.F ht⟩) hS.2.2 dX3_letCome_11
def X3_letFetch_r (V : kz_S) (S : kz_S) (code : Int32) : Int32 := if X3_isWithin_p code 0 9999 then (if X1_isLocked_p S then (-3) else if (X1_placeWith_r S code) = (-1) then (-7) else (X1_feeAfter_r S ((X1_placeWith_r S code).toNatClampNeg) 0)) else (-2)
def X3_letFetch_s0 (V : kz_S) (S : kz_S) (code : Int32) : kz_S := if X3_isWithin_p code 0 9999 then (if X1_isLocked_p S then (X3_refuseFor_s V 2 (-6)) else if (X1_placeWith_r S code) = (-1) then V else V) else V
def X3_letFetch_s1 (V : kz_S) (S : kz_S) (code : Int32) : kz_S := if X3_isWithin_p code 0 9999 then (if X1_isLocked_p S then S else if (X1_placeWith_r S code) = (-1) then (va_up S 2 (fun _ => ((S 2 0) + 1))) else (X1_leave_s (va_up (va_up S 4 (fun _ => ((S 4 0) + (X1_feeAfter_r S ((X1_placeWith_r S code).toNatClampNeg) 0)))) 12 (upd (S 12) (((S 6) ((X1_placeWith_r S code).toNatClampNeg)).toNatClampNeg) (((S 12) ((S 6) ((X1_placeWith_r S code).toNatClampNeg)).toNatClampNeg) + 1))) ((X1_placeWith_r S code).toNatClampNeg))) else S
set_option maxHeartbeats 4000000 in
set_option maxRecDepth 100000 in
theorem c_X3_letFetch (l : Launch) (G : kz_G) (x : Nat) (u1 : Nat) (u2 : Nat) (u3 : Nat) (u4 : Nat) (V : kz_S) (a : Nat → Nat) (S : kz_S) (code : Int32) (hJ : kz_J S) : kz_mi l G yX3_letFetch wsX3_letFetch 4 89 [.ref x, .int code] [xoW x (a 0) u1 u2 u3 u4 V, shW G a S] [xoW x (a 0) u1 u2 u3 u4 (X3_letFetch_s0 V S code), shW G a (X3_letFetch_s1 V S code)] (X3_letFetch_r V S code) := by
  intro sz
  refine Met.ofW (cc := cX3_letFetch) (maxL := 4) (ret := (some .int)) (by decide) rfl ?_
  intro p e s m args below meth c s₁ B hml hv
  obtain ⟨rfl, hsz, hP, hK, hD0⟩ := hv
  have hx := B.exec
  have hb := B.bytes
  have hr := B.returns
  have hts := atoms_spec (ws := wsX3_letFetch) B.pre
  have hown : s.vm.findClass RX3 = some m.cls := findClass_of_methodNamed B.named
  have hlocks := B.notSynchronized
  have hinX3 : ∀ w ∈ u_ws RX3 TX3 8, w ∈ wsX3_letFetch := by decide +kernel
  have hinX1 : ∀ w ∈ u_ws RX1 TX1 14, w ∈ wsX3_letFetch := by decide +kernel
  subst hsz
  have hD := hD0.self (sz := s.heap.size)
  generalize hAe : kz_A [xoW x (a 0) u1 u2 u3 u4 V, shW G a S] s.heap.size = A at hD ⊢
  have hA : ∀ q : Nat, s.heap.size ≤ q → A q := fun q h => by rw [← hAe]; exact Or.inr h
  have hS : va_S A s.heap s.heap [] := va_S.rf
  have hl := lv_entry ([.ref x, .int code]) (n := 4) (Nat.le_of_ble_eq_true rfl)
  rw [lg_entry_eq]
  generalize (lg_sl ([.ref x, .int code]) ++ List.replicate (4 - (lg_sl ([.ref x, .int code])).length) Slot.unset).toArray = ls at hl ⊢
  have hl : lv_has ls 4 [(0, .ref x), (1, .int code)] := hl
  refine kz_start (fun QQ hQ => ?_)
  have hP : kz_P G [xoW x (a 0) u1 u2 u3 u4 V, shW G a S] s.heap := hP
  refine lv_iload_n hx hb dX3_letFetch_0 rfl (lv_at hl 1 rfl) ?_
  refine lv_iconst (v := 0) hx hb dX3_letFetch_1 (by decide +kernel) ?_
  refine lv_sipush (v := 9999) hx hb dX3_letFetch_2 (by decide +kernel) ?_
  refine kz_rdS (As := [.int code, .int 0, .int 9999]) (rest := []) ⟨hx, hb, hml, hown, hts⟩ (c_X3_isWithin l G code 0 9999) (va_cwS 3 hts gX3_letFetch_X3_isWithin rfl rfl rfl (by decide +kernel) ⟨Nat.le_of_ble_eq_true rfl, Nat.le_of_ble_eq_true rfl⟩) hK (hP.sub (cs := []) [] rfl) rfl hl.1 rfl (Nat.le_of_ble_eq_true rfl) dX3_letFetch_5 ⟨Nat.le_of_ble_eq_true rfl, Nat.le_of_ble_eq_true rfl⟩ ?_
  refine lv_topi (fun y_1 ey_2 => ?_)
  by_cases c_3 : X3_isWithin_p code 0 9999
  · rw [if_pos c_3] at ey_2
    subst ey_2
    refine lv_if_ne (tgt := 14) hx hb dX3_letFetch_8 (by decide) (fun _ => ?_) (fun c => absurd c (by decide))
    refine lv_aload_n hx hb dX3_letFetch_14 rfl (lv_at hl 0 rfl) ?_
    refine va_get (D := G.1) (ci := 3) (v := .ref (a 0)) (C := RX3) (T := TX3) (N := 8) hx hb hts hinX3 hown hK.1 hP 0 rfl rfl 0 (by decide) (hts (.fieldLink RX3 12 "ParcelShelves" "now" "LParcelShelves$Shop;") (by decide +kernel)) (fun _ h9 => h9) rfl dX3_letFetch_15 ?_
    refine kz_rdV (As := []) (rest := []) (b := a 0) ⟨hx, hb, hml, hown, hts⟩ (c_X1_isLocked l G a S) (cwV 0 hts gX3_letFetch_X1_isLocked rfl rfl rfl (by decide +kernel) ⟨Nat.le_of_ble_eq_true rfl, Nat.le_of_ble_eq_true rfl⟩) hK (hP.sub (cs := [shW G a S]) [1] rfl) (kz_recv hK hP (ci := 1) (q0 := 1) rfl rfl) rfl hl.1 rfl (Nat.le_of_ble_eq_true rfl) dX3_letFetch_18 ⟨Nat.le_of_ble_eq_true rfl, Nat.le_of_ble_eq_true rfl⟩ ?_
    refine lv_topi (fun y_4 ey_5 => ?_)
    by_cases c_6 : X1_isLocked_p S
    · rw [if_pos c_6] at ey_5
      subst ey_5
      refine lv_if_eq (tgt := 34) hx hb dX3_letFetch_21 (by decide) (fun c => absurd c (by decide)) (fun _ => ?_)
      refine lv_aload_n hx hb dX3_letFetch_24 rfl (lv_at hl 0 rfl) ?_
      refine lv_iconst (v := 2) hx hb dX3_letFetch_25 (by decide +kernel) ?_
      refine lv_bipush (v := (-6)) hx hb dX3_letFetch_26 (by decide +kernel) ?_
      refine kz_mvV (As := [.int 2, .int (-6)]) (rest := []) (b := x) (wr := [shW G a S]) (bs' := [xoW x (a 0) u1 u2 u3 u4 (X3_refuseFor_s V 2 (-6)), shW G a S]) ⟨hx, hb, hml, hown, hts⟩ (c_X3_refuseFor l G x (a 0) u1 u2 u3 u4 V 2 (-6)) (cwV 2 hts gX3_letFetch_X3_refuseFor rfl rfl rfl (by decide +kernel) ⟨Nat.le_of_ble_eq_true rfl, Nat.le_of_ble_eq_true rfl⟩) hK hP hD hS hA [0] [1] [1, 0] rfl (by decide) rfl (by decide) (by decide) rfl (by decide) (kz_recv hK hP (ci := 3) (q0 := 0) rfl rfl) rfl hl.1 rfl (Nat.le_of_ble_eq_true rfl) dX3_letFetch_28 ⟨Nat.le_of_ble_eq_true rfl, Nat.le_of_ble_eq_true rfl⟩ (fun H locs hP hD hS => ?_)
      refine lv_bipush (v := (-3)) hx hb dX3_letFetch_31 (by decide +kernel) ?_
      subst hQ
      have hP9 : kz_P G [xoW x (a 0) u1 u2 u3 u4 (X3_letFetch_s0 V S code), shW G a (X3_letFetch_s1 V S code)] H := by rw [X3_letFetch_s0, if_pos c_3, if_pos c_6]; rw [X3_letFetch_s1, if_pos c_3, if_pos c_6]; exact hP
      have hD9 : kz_D A [xoW x (a 0) u1 u2 u3 u4 (X3_letFetch_s0 V S code), shW G a (X3_letFetch_s1 V S code)] := by rw [X3_letFetch_s0, if_pos c_3, if_pos c_6]; rw [X3_letFetch_s1, if_pos c_3, if_pos c_6]; exact hD
      exact W.iret (v := (-3)) hx hb hr (fun t ht hW => ⟨⟨(-3), (), rfl, (by rw [X3_letFetch_r, if_pos c_3, if_pos c_6]), by rw [ht]; exact hP9, hD9⟩, hS.F ht⟩) hS.2.2 dX3_letFetch_33
    · rw [if_neg c_6] at ey_5
      subst ey_5
      refine lv_if_eq (tgt := 34) hx hb dX3_letFetch_21 (by decide) (fun _ => ?_) (fun c => absurd c (by decide))
      refine lv_aload_n hx hb dX3_letFetch_34 rfl (lv_at hl 0 rfl) ?_
      refine va_get (D := G.1) (ci := 3) (v := .ref (a 0)) (C := RX3) (T := TX3) (N := 8) hx hb hts hinX3 hown hK.1 hP 0 rfl rfl 0 (by decide) (hts (.fieldLink RX3 12 "ParcelShelves" "now" "LParcelShelves$Shop;") (by decide +kernel)) (fun _ h9 => h9) rfl dX3_letFetch_35 ?_
      refine lv_iload_n hx hb dX3_letFetch_38 rfl (lv_at hl 1 rfl) ?_
      refine kz_rdV (As := [.int code]) (rest := []) (b := a 0) ⟨hx, hb, hml, hown, hts⟩ (c_X1_placeWith l G a S code) (cwV 1 hts gX3_letFetch_X1_placeWith rfl rfl rfl (by decide +kernel) ⟨Nat.le_of_ble_eq_true rfl, Nat.le_of_ble_eq_true rfl⟩) hK (hP.sub (cs := [shW G a S]) [1] rfl) (kz_recv hK hP (ci := 1) (q0 := 1) rfl rfl) rfl hl.1 rfl (Nat.le_of_ble_eq_true rfl) dX3_letFetch_39 ⟨Nat.le_of_ble_eq_true rfl, Nat.le_of_ble_eq_true rfl⟩ ?_
      refine lv_istore_n (lv' := [(2, .int (X1_placeWith_r S code)), (0, .ref x), (1, .int code)]) hx hb dX3_letFetch_42 rfl hl (by decide) rfl (fun ls hl => ?_)
      refine lv_iload_n hx hb dX3_letFetch_43 rfl (lv_at hl 0 rfl) ?_
      refine lv_iconst (v := (-1)) hx hb dX3_letFetch_44 (by decide +kernel) ?_
      refine lv_icmp_ne (tgt := 64) hx hb dX3_letFetch_45 (by decide) (fun c_7 => ?_) (fun c_7 => ?_)
      · obtain ⟨hcv8, hcl8⟩ := kz_back (kz_pwIn c_7) (by decide)
        have hl : lv_has ls 4 [(2, .int (nI (X1_placeWith_r S code).toNatClampNeg)), (0, .ref x), (1, .int code)] := by rw [← hcv8]; exact hl
        refine lv_aload_n hx hb dX3_letFetch_64 rfl (lv_at hl 1 rfl) ?_
        refine va_get (D := G.1) (ci := 3) (v := .ref (a 0)) (C := RX3) (T := TX3) (N := 8) hx hb hts hinX3 hown hK.1 hP 0 rfl rfl 0 (by decide) (hts (.fieldLink RX3 12 "ParcelShelves" "now" "LParcelShelves$Shop;") (by decide +kernel)) (fun _ h9 => h9) rfl dX3_letFetch_65 ?_
        refine lv_iload_n hx hb dX3_letFetch_68 rfl (lv_at hl 0 rfl) ?_
        refine lv_iconst (v := 0) hx hb dX3_letFetch_69 (by decide +kernel) ?_
        refine kz_rdV (As := [.int (nI (X1_placeWith_r S code).toNatClampNeg), .int 0]) (rest := []) (b := a 0) ⟨hx, hb, hml, hown, hts⟩ (c_X1_feeAfter l G a S ((X1_placeWith_r S code).toNatClampNeg) 0 (by omega)) (cwV 2 hts gX3_letFetch_X1_feeAfter rfl rfl rfl (by decide +kernel) ⟨Nat.le_of_ble_eq_true rfl, Nat.le_of_ble_eq_true rfl⟩) hK (hP.sub (cs := [shW G a S]) [1] rfl) (kz_recv hK hP (ci := 1) (q0 := 1) rfl rfl) rfl hl.1 rfl (Nat.le_of_ble_eq_true rfl) dX3_letFetch_70 ⟨Nat.le_of_ble_eq_true rfl, Nat.le_of_ble_eq_true rfl⟩ ?_
        refine lv_istore_n (lv' := [(3, .int (X1_feeAfter_r S ((X1_placeWith_r S code).toNatClampNeg) 0)), (2, .int (nI (X1_placeWith_r S code).toNatClampNeg)), (0, .ref x), (1, .int code)]) hx hb dX3_letFetch_73 rfl hl (by decide) rfl (fun ls hl => ?_)
        refine lv_aload_n hx hb dX3_letFetch_74 rfl (lv_at hl 2 rfl) ?_
        refine va_get (D := G.1) (ci := 3) (v := .ref (a 0)) (C := RX3) (T := TX3) (N := 8) hx hb hts hinX3 hown hK.1 hP 0 rfl rfl 0 (by decide) (hts (.fieldLink RX3 12 "ParcelShelves" "now" "LParcelShelves$Shop;") (by decide +kernel)) (fun _ h9 => h9) rfl dX3_letFetch_75 ?_
        refine lv_dup hx hb dX3_letFetch_78 rfl ?_
        refine va_get (D := G.1) (ci := 1) (v := .int (S 4 0)) (C := RX1) (T := TX1) (N := 14) hx hb hts hinX1 hown hK.1 hP 1 rfl rfl 4 (by decide) (hts (.fieldLink RX3 149 "ParcelShelves$Shop" "feesPaid" "I") (by decide +kernel)) (fun _ h9 => h9) rfl dX3_letFetch_79 ?_
        refine lv_iload_n hx hb dX3_letFetch_82 rfl (lv_at hl 0 rfl) ?_
        refine lv_iadd hx hb dX3_letFetch_83 ?_
        refine va_put (D := G.1) (ci := 1) (v := .int ((S 4 0) + (X1_feeAfter_r S ((X1_placeWith_r S code).toNatClampNeg) 0))) (ty := .int) (C := RX1) (T := TX1) (N := 14) hx hb hts hinX1 tyX1 tyX1_ok nmX1 hown hK.1 hP hD hS 1 rfl rfl 4 (by decide) (hts (.fieldLink RX3 149 "ParcelShelves$Shop" "feesPaid" "I") (by decide +kernel)) (fun _ h9 => h9) rfl (by decide +kernel) rfl rfl (Nat.le_of_ble_eq_true rfl) dX3_letFetch_84 (fun H locs hP hD hS => ?_)
        have hP : kz_P G [xoW x (a 0) u1 u2 u3 u4 V, shW G a (va_up S 4 (fun _ => ((S 4 0) + (X1_feeAfter_r S ((X1_placeWith_r S code).toNatClampNeg) 0))))] H := hP
        have hD : kz_D A [xoW x (a 0) u1 u2 u3 u4 V, shW G a (va_up S 4 (fun _ => ((S 4 0) + (X1_feeAfter_r S ((X1_placeWith_r S code).toNatClampNeg) 0))))] := hD
        refine lv_aload_n hx hb dX3_letFetch_87 rfl (lv_at hl 2 rfl) ?_
        refine va_get (D := G.1) (ci := 3) (v := .ref (a 0)) (C := RX3) (T := TX3) (N := 8) hx hb hts hinX3 hown hK.1 hP 0 rfl rfl 0 (by decide) (hts (.fieldLink RX3 12 "ParcelShelves" "now" "LParcelShelves$Shop;") (by decide +kernel)) (fun _ h9 => h9) rfl dX3_letFetch_88 ?_
        refine va_get (D := G.1) (ci := 1) (v := .ref (a 9)) (C := RX1) (T := TX1) (N := 14) hx hb hts hinX1 hown hK.1 hP 1 rfl rfl 12 (by decide) (hts (.fieldLink RX3 132 "ParcelShelves$Shop" "fetched" "[I") (by decide +kernel)) (fun _ h9 => h9) rfl dX3_letFetch_91 ?_
        refine lv_aload_n hx hb dX3_letFetch_94 rfl (lv_at hl 2 rfl) ?_
        refine va_get (D := G.1) (ci := 3) (v := .ref (a 0)) (C := RX3) (T := TX3) (N := 8) hx hb hts hinX3 hown hK.1 hP 0 rfl rfl 0 (by decide) (hts (.fieldLink RX3 12 "ParcelShelves" "now" "LParcelShelves$Shop;") (by decide +kernel)) (fun _ h9 => h9) rfl dX3_letFetch_95 ?_
        refine va_get (D := G.1) (ci := 1) (v := .ref (a 3)) (C := RX1) (T := TX1) (N := 14) hx hb hts hinX1 hown hK.1 hP 1 rfl rfl 6 (by decide) (hts (.fieldLink RX3 91 "ParcelShelves$Shop" "senders" "[I") (by decide +kernel)) (fun _ h9 => h9) rfl dX3_letFetch_98 ?_
        refine lv_iload_n hx hb dX3_letFetch_101 rfl (lv_at hl 1 rfl) ?_
        refine va_iald (f := (S 6)) hx hb hK.1 hP 4 0 rfl rfl (vp_in_nI (n := (X1_placeWith_r S code).toNatClampNeg) (N := 48) (by omega) (by decide)) dX3_letFetch_102 ?_
        refine lv_topi (fun y_9 ey_10 => ?_)
        obtain rfl : y_9 = ((S 6) ((X1_placeWith_r S code).toNatClampNeg)) := by rw [ey_10, kz_nI_clamp (n := (X1_placeWith_r S code).toNatClampNeg) (by omega)]
        refine lv_dup2_11 hx hb dX3_letFetch_103 rfl rfl ?_
        refine va_iald (f := (S 12)) hx hb hK.1 hP 10 0 rfl rfl (kz_q10 (hJ.2 _ (by omega))) dX3_letFetch_104 ?_
        refine lv_iconst (v := 1) hx hb dX3_letFetch_105 (by decide +kernel) ?_
        refine lv_iadd hx hb dX3_letFetch_106 ?_
        refine va_iast hx hb hK.1 hP hD hS 10 0 rfl rfl (kz_q10 (hJ.2 _ (by omega))) dX3_letFetch_107 (fun H locs hP hD hS => ?_)
        have hP : kz_P G [xoW x (a 0) u1 u2 u3 u4 V, shW G a (va_up (va_up S 4 (fun _ => ((S 4 0) + (X1_feeAfter_r S ((X1_placeWith_r S code).toNatClampNeg) 0)))) 12 (upd (S 12) (((S 6) ((X1_placeWith_r S code).toNatClampNeg)).toNatClampNeg) (((S 12) ((S 6) ((X1_placeWith_r S code).toNatClampNeg)).toNatClampNeg) + 1)))] H := hP
        have hD : kz_D A [xoW x (a 0) u1 u2 u3 u4 V, shW G a (va_up (va_up S 4 (fun _ => ((S 4 0) + (X1_feeAfter_r S ((X1_placeWith_r S code).toNatClampNeg) 0)))) 12 (upd (S 12) (((S 6) ((X1_placeWith_r S code).toNatClampNeg)).toNatClampNeg) (((S 12) ((S 6) ((X1_placeWith_r S code).toNatClampNeg)).toNatClampNeg) + 1)))] := hD
        refine lv_aload_n hx hb dX3_letFetch_108 rfl (lv_at hl 2 rfl) ?_
        refine va_get (D := G.1) (ci := 3) (v := .ref (a 0)) (C := RX3) (T := TX3) (N := 8) hx hb hts hinX3 hown hK.1 hP 0 rfl rfl 0 (by decide) (hts (.fieldLink RX3 12 "ParcelShelves" "now" "LParcelShelves$Shop;") (by decide +kernel)) (fun _ h9 => h9) rfl dX3_letFetch_109 ?_
        refine lv_iload_n hx hb dX3_letFetch_112 rfl (lv_at hl 1 rfl) ?_
        refine kz_mvV (As := [.int (nI (X1_placeWith_r S code).toNatClampNeg)]) (rest := []) (b := a 0) (wr := [xoW x (a 0) u1 u2 u3 u4 V]) (bs' := [xoW x (a 0) u1 u2 u3 u4 V, shW G a (X1_leave_s (va_up (va_up S 4 (fun _ => ((S 4 0) + (X1_feeAfter_r S ((X1_placeWith_r S code).toNatClampNeg) 0)))) 12 (upd (S 12) (((S 6) ((X1_placeWith_r S code).toNatClampNeg)).toNatClampNeg) (((S 12) ((S 6) ((X1_placeWith_r S code).toNatClampNeg)).toNatClampNeg) + 1))) ((X1_placeWith_r S code).toNatClampNeg))]) ⟨hx, hb, hml, hown, hts⟩ (c_X1_leave l G a (va_up (va_up S 4 (fun _ => ((S 4 0) + (X1_feeAfter_r S ((X1_placeWith_r S code).toNatClampNeg) 0)))) 12 (upd (S 12) (((S 6) ((X1_placeWith_r S code).toNatClampNeg)).toNatClampNeg) (((S 12) ((S 6) ((X1_placeWith_r S code).toNatClampNeg)).toNatClampNeg) + 1))) ((X1_placeWith_r S code).toNatClampNeg) (by omega) (hJ.1 _ (by omega))) (cwV 1 hts gX3_letFetch_X1_leave rfl rfl rfl (by decide +kernel) ⟨Nat.le_of_ble_eq_true rfl, Nat.le_of_ble_eq_true rfl⟩) hK hP hD hS hA [1] [0] [0, 1] rfl (by decide) rfl (by decide) (by decide) rfl (by decide) (kz_recv hK hP (ci := 1) (q0 := 1) rfl rfl) rfl hl.1 rfl (Nat.le_of_ble_eq_true rfl) dX3_letFetch_113 ⟨Nat.le_of_ble_eq_true rfl, Nat.le_of_ble_eq_true rfl⟩ (fun H locs hP hD hS => ?_)
        refine lv_iload_n hx hb dX3_letFetch_116 rfl (lv_at hl 0 rfl) ?_
        subst hQ
        have hP9 : kz_P G [xoW x (a 0) u1 u2 u3 u4 (X3_letFetch_s0 V S code), shW G a (X3_letFetch_s1 V S code)] H := by rw [X3_letFetch_s0, if_pos c_3, if_neg c_6, if_neg c_7]; rw [X3_letFetch_s1, if_pos c_3, if_neg c_6, if_neg c_7]; exact hP
        have hD9 : kz_D A [xoW x (a 0) u1 u2 u3 u4 (X3_letFetch_s0 V S code), shW G a (X3_letFetch_s1 V S code)] := by rw [X3_letFetch_s0, if_pos c_3, if_neg c_6, if_neg c_7]; rw [X3_letFetch_s1, if_pos c_3, if_neg c_6, if_neg c_7]; exact hD
        exact W.iret (v := (X1_feeAfter_r S ((X1_placeWith_r S code).toNatClampNeg) 0)) hx hb hr (fun t ht hW => ⟨⟨(X1_feeAfter_r S ((X1_placeWith_r S code).toNatClampNeg) 0), (), rfl, (by rw [X3_letFetch_r, if_pos c_3, if_neg c_6, if_neg c_7]), by rw [ht]; exact hP9, hD9⟩, hS.F ht⟩) hS.2.2 dX3_letFetch_117
      · refine lv_aload_n hx hb dX3_letFetch_48 rfl (lv_at hl 1 rfl) ?_
        refine va_get (D := G.1) (ci := 3) (v := .ref (a 0)) (C := RX3) (T := TX3) (N := 8) hx hb hts hinX3 hown hK.1 hP 0 rfl rfl 0 (by decide) (hts (.fieldLink RX3 12 "ParcelShelves" "now" "LParcelShelves$Shop;") (by decide +kernel)) (fun _ h9 => h9) rfl dX3_letFetch_49 ?_
        refine lv_dup hx hb dX3_letFetch_52 rfl ?_
        refine va_get (D := G.1) (ci := 1) (v := .int (S 2 0)) (C := RX1) (T := TX1) (N := 14) hx hb hts hinX1 hown hK.1 hP 1 rfl rfl 2 (by decide) (hts (.fieldLink RX3 152 "ParcelShelves$Shop" "wrongCodes" "I") (by decide +kernel)) (fun _ h9 => h9) rfl dX3_letFetch_53 ?_
        refine lv_iconst (v := 1) hx hb dX3_letFetch_56 (by decide +kernel) ?_
        refine lv_iadd hx hb dX3_letFetch_57 ?_
        refine va_put (D := G.1) (ci := 1) (v := .int ((S 2 0) + 1)) (ty := .int) (C := RX1) (T := TX1) (N := 14) hx hb hts hinX1 tyX1 tyX1_ok nmX1 hown hK.1 hP hD hS 1 rfl rfl 2 (by decide) (hts (.fieldLink RX3 152 "ParcelShelves$Shop" "wrongCodes" "I") (by decide +kernel)) (fun _ h9 => h9) rfl (by decide +kernel) rfl rfl (Nat.le_of_ble_eq_true rfl) dX3_letFetch_58 (fun H locs hP hD hS => ?_)
        have hP : kz_P G [xoW x (a 0) u1 u2 u3 u4 V, shW G a (va_up S 2 (fun _ => ((S 2 0) + 1)))] H := hP
        have hD : kz_D A [xoW x (a 0) u1 u2 u3 u4 V, shW G a (va_up S 2 (fun _ => ((S 2 0) + 1)))] := hD
        refine lv_bipush (v := (-7)) hx hb dX3_letFetch_61 (by decide +kernel) ?_
        subst hQ
        have hP9 : kz_P G [xoW x (a 0) u1 u2 u3 u4 (X3_letFetch_s0 V S code), shW G a (X3_letFetch_s1 V S code)] H := by rw [X3_letFetch_s0, if_pos c_3, if_neg c_6, if_pos c_7]; rw [X3_letFetch_s1, if_pos c_3, if_neg c_6, if_pos c_7]; exact hP
        have hD9 : kz_D A [xoW x (a 0) u1 u2 u3 u4 (X3_letFetch_s0 V S code), shW G a (X3_letFetch_s1 V S code)] := by rw [X3_letFetch_s0, if_pos c_3, if_neg c_6, if_pos c_7]; rw [X3_letFetch_s1, if_pos c_3, if_neg c_6, if_pos c_7]; exact hD
        exact W.iret (v := (-7)) hx hb hr (fun t ht hW => ⟨⟨(-7), (), rfl, (by rw [X3_letFetch_r, if_pos c_3, if_neg c_6, if_pos c_7]), by rw [ht]; exact hP9, hD9⟩, hS.F ht⟩) hS.2.2 dX3_letFetch_63
  · rw [if_neg c_3] at ey_2
    subst ey_2
    refine lv_if_ne (tgt := 14) hx hb dX3_letFetch_8 (by decide) (fun c => absurd c (by decide)) (fun _ => ?_)
    refine lv_bipush (v := (-2)) hx hb dX3_letFetch_11 (by decide +kernel) ?_
    subst hQ
    have hP9 : kz_P G [xoW x (a 0) u1 u2 u3 u4 (X3_letFetch_s0 V S code), shW G a (X3_letFetch_s1 V S code)] s.heap := by rw [X3_letFetch_s0, if_neg c_3]; rw [X3_letFetch_s1, if_neg c_3]; exact hP
    have hD9 : kz_D A [xoW x (a 0) u1 u2 u3 u4 (X3_letFetch_s0 V S code), shW G a (X3_letFetch_s1 V S code)] := by rw [X3_letFetch_s0, if_neg c_3]; rw [X3_letFetch_s1, if_neg c_3]; exact hD
    exact W.iret (v := (-2)) hx hb hr (fun t ht hW => ⟨⟨(-2), (), rfl, (by rw [X3_letFetch_r, if_neg c_3]), by rw [ht]; exact hP9, hD9⟩, hS.F ht⟩) hS.2.2 dX3_letFetch_13
def X3_letRefuse_r (V : kz_S) (S : kz_S) (code : Int32) : Int32 := if (X1_placeWith_r S code) = (-1) then (-1) else if ((S 10) ((S 6) ((X1_placeWith_r S code).toNatClampNeg)).toNatClampNeg) < 9 then ((upd ((X1_leave_s S ((X1_placeWith_r S code).toNatClampNeg)) 10) (((S 6) ((X1_placeWith_r S code).toNatClampNeg)).toNatClampNeg) ((((X1_leave_s S ((X1_placeWith_r S code).toNatClampNeg)) 10) ((S 6) ((X1_placeWith_r S code).toNatClampNeg)).toNatClampNeg) + 1)) ((S 6) ((X1_placeWith_r S code).toNatClampNeg)).toNatClampNeg) else (-3)
def X3_letRefuse_s0 (V : kz_S) (S : kz_S) (code : Int32) : kz_S := if (X1_placeWith_r S code) = (-1) then (X3_refuseForNoParcel_s V S code) else if ((S 10) ((S 6) ((X1_placeWith_r S code).toNatClampNeg)).toNatClampNeg) < 9 then V else (X3_refuseFor_s V 3 (-6))
def X3_letRefuse_s1 (V : kz_S) (S : kz_S) (code : Int32) : kz_S := if (X1_placeWith_r S code) = (-1) then S else if ((S 10) ((S 6) ((X1_placeWith_r S code).toNatClampNeg)).toNatClampNeg) < 9 then (va_up (X1_leave_s S ((X1_placeWith_r S code).toNatClampNeg)) 10 (upd ((X1_leave_s S ((X1_placeWith_r S code).toNatClampNeg)) 10) (((S 6) ((X1_placeWith_r S code).toNatClampNeg)).toNatClampNeg) ((((X1_leave_s S ((X1_placeWith_r S code).toNatClampNeg)) 10) ((S 6) ((X1_placeWith_r S code).toNatClampNeg)).toNatClampNeg) + 1))) else S
set_option maxHeartbeats 4000000 in
set_option maxRecDepth 100000 in
theorem c_X3_letRefuse (l : Launch) (G : kz_G) (x : Nat) (u1 : Nat) (u2 : Nat) (u3 : Nat) (u4 : Nat) (V : kz_S) (a : Nat → Nat) (S : kz_S) (code : Int32) (hJ : kz_J S) : kz_mi l G yX3_letRefuse wsX3_letRefuse 4 89 [.ref x, .int code] [xoW x (a 0) u1 u2 u3 u4 V, shW G a S] [xoW x (a 0) u1 u2 u3 u4 (X3_letRefuse_s0 V S code), shW G a (X3_letRefuse_s1 V S code)] (X3_letRefuse_r V S code) := by
  intro sz
  refine Met.ofW (cc := cX3_letRefuse) (maxL := 4) (ret := (some .int)) (by decide) rfl ?_
  intro p e s m args below meth c s₁ B hml hv
  obtain ⟨rfl, hsz, hP, hK, hD0⟩ := hv
  have hx := B.exec
  have hb := B.bytes
  have hr := B.returns
  have hts := atoms_spec (ws := wsX3_letRefuse) B.pre
  have hown : s.vm.findClass RX3 = some m.cls := findClass_of_methodNamed B.named
  have hlocks := B.notSynchronized
  have hinX3 : ∀ w ∈ u_ws RX3 TX3 8, w ∈ wsX3_letRefuse := by decide +kernel
  have hinX1 : ∀ w ∈ u_ws RX1 TX1 14, w ∈ wsX3_letRefuse := by decide +kernel
  subst hsz
  have hD := hD0.self (sz := s.heap.size)
  generalize hAe : kz_A [xoW x (a 0) u1 u2 u3 u4 V, shW G a S] s.heap.size = A at hD ⊢
  have hA : ∀ q : Nat, s.heap.size ≤ q → A q := fun q h => by rw [← hAe]; exact Or.inr h
  have hS : va_S A s.heap s.heap [] := va_S.rf
  have hl := lv_entry ([.ref x, .int code]) (n := 4) (Nat.le_of_ble_eq_true rfl)
  rw [lg_entry_eq]
  generalize (lg_sl ([.ref x, .int code]) ++ List.replicate (4 - (lg_sl ([.ref x, .int code])).length) Slot.unset).toArray = ls at hl ⊢
  have hl : lv_has ls 4 [(0, .ref x), (1, .int code)] := hl
  refine kz_start (fun QQ hQ => ?_)
  have hP : kz_P G [xoW x (a 0) u1 u2 u3 u4 V, shW G a S] s.heap := hP
  refine lv_aload_n hx hb dX3_letRefuse_0 rfl (lv_at hl 0 rfl) ?_
  refine va_get (D := G.1) (ci := 3) (v := .ref (a 0)) (C := RX3) (T := TX3) (N := 8) hx hb hts hinX3 hown hK.1 hP 0 rfl rfl 0 (by decide) (hts (.fieldLink RX3 12 "ParcelShelves" "now" "LParcelShelves$Shop;") (by decide +kernel)) (fun _ h9 => h9) rfl dX3_letRefuse_1 ?_
  refine lv_iload_n hx hb dX3_letRefuse_4 rfl (lv_at hl 1 rfl) ?_
  refine kz_rdV (As := [.int code]) (rest := []) (b := a 0) ⟨hx, hb, hml, hown, hts⟩ (c_X1_placeWith l G a S code) (cwV 1 hts gX3_letRefuse_X1_placeWith rfl rfl rfl (by decide +kernel) ⟨Nat.le_of_ble_eq_true rfl, Nat.le_of_ble_eq_true rfl⟩) hK (hP.sub (cs := [shW G a S]) [1] rfl) (kz_recv hK hP (ci := 1) (q0 := 1) rfl rfl) rfl hl.1 rfl (Nat.le_of_ble_eq_true rfl) dX3_letRefuse_5 ⟨Nat.le_of_ble_eq_true rfl, Nat.le_of_ble_eq_true rfl⟩ ?_
  refine lv_istore_n (lv' := [(2, .int (X1_placeWith_r S code)), (0, .ref x), (1, .int code)]) hx hb dX3_letRefuse_8 rfl hl (by decide) rfl (fun ls hl => ?_)
  refine lv_iload_n hx hb dX3_letRefuse_9 rfl (lv_at hl 0 rfl) ?_
  refine lv_iconst (v := (-1)) hx hb dX3_letRefuse_10 (by decide +kernel) ?_
  refine lv_icmp_ne (tgt := 21) hx hb dX3_letRefuse_11 (by decide) (fun c_1 => ?_) (fun c_1 => ?_)
  · obtain ⟨hcv2, hcl2⟩ := kz_back (kz_pwIn c_1) (by decide)
    have hl : lv_has ls 4 [(2, .int (nI (X1_placeWith_r S code).toNatClampNeg)), (0, .ref x), (1, .int code)] := by rw [← hcv2]; exact hl
    refine lv_aload_n hx hb dX3_letRefuse_21 rfl (lv_at hl 1 rfl) ?_
    refine va_get (D := G.1) (ci := 3) (v := .ref (a 0)) (C := RX3) (T := TX3) (N := 8) hx hb hts hinX3 hown hK.1 hP 0 rfl rfl 0 (by decide) (hts (.fieldLink RX3 12 "ParcelShelves" "now" "LParcelShelves$Shop;") (by decide +kernel)) (fun _ h9 => h9) rfl dX3_letRefuse_22 ?_
    refine va_get (D := G.1) (ci := 1) (v := .ref (a 3)) (C := RX1) (T := TX1) (N := 14) hx hb hts hinX1 hown hK.1 hP 1 rfl rfl 6 (by decide) (hts (.fieldLink RX3 91 "ParcelShelves$Shop" "senders" "[I") (by decide +kernel)) (fun _ h9 => h9) rfl dX3_letRefuse_25 ?_
    refine lv_iload_n hx hb dX3_letRefuse_28 rfl (lv_at hl 0 rfl) ?_
    refine va_iald (f := (S 6)) hx hb hK.1 hP 4 0 rfl rfl (vp_in_nI (n := (X1_placeWith_r S code).toNatClampNeg) (N := 48) (by omega) (by decide)) dX3_letRefuse_29 ?_
    refine lv_topi (fun y_3 ey_4 => ?_)
    obtain rfl : y_3 = ((S 6) ((X1_placeWith_r S code).toNatClampNeg)) := by rw [ey_4, kz_nI_clamp (n := (X1_placeWith_r S code).toNatClampNeg) (by omega)]
    refine lv_istore_n (lv' := [(3, .int ((S 6) ((X1_placeWith_r S code).toNatClampNeg))), (2, .int (nI (X1_placeWith_r S code).toNatClampNeg)), (0, .ref x), (1, .int code)]) hx hb dX3_letRefuse_30 rfl hl (by decide) rfl (fun ls hl => ?_)
    refine lv_aload_n hx hb dX3_letRefuse_31 rfl (lv_at hl 2 rfl) ?_
    refine va_get (D := G.1) (ci := 3) (v := .ref (a 0)) (C := RX3) (T := TX3) (N := 8) hx hb hts hinX3 hown hK.1 hP 0 rfl rfl 0 (by decide) (hts (.fieldLink RX3 12 "ParcelShelves" "now" "LParcelShelves$Shop;") (by decide +kernel)) (fun _ h9 => h9) rfl dX3_letRefuse_32 ?_
    refine va_get (D := G.1) (ci := 1) (v := .ref (a 7)) (C := RX1) (T := TX1) (N := 14) hx hb hts hinX1 hown hK.1 hP 1 rfl rfl 10 (by decide) (hts (.fieldLink RX3 126 "ParcelShelves$Shop" "bins" "[I") (by decide +kernel)) (fun _ h9 => h9) rfl dX3_letRefuse_35 ?_
    refine lv_iload_n hx hb dX3_letRefuse_38 rfl (lv_at hl 0 rfl) ?_
    refine va_iald (f := (S 10)) hx hb hK.1 hP 8 0 rfl rfl (kz_q10 (hJ.2 _ (by omega))) dX3_letRefuse_39 ?_
    refine lv_bipush (v := 9) hx hb dX3_letRefuse_40 (by decide +kernel) ?_
    refine lv_icmp_lt (tgt := 55) hx hb dX3_letRefuse_42 (by decide) (fun c_5 => ?_) (fun c_5 => ?_)
    · refine lv_aload_n hx hb dX3_letRefuse_55 rfl (lv_at hl 2 rfl) ?_
      refine va_get (D := G.1) (ci := 3) (v := .ref (a 0)) (C := RX3) (T := TX3) (N := 8) hx hb hts hinX3 hown hK.1 hP 0 rfl rfl 0 (by decide) (hts (.fieldLink RX3 12 "ParcelShelves" "now" "LParcelShelves$Shop;") (by decide +kernel)) (fun _ h9 => h9) rfl dX3_letRefuse_56 ?_
      refine lv_iload_n hx hb dX3_letRefuse_59 rfl (lv_at hl 1 rfl) ?_
      refine kz_mvV (As := [.int (nI (X1_placeWith_r S code).toNatClampNeg)]) (rest := []) (b := a 0) (wr := [xoW x (a 0) u1 u2 u3 u4 V]) (bs' := [xoW x (a 0) u1 u2 u3 u4 V, shW G a (X1_leave_s S ((X1_placeWith_r S code).toNatClampNeg))]) ⟨hx, hb, hml, hown, hts⟩ (c_X1_leave l G a S ((X1_placeWith_r S code).toNatClampNeg) (by omega) (hJ.1 _ (by omega))) (cwV 1 hts gX3_letRefuse_X1_leave rfl rfl rfl (by decide +kernel) ⟨Nat.le_of_ble_eq_true rfl, Nat.le_of_ble_eq_true rfl⟩) hK hP hD hS hA [1] [0] [0, 1] rfl (by decide) rfl (by decide) (by decide) rfl (by decide) (kz_recv hK hP (ci := 1) (q0 := 1) rfl rfl) rfl hl.1 rfl (Nat.le_of_ble_eq_true rfl) dX3_letRefuse_60 ⟨Nat.le_of_ble_eq_true rfl, Nat.le_of_ble_eq_true rfl⟩ (fun H locs hP hD hS => ?_)
      refine lv_aload_n hx hb dX3_letRefuse_63 rfl (lv_at hl 2 rfl) ?_
      refine va_get (D := G.1) (ci := 3) (v := .ref (a 0)) (C := RX3) (T := TX3) (N := 8) hx hb hts hinX3 hown hK.1 hP 0 rfl rfl 0 (by decide) (hts (.fieldLink RX3 12 "ParcelShelves" "now" "LParcelShelves$Shop;") (by decide +kernel)) (fun _ h9 => h9) rfl dX3_letRefuse_64 ?_
      refine va_get (D := G.1) (ci := 1) (v := .ref (a 7)) (C := RX1) (T := TX1) (N := 14) hx hb hts hinX1 hown hK.1 hP 1 rfl rfl 10 (by decide) (hts (.fieldLink RX3 126 "ParcelShelves$Shop" "bins" "[I") (by decide +kernel)) (fun _ h9 => h9) rfl dX3_letRefuse_67 ?_
      refine lv_iload_n hx hb dX3_letRefuse_70 rfl (lv_at hl 0 rfl) ?_
      refine lv_dup2_11 hx hb dX3_letRefuse_71 rfl rfl ?_
      refine va_iald (f := ((X1_leave_s S ((X1_placeWith_r S code).toNatClampNeg)) 10)) hx hb hK.1 hP 8 0 rfl rfl (kz_q10 (hJ.2 _ (by omega))) dX3_letRefuse_72 ?_
      refine lv_iconst (v := 1) hx hb dX3_letRefuse_73 (by decide +kernel) ?_
      refine lv_iadd hx hb dX3_letRefuse_74 ?_
      refine va_iast hx hb hK.1 hP hD hS 8 0 rfl rfl (kz_q10 (hJ.2 _ (by omega))) dX3_letRefuse_75 (fun H locs hP hD hS => ?_)
      have hP : kz_P G [xoW x (a 0) u1 u2 u3 u4 V, shW G a (va_up (X1_leave_s S ((X1_placeWith_r S code).toNatClampNeg)) 10 (upd ((X1_leave_s S ((X1_placeWith_r S code).toNatClampNeg)) 10) (((S 6) ((X1_placeWith_r S code).toNatClampNeg)).toNatClampNeg) ((((X1_leave_s S ((X1_placeWith_r S code).toNatClampNeg)) 10) ((S 6) ((X1_placeWith_r S code).toNatClampNeg)).toNatClampNeg) + 1)))] H := hP
      have hD : kz_D A [xoW x (a 0) u1 u2 u3 u4 V, shW G a (va_up (X1_leave_s S ((X1_placeWith_r S code).toNatClampNeg)) 10 (upd ((X1_leave_s S ((X1_placeWith_r S code).toNatClampNeg)) 10) (((S 6) ((X1_placeWith_r S code).toNatClampNeg)).toNatClampNeg) ((((X1_leave_s S ((X1_placeWith_r S code).toNatClampNeg)) 10) ((S 6) ((X1_placeWith_r S code).toNatClampNeg)).toNatClampNeg) + 1)))] := hD
      refine lv_aload_n hx hb dX3_letRefuse_76 rfl (lv_at hl 2 rfl) ?_
      refine va_get (D := G.1) (ci := 3) (v := .ref (a 0)) (C := RX3) (T := TX3) (N := 8) hx hb hts hinX3 hown hK.1 hP 0 rfl rfl 0 (by decide) (hts (.fieldLink RX3 12 "ParcelShelves" "now" "LParcelShelves$Shop;") (by decide +kernel)) (fun _ h9 => h9) rfl dX3_letRefuse_77 ?_
      refine va_get (D := G.1) (ci := 1) (v := .ref (a 7)) (C := RX1) (T := TX1) (N := 14) hx hb hts hinX1 hown hK.1 hP 1 rfl rfl 10 (by decide) (hts (.fieldLink RX3 126 "ParcelShelves$Shop" "bins" "[I") (by decide +kernel)) (fun _ h9 => h9) rfl dX3_letRefuse_80 ?_
      refine lv_iload_n hx hb dX3_letRefuse_83 rfl (lv_at hl 0 rfl) ?_
      refine va_iald (f := (upd ((X1_leave_s S ((X1_placeWith_r S code).toNatClampNeg)) 10) (((S 6) ((X1_placeWith_r S code).toNatClampNeg)).toNatClampNeg) ((((X1_leave_s S ((X1_placeWith_r S code).toNatClampNeg)) 10) ((S 6) ((X1_placeWith_r S code).toNatClampNeg)).toNatClampNeg) + 1))) hx hb hK.1 hP 8 0 rfl rfl (kz_q10 (hJ.2 _ (by omega))) dX3_letRefuse_84 ?_
      subst hQ
      have hP9 : kz_P G [xoW x (a 0) u1 u2 u3 u4 (X3_letRefuse_s0 V S code), shW G a (X3_letRefuse_s1 V S code)] H := by rw [X3_letRefuse_s0, if_neg c_1, if_pos c_5]; rw [X3_letRefuse_s1, if_neg c_1, if_pos c_5]; exact hP
      have hD9 : kz_D A [xoW x (a 0) u1 u2 u3 u4 (X3_letRefuse_s0 V S code), shW G a (X3_letRefuse_s1 V S code)] := by rw [X3_letRefuse_s0, if_neg c_1, if_pos c_5]; rw [X3_letRefuse_s1, if_neg c_1, if_pos c_5]; exact hD
      exact W.iret (v := ((upd ((X1_leave_s S ((X1_placeWith_r S code).toNatClampNeg)) 10) (((S 6) ((X1_placeWith_r S code).toNatClampNeg)).toNatClampNeg) ((((X1_leave_s S ((X1_placeWith_r S code).toNatClampNeg)) 10) ((S 6) ((X1_placeWith_r S code).toNatClampNeg)).toNatClampNeg) + 1)) ((S 6) ((X1_placeWith_r S code).toNatClampNeg)).toNatClampNeg)) hx hb hr (fun t ht hW => ⟨⟨((upd ((X1_leave_s S ((X1_placeWith_r S code).toNatClampNeg)) 10) (((S 6) ((X1_placeWith_r S code).toNatClampNeg)).toNatClampNeg) ((((X1_leave_s S ((X1_placeWith_r S code).toNatClampNeg)) 10) ((S 6) ((X1_placeWith_r S code).toNatClampNeg)).toNatClampNeg) + 1)) ((S 6) ((X1_placeWith_r S code).toNatClampNeg)).toNatClampNeg), (), rfl, (by rw [X3_letRefuse_r, if_neg c_1, if_pos c_5]), by rw [ht]; exact hP9, hD9⟩, hS.F ht⟩) hS.2.2 dX3_letRefuse_85
    · refine lv_aload_n hx hb dX3_letRefuse_45 rfl (lv_at hl 2 rfl) ?_
      refine lv_iconst (v := 3) hx hb dX3_letRefuse_46 (by decide +kernel) ?_
      refine lv_bipush (v := (-6)) hx hb dX3_letRefuse_47 (by decide +kernel) ?_
      refine kz_mvV (As := [.int 3, .int (-6)]) (rest := []) (b := x) (wr := [shW G a S]) (bs' := [xoW x (a 0) u1 u2 u3 u4 (X3_refuseFor_s V 3 (-6)), shW G a S]) ⟨hx, hb, hml, hown, hts⟩ (c_X3_refuseFor l G x (a 0) u1 u2 u3 u4 V 3 (-6)) (cwV 2 hts gX3_letRefuse_X3_refuseFor rfl rfl rfl (by decide +kernel) ⟨Nat.le_of_ble_eq_true rfl, Nat.le_of_ble_eq_true rfl⟩) hK hP hD hS hA [0] [1] [1, 0] rfl (by decide) rfl (by decide) (by decide) rfl (by decide) (kz_recv hK hP (ci := 3) (q0 := 0) rfl rfl) rfl hl.1 rfl (Nat.le_of_ble_eq_true rfl) dX3_letRefuse_49 ⟨Nat.le_of_ble_eq_true rfl, Nat.le_of_ble_eq_true rfl⟩ (fun H locs hP hD hS => ?_)
      refine lv_bipush (v := (-3)) hx hb dX3_letRefuse_52 (by decide +kernel) ?_
      subst hQ
      have hP9 : kz_P G [xoW x (a 0) u1 u2 u3 u4 (X3_letRefuse_s0 V S code), shW G a (X3_letRefuse_s1 V S code)] H := by rw [X3_letRefuse_s0, if_neg c_1, if_neg c_5]; rw [X3_letRefuse_s1, if_neg c_1, if_neg c_5]; exact hP
      have hD9 : kz_D A [xoW x (a 0) u1 u2 u3 u4 (X3_letRefuse_s0 V S code), shW G a (X3_letRefuse_s1 V S code)] := by rw [X3_letRefuse_s0, if_neg c_1, if_neg c_5]; rw [X3_letRefuse_s1, if_neg c_1, if_neg c_5]; exact hD
      exact W.iret (v := (-3)) hx hb hr (fun t ht hW => ⟨⟨(-3), (), rfl, (by rw [X3_letRefuse_r, if_neg c_1, if_neg c_5]), by rw [ht]; exact hP9, hD9⟩, hS.F ht⟩) hS.2.2 dX3_letRefuse_54
  · refine lv_aload_n hx hb dX3_letRefuse_14 rfl (lv_at hl 1 rfl) ?_
    refine lv_iload_n hx hb dX3_letRefuse_15 rfl (lv_at hl 2 rfl) ?_
    refine kz_mvV (As := [.int code]) (rest := []) (b := x) (wr := []) (bs' := [xoW x (a 0) u1 u2 u3 u4 (X3_refuseForNoParcel_s V S code), shW G a S]) ⟨hx, hb, hml, hown, hts⟩ (c_X3_refuseForNoParcel l G x u1 u2 u3 u4 V a S code) (cwV 1 hts gX3_letRefuse_X3_refuseForNoParcel rfl rfl rfl (by decide +kernel) ⟨Nat.le_of_ble_eq_true rfl, Nat.le_of_ble_eq_true rfl⟩) hK hP hD hS hA [0, 1] [] [0, 1] rfl (by decide) rfl (by decide) (by decide) rfl (by decide) (kz_recv hK hP (ci := 3) (q0 := 0) rfl rfl) rfl hl.1 rfl (Nat.le_of_ble_eq_true rfl) dX3_letRefuse_16 ⟨Nat.le_of_ble_eq_true rfl, Nat.le_of_ble_eq_true rfl⟩ (fun H locs hP hD hS => ?_)
    refine lv_iconst (v := (-1)) hx hb dX3_letRefuse_19 (by decide +kernel) ?_
    subst hQ
    have hP9 : kz_P G [xoW x (a 0) u1 u2 u3 u4 (X3_letRefuse_s0 V S code), shW G a (X3_letRefuse_s1 V S code)] H := by rw [X3_letRefuse_s0, if_pos c_1]; rw [X3_letRefuse_s1, if_pos c_1]; exact hP
    have hD9 : kz_D A [xoW x (a 0) u1 u2 u3 u4 (X3_letRefuse_s0 V S code), shW G a (X3_letRefuse_s1 V S code)] := by rw [X3_letRefuse_s0, if_pos c_1]; rw [X3_letRefuse_s1, if_pos c_1]; exact hD
    exact W.iret (v := (-1)) hx hb hr (fun t ht hW => ⟨⟨(-1), (), rfl, (by rw [X3_letRefuse_r, if_pos c_1]), by rw [ht]; exact hP9, hD9⟩, hS.F ht⟩) hS.2.2 dX3_letRefuse_20
def X3_moveParcel_r (V : kz_S) (S : kz_S) (code : Int32) (k : Int32) : Int32 := if (X1_placeWith_r S code) = (-1) then (-1) else if X3_isWithin_p k 0 5 then (if (nI k.toNatClampNeg) = ((nI (X1_placeWith_r S code).toNatClampNeg) / 8) then (-2) else if ((S 7) ((X1_placeWith_r S code).toNatClampNeg)) ≤ (X3_sizeOfShelf_r (nI k.toNatClampNeg)) then (if (X1_placeToGive_r S k.toNatClampNeg k.toNatClampNeg) = (-1) then (-4) else (X1_codeOn_r (X1_leave_s (X1_put_s S ((X1_placeToGive_r S k.toNatClampNeg k.toNatClampNeg).toNatClampNeg) ((S 6) ((X1_placeWith_r S code).toNatClampNeg)) ((S 7) ((X1_placeWith_r S code).toNatClampNeg)) ((S 8) ((X1_placeWith_r S code).toNatClampNeg))) ((X1_placeWith_r S code).toNatClampNeg)) ((X1_placeToGive_r S k.toNatClampNeg k.toNatClampNeg).toNatClampNeg))) else (-2)) else (-1)
def X3_moveParcel_s0 (V : kz_S) (S : kz_S) (code : Int32) (k : Int32) : kz_S := if (X1_placeWith_r S code) = (-1) then (X3_refuseForNoParcel_s V S code) else if X3_isWithin_p k 0 5 then (if (nI k.toNatClampNeg) = ((nI (X1_placeWith_r S code).toNatClampNeg) / 8) then V else if ((S 7) ((X1_placeWith_r S code).toNatClampNeg)) ≤ (X3_sizeOfShelf_r (nI k.toNatClampNeg)) then (if (X1_placeToGive_r S k.toNatClampNeg k.toNatClampNeg) = (-1) then (X3_refuseForNoPlace_s V S k.toNatClampNeg k.toNatClampNeg) else V) else V) else V
def X3_moveParcel_s1 (V : kz_S) (S : kz_S) (code : Int32) (k : Int32) : kz_S := if (X1_placeWith_r S code) = (-1) then S else if X3_isWithin_p k 0 5 then (if (nI k.toNatClampNeg) = ((nI (X1_placeWith_r S code).toNatClampNeg) / 8) then S else if ((S 7) ((X1_placeWith_r S code).toNatClampNeg)) ≤ (X3_sizeOfShelf_r (nI k.toNatClampNeg)) then (if (X1_placeToGive_r S k.toNatClampNeg k.toNatClampNeg) = (-1) then S else (X1_leave_s (X1_put_s S ((X1_placeToGive_r S k.toNatClampNeg k.toNatClampNeg).toNatClampNeg) ((S 6) ((X1_placeWith_r S code).toNatClampNeg)) ((S 7) ((X1_placeWith_r S code).toNatClampNeg)) ((S 8) ((X1_placeWith_r S code).toNatClampNeg))) ((X1_placeWith_r S code).toNatClampNeg))) else S) else S
set_option maxHeartbeats 4000000 in
set_option maxRecDepth 100000 in
theorem c_X3_moveParcel (l : Launch) (G : kz_G) (x : Nat) (u1 : Nat) (u2 : Nat) (u3 : Nat) (u4 : Nat) (V : kz_S) (a : Nat → Nat) (S : kz_S) (code : Int32) (k : Int32) (hJ : kz_J S) (ht : ∃ d, d < 2 ^ 30 ∧ S 1 0 = nI d) : kz_mi l G yX3_moveParcel wsX3_moveParcel 4 89 [.ref x, .int code, .int k] [xoW x (a 0) u1 u2 u3 u4 V, shW G a S] [xoW x (a 0) u1 u2 u3 u4 (X3_moveParcel_s0 V S code k), shW G a (X3_moveParcel_s1 V S code k)] (X3_moveParcel_r V S code k) := by
  intro sz
  refine Met.ofW (cc := cX3_moveParcel) (maxL := 5) (ret := (some .int)) (by decide) rfl ?_
  intro p e s m args below meth c s₁ B hml hv
  obtain ⟨rfl, hsz, hP, hK, hD0⟩ := hv
  have hx := B.exec
  have hb := B.bytes
  have hr := B.returns
  have hts := atoms_spec (ws := wsX3_moveParcel) B.pre
  have hown : s.vm.findClass RX3 = some m.cls := findClass_of_methodNamed B.named
  have hlocks := B.notSynchronized
  have hinX3 : ∀ w ∈ u_ws RX3 TX3 8, w ∈ wsX3_moveParcel := by decide +kernel
  have hinX1 : ∀ w ∈ u_ws RX1 TX1 14, w ∈ wsX3_moveParcel := by decide +kernel
  subst hsz
  have hD := hD0.self (sz := s.heap.size)
  generalize hAe : kz_A [xoW x (a 0) u1 u2 u3 u4 V, shW G a S] s.heap.size = A at hD ⊢
  have hA : ∀ q : Nat, s.heap.size ≤ q → A q := fun q h => by rw [← hAe]; exact Or.inr h
  have hS : va_S A s.heap s.heap [] := va_S.rf
  have hl := lv_entry ([.ref x, .int code, .int k]) (n := 5) (Nat.le_of_ble_eq_true rfl)
  rw [lg_entry_eq]
  generalize (lg_sl ([.ref x, .int code, .int k]) ++ List.replicate (5 - (lg_sl ([.ref x, .int code, .int k])).length) Slot.unset).toArray = ls at hl ⊢
  have hl : lv_has ls 5 [(0, .ref x), (1, .int code), (2, .int k)] := hl
  refine kz_start (fun QQ hQ => ?_)
  have hP : kz_P G [xoW x (a 0) u1 u2 u3 u4 V, shW G a S] s.heap := hP
  refine lv_aload_n hx hb dX3_moveParcel_0 rfl (lv_at hl 0 rfl) ?_
  refine va_get (D := G.1) (ci := 3) (v := .ref (a 0)) (C := RX3) (T := TX3) (N := 8) hx hb hts hinX3 hown hK.1 hP 0 rfl rfl 0 (by decide) (hts (.fieldLink RX3 12 "ParcelShelves" "now" "LParcelShelves$Shop;") (by decide +kernel)) (fun _ h9 => h9) rfl dX3_moveParcel_1 ?_
  refine lv_iload_n hx hb dX3_moveParcel_4 rfl (lv_at hl 1 rfl) ?_
  refine kz_rdV (As := [.int code]) (rest := []) (b := a 0) ⟨hx, hb, hml, hown, hts⟩ (c_X1_placeWith l G a S code) (cwV 1 hts gX3_moveParcel_X1_placeWith rfl rfl rfl (by decide +kernel) ⟨Nat.le_of_ble_eq_true rfl, Nat.le_of_ble_eq_true rfl⟩) hK (hP.sub (cs := [shW G a S]) [1] rfl) (kz_recv hK hP (ci := 1) (q0 := 1) rfl rfl) rfl hl.1 rfl (Nat.le_of_ble_eq_true rfl) dX3_moveParcel_5 ⟨Nat.le_of_ble_eq_true rfl, Nat.le_of_ble_eq_true rfl⟩ ?_
  refine lv_istore_n (lv' := [(3, .int (X1_placeWith_r S code)), (0, .ref x), (1, .int code), (2, .int k)]) hx hb dX3_moveParcel_8 rfl hl (by decide) rfl (fun ls hl => ?_)
  refine lv_iload_n hx hb dX3_moveParcel_9 rfl (lv_at hl 0 rfl) ?_
  refine lv_iconst (v := (-1)) hx hb dX3_moveParcel_10 (by decide +kernel) ?_
  refine lv_icmp_ne (tgt := 21) hx hb dX3_moveParcel_11 (by decide) (fun c_1 => ?_) (fun c_1 => ?_)
  · obtain ⟨hcv2, hcl2⟩ := kz_back (kz_pwIn c_1) (by decide)
    have hl : lv_has ls 5 [(3, .int (nI (X1_placeWith_r S code).toNatClampNeg)), (0, .ref x), (1, .int code), (2, .int k)] := by rw [← hcv2]; exact hl
    refine lv_iload_n hx hb dX3_moveParcel_21 rfl (lv_at hl 3 rfl) ?_
    refine lv_iconst (v := 0) hx hb dX3_moveParcel_22 (by decide +kernel) ?_
    refine lv_iconst (v := 5) hx hb dX3_moveParcel_23 (by decide +kernel) ?_
    refine kz_rdS (As := [.int k, .int 0, .int 5]) (rest := []) ⟨hx, hb, hml, hown, hts⟩ (c_X3_isWithin l G k 0 5) (va_cwS 3 hts gX3_moveParcel_X3_isWithin rfl rfl rfl (by decide +kernel) ⟨Nat.le_of_ble_eq_true rfl, Nat.le_of_ble_eq_true rfl⟩) hK (hP.sub (cs := []) [] rfl) rfl hl.1 rfl (Nat.le_of_ble_eq_true rfl) dX3_moveParcel_24 ⟨Nat.le_of_ble_eq_true rfl, Nat.le_of_ble_eq_true rfl⟩ ?_
    refine lv_topi (fun y_3 ey_4 => ?_)
    by_cases c_5 : X3_isWithin_p k 0 5
    · rw [if_pos c_5] at ey_4
      subst ey_4
      obtain ⟨hcv6, hcl6⟩ := kz_back (kz_wiIn 5 c_5 rfl (by decide)) (by decide)
      have hl : lv_has ls 5 [(3, .int (nI (X1_placeWith_r S code).toNatClampNeg)), (0, .ref x), (1, .int code), (2, .int (nI k.toNatClampNeg))] := by rw [← hcv6]; exact hl
      refine lv_if_ne (tgt := 32) hx hb dX3_moveParcel_27 (by decide) (fun _ => ?_) (fun c => absurd c (by decide))
      refine lv_iload_n hx hb dX3_moveParcel_32 rfl (lv_at hl 3 rfl) ?_
      refine lv_iload_n hx hb dX3_moveParcel_33 rfl (lv_at hl 0 rfl) ?_
      refine lv_bipush (v := 8) hx hb dX3_moveParcel_34 (by decide +kernel) ?_
      refine lv_idiv hx hb dX3_moveParcel_36 (by decide +kernel) ?_
      refine lv_icmp_eq (tgt := 56) hx hb dX3_moveParcel_37 (by decide) (fun c_7 => ?_) (fun c_7 => ?_)
      · refine lv_bipush (v := (-2)) hx hb dX3_moveParcel_56 (by decide +kernel) ?_
        subst hQ
        have hP9 : kz_P G [xoW x (a 0) u1 u2 u3 u4 (X3_moveParcel_s0 V S code k), shW G a (X3_moveParcel_s1 V S code k)] s.heap := by rw [X3_moveParcel_s0, if_neg c_1, if_pos c_5, if_pos c_7]; rw [X3_moveParcel_s1, if_neg c_1, if_pos c_5, if_pos c_7]; exact hP
        have hD9 : kz_D A [xoW x (a 0) u1 u2 u3 u4 (X3_moveParcel_s0 V S code k), shW G a (X3_moveParcel_s1 V S code k)] := by rw [X3_moveParcel_s0, if_neg c_1, if_pos c_5, if_pos c_7]; rw [X3_moveParcel_s1, if_neg c_1, if_pos c_5, if_pos c_7]; exact hD
        exact W.iret (v := (-2)) hx hb hr (fun t ht hW => ⟨⟨(-2), (), rfl, (by rw [X3_moveParcel_r, if_neg c_1, if_pos c_5, if_pos c_7]), by rw [ht]; exact hP9, hD9⟩, hS.F ht⟩) hS.2.2 dX3_moveParcel_58
      · refine lv_iload_n hx hb dX3_moveParcel_40 rfl (lv_at hl 3 rfl) ?_
        refine kz_rdS (As := [.int (nI k.toNatClampNeg)]) (rest := []) ⟨hx, hb, hml, hown, hts⟩ (c_X3_sizeOfShelf l G (nI k.toNatClampNeg)) (va_cwS 1 hts gX3_moveParcel_X3_sizeOfShelf rfl rfl rfl (by decide +kernel) ⟨Nat.le_of_ble_eq_true rfl, Nat.le_of_ble_eq_true rfl⟩) hK (hP.sub (cs := []) [] rfl) rfl hl.1 rfl (Nat.le_of_ble_eq_true rfl) dX3_moveParcel_41 ⟨Nat.le_of_ble_eq_true rfl, Nat.le_of_ble_eq_true rfl⟩ ?_
        refine lv_aload_n hx hb dX3_moveParcel_44 rfl (lv_at hl 1 rfl) ?_
        refine va_get (D := G.1) (ci := 3) (v := .ref (a 0)) (C := RX3) (T := TX3) (N := 8) hx hb hts hinX3 hown hK.1 hP 0 rfl rfl 0 (by decide) (hts (.fieldLink RX3 12 "ParcelShelves" "now" "LParcelShelves$Shop;") (by decide +kernel)) (fun _ h9 => h9) rfl dX3_moveParcel_45 ?_
        refine va_get (D := G.1) (ci := 1) (v := .ref (a 4)) (C := RX1) (T := TX1) (N := 14) hx hb hts hinX1 hown hK.1 hP 1 rfl rfl 7 (by decide) (hts (.fieldLink RX3 94 "ParcelShelves$Shop" "sizes" "[I") (by decide +kernel)) (fun _ h9 => h9) rfl dX3_moveParcel_48 ?_
        refine lv_iload_n hx hb dX3_moveParcel_51 rfl (lv_at hl 0 rfl) ?_
        refine va_iald (f := (S 7)) hx hb hK.1 hP 5 0 rfl rfl (vp_in_nI (n := (X1_placeWith_r S code).toNatClampNeg) (N := 48) (by omega) (by decide)) dX3_moveParcel_52 ?_
        refine lv_topi (fun y_8 ey_9 => ?_)
        obtain rfl : y_8 = ((S 7) ((X1_placeWith_r S code).toNatClampNeg)) := by rw [ey_9, kz_nI_clamp (n := (X1_placeWith_r S code).toNatClampNeg) (by omega)]
        refine lv_icmp_ge (tgt := 59) hx hb dX3_moveParcel_53 (by decide) (fun c_10 => ?_) (fun c_10 => ?_)
        · refine lv_aload_n hx hb dX3_moveParcel_59 rfl (lv_at hl 1 rfl) ?_
          refine va_get (D := G.1) (ci := 3) (v := .ref (a 0)) (C := RX3) (T := TX3) (N := 8) hx hb hts hinX3 hown hK.1 hP 0 rfl rfl 0 (by decide) (hts (.fieldLink RX3 12 "ParcelShelves" "now" "LParcelShelves$Shop;") (by decide +kernel)) (fun _ h9 => h9) rfl dX3_moveParcel_60 ?_
          refine lv_iload_n hx hb dX3_moveParcel_63 rfl (lv_at hl 3 rfl) ?_
          refine lv_iload_n hx hb dX3_moveParcel_64 rfl (lv_at hl 3 rfl) ?_
          refine kz_rdV (As := [.int (nI k.toNatClampNeg), .int (nI k.toNatClampNeg)]) (rest := []) (b := a 0) ⟨hx, hb, hml, hown, hts⟩ (c_X1_placeToGive l G a S k.toNatClampNeg k.toNatClampNeg (by omega) (by omega) (by assumption)) (cwV 2 hts gX3_moveParcel_X1_placeToGive rfl rfl rfl (by decide +kernel) ⟨Nat.le_of_ble_eq_true rfl, Nat.le_of_ble_eq_true rfl⟩) hK (hP.sub (cs := [shW G a S]) [1] rfl) (kz_recv hK hP (ci := 1) (q0 := 1) rfl rfl) rfl hl.1 rfl (Nat.le_of_ble_eq_true rfl) dX3_moveParcel_65 ⟨Nat.le_of_ble_eq_true rfl, Nat.le_of_ble_eq_true rfl⟩ ?_
          refine lv_istore (lv' := [(4, .int (X1_placeToGive_r S k.toNatClampNeg k.toNatClampNeg)), (3, .int (nI (X1_placeWith_r S code).toNatClampNeg)), (0, .ref x), (1, .int code), (2, .int (nI k.toNatClampNeg))]) hx hb dX3_moveParcel_68 hl (by decide) rfl (fun ls hl => ?_)
          refine lv_iload hx hb dX3_moveParcel_70 (lv_at hl 0 rfl) ?_
          refine lv_iconst (v := (-1)) hx hb dX3_moveParcel_72 (by decide +kernel) ?_
          refine lv_icmp_ne (tgt := 85) hx hb dX3_moveParcel_73 (by decide) (fun c_11 => ?_) (fun c_11 => ?_)
          · obtain ⟨hcv12, hcl12⟩ := kz_back (kz_giveIn (by omega) c_11) (by decide)
            have hl : lv_has ls 5 [(4, .int (nI (X1_placeToGive_r S k.toNatClampNeg k.toNatClampNeg).toNatClampNeg)), (3, .int (nI (X1_placeWith_r S code).toNatClampNeg)), (0, .ref x), (1, .int code), (2, .int (nI k.toNatClampNeg))] := by rw [← hcv12]; exact hl
            refine lv_aload_n hx hb dX3_moveParcel_85 rfl (lv_at hl 2 rfl) ?_
            refine va_get (D := G.1) (ci := 3) (v := .ref (a 0)) (C := RX3) (T := TX3) (N := 8) hx hb hts hinX3 hown hK.1 hP 0 rfl rfl 0 (by decide) (hts (.fieldLink RX3 12 "ParcelShelves" "now" "LParcelShelves$Shop;") (by decide +kernel)) (fun _ h9 => h9) rfl dX3_moveParcel_86 ?_
            refine lv_iload hx hb dX3_moveParcel_89 (lv_at hl 0 rfl) ?_
            refine lv_aload_n hx hb dX3_moveParcel_91 rfl (lv_at hl 2 rfl) ?_
            refine va_get (D := G.1) (ci := 3) (v := .ref (a 0)) (C := RX3) (T := TX3) (N := 8) hx hb hts hinX3 hown hK.1 hP 0 rfl rfl 0 (by decide) (hts (.fieldLink RX3 12 "ParcelShelves" "now" "LParcelShelves$Shop;") (by decide +kernel)) (fun _ h9 => h9) rfl dX3_moveParcel_92 ?_
            refine va_get (D := G.1) (ci := 1) (v := .ref (a 3)) (C := RX1) (T := TX1) (N := 14) hx hb hts hinX1 hown hK.1 hP 1 rfl rfl 6 (by decide) (hts (.fieldLink RX3 91 "ParcelShelves$Shop" "senders" "[I") (by decide +kernel)) (fun _ h9 => h9) rfl dX3_moveParcel_95 ?_
            refine lv_iload_n hx hb dX3_moveParcel_98 rfl (lv_at hl 1 rfl) ?_
            refine va_iald (f := (S 6)) hx hb hK.1 hP 4 0 rfl rfl (vp_in_nI (n := (X1_placeWith_r S code).toNatClampNeg) (N := 48) (by omega) (by decide)) dX3_moveParcel_99 ?_
            refine lv_topi (fun y_13 ey_14 => ?_)
            obtain rfl : y_13 = ((S 6) ((X1_placeWith_r S code).toNatClampNeg)) := by rw [ey_14, kz_nI_clamp (n := (X1_placeWith_r S code).toNatClampNeg) (by omega)]
            refine lv_aload_n hx hb dX3_moveParcel_100 rfl (lv_at hl 2 rfl) ?_
            refine va_get (D := G.1) (ci := 3) (v := .ref (a 0)) (C := RX3) (T := TX3) (N := 8) hx hb hts hinX3 hown hK.1 hP 0 rfl rfl 0 (by decide) (hts (.fieldLink RX3 12 "ParcelShelves" "now" "LParcelShelves$Shop;") (by decide +kernel)) (fun _ h9 => h9) rfl dX3_moveParcel_101 ?_
            refine va_get (D := G.1) (ci := 1) (v := .ref (a 4)) (C := RX1) (T := TX1) (N := 14) hx hb hts hinX1 hown hK.1 hP 1 rfl rfl 7 (by decide) (hts (.fieldLink RX3 94 "ParcelShelves$Shop" "sizes" "[I") (by decide +kernel)) (fun _ h9 => h9) rfl dX3_moveParcel_104 ?_
            refine lv_iload_n hx hb dX3_moveParcel_107 rfl (lv_at hl 1 rfl) ?_
            refine va_iald (f := (S 7)) hx hb hK.1 hP 5 0 rfl rfl (vp_in_nI (n := (X1_placeWith_r S code).toNatClampNeg) (N := 48) (by omega) (by decide)) dX3_moveParcel_108 ?_
            refine lv_topi (fun y_15 ey_16 => ?_)
            obtain rfl : y_15 = ((S 7) ((X1_placeWith_r S code).toNatClampNeg)) := by rw [ey_16, kz_nI_clamp (n := (X1_placeWith_r S code).toNatClampNeg) (by omega)]
            refine lv_aload_n hx hb dX3_moveParcel_109 rfl (lv_at hl 2 rfl) ?_
            refine va_get (D := G.1) (ci := 3) (v := .ref (a 0)) (C := RX3) (T := TX3) (N := 8) hx hb hts hinX3 hown hK.1 hP 0 rfl rfl 0 (by decide) (hts (.fieldLink RX3 12 "ParcelShelves" "now" "LParcelShelves$Shop;") (by decide +kernel)) (fun _ h9 => h9) rfl dX3_moveParcel_110 ?_
            refine va_get (D := G.1) (ci := 1) (v := .ref (a 5)) (C := RX1) (T := TX1) (N := 14) hx hb hts hinX1 hown hK.1 hP 1 rfl rfl 8 (by decide) (hts (.fieldLink RX3 97 "ParcelShelves$Shop" "cameOn" "[I") (by decide +kernel)) (fun _ h9 => h9) rfl dX3_moveParcel_113 ?_
            refine lv_iload_n hx hb dX3_moveParcel_116 rfl (lv_at hl 1 rfl) ?_
            refine va_iald (f := (S 8)) hx hb hK.1 hP 6 0 rfl rfl (vp_in_nI (n := (X1_placeWith_r S code).toNatClampNeg) (N := 48) (by omega) (by decide)) dX3_moveParcel_117 ?_
            refine lv_topi (fun y_17 ey_18 => ?_)
            obtain rfl : y_17 = ((S 8) ((X1_placeWith_r S code).toNatClampNeg)) := by rw [ey_18, kz_nI_clamp (n := (X1_placeWith_r S code).toNatClampNeg) (by omega)]
            refine kz_mvV (As := [.int (nI (X1_placeToGive_r S k.toNatClampNeg k.toNatClampNeg).toNatClampNeg), .int ((S 6) ((X1_placeWith_r S code).toNatClampNeg)), .int ((S 7) ((X1_placeWith_r S code).toNatClampNeg)), .int ((S 8) ((X1_placeWith_r S code).toNatClampNeg))]) (rest := []) (b := a 0) (wr := [xoW x (a 0) u1 u2 u3 u4 V]) (bs' := [xoW x (a 0) u1 u2 u3 u4 V, shW G a (X1_put_s S ((X1_placeToGive_r S k.toNatClampNeg k.toNatClampNeg).toNatClampNeg) ((S 6) ((X1_placeWith_r S code).toNatClampNeg)) ((S 7) ((X1_placeWith_r S code).toNatClampNeg)) ((S 8) ((X1_placeWith_r S code).toNatClampNeg)))]) ⟨hx, hb, hml, hown, hts⟩ (c_X1_put l G a S ((X1_placeToGive_r S k.toNatClampNeg k.toNatClampNeg).toNatClampNeg) ((S 6) ((X1_placeWith_r S code).toNatClampNeg)) ((S 7) ((X1_placeWith_r S code).toNatClampNeg)) ((S 8) ((X1_placeWith_r S code).toNatClampNeg)) (by omega)) (cwV 4 hts gX3_moveParcel_X1_put rfl rfl rfl (by decide +kernel) ⟨Nat.le_of_ble_eq_true rfl, Nat.le_of_ble_eq_true rfl⟩) hK hP hD hS hA [1] [0] [0, 1] rfl (by decide) rfl (by decide) (by decide) rfl (by decide) (kz_recv hK hP (ci := 1) (q0 := 1) rfl rfl) rfl hl.1 rfl (Nat.le_of_ble_eq_true rfl) dX3_moveParcel_118 ⟨Nat.le_of_ble_eq_true rfl, Nat.le_of_ble_eq_true rfl⟩ (fun H locs hP hD hS => ?_)
            refine lv_aload_n hx hb dX3_moveParcel_121 rfl (lv_at hl 2 rfl) ?_
            refine va_get (D := G.1) (ci := 3) (v := .ref (a 0)) (C := RX3) (T := TX3) (N := 8) hx hb hts hinX3 hown hK.1 hP 0 rfl rfl 0 (by decide) (hts (.fieldLink RX3 12 "ParcelShelves" "now" "LParcelShelves$Shop;") (by decide +kernel)) (fun _ h9 => h9) rfl dX3_moveParcel_122 ?_
            refine lv_iload_n hx hb dX3_moveParcel_125 rfl (lv_at hl 1 rfl) ?_
            refine kz_mvV (As := [.int (nI (X1_placeWith_r S code).toNatClampNeg)]) (rest := []) (b := a 0) (wr := [xoW x (a 0) u1 u2 u3 u4 V]) (bs' := [xoW x (a 0) u1 u2 u3 u4 V, shW G a (X1_leave_s (X1_put_s S ((X1_placeToGive_r S k.toNatClampNeg k.toNatClampNeg).toNatClampNeg) ((S 6) ((X1_placeWith_r S code).toNatClampNeg)) ((S 7) ((X1_placeWith_r S code).toNatClampNeg)) ((S 8) ((X1_placeWith_r S code).toNatClampNeg))) ((X1_placeWith_r S code).toNatClampNeg))]) ⟨hx, hb, hml, hown, hts⟩ (c_X1_leave l G a (X1_put_s S ((X1_placeToGive_r S k.toNatClampNeg k.toNatClampNeg).toNatClampNeg) ((S 6) ((X1_placeWith_r S code).toNatClampNeg)) ((S 7) ((X1_placeWith_r S code).toNatClampNeg)) ((S 8) ((X1_placeWith_r S code).toNatClampNeg))) ((X1_placeWith_r S code).toNatClampNeg) (by omega) (kz_put5 ht hJ (by omega))) (cwV 1 hts gX3_moveParcel_X1_leave rfl rfl rfl (by decide +kernel) ⟨Nat.le_of_ble_eq_true rfl, Nat.le_of_ble_eq_true rfl⟩) hK hP hD hS hA [1] [0] [0, 1] rfl (by decide) rfl (by decide) (by decide) rfl (by decide) (kz_recv hK hP (ci := 1) (q0 := 1) rfl rfl) rfl hl.1 rfl (Nat.le_of_ble_eq_true rfl) dX3_moveParcel_126 ⟨Nat.le_of_ble_eq_true rfl, Nat.le_of_ble_eq_true rfl⟩ (fun H locs hP hD hS => ?_)
            refine lv_aload_n hx hb dX3_moveParcel_129 rfl (lv_at hl 2 rfl) ?_
            refine va_get (D := G.1) (ci := 3) (v := .ref (a 0)) (C := RX3) (T := TX3) (N := 8) hx hb hts hinX3 hown hK.1 hP 0 rfl rfl 0 (by decide) (hts (.fieldLink RX3 12 "ParcelShelves" "now" "LParcelShelves$Shop;") (by decide +kernel)) (fun _ h9 => h9) rfl dX3_moveParcel_130 ?_
            refine lv_iload hx hb dX3_moveParcel_133 (lv_at hl 0 rfl) ?_
            refine kz_rdV (As := [.int (nI (X1_placeToGive_r S k.toNatClampNeg k.toNatClampNeg).toNatClampNeg)]) (rest := []) (b := a 0) ⟨hx, hb, hml, hown, hts⟩ (c_X1_codeOn l G a (X1_leave_s (X1_put_s S ((X1_placeToGive_r S k.toNatClampNeg k.toNatClampNeg).toNatClampNeg) ((S 6) ((X1_placeWith_r S code).toNatClampNeg)) ((S 7) ((X1_placeWith_r S code).toNatClampNeg)) ((S 8) ((X1_placeWith_r S code).toNatClampNeg))) ((X1_placeWith_r S code).toNatClampNeg)) ((X1_placeToGive_r S k.toNatClampNeg k.toNatClampNeg).toNatClampNeg) (by omega)) (cwV 1 hts gX3_moveParcel_X1_codeOn rfl rfl rfl (by decide +kernel) ⟨Nat.le_of_ble_eq_true rfl, Nat.le_of_ble_eq_true rfl⟩) hK (hP.sub (cs := [shW G a (X1_leave_s (X1_put_s S ((X1_placeToGive_r S k.toNatClampNeg k.toNatClampNeg).toNatClampNeg) ((S 6) ((X1_placeWith_r S code).toNatClampNeg)) ((S 7) ((X1_placeWith_r S code).toNatClampNeg)) ((S 8) ((X1_placeWith_r S code).toNatClampNeg))) ((X1_placeWith_r S code).toNatClampNeg))]) [1] rfl) (kz_recv hK hP (ci := 1) (q0 := 1) rfl rfl) rfl hl.1 rfl (Nat.le_of_ble_eq_true rfl) dX3_moveParcel_135 ⟨Nat.le_of_ble_eq_true rfl, Nat.le_of_ble_eq_true rfl⟩ ?_
            subst hQ
            have hP9 : kz_P G [xoW x (a 0) u1 u2 u3 u4 (X3_moveParcel_s0 V S code k), shW G a (X3_moveParcel_s1 V S code k)] H := by rw [X3_moveParcel_s0, if_neg c_1, if_pos c_5, if_neg c_7, if_pos c_10, if_neg c_11]; rw [X3_moveParcel_s1, if_neg c_1, if_pos c_5, if_neg c_7, if_pos c_10, if_neg c_11]; exact hP
            have hD9 : kz_D A [xoW x (a 0) u1 u2 u3 u4 (X3_moveParcel_s0 V S code k), shW G a (X3_moveParcel_s1 V S code k)] := by rw [X3_moveParcel_s0, if_neg c_1, if_pos c_5, if_neg c_7, if_pos c_10, if_neg c_11]; rw [X3_moveParcel_s1, if_neg c_1, if_pos c_5, if_neg c_7, if_pos c_10, if_neg c_11]; exact hD
            exact W.iret (v := (X1_codeOn_r (X1_leave_s (X1_put_s S ((X1_placeToGive_r S k.toNatClampNeg k.toNatClampNeg).toNatClampNeg) ((S 6) ((X1_placeWith_r S code).toNatClampNeg)) ((S 7) ((X1_placeWith_r S code).toNatClampNeg)) ((S 8) ((X1_placeWith_r S code).toNatClampNeg))) ((X1_placeWith_r S code).toNatClampNeg)) ((X1_placeToGive_r S k.toNatClampNeg k.toNatClampNeg).toNatClampNeg))) hx hb hr (fun t ht hW => ⟨⟨(X1_codeOn_r (X1_leave_s (X1_put_s S ((X1_placeToGive_r S k.toNatClampNeg k.toNatClampNeg).toNatClampNeg) ((S 6) ((X1_placeWith_r S code).toNatClampNeg)) ((S 7) ((X1_placeWith_r S code).toNatClampNeg)) ((S 8) ((X1_placeWith_r S code).toNatClampNeg))) ((X1_placeWith_r S code).toNatClampNeg)) ((X1_placeToGive_r S k.toNatClampNeg k.toNatClampNeg).toNatClampNeg)), (), rfl, (by rw [X3_moveParcel_r, if_neg c_1, if_pos c_5, if_neg c_7, if_pos c_10, if_neg c_11]), by rw [ht]; exact hP9, hD9⟩, hS.F ht⟩) hS.2.2 dX3_moveParcel_138
          · refine lv_aload_n hx hb dX3_moveParcel_76 rfl (lv_at hl 2 rfl) ?_
            refine lv_iload_n hx hb dX3_moveParcel_77 rfl (lv_at hl 4 rfl) ?_
            refine lv_iload_n hx hb dX3_moveParcel_78 rfl (lv_at hl 4 rfl) ?_
            refine kz_mvV (As := [.int (nI k.toNatClampNeg), .int (nI k.toNatClampNeg)]) (rest := []) (b := x) (wr := []) (bs' := [xoW x (a 0) u1 u2 u3 u4 (X3_refuseForNoPlace_s V S k.toNatClampNeg k.toNatClampNeg), shW G a S]) ⟨hx, hb, hml, hown, hts⟩ (c_X3_refuseForNoPlace l G x u1 u2 u3 u4 V a S k.toNatClampNeg k.toNatClampNeg (by omega) (by omega)) (cwV 2 hts gX3_moveParcel_X3_refuseForNoPlace rfl rfl rfl (by decide +kernel) ⟨Nat.le_of_ble_eq_true rfl, Nat.le_of_ble_eq_true rfl⟩) hK hP hD hS hA [0, 1] [] [0, 1] rfl (by decide) rfl (by decide) (by decide) rfl (by decide) (kz_recv hK hP (ci := 3) (q0 := 0) rfl rfl) rfl hl.1 rfl (Nat.le_of_ble_eq_true rfl) dX3_moveParcel_79 ⟨Nat.le_of_ble_eq_true rfl, Nat.le_of_ble_eq_true rfl⟩ (fun H locs hP hD hS => ?_)
            refine lv_bipush (v := (-4)) hx hb dX3_moveParcel_82 (by decide +kernel) ?_
            subst hQ
            have hP9 : kz_P G [xoW x (a 0) u1 u2 u3 u4 (X3_moveParcel_s0 V S code k), shW G a (X3_moveParcel_s1 V S code k)] H := by rw [X3_moveParcel_s0, if_neg c_1, if_pos c_5, if_neg c_7, if_pos c_10, if_pos c_11]; rw [X3_moveParcel_s1, if_neg c_1, if_pos c_5, if_neg c_7, if_pos c_10, if_pos c_11]; exact hP
            have hD9 : kz_D A [xoW x (a 0) u1 u2 u3 u4 (X3_moveParcel_s0 V S code k), shW G a (X3_moveParcel_s1 V S code k)] := by rw [X3_moveParcel_s0, if_neg c_1, if_pos c_5, if_neg c_7, if_pos c_10, if_pos c_11]; rw [X3_moveParcel_s1, if_neg c_1, if_pos c_5, if_neg c_7, if_pos c_10, if_pos c_11]; exact hD
            exact W.iret (v := (-4)) hx hb hr (fun t ht hW => ⟨⟨(-4), (), rfl, (by rw [X3_moveParcel_r, if_neg c_1, if_pos c_5, if_neg c_7, if_pos c_10, if_pos c_11]), by rw [ht]; exact hP9, hD9⟩, hS.F ht⟩) hS.2.2 dX3_moveParcel_84
        · refine lv_bipush (v := (-2)) hx hb dX3_moveParcel_56 (by decide +kernel) ?_
          subst hQ
          have hP9 : kz_P G [xoW x (a 0) u1 u2 u3 u4 (X3_moveParcel_s0 V S code k), shW G a (X3_moveParcel_s1 V S code k)] s.heap := by rw [X3_moveParcel_s0, if_neg c_1, if_pos c_5, if_neg c_7, if_neg c_10]; rw [X3_moveParcel_s1, if_neg c_1, if_pos c_5, if_neg c_7, if_neg c_10]; exact hP
          have hD9 : kz_D A [xoW x (a 0) u1 u2 u3 u4 (X3_moveParcel_s0 V S code k), shW G a (X3_moveParcel_s1 V S code k)] := by rw [X3_moveParcel_s0, if_neg c_1, if_pos c_5, if_neg c_7, if_neg c_10]; rw [X3_moveParcel_s1, if_neg c_1, if_pos c_5, if_neg c_7, if_neg c_10]; exact hD
          exact W.iret (v := (-2)) hx hb hr (fun t ht hW => ⟨⟨(-2), (), rfl, (by rw [X3_moveParcel_r, if_neg c_1, if_pos c_5, if_neg c_7, if_neg c_10]), by rw [ht]; exact hP9, hD9⟩, hS.F ht⟩) hS.2.2 dX3_moveParcel_58
    · rw [if_neg c_5] at ey_4
      subst ey_4
      refine lv_if_ne (tgt := 32) hx hb dX3_moveParcel_27 (by decide) (fun c => absurd c (by decide)) (fun _ => ?_)
      refine lv_iconst (v := (-1)) hx hb dX3_moveParcel_30 (by decide +kernel) ?_
      subst hQ
      have hP9 : kz_P G [xoW x (a 0) u1 u2 u3 u4 (X3_moveParcel_s0 V S code k), shW G a (X3_moveParcel_s1 V S code k)] s.heap := by rw [X3_moveParcel_s0, if_neg c_1, if_neg c_5]; rw [X3_moveParcel_s1, if_neg c_1, if_neg c_5]; exact hP
      have hD9 : kz_D A [xoW x (a 0) u1 u2 u3 u4 (X3_moveParcel_s0 V S code k), shW G a (X3_moveParcel_s1 V S code k)] := by rw [X3_moveParcel_s0, if_neg c_1, if_neg c_5]; rw [X3_moveParcel_s1, if_neg c_1, if_neg c_5]; exact hD
      exact W.iret (v := (-1)) hx hb hr (fun t ht hW => ⟨⟨(-1), (), rfl, (by rw [X3_moveParcel_r, if_neg c_1, if_neg c_5]), by rw [ht]; exact hP9, hD9⟩, hS.F ht⟩) hS.2.2 dX3_moveParcel_31
  · refine lv_aload_n hx hb dX3_moveParcel_14 rfl (lv_at hl 1 rfl) ?_
    refine lv_iload_n hx hb dX3_moveParcel_15 rfl (lv_at hl 2 rfl) ?_
    refine kz_mvV (As := [.int code]) (rest := []) (b := x) (wr := []) (bs' := [xoW x (a 0) u1 u2 u3 u4 (X3_refuseForNoParcel_s V S code), shW G a S]) ⟨hx, hb, hml, hown, hts⟩ (c_X3_refuseForNoParcel l G x u1 u2 u3 u4 V a S code) (cwV 1 hts gX3_moveParcel_X3_refuseForNoParcel rfl rfl rfl (by decide +kernel) ⟨Nat.le_of_ble_eq_true rfl, Nat.le_of_ble_eq_true rfl⟩) hK hP hD hS hA [0, 1] [] [0, 1] rfl (by decide) rfl (by decide) (by decide) rfl (by decide) (kz_recv hK hP (ci := 3) (q0 := 0) rfl rfl) rfl hl.1 rfl (Nat.le_of_ble_eq_true rfl) dX3_moveParcel_16 ⟨Nat.le_of_ble_eq_true rfl, Nat.le_of_ble_eq_true rfl⟩ (fun H locs hP hD hS => ?_)
    refine lv_iconst (v := (-1)) hx hb dX3_moveParcel_19 (by decide +kernel) ?_
    subst hQ
    have hP9 : kz_P G [xoW x (a 0) u1 u2 u3 u4 (X3_moveParcel_s0 V S code k), shW G a (X3_moveParcel_s1 V S code k)] H := by rw [X3_moveParcel_s0, if_pos c_1]; rw [X3_moveParcel_s1, if_pos c_1]; exact hP
    have hD9 : kz_D A [xoW x (a 0) u1 u2 u3 u4 (X3_moveParcel_s0 V S code k), shW G a (X3_moveParcel_s1 V S code k)] := by rw [X3_moveParcel_s0, if_pos c_1]; rw [X3_moveParcel_s1, if_pos c_1]; exact hD
    exact W.iret (v := (-1)) hx hb hr (fun t ht hW => ⟨⟨(-1), (), rfl, (by rw [X3_moveParcel_r, if_pos c_1]), by rw [ht]; exact hP9, hD9⟩, hS.F ht⟩) hS.2.2 dX3_moveParcel_20
def X3_psn (S : kz_S) : Nat → kz_S × Int32
  | 0 => (S, 0)
  | n + 1 => (X1_beginDay_s (X3_psn S n).1, (X3_psn S n).2 + X1_beginDay_r (X3_psn S n).1)
def X3_letPass_s (S : kz_S) (d : Int32) : kz_S := if X3_isWithin_p d 1 30 then (if S 1 0 ≤ 9999 - d then (X3_psn S d.toNatClampNeg).1 else S) else S
def X3_letPass_r (S : kz_S) (d : Int32) : Int32 := if X3_isWithin_p d 1 30 then (if S 1 0 ≤ 9999 - d then (X3_psn S d.toNatClampNeg).2 else (-4)) else (-2)
theorem kz_J_begin {S : kz_S} (h : kz_J S) : kz_J (X1_beginDay_s S) := by
  rw [X1_beginDay_s]
  split
  · exact kz_J_ret (S := X1_letCourierCome_s _) (kz_J_cour (S := va_up (va_up S 1 _) 2 _) h 10) 48 (Nat.le_refl _)
  · exact kz_J_ret (S := va_up (va_up S 1 _) 2 _) h 48 (Nat.le_refl _)
theorem X3_psn_s {S T : kz_S} {x : Int32} {i : Nat} (hT : (T, x) = X3_psn S i) : (X1_beginDay_s T, x + X1_beginDay_r T) = X3_psn S (i + 1) := by
  rw [X3_psn, ← hT]
set_option maxHeartbeats 4000000 in
set_option maxRecDepth 100000 in
theorem c_X3_letPass (l : Launch) (G : kz_G) (x : Nat) (u1 : Nat) (u2 : Nat) (u3 : Nat) (u4 : Nat) (V : kz_S) (a : Nat → Nat) (S : kz_S) (d : Int32) (hJ : kz_J S) : kz_mi l G yX3_letPass wsX3_letPass 4 84 [.ref x, .int d] [xoW x (a 0) u1 u2 u3 u4 V, shW G a S] [xoW x (a 0) u1 u2 u3 u4 V, shW G a (X3_letPass_s S d)] (X3_letPass_r S d) := by
  intro sz
  refine Met.ofW (cc := cX3_letPass) (maxL := 4) (ret := (some .int)) (by decide) rfl ?_
  intro p e s m args below meth c s₁ B hml hv
  obtain ⟨rfl, hsz, hP, hK, hD0⟩ := hv
  have hx := B.exec
  have hb := B.bytes
  have hr := B.returns
  have hts := atoms_spec (ws := wsX3_letPass) B.pre
  have hown : s.vm.findClass RX3 = some m.cls := findClass_of_methodNamed B.named
  have hlocks := B.notSynchronized
  have hinX3 : ∀ w ∈ u_ws RX3 TX3 8, w ∈ wsX3_letPass := by decide +kernel
  have hinX1 : ∀ w ∈ u_ws RX1 TX1 14, w ∈ wsX3_letPass := by decide +kernel
  subst hsz
  have hD := hD0.self (sz := s.heap.size)
  generalize hAe : kz_A [xoW x (a 0) u1 u2 u3 u4 V, shW G a S] s.heap.size = A at hD ⊢
  have hA : ∀ q : Nat, s.heap.size ≤ q → A q := fun q h => by rw [← hAe]; exact Or.inr h
  have hS : va_S A s.heap s.heap [] := va_S.rf
  have hl := lv_entry ([.ref x, .int d]) (n := 4) (Nat.le_of_ble_eq_true rfl)
  rw [lg_entry_eq]
  generalize (lg_sl ([.ref x, .int d]) ++ List.replicate (4 - (lg_sl ([.ref x, .int d])).length) Slot.unset).toArray = ls at hl ⊢
  have hl : lv_has ls 4 [(0, .ref x), (1, .int d)] := hl
  refine kz_start (fun QQ hQ => ?_)
  have hP : kz_P G [xoW x (a 0) u1 u2 u3 u4 V, shW G a S] s.heap := hP
  refine lv_iload_n hx hb dX3_letPass_0 rfl (lv_at hl 1 rfl) ?_
  refine lv_iconst (v := 1) hx hb dX3_letPass_1 (by decide +kernel) ?_
  refine lv_bipush (v := 30) hx hb dX3_letPass_2 (by decide +kernel) ?_
  refine kz_rdS (As := [.int d, .int 1, .int 30]) (rest := []) ⟨hx, hb, hml, hown, hts⟩ (c_X3_isWithin l G d 1 30) (va_cwS 3 hts gX3_letPass_X3_isWithin rfl rfl rfl (by decide +kernel) ⟨Nat.le_of_ble_eq_true rfl, Nat.le_of_ble_eq_true rfl⟩) hK (hP.sub (cs := []) [] rfl) rfl hl.1 rfl (Nat.le_of_ble_eq_true rfl) dX3_letPass_4 ⟨Nat.le_of_ble_eq_true rfl, Nat.le_of_ble_eq_true rfl⟩ ?_
  refine lv_topi (fun y_1 ey_2 => ?_)
  by_cases c_3 : X3_isWithin_p d 1 30
  · rw [if_pos c_3] at ey_2
    subst ey_2
    refine lv_if_ne (tgt := 13) hx hb dX3_letPass_7 (by decide) (fun _ => ?_) (fun c => absurd c (by decide))
    refine lv_aload_n hx hb dX3_letPass_13 rfl (lv_at hl 0 rfl) ?_
    refine va_get (D := G.1) (ci := 3) (v := .ref (a 0)) (C := RX3) (T := TX3) (N := 8) hx hb hts hinX3 hown hK.1 hP 0 rfl rfl 0 (by decide) (hts (.fieldLink RX3 12 "ParcelShelves" "now" "LParcelShelves$Shop;") (by decide +kernel)) (fun _ h9 => h9) rfl dX3_letPass_14 ?_
    refine va_get (D := G.1) (ci := 1) (v := .int (S 1 0)) (C := RX1) (T := TX1) (N := 14) hx hb hts hinX1 hown hK.1 hP 1 rfl rfl 1 (by decide) (hts (.fieldLink RX3 85 "ParcelShelves$Shop" "today" "I") (by decide +kernel)) (fun _ h9 => h9) rfl dX3_letPass_17 ?_
    refine lv_sipush (v := 9999) hx hb dX3_letPass_20 (by decide +kernel) ?_
    refine lv_iload_n hx hb dX3_letPass_23 rfl (lv_at hl 1 rfl) ?_
    refine lv_isub hx hb dX3_letPass_24 ?_
    refine lv_icmp_le (tgt := 31) hx hb dX3_letPass_25 (by decide) (fun c_4 => ?_) (fun c_4 => ?_)
    · obtain ⟨hcv5, hcl5⟩ := kz_back (kz_wi1In 30 c_3 rfl (by decide)) (by decide)
      have hl : lv_has ls 4 [(0, .ref x), (1, .int (nI d.toNatClampNeg))] := by rw [← hcv5]; exact hl
      refine lv_iconst (v := 0) hx hb dX3_letPass_31 (by decide +kernel) ?_
      refine lv_istore_n (lv' := [(2, .int 0), (0, .ref x), (1, .int (nI d.toNatClampNeg))]) hx hb dX3_letPass_32 rfl hl (by decide) rfl (fun ls hl => ?_)
      refine lv_iconst (v := 0) hx hb dX3_letPass_33 (by decide +kernel) ?_
      refine lv_istore_n (lv' := [(3, .int 0), (2, .int 0), (0, .ref x), (1, .int (nI d.toNatClampNeg))]) hx hb dX3_letPass_34 rfl hl (by decide) rfl (fun ls hl => ?_)
      have L35_6 : ∀ (n35 : Nat) (i : Nat) (T : kz_S) (r0 : Int32), (d.toNatClampNeg - i < n35) → (i ≤ d.toNatClampNeg) → ((T, r0) = X3_psn S i) → (kz_J T) → ∀ (H : Heap) (locs : List Loc), kz_P G [xoW x (a 0) u1 u2 u3 u4 V, shW G a T] H → kz_D A [xoW x (a 0) u1 u2 u3 u4 V, shW G a T] → va_S A s.heap H locs → ∀ ls : Array Slot, lv_has ls 4 [(3, .int (nI i)), (2, .int r0), (0, .ref x), (1, .int (nI d.toNatClampNeg))] → W p l e (headSpec wsX3_letPass (kz_rm 4 84)).room s m ([.ref x, .int d] : List Value).toArray below meth c H locs 0 0 QQ (F0 m 35 ls []) := by
        intro n35
        induction n35 with
        | zero => intro i T r0 h0; exact absurd h0 (Nat.not_lt_zero _)
        | succ n35 ih35_7 =>
          intro i T r0 hmeas35 hi1 hT hJT H locs hP hD hS ls hl
          refine lv_iload_n hx hb dX3_letPass_35 rfl (lv_at hl 0 rfl) ?_
          refine lv_iload_n hx hb dX3_letPass_36 rfl (lv_at hl 3 rfl) ?_
          refine lv_icmp_ge (tgt := 56) hx hb dX3_letPass_37 (by decide) (fun c_8 => ?_) (fun c_8 => ?_)
          · have hge := kz_le (a := d.toNatClampNeg) (b := i) c_8 (by omega) (by omega)
            refine lv_iload_n hx hb dX3_letPass_56 rfl (lv_at hl 1 rfl) ?_
            subst hQ
            have hP9 : kz_P G [xoW x (a 0) u1 u2 u3 u4 V, shW G a (X3_letPass_s S d)] H := by rw [X3_letPass_s, if_pos c_3, if_pos c_4]; obtain hie : i = d.toNatClampNeg := (by omega); rw [← hie, ← hT]; exact hP
            have hD9 : kz_D A [xoW x (a 0) u1 u2 u3 u4 V, shW G a (X3_letPass_s S d)] := by rw [X3_letPass_s, if_pos c_3, if_pos c_4]; obtain hie : i = d.toNatClampNeg := (by omega); rw [← hie, ← hT]; exact hD
            exact W.iret (v := r0) hx hb hr (fun t ht hW => ⟨⟨r0, (), rfl, (by rw [X3_letPass_r, if_pos c_3, if_pos c_4]; obtain hie : i = d.toNatClampNeg := (by omega); rw [← hie, ← hT]), by rw [ht]; exact hP9, hD9⟩, hS.F ht⟩) hS.2.2 dX3_letPass_57
          · have hlt := kz_gt (a := d.toNatClampNeg) (b := i) c_8 (by omega) (by omega)
            refine lv_iload_n hx hb dX3_letPass_40 rfl (lv_at hl 1 rfl) ?_
            refine lv_aload_n hx hb dX3_letPass_41 rfl (lv_at hl 2 rfl) ?_
            refine va_get (D := G.1) (ci := 3) (v := .ref (a 0)) (C := RX3) (T := TX3) (N := 8) hx hb hts hinX3 hown hK.1 hP 0 rfl rfl 0 (by decide) (hts (.fieldLink RX3 12 "ParcelShelves" "now" "LParcelShelves$Shop;") (by decide +kernel)) (fun _ h9 => h9) rfl dX3_letPass_42 ?_
            refine kz_miV (As := []) (rest := [.int r0]) (b := a 0) (wr := [xoW x (a 0) u1 u2 u3 u4 V]) (bs' := [xoW x (a 0) u1 u2 u3 u4 V, shW G a (X1_beginDay_s T)]) ⟨hx, hb, hml, hown, hts⟩ (c_X1_beginDay l G a T hJT) (cwV 0 hts gX3_letPass_X1_beginDay rfl rfl rfl (by decide +kernel) ⟨Nat.le_of_ble_eq_true rfl, Nat.le_of_ble_eq_true rfl⟩) hK hP hD hS hA [1] [0] [0, 1] rfl (by decide) rfl (by decide) (by decide) rfl (by decide) (kz_recv hK hP (ci := 1) (q0 := 1) rfl rfl) rfl hl.1 rfl (Nat.le_of_ble_eq_true rfl) dX3_letPass_45 ⟨Nat.le_of_ble_eq_true rfl, Nat.le_of_ble_eq_true rfl⟩ (fun H locs hP hD hS => ?_)
            refine lv_iadd hx hb dX3_letPass_48 ?_
            refine lv_istore_n (lv' := [(2, .int (r0 + (X1_beginDay_r T))), (3, .int (nI i)), (0, .ref x), (1, .int (nI d.toNatClampNeg))]) hx hb dX3_letPass_49 rfl hl (by decide) rfl (fun ls hl => ?_)
            refine lv_iinc (v := (nI (i + 1))) (lv' := [(3, .int (nI (i + 1))), (2, .int (r0 + (X1_beginDay_r T))), (0, .ref x), (1, .int (nI d.toNatClampNeg))]) hx hb dX3_letPass_50 hl (k := 1) rfl (nI_1 _) (by decide) rfl (fun ls hl => ?_)
            refine lv_goto (tgt := 35) hx hb dX3_letPass_53 (by decide) ?_
            exact ih35_7 (i + 1) (X1_beginDay_s T) (r0 + (X1_beginDay_r T)) (by omega) (by omega) (X3_psn_s hT) (kz_J_begin hJT) H locs hP hD hS ls (lv_sub hl [0, 1, 2, 3] rfl)
      exact L35_6 _ 0 S 0 (Nat.lt_succ_self _) (by omega) rfl hJ s.heap [] hP hD hS ls (lv_sub hl [0, 1, 2, 3] rfl)
    · refine lv_bipush (v := (-4)) hx hb dX3_letPass_28 (by decide +kernel) ?_
      subst hQ
      have hP9 : kz_P G [xoW x (a 0) u1 u2 u3 u4 V, shW G a (X3_letPass_s S d)] s.heap := by rw [X3_letPass_s, if_pos c_3, if_neg c_4]; exact hP
      have hD9 : kz_D A [xoW x (a 0) u1 u2 u3 u4 V, shW G a (X3_letPass_s S d)] := by rw [X3_letPass_s, if_pos c_3, if_neg c_4]; exact hD
      exact W.iret (v := (-4)) hx hb hr (fun t ht hW => ⟨⟨(-4), (), rfl, (by rw [X3_letPass_r, if_pos c_3, if_neg c_4]), by rw [ht]; exact hP9, hD9⟩, hS.F ht⟩) hS.2.2 dX3_letPass_30
  · rw [if_neg c_3] at ey_2
    subst ey_2
    refine lv_if_ne (tgt := 13) hx hb dX3_letPass_7 (by decide) (fun c => absurd c (by decide)) (fun _ => ?_)
    refine lv_bipush (v := (-2)) hx hb dX3_letPass_10 (by decide +kernel) ?_
    subst hQ
    have hP9 : kz_P G [xoW x (a 0) u1 u2 u3 u4 V, shW G a (X3_letPass_s S d)] s.heap := by rw [X3_letPass_s, if_neg c_3]; exact hP
    have hD9 : kz_D A [xoW x (a 0) u1 u2 u3 u4 V, shW G a (X3_letPass_s S d)] := by rw [X3_letPass_s, if_neg c_3]; exact hD
    exact W.iret (v := (-2)) hx hb hr (fun t ht hW => ⟨⟨(-2), (), rfl, (by rw [X3_letPass_r, if_neg c_3]), by rw [ht]; exact hP9, hD9⟩, hS.F ht⟩) hS.2.2 dX3_letPass_12
def X3_callCourier_r (V : kz_S) (S : kz_S) (q : Int32) : Int32 := if X3_isWithin_p q 0 9 then (if ((S 10) q.toNatClampNeg) = 0 then (-3) else (X1_emptyBin_r S q.toNatClampNeg 6)) else (-1)
def X3_callCourier_s (V : kz_S) (S : kz_S) (q : Int32) : kz_S := if X3_isWithin_p q 0 9 then (if ((S 10) q.toNatClampNeg) = 0 then S else (X1_emptyBin_s S q.toNatClampNeg 6)) else S
set_option maxHeartbeats 4000000 in
set_option maxRecDepth 100000 in
theorem c_X3_callCourier (l : Launch) (G : kz_G) (x : Nat) (u1 : Nat) (u2 : Nat) (u3 : Nat) (u4 : Nat) (V : kz_S) (a : Nat → Nat) (S : kz_S) (q : Int32) : kz_mi l G yX3_callCourier wsX3_callCourier 1 23 [.ref x, .int q] [xoW x (a 0) u1 u2 u3 u4 V, shW G a S] [xoW x (a 0) u1 u2 u3 u4 V, shW G a (X3_callCourier_s V S q)] (X3_callCourier_r V S q) := by
  intro sz
  refine Met.ofW (cc := cX3_callCourier) (maxL := 2) (ret := (some .int)) (by decide) rfl ?_
  intro p e s m args below meth c s₁ B hml hv
  obtain ⟨rfl, hsz, hP, hK, hD0⟩ := hv
  have hx := B.exec
  have hb := B.bytes
  have hr := B.returns
  have hts := atoms_spec (ws := wsX3_callCourier) B.pre
  have hown : s.vm.findClass RX3 = some m.cls := findClass_of_methodNamed B.named
  have hlocks := B.notSynchronized
  have hinX3 : ∀ w ∈ u_ws RX3 TX3 8, w ∈ wsX3_callCourier := by decide +kernel
  have hinX1 : ∀ w ∈ u_ws RX1 TX1 14, w ∈ wsX3_callCourier := by decide +kernel
  subst hsz
  have hD := hD0.self (sz := s.heap.size)
  generalize hAe : kz_A [xoW x (a 0) u1 u2 u3 u4 V, shW G a S] s.heap.size = A at hD ⊢
  have hA : ∀ q : Nat, s.heap.size ≤ q → A q := fun q h => by rw [← hAe]; exact Or.inr h
  have hS : va_S A s.heap s.heap [] := va_S.rf
  have hl := lv_entry ([.ref x, .int q]) (n := 2) (Nat.le_of_ble_eq_true rfl)
  rw [lg_entry_eq]
  generalize (lg_sl ([.ref x, .int q]) ++ List.replicate (2 - (lg_sl ([.ref x, .int q])).length) Slot.unset).toArray = ls at hl ⊢
  have hl : lv_has ls 2 [(0, .ref x), (1, .int q)] := hl
  refine kz_start (fun QQ hQ => ?_)
  have hP : kz_P G [xoW x (a 0) u1 u2 u3 u4 V, shW G a S] s.heap := hP
  refine lv_iload_n hx hb dX3_callCourier_0 rfl (lv_at hl 1 rfl) ?_
  refine lv_iconst (v := 0) hx hb dX3_callCourier_1 (by decide +kernel) ?_
  refine lv_bipush (v := 9) hx hb dX3_callCourier_2 (by decide +kernel) ?_
  refine kz_rdS (As := [.int q, .int 0, .int 9]) (rest := []) ⟨hx, hb, hml, hown, hts⟩ (c_X3_isWithin l G q 0 9) (va_cwS 3 hts gX3_callCourier_X3_isWithin rfl rfl rfl (by decide +kernel) ⟨Nat.le_of_ble_eq_true rfl, Nat.le_of_ble_eq_true rfl⟩) hK (hP.sub (cs := []) [] rfl) rfl hl.1 rfl (Nat.le_of_ble_eq_true rfl) dX3_callCourier_4 ⟨Nat.le_of_ble_eq_true rfl, Nat.le_of_ble_eq_true rfl⟩ ?_
  refine lv_topi (fun y_1 ey_2 => ?_)
  by_cases c_3 : X3_isWithin_p q 0 9
  · rw [if_pos c_3] at ey_2
    subst ey_2
    obtain ⟨hcv4, hcl4⟩ := kz_back (kz_wiIn 9 c_3 rfl (by decide)) (by decide)
    have hl : lv_has ls 2 [(0, .ref x), (1, .int (nI q.toNatClampNeg))] := by rw [← hcv4]; exact hl
    refine lv_if_ne (tgt := 12) hx hb dX3_callCourier_7 (by decide) (fun _ => ?_) (fun c => absurd c (by decide))
    refine lv_aload_n hx hb dX3_callCourier_12 rfl (lv_at hl 0 rfl) ?_
    refine va_get (D := G.1) (ci := 3) (v := .ref (a 0)) (C := RX3) (T := TX3) (N := 8) hx hb hts hinX3 hown hK.1 hP 0 rfl rfl 0 (by decide) (hts (.fieldLink RX3 12 "ParcelShelves" "now" "LParcelShelves$Shop;") (by decide +kernel)) (fun _ h9 => h9) rfl dX3_callCourier_13 ?_
    refine va_get (D := G.1) (ci := 1) (v := .ref (a 7)) (C := RX1) (T := TX1) (N := 14) hx hb hts hinX1 hown hK.1 hP 1 rfl rfl 10 (by decide) (hts (.fieldLink RX3 126 "ParcelShelves$Shop" "bins" "[I") (by decide +kernel)) (fun _ h9 => h9) rfl dX3_callCourier_16 ?_
    refine lv_iload_n hx hb dX3_callCourier_19 rfl (lv_at hl 1 rfl) ?_
    refine va_iald (f := (S 10)) hx hb hK.1 hP 8 0 rfl rfl (vp_in_nI (n := q.toNatClampNeg) (N := 10) (by omega) (by decide)) dX3_callCourier_20 ?_
    refine lv_topi (fun y_5 ey_6 => ?_)
    obtain rfl : y_5 = ((S 10) q.toNatClampNeg) := by rw [ey_6, kz_nI_clamp (n := q.toNatClampNeg) (by omega)]
    refine lv_if_ne (tgt := 27) hx hb dX3_callCourier_21 (by decide) (fun c_7 => ?_) (fun c_7 => ?_)
    · refine lv_aload_n hx hb dX3_callCourier_27 rfl (lv_at hl 0 rfl) ?_
      refine va_get (D := G.1) (ci := 3) (v := .ref (a 0)) (C := RX3) (T := TX3) (N := 8) hx hb hts hinX3 hown hK.1 hP 0 rfl rfl 0 (by decide) (hts (.fieldLink RX3 12 "ParcelShelves" "now" "LParcelShelves$Shop;") (by decide +kernel)) (fun _ h9 => h9) rfl dX3_callCourier_28 ?_
      refine lv_iload_n hx hb dX3_callCourier_31 rfl (lv_at hl 1 rfl) ?_
      refine lv_bipush (v := 6) hx hb dX3_callCourier_32 (by decide +kernel) ?_
      refine kz_miV (As := [.int (nI q.toNatClampNeg), .int 6]) (rest := []) (b := a 0) (wr := [xoW x (a 0) u1 u2 u3 u4 V]) (bs' := [xoW x (a 0) u1 u2 u3 u4 V, shW G a (X1_emptyBin_s S q.toNatClampNeg 6)]) ⟨hx, hb, hml, hown, hts⟩ (c_X1_emptyBin l G a S q.toNatClampNeg 6 (by omega)) (cwV 2 hts gX3_callCourier_X1_emptyBin rfl rfl rfl (by decide +kernel) ⟨Nat.le_of_ble_eq_true rfl, Nat.le_of_ble_eq_true rfl⟩) hK hP hD hS hA [1] [0] [0, 1] rfl (by decide) rfl (by decide) (by decide) rfl (by decide) (kz_recv hK hP (ci := 1) (q0 := 1) rfl rfl) rfl hl.1 rfl (Nat.le_of_ble_eq_true rfl) dX3_callCourier_34 ⟨Nat.le_of_ble_eq_true rfl, Nat.le_of_ble_eq_true rfl⟩ (fun H locs hP hD hS => ?_)
      subst hQ
      have hP9 : kz_P G [xoW x (a 0) u1 u2 u3 u4 V, shW G a (X3_callCourier_s V S q)] H := by rw [X3_callCourier_s, if_pos c_3, if_neg c_7]; exact hP
      have hD9 : kz_D A [xoW x (a 0) u1 u2 u3 u4 V, shW G a (X3_callCourier_s V S q)] := by rw [X3_callCourier_s, if_pos c_3, if_neg c_7]; exact hD
      exact W.iret (v := (X1_emptyBin_r S q.toNatClampNeg 6)) hx hb hr (fun t ht hW => ⟨⟨(X1_emptyBin_r S q.toNatClampNeg 6), (), rfl, (by rw [X3_callCourier_r, if_pos c_3, if_neg c_7]), by rw [ht]; exact hP9, hD9⟩, hS.F ht⟩) hS.2.2 dX3_callCourier_37
    · refine lv_bipush (v := (-3)) hx hb dX3_callCourier_24 (by decide +kernel) ?_
      subst hQ
      have hP9 : kz_P G [xoW x (a 0) u1 u2 u3 u4 V, shW G a (X3_callCourier_s V S q)] s.heap := by rw [X3_callCourier_s, if_pos c_3, if_pos c_7]; exact hP
      have hD9 : kz_D A [xoW x (a 0) u1 u2 u3 u4 V, shW G a (X3_callCourier_s V S q)] := by rw [X3_callCourier_s, if_pos c_3, if_pos c_7]; exact hD
      exact W.iret (v := (-3)) hx hb hr (fun t ht hW => ⟨⟨(-3), (), rfl, (by rw [X3_callCourier_r, if_pos c_3, if_pos c_7]), by rw [ht]; exact hP9, hD9⟩, hS.F ht⟩) hS.2.2 dX3_callCourier_26
  · rw [if_neg c_3] at ey_2
    subst ey_2
    refine lv_if_ne (tgt := 12) hx hb dX3_callCourier_7 (by decide) (fun c => absurd c (by decide)) (fun _ => ?_)
    refine lv_iconst (v := (-1)) hx hb dX3_callCourier_10 (by decide +kernel) ?_
    subst hQ
    have hP9 : kz_P G [xoW x (a 0) u1 u2 u3 u4 V, shW G a (X3_callCourier_s V S q)] s.heap := by rw [X3_callCourier_s, if_neg c_3]; exact hP
    have hD9 : kz_D A [xoW x (a 0) u1 u2 u3 u4 V, shW G a (X3_callCourier_s V S q)] := by rw [X3_callCourier_s, if_neg c_3]; exact hD
    exact W.iret (v := (-1)) hx hb hr (fun t ht hW => ⟨⟨(-1), (), rfl, (by rw [X3_callCourier_r, if_neg c_3]), by rw [ht]; exact hP9, hD9⟩, hS.F ht⟩) hS.2.2 dX3_callCourier_11
