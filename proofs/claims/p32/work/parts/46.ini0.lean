def kz_iniQ {α : Type} (l : Launch) (G : kz_G) (y : MethodName) (ws : List Cond) (f n mc ms : Nat) (h0 : Nat) (o : Nat × List Value) (ok : α → Prop) (Post : α → kz_B) : Prop :=
  ∀ sz : Nat, Met l y ws (kz_rmI f n mc ms) (va_Pc [.ref h0] (fun U => U.heap.size = sz ∧ kz_P G [[(h0, .inr o)]] U.heap ∧ kz_K G U ∧ kz_D (fun _ => True) [[(h0, .inr o)]] ∧ kz_Zs (kz_A [[(h0, .inr o)]] sz) U U.heap ∧ va_AO RX1 U)) (va_Qv (fun (u : α) => ok u) (fun u t => kz_P G (Post u) t.heap ∧ kz_D (kz_A [[(h0, .inr o)]] sz) (Post u)) (kz_A [[(h0, .inr o)]] sz)) mc ms (kz_A [[(h0, .inr o)]] sz)
section KZQ
variable {p : Program} {l : Launch} {e : Env} {R : Room} {s : State} {m : MethodId} {args : Array Value} {below : List Frame} {meth : Method} {c : Code} {H : Heap} {locs : List Loc} {cells slots : Nat} {Q : State → Prop}
variable {cc : ByteArray} {pc : Nat} {ls : Array Slot} {rest st0 : List Value} {G : kz_G} {Ts wy : List Cond} {own C host : String} {y : MethodName} {bytes : ByteArray} {maxL nL index k f n mc ms : Nat} {ret : Option FieldType} {As : List Value} {b : Nat} {bs cs cs' wr : kz_B} {r : Int32} {A : Nat → Prop}
theorem kz_preQ {o : Nat × List Value} (hK : kz_K G s) (hP : kz_P G [[(b, .inr o)]] H) (hD : kz_D A [[(b, .inr o)]]) (hZ : kz_Zs A s s.heap) (hS : va_S A s.heap H locs) (hF : ∀ q, kz_A [[(b, .inr o)]] H.size q → A q) (hAO : va_AO RX1 s) : PreS s H (va_Pc [.ref b] (fun U => U.heap.size = H.size ∧ kz_P G [[(b, .inr o)]] U.heap ∧ kz_K G U ∧ kz_D (fun _ => True) [[(b, .inr o)]] ∧ kz_Zs (kz_A [[(b, .inr o)]] H.size) U U.heap ∧ va_AO RX1 U)) [.ref b] :=
  ⟨fun a U g mk q => ⟨q.1, q.2.1, q.2.2.1, q.2.2.2.1.call, q.2.2.2.2.1, kz_Zs.moved (u := U) (U := U.calling g mk a) (Vm.Alike.refl U.vm) q.2.2.2.2.2.1, va_AO.moved (u := U) (U := U.calling g mk a) (Vm.Alike.refl U.vm) q.2.2.2.2.2.2⟩, fun U hU hW => ⟨rfl, by rw [hU], by rw [hU]; exact hP, hK.warm hW, hD.weaken (fun _ _ => trivial), by rw [hU]; exact ((hZ.kept hS.2.1).moved hW.alike).narrow hF, hAO.moved hW.alike⟩⟩
theorem kz_iniIQ {α : Type} {o : Nat × List Value} {ok : α → Prop} {Post : α → kz_B} (S : CallFix p m c cc nL s args Ts own) (hM : kz_iniQ l G y wy f n mc ms b o ok Post) (cw : CallB R s args own index y bytes maxL none wy (kz_rmI f n mc ms) mc ms 0 ∧ y.name = "<init>" ∧ (Cond.instanceMethod y).before args s = true) (hK : kz_K G s) (hP : kz_P G bs H) (hD : kz_D A bs) (hS : va_S A s.heap H locs) (hA : ∀ q, s.heap.size ≤ q → A q) (hZ : kz_Zs A s s.heap) (hAO : va_AO RX1 s) (isC isR : List Nat)
    (hC : isC.map (fun i => bs[i]?) = [[(b, .inr o)]].map some) (hnC : va_nd isC = true) (hR : isR.map (fun i => bs[i]?) = wr.map some) (hnR : va_nd isR = true) (hdis : ∀ i ∈ isR, i ∉ isC)
    (hsize : ls.size = nL) (hstack : st0 = .ref b :: rest) (hW : (rest.map fun v => v.category).sum ≤ 8) (hdg : decode cc pc = .ok (.invokespecial index, 3)) (hf : cells + mc ≤ R.cells ∧ slots + ms ≤ R.slots)
    (kk : ∀ (u : α) (H1 : Heap) (locs1 : List Loc), ok u → kz_P G (wr ++ Post u) H1 → kz_D A (wr ++ Post u) → va_S A s.heap H1 locs1 → W p l e R s m args below meth c H1 locs1 (cells + mc) (slots + ms) Q (F0 m (pc + 3) ls rest)) : W p l e R s m args below meth c H locs cells slots Q (F0 m pc ls st0) := by
  have hPc := hP.sub isC hC
  have hDc := hD.sub isC hnC hC
  have hF := kz_free hD hS hA isC hC
  refine va_callv (va_runI (As := []) (rest := rest) (b := b) S (hM H.size) cw (kz_preQ hK hPc hDc hZ hS hF hAO) rfl rfl hsize hstack (lv_room (pc := pc) (ls := ls) (m := m) (rest := rest) hW) hdg hf) hS (fun q _ h => hF q h) hF (fun u t H1 locs1 ht hvm hw hB hz1 hk1 hS1 => ?_)
  obtain ⟨hP1, hD1⟩ := hB
  rw [ht] at hP1
  obtain ⟨hP2, hD2⟩ := kz_join hP hD isC isR hC hR hnR hdis hk1 hF hP1 hD1
  exact kk u H1 locs1 hw hP2 hD2 hS1
end KZQ
theorem kz_sameQ {C : String} {a d : ClassId} {K : List (ClassId × FieldType)} {D : va_G} {cl : List vw_C} {U : State} (hK : va_K D cl (K ++ [(a, .object C)]) U) (i : Nat) (hi : K[i]? = some (d, .object C)) : a = d := by
  obtain ⟨_, _, _, _, _, h1⟩ := (hK.2 K.length (a, .object C) (by rw [List.getElem?_append_right (Nat.le_refl _)]; simp)).2
  obtain ⟨_, _, _, _, _, h2⟩ := (hK.2 i (d, .object C) (by rw [List.getElem?_append_left (List.getElem?_eq_some_iff.mp hi).1]; exact hi)).2
  exact Option.some.inj (h1.symm.trans h2)
theorem kz_qaP {G : kz_G} {a n : Nat} {f g : Nat → Option Nat} {o : va_W} {r : kz_B} {H : Heap} (h : ∀ j, j < n → f j = g j) (hP : kz_P G (o :: [(a, .inl (G.2.2.2, n, .inr (.inr (.inr (.inr f)))))] :: r) H) : kz_P G (o :: [(a, .inl (G.2.2.2, n, .inr (.inr (.inr (.inr g)))))] :: r) H := by
  rw [kz_P_mem] at hP ⊢
  intro b hb
  rcases List.mem_cons.mp hb with hb | hb
  · exact hP b (hb ▸ List.mem_cons_self)
  · rcases List.mem_cons.mp hb with rfl | hb
    · have h1 := hP [(a, .inl (G.2.2.2, n, .inr (.inr (.inr (.inr f)))))] (List.mem_cons_of_mem _ List.mem_cons_self) 0 _ rfl
      intro k q hk
      cases k with
      | zero =>
        cases hk
        show H[a]? = some (vp_cell G.2.2.2 (n, .inr (.inr (.inr (.inr g)))))
        have h2 : H[a]? = some (vp_cell G.2.2.2 (n, .inr (.inr (.inr (.inr f))))) := h1
        rw [h2]
        exact congrArg some (show arrV G.2.2.2 n (fun j => va_rf (f j)) = arrV G.2.2.2 n (fun j => va_rf (g j)) from kz_arrEq fun j hj => by rw [h j hj])
      | succ k => cases hk
    · exact hP b (List.mem_cons_of_mem _ (List.mem_cons_of_mem _ hb))
def kz_slc (l : List (Nat → Nat)) : Nat → Nat → Nat := fun j => l.getD j (fun _ => 0)
def kz_Y0 : kz_S := fun _ _ => 0
set_option maxHeartbeats 4000000 in
set_option maxRecDepth 100000 in
theorem c_X0_init (l : Launch) (G : kz_G) (h0 : Nat) : kz_iniQ (α := (Nat → Nat) × (Nat → Nat → Nat)) l G yX0_init wsX0_init 2 46 67 3528 h0 (0, [.null, .int 0, .int 0]) (fun u => u.1 0 = h0) (fun u => [hsW G u.1 (fun j => u.2 j 0) kz_Y0, shW G (u.2 0) kz_S0, shW G (u.2 1) kz_S0, shW G (u.2 2) kz_S0, shW G (u.2 3) kz_S0, shW G (u.2 4) kz_S0, shW G (u.2 5) kz_S0]) := by
  intro sz
  refine Met.ofW (cc := cX0_init) (maxL := 2) (ret := none) (by decide) rfl ?_
  intro p e s m args below meth c s₁ B hml hv
  obtain ⟨rfl, hsz, hP, hK, hD0, hZ0, hAO⟩ := hv
  have hx := B.exec
  have hb := B.bytes
  have hr := B.returns
  have hts := atoms_spec (ws := wsX0_init) B.pre
  have hown : s.vm.findClass RX0 = some m.cls := findClass_of_methodNamed B.named
  have hlocks := B.notSynchronized
  have hin : meth.name = "<init>" := (name_of_methodNamed B.named B.method).1
  have hinX0 : ∀ w ∈ u_ws RX0 TX0 3, w ∈ wsX0_init := by decide +kernel
  subst hsz
  have hD := hD0.self (sz := s.heap.size)
  generalize hAe : kz_A [[(h0, .inr (0, [.null, .int 0, .int 0]))]] s.heap.size = A at hD hZ0 ⊢
  have hA : ∀ q : Nat, s.heap.size ≤ q → A q := fun q h => by rw [← hAe]; exact Or.inr h
  have hS : va_S A s.heap s.heap [] := va_S.rf
  obtain ⟨t3, hz3, hX3, hA3⟩ := id hZ0.2.2
  have hP : kz_P G [[(h0, .inr (0, [.null, .int 0, .int 0]))]] s.heap := hP
  have hl := lv_entry ([.ref h0]) (n := 2) (Nat.le_of_ble_eq_true rfl)
  rw [lg_entry_eq]
  generalize (lg_sl ([.ref h0]) ++ List.replicate (2 - (lg_sl ([.ref h0])).length) Slot.unset).toArray = ls at hl ⊢
  have hl : lv_has ls 2 [(0, .ref h0)] := hl
  refine lv_aload_n hx hb dX0_init_0 rfl (lv_at hl 0 rfl) ?_
  refine W.objInit hx hb hown (hts (.methodLink RX0 3 objectInit) (by decide +kernel)) (hts (.instanceMethod objectInit) (by decide +kernel)) (hts (.code objectInit ⟨#[0xb1]⟩ 1 none) (by decide +kernel)) rfl (by rw [hml]; exact hl.1) rfl dX0_init_1 (Nat.le_of_ble_eq_true rfl) (Nat.le_of_ble_eq_true rfl) ?_
  refine W.eq (g2 := F0 m 4 ls []) rfl ?_
  refine lv_aload_n hx hb dX0_init_4 rfl (lv_at hl 0 rfl) ?_
  refine lv_bipush (v := 6) hx hb dX0_init_5 (by decide +kernel) ?_
  refine va_newq hx hb hown (hts (.classLink RX0 9 RX1) (by decide +kernel)) hAO hK.1 hP hD hS hA (by decide +kernel) (N' := 6) (by decide +kernel) (Nat.le_of_ble_eq_true rfl) (Nat.le_of_ble_eq_true rfl) (Nat.le_of_ble_eq_true rfl) dX0_init_7 (fun q1 cA H hK1 hP hD hS => ?_)
  have ecA := kz_sameQ hK1 2 rfl
  subst ecA
  have hP : kz_P G [[(h0, .inr (0, [.null, .int 0, .int 0]))], [(q1, .inl (G.2.2.2, 6, .inr (.inr (.inr (.inr (fun _ => none))))))]] H := hP
  have hD : kz_D A [[(h0, .inr (0, [.null, .int 0, .int 0]))], [(q1, .inl (G.2.2.2, 6, .inr (.inr (.inr (.inr (fun _ => none))))))]] := hD
  refine va_putF (D := G.1) (ci := 0) (v := .ref q1) (ty := .array (.object "ParcelShelves$Shop")) (C := RX0) (T := TX0) (N := 3) hx hb hts hinX0 tyX0 tyX0_ok nmX0 hown hK.1 hP hD hS 0 rfl rfl 0 (by decide) (hts (.fieldLink RX0 11 "ParcelShelves$History" "rows" "[LParcelShelves$Shop;") (by decide +kernel)) (fun _ h9 => h9) rfl hin rfl (by decide +kernel) rfl rfl (Nat.le_of_ble_eq_true rfl) dX0_init_10 (fun H locs hP hD hS => ?_)
  have hP : kz_P G [[(h0, .inr (0, [.ref q1, .int 0, .int 0]))], [(q1, .inl (G.2.2.2, 6, .inr (.inr (.inr (.inr (fun _ => none))))))]] H := hP
  have hD : kz_D A [[(h0, .inr (0, [.ref q1, .int 0, .int 0]))], [(q1, .inl (G.2.2.2, 6, .inr (.inr (.inr (.inr (fun _ => none))))))]] := hD
  refine lv_iconst (v := 0) hx hb dX0_init_13 (by decide +kernel) ?_
  refine lv_istore_n (lv' := [(1, .int 0), (0, .ref h0)]) hx hb dX0_init_14 rfl hl (by decide) rfl (fun ls hl => ?_)
  refine lv_iload_n hx hb dX0_init_15 rfl (lv_at hl 0 rfl) ?_
  refine lv_bipush (v := 6) hx hb dX0_init_16 (by decide +kernel) ?_
  refine lv_icmp_ge (tgt := 40) hx hb dX0_init_18 (by decide) (fun c => absurd c (by decide)) (fun _ => ?_)
  refine lv_aload_n hx hb dX0_init_21 rfl (lv_at hl 1 rfl) ?_
  refine va_get (D := G.1) (ci := 0) (v := .ref q1) (C := RX0) (T := TX0) (N := 3) hx hb hts hinX0 hown hK.1 hP 0 rfl rfl 0 (by decide) (hts (.fieldLink RX0 11 "ParcelShelves$History" "rows" "[LParcelShelves$Shop;") (by decide +kernel)) (fun _ h9 => h9) rfl dX0_init_22 ?_
  refine lv_iload_n hx hb dX0_init_25 rfl (lv_at hl 0 rfl) ?_
  refine va_new (ci := 1) (fs := [.null, .int 0, .int 0, .int 0, .int 0, .null, .null, .null, .null, .null, .null, .null, .null, .null]) (C := RX1) (T := TX1) (N := 14) hx hb hts (by decide +kernel) tyX1 tyX1_ok hown (hts (.classLink RX0 9 RX1) (by decide +kernel)) (hts (.instantiable RX1 14) (by decide +kernel)) (hts (.initialized RX1) (by decide +kernel)) hK.1 hP hD hS hA rfl (fun j hj => by rcases (show j = 0 ∨ j = 1 ∨ j = 2 ∨ j = 3 ∨ j = 4 ∨ j = 5 ∨ j = 6 ∨ j = 7 ∨ j = 8 ∨ j = 9 ∨ j = 10 ∨ j = 11 ∨ j = 12 ∨ j = 13 by omega) with rfl | rfl | rfl | rfl | rfl | rfl | rfl | rfl | rfl | rfl | rfl | rfl | rfl | rfl <;> rfl) (Nat.le_of_ble_eq_true rfl) (Nat.le_of_ble_eq_true rfl) dX0_init_26 (fun o2 H hP hD hS => ?_)
  have hP : kz_P G [[(h0, .inr (0, [.ref q1, .int 0, .int 0]))], [(q1, .inl (G.2.2.2, 6, .inr (.inr (.inr (.inr (fun _ => none))))))], [(o2, .inr (1, [.null, .int 0, .int 0, .int 0, .int 0, .null, .null, .null, .null, .null, .null, .null, .null, .null]))]] H := hP
  have hD : kz_D A [[(h0, .inr (0, [.ref q1, .int 0, .int 0]))], [(q1, .inl (G.2.2.2, 6, .inr (.inr (.inr (.inr (fun _ => none))))))], [(o2, .inr (1, [.null, .int 0, .int 0, .int 0, .int 0, .null, .null, .null, .null, .null, .null, .null, .null, .null]))]] := hD
  refine lv_dup hx hb dX0_init_29 rfl ?_
  refine kz_iniI (rest := [.ref o2, .int 0, .ref q1]) (wr := [[(h0, .inr (0, [.ref q1, .int 0, .int 0]))], [(q1, .inl (G.2.2.2, 6, .inr (.inr (.inr (.inr (fun _ => none))))))]]) ⟨hx, hb, hml, hown, hts⟩ (c_X1_init l G o2) (cwI 0 hts gX0_init_X1_init rfl rfl rfl (hts (.initialized RX1) (by decide +kernel)) (hts (.methodLink RX0 15 yX1_init) (by decide +kernel)) (hts (.instanceMethod yX1_init) (by decide +kernel)) rfl (by decide +kernel) ⟨(Nat.le_of_ble_eq_true rfl), (Nat.le_of_ble_eq_true rfl)⟩) hK hP hD hS hA hZ0 [2] [0, 1] rfl (by decide) rfl (by decide) (by decide) hl.1 rfl (Nat.le_of_ble_eq_true rfl) dX0_init_30 ⟨(Nat.le_of_ble_eq_true rfl), (Nat.le_of_ble_eq_true rfl)⟩ (fun u3 H locs hu3 hPn hDn hS => ?_)
  have hu3 : u3 0 = o2 := hu3
  subst hu3
  have hP : kz_P G [[(h0, .inr (0, [.ref q1, .int 0, .int 0]))], [(q1, .inl (G.2.2.2, 6, .inr (.inr (.inr (.inr (fun _ => none))))))], shW G u3 kz_S0] H := hPn
  have hD : kz_D A [[(h0, .inr (0, [.ref q1, .int 0, .int 0]))], [(q1, .inl (G.2.2.2, 6, .inr (.inr (.inr (.inr (fun _ => none))))))], shW G u3 kz_S0] := hDn
  refine va_astq hx hb hK.1 hP hD hS 1 2 2 1 (r := (RX1, TX1, 14)) rfl rfl (by rfl) rfl (vp_in_nI (n := 0) (N := 6) (by decide) (by decide)) dX0_init_33 (fun H locs hP hD hS => ?_)
  have hP : kz_P G [[(h0, .inr (0, [.ref q1, .int 0, .int 0]))], [(q1, .inl (G.2.2.2, 6, .inr (.inr (.inr (.inr (va_up (fun _ => none) 0 (some (u3 0))))))))], shW G u3 kz_S0] H := hP
  have hD : kz_D A [[(h0, .inr (0, [.ref q1, .int 0, .int 0]))], [(q1, .inl (G.2.2.2, 6, .inr (.inr (.inr (.inr (va_up (fun _ => none) 0 (some (u3 0))))))))], shW G u3 kz_S0] := hD
  refine lv_iinc (v := 1) (lv' := [(1, .int 1), (0, .ref h0)]) hx hb dX0_init_34 hl (k := 0) rfl (by decide +kernel) (by decide) rfl (fun ls hl => ?_)
  refine lv_goto (tgt := 15) hx hb dX0_init_37 (by decide) ?_
  refine lv_iload_n hx hb dX0_init_15 rfl (lv_at hl 0 rfl) ?_
  refine lv_bipush (v := 6) hx hb dX0_init_16 (by decide +kernel) ?_
  refine lv_icmp_ge (tgt := 40) hx hb dX0_init_18 (by decide) (fun c => absurd c (by decide)) (fun _ => ?_)
  refine lv_aload_n hx hb dX0_init_21 rfl (lv_at hl 1 rfl) ?_
  refine va_get (D := G.1) (ci := 0) (v := .ref q1) (C := RX0) (T := TX0) (N := 3) hx hb hts hinX0 hown hK.1 hP 0 rfl rfl 0 (by decide) (hts (.fieldLink RX0 11 "ParcelShelves$History" "rows" "[LParcelShelves$Shop;") (by decide +kernel)) (fun _ h9 => h9) rfl dX0_init_22 ?_
  refine lv_iload_n hx hb dX0_init_25 rfl (lv_at hl 0 rfl) ?_
  refine va_new (ci := 1) (fs := [.null, .int 0, .int 0, .int 0, .int 0, .null, .null, .null, .null, .null, .null, .null, .null, .null]) (C := RX1) (T := TX1) (N := 14) hx hb hts (by decide +kernel) tyX1 tyX1_ok hown (hts (.classLink RX0 9 RX1) (by decide +kernel)) (hts (.instantiable RX1 14) (by decide +kernel)) (hts (.initialized RX1) (by decide +kernel)) hK.1 hP hD hS hA rfl (fun j hj => by rcases (show j = 0 ∨ j = 1 ∨ j = 2 ∨ j = 3 ∨ j = 4 ∨ j = 5 ∨ j = 6 ∨ j = 7 ∨ j = 8 ∨ j = 9 ∨ j = 10 ∨ j = 11 ∨ j = 12 ∨ j = 13 by omega) with rfl | rfl | rfl | rfl | rfl | rfl | rfl | rfl | rfl | rfl | rfl | rfl | rfl | rfl <;> rfl) (Nat.le_of_ble_eq_true rfl) (Nat.le_of_ble_eq_true rfl) dX0_init_26 (fun o4 H hP hD hS => ?_)
  have hP : kz_P G [[(h0, .inr (0, [.ref q1, .int 0, .int 0]))], [(q1, .inl (G.2.2.2, 6, .inr (.inr (.inr (.inr (va_up (fun _ => none) 0 (some (u3 0))))))))], shW G u3 kz_S0, [(o4, .inr (1, [.null, .int 0, .int 0, .int 0, .int 0, .null, .null, .null, .null, .null, .null, .null, .null, .null]))]] H := hP
  have hD : kz_D A [[(h0, .inr (0, [.ref q1, .int 0, .int 0]))], [(q1, .inl (G.2.2.2, 6, .inr (.inr (.inr (.inr (va_up (fun _ => none) 0 (some (u3 0))))))))], shW G u3 kz_S0, [(o4, .inr (1, [.null, .int 0, .int 0, .int 0, .int 0, .null, .null, .null, .null, .null, .null, .null, .null, .null]))]] := hD
  refine lv_dup hx hb dX0_init_29 rfl ?_
  refine kz_iniI (rest := [.ref o4, .int 1, .ref q1]) (wr := [[(h0, .inr (0, [.ref q1, .int 0, .int 0]))], [(q1, .inl (G.2.2.2, 6, .inr (.inr (.inr (.inr (va_up (fun _ => none) 0 (some (u3 0))))))))], shW G u3 kz_S0]) ⟨hx, hb, hml, hown, hts⟩ (c_X1_init l G o4) (cwI 0 hts gX0_init_X1_init rfl rfl rfl (hts (.initialized RX1) (by decide +kernel)) (hts (.methodLink RX0 15 yX1_init) (by decide +kernel)) (hts (.instanceMethod yX1_init) (by decide +kernel)) rfl (by decide +kernel) ⟨(Nat.le_of_ble_eq_true rfl), (Nat.le_of_ble_eq_true rfl)⟩) hK hP hD hS hA hZ0 [3] [0, 1, 2] rfl (by decide) rfl (by decide) (by decide) hl.1 rfl (Nat.le_of_ble_eq_true rfl) dX0_init_30 ⟨(Nat.le_of_ble_eq_true rfl), (Nat.le_of_ble_eq_true rfl)⟩ (fun u5 H locs hu5 hPn hDn hS => ?_)
  have hu5 : u5 0 = o4 := hu5
  subst hu5
  have hP : kz_P G [[(h0, .inr (0, [.ref q1, .int 0, .int 0]))], [(q1, .inl (G.2.2.2, 6, .inr (.inr (.inr (.inr (va_up (fun _ => none) 0 (some (u3 0))))))))], shW G u3 kz_S0, shW G u5 kz_S0] H := hPn
  have hD : kz_D A [[(h0, .inr (0, [.ref q1, .int 0, .int 0]))], [(q1, .inl (G.2.2.2, 6, .inr (.inr (.inr (.inr (va_up (fun _ => none) 0 (some (u3 0))))))))], shW G u3 kz_S0, shW G u5 kz_S0] := hDn
  refine va_astq hx hb hK.1 hP hD hS 1 2 13 1 (r := (RX1, TX1, 14)) rfl rfl (by rfl) rfl (vp_in_nI (n := 1) (N := 6) (by decide) (by decide)) dX0_init_33 (fun H locs hP hD hS => ?_)
  have hP : kz_P G [[(h0, .inr (0, [.ref q1, .int 0, .int 0]))], [(q1, .inl (G.2.2.2, 6, .inr (.inr (.inr (.inr (va_up (va_up (fun _ => none) 0 (some (u3 0))) 1 (some (u5 0))))))))], shW G u3 kz_S0, shW G u5 kz_S0] H := hP
  have hD : kz_D A [[(h0, .inr (0, [.ref q1, .int 0, .int 0]))], [(q1, .inl (G.2.2.2, 6, .inr (.inr (.inr (.inr (va_up (va_up (fun _ => none) 0 (some (u3 0))) 1 (some (u5 0))))))))], shW G u3 kz_S0, shW G u5 kz_S0] := hD
  refine lv_iinc (v := 2) (lv' := [(1, .int 2), (0, .ref h0)]) hx hb dX0_init_34 hl (k := 0) rfl (by decide +kernel) (by decide) rfl (fun ls hl => ?_)
  refine lv_goto (tgt := 15) hx hb dX0_init_37 (by decide) ?_
  refine lv_iload_n hx hb dX0_init_15 rfl (lv_at hl 0 rfl) ?_
  refine lv_bipush (v := 6) hx hb dX0_init_16 (by decide +kernel) ?_
  refine lv_icmp_ge (tgt := 40) hx hb dX0_init_18 (by decide) (fun c => absurd c (by decide)) (fun _ => ?_)
  refine lv_aload_n hx hb dX0_init_21 rfl (lv_at hl 1 rfl) ?_
  refine va_get (D := G.1) (ci := 0) (v := .ref q1) (C := RX0) (T := TX0) (N := 3) hx hb hts hinX0 hown hK.1 hP 0 rfl rfl 0 (by decide) (hts (.fieldLink RX0 11 "ParcelShelves$History" "rows" "[LParcelShelves$Shop;") (by decide +kernel)) (fun _ h9 => h9) rfl dX0_init_22 ?_
  refine lv_iload_n hx hb dX0_init_25 rfl (lv_at hl 0 rfl) ?_
  refine va_new (ci := 1) (fs := [.null, .int 0, .int 0, .int 0, .int 0, .null, .null, .null, .null, .null, .null, .null, .null, .null]) (C := RX1) (T := TX1) (N := 14) hx hb hts (by decide +kernel) tyX1 tyX1_ok hown (hts (.classLink RX0 9 RX1) (by decide +kernel)) (hts (.instantiable RX1 14) (by decide +kernel)) (hts (.initialized RX1) (by decide +kernel)) hK.1 hP hD hS hA rfl (fun j hj => by rcases (show j = 0 ∨ j = 1 ∨ j = 2 ∨ j = 3 ∨ j = 4 ∨ j = 5 ∨ j = 6 ∨ j = 7 ∨ j = 8 ∨ j = 9 ∨ j = 10 ∨ j = 11 ∨ j = 12 ∨ j = 13 by omega) with rfl | rfl | rfl | rfl | rfl | rfl | rfl | rfl | rfl | rfl | rfl | rfl | rfl | rfl <;> rfl) (Nat.le_of_ble_eq_true rfl) (Nat.le_of_ble_eq_true rfl) dX0_init_26 (fun o6 H hP hD hS => ?_)
  have hP : kz_P G [[(h0, .inr (0, [.ref q1, .int 0, .int 0]))], [(q1, .inl (G.2.2.2, 6, .inr (.inr (.inr (.inr (va_up (va_up (fun _ => none) 0 (some (u3 0))) 1 (some (u5 0))))))))], shW G u3 kz_S0, shW G u5 kz_S0, [(o6, .inr (1, [.null, .int 0, .int 0, .int 0, .int 0, .null, .null, .null, .null, .null, .null, .null, .null, .null]))]] H := hP
  have hD : kz_D A [[(h0, .inr (0, [.ref q1, .int 0, .int 0]))], [(q1, .inl (G.2.2.2, 6, .inr (.inr (.inr (.inr (va_up (va_up (fun _ => none) 0 (some (u3 0))) 1 (some (u5 0))))))))], shW G u3 kz_S0, shW G u5 kz_S0, [(o6, .inr (1, [.null, .int 0, .int 0, .int 0, .int 0, .null, .null, .null, .null, .null, .null, .null, .null, .null]))]] := hD
  refine lv_dup hx hb dX0_init_29 rfl ?_
  refine kz_iniI (rest := [.ref o6, .int 2, .ref q1]) (wr := [[(h0, .inr (0, [.ref q1, .int 0, .int 0]))], [(q1, .inl (G.2.2.2, 6, .inr (.inr (.inr (.inr (va_up (va_up (fun _ => none) 0 (some (u3 0))) 1 (some (u5 0))))))))], shW G u3 kz_S0, shW G u5 kz_S0]) ⟨hx, hb, hml, hown, hts⟩ (c_X1_init l G o6) (cwI 0 hts gX0_init_X1_init rfl rfl rfl (hts (.initialized RX1) (by decide +kernel)) (hts (.methodLink RX0 15 yX1_init) (by decide +kernel)) (hts (.instanceMethod yX1_init) (by decide +kernel)) rfl (by decide +kernel) ⟨(Nat.le_of_ble_eq_true rfl), (Nat.le_of_ble_eq_true rfl)⟩) hK hP hD hS hA hZ0 [4] [0, 1, 2, 3] rfl (by decide) rfl (by decide) (by decide) hl.1 rfl (Nat.le_of_ble_eq_true rfl) dX0_init_30 ⟨(Nat.le_of_ble_eq_true rfl), (Nat.le_of_ble_eq_true rfl)⟩ (fun u7 H locs hu7 hPn hDn hS => ?_)
  have hu7 : u7 0 = o6 := hu7
  subst hu7
  have hP : kz_P G [[(h0, .inr (0, [.ref q1, .int 0, .int 0]))], [(q1, .inl (G.2.2.2, 6, .inr (.inr (.inr (.inr (va_up (va_up (fun _ => none) 0 (some (u3 0))) 1 (some (u5 0))))))))], shW G u3 kz_S0, shW G u5 kz_S0, shW G u7 kz_S0] H := hPn
  have hD : kz_D A [[(h0, .inr (0, [.ref q1, .int 0, .int 0]))], [(q1, .inl (G.2.2.2, 6, .inr (.inr (.inr (.inr (va_up (va_up (fun _ => none) 0 (some (u3 0))) 1 (some (u5 0))))))))], shW G u3 kz_S0, shW G u5 kz_S0, shW G u7 kz_S0] := hDn
  refine va_astq hx hb hK.1 hP hD hS 1 2 24 1 (r := (RX1, TX1, 14)) rfl rfl (by rfl) rfl (vp_in_nI (n := 2) (N := 6) (by decide) (by decide)) dX0_init_33 (fun H locs hP hD hS => ?_)
  have hP : kz_P G [[(h0, .inr (0, [.ref q1, .int 0, .int 0]))], [(q1, .inl (G.2.2.2, 6, .inr (.inr (.inr (.inr (va_up (va_up (va_up (fun _ => none) 0 (some (u3 0))) 1 (some (u5 0))) 2 (some (u7 0))))))))], shW G u3 kz_S0, shW G u5 kz_S0, shW G u7 kz_S0] H := hP
  have hD : kz_D A [[(h0, .inr (0, [.ref q1, .int 0, .int 0]))], [(q1, .inl (G.2.2.2, 6, .inr (.inr (.inr (.inr (va_up (va_up (va_up (fun _ => none) 0 (some (u3 0))) 1 (some (u5 0))) 2 (some (u7 0))))))))], shW G u3 kz_S0, shW G u5 kz_S0, shW G u7 kz_S0] := hD
  refine lv_iinc (v := 3) (lv' := [(1, .int 3), (0, .ref h0)]) hx hb dX0_init_34 hl (k := 0) rfl (by decide +kernel) (by decide) rfl (fun ls hl => ?_)
  refine lv_goto (tgt := 15) hx hb dX0_init_37 (by decide) ?_
  refine lv_iload_n hx hb dX0_init_15 rfl (lv_at hl 0 rfl) ?_
  refine lv_bipush (v := 6) hx hb dX0_init_16 (by decide +kernel) ?_
  refine lv_icmp_ge (tgt := 40) hx hb dX0_init_18 (by decide) (fun c => absurd c (by decide)) (fun _ => ?_)
  refine lv_aload_n hx hb dX0_init_21 rfl (lv_at hl 1 rfl) ?_
  refine va_get (D := G.1) (ci := 0) (v := .ref q1) (C := RX0) (T := TX0) (N := 3) hx hb hts hinX0 hown hK.1 hP 0 rfl rfl 0 (by decide) (hts (.fieldLink RX0 11 "ParcelShelves$History" "rows" "[LParcelShelves$Shop;") (by decide +kernel)) (fun _ h9 => h9) rfl dX0_init_22 ?_
  refine lv_iload_n hx hb dX0_init_25 rfl (lv_at hl 0 rfl) ?_
  refine va_new (ci := 1) (fs := [.null, .int 0, .int 0, .int 0, .int 0, .null, .null, .null, .null, .null, .null, .null, .null, .null]) (C := RX1) (T := TX1) (N := 14) hx hb hts (by decide +kernel) tyX1 tyX1_ok hown (hts (.classLink RX0 9 RX1) (by decide +kernel)) (hts (.instantiable RX1 14) (by decide +kernel)) (hts (.initialized RX1) (by decide +kernel)) hK.1 hP hD hS hA rfl (fun j hj => by rcases (show j = 0 ∨ j = 1 ∨ j = 2 ∨ j = 3 ∨ j = 4 ∨ j = 5 ∨ j = 6 ∨ j = 7 ∨ j = 8 ∨ j = 9 ∨ j = 10 ∨ j = 11 ∨ j = 12 ∨ j = 13 by omega) with rfl | rfl | rfl | rfl | rfl | rfl | rfl | rfl | rfl | rfl | rfl | rfl | rfl | rfl <;> rfl) (Nat.le_of_ble_eq_true rfl) (Nat.le_of_ble_eq_true rfl) dX0_init_26 (fun o8 H hP hD hS => ?_)
  have hP : kz_P G [[(h0, .inr (0, [.ref q1, .int 0, .int 0]))], [(q1, .inl (G.2.2.2, 6, .inr (.inr (.inr (.inr (va_up (va_up (va_up (fun _ => none) 0 (some (u3 0))) 1 (some (u5 0))) 2 (some (u7 0))))))))], shW G u3 kz_S0, shW G u5 kz_S0, shW G u7 kz_S0, [(o8, .inr (1, [.null, .int 0, .int 0, .int 0, .int 0, .null, .null, .null, .null, .null, .null, .null, .null, .null]))]] H := hP
  have hD : kz_D A [[(h0, .inr (0, [.ref q1, .int 0, .int 0]))], [(q1, .inl (G.2.2.2, 6, .inr (.inr (.inr (.inr (va_up (va_up (va_up (fun _ => none) 0 (some (u3 0))) 1 (some (u5 0))) 2 (some (u7 0))))))))], shW G u3 kz_S0, shW G u5 kz_S0, shW G u7 kz_S0, [(o8, .inr (1, [.null, .int 0, .int 0, .int 0, .int 0, .null, .null, .null, .null, .null, .null, .null, .null, .null]))]] := hD
  refine lv_dup hx hb dX0_init_29 rfl ?_
  refine kz_iniI (rest := [.ref o8, .int 3, .ref q1]) (wr := [[(h0, .inr (0, [.ref q1, .int 0, .int 0]))], [(q1, .inl (G.2.2.2, 6, .inr (.inr (.inr (.inr (va_up (va_up (va_up (fun _ => none) 0 (some (u3 0))) 1 (some (u5 0))) 2 (some (u7 0))))))))], shW G u3 kz_S0, shW G u5 kz_S0, shW G u7 kz_S0]) ⟨hx, hb, hml, hown, hts⟩ (c_X1_init l G o8) (cwI 0 hts gX0_init_X1_init rfl rfl rfl (hts (.initialized RX1) (by decide +kernel)) (hts (.methodLink RX0 15 yX1_init) (by decide +kernel)) (hts (.instanceMethod yX1_init) (by decide +kernel)) rfl (by decide +kernel) ⟨(Nat.le_of_ble_eq_true rfl), (Nat.le_of_ble_eq_true rfl)⟩) hK hP hD hS hA hZ0 [5] [0, 1, 2, 3, 4] rfl (by decide) rfl (by decide) (by decide) hl.1 rfl (Nat.le_of_ble_eq_true rfl) dX0_init_30 ⟨(Nat.le_of_ble_eq_true rfl), (Nat.le_of_ble_eq_true rfl)⟩ (fun u9 H locs hu9 hPn hDn hS => ?_)
  have hu9 : u9 0 = o8 := hu9
  subst hu9
  have hP : kz_P G [[(h0, .inr (0, [.ref q1, .int 0, .int 0]))], [(q1, .inl (G.2.2.2, 6, .inr (.inr (.inr (.inr (va_up (va_up (va_up (fun _ => none) 0 (some (u3 0))) 1 (some (u5 0))) 2 (some (u7 0))))))))], shW G u3 kz_S0, shW G u5 kz_S0, shW G u7 kz_S0, shW G u9 kz_S0] H := hPn
  have hD : kz_D A [[(h0, .inr (0, [.ref q1, .int 0, .int 0]))], [(q1, .inl (G.2.2.2, 6, .inr (.inr (.inr (.inr (va_up (va_up (va_up (fun _ => none) 0 (some (u3 0))) 1 (some (u5 0))) 2 (some (u7 0))))))))], shW G u3 kz_S0, shW G u5 kz_S0, shW G u7 kz_S0, shW G u9 kz_S0] := hDn
  refine va_astq hx hb hK.1 hP hD hS 1 2 35 1 (r := (RX1, TX1, 14)) rfl rfl (by rfl) rfl (vp_in_nI (n := 3) (N := 6) (by decide) (by decide)) dX0_init_33 (fun H locs hP hD hS => ?_)
  have hP : kz_P G [[(h0, .inr (0, [.ref q1, .int 0, .int 0]))], [(q1, .inl (G.2.2.2, 6, .inr (.inr (.inr (.inr (va_up (va_up (va_up (va_up (fun _ => none) 0 (some (u3 0))) 1 (some (u5 0))) 2 (some (u7 0))) 3 (some (u9 0))))))))], shW G u3 kz_S0, shW G u5 kz_S0, shW G u7 kz_S0, shW G u9 kz_S0] H := hP
  have hD : kz_D A [[(h0, .inr (0, [.ref q1, .int 0, .int 0]))], [(q1, .inl (G.2.2.2, 6, .inr (.inr (.inr (.inr (va_up (va_up (va_up (va_up (fun _ => none) 0 (some (u3 0))) 1 (some (u5 0))) 2 (some (u7 0))) 3 (some (u9 0))))))))], shW G u3 kz_S0, shW G u5 kz_S0, shW G u7 kz_S0, shW G u9 kz_S0] := hD
  refine lv_iinc (v := 4) (lv' := [(1, .int 4), (0, .ref h0)]) hx hb dX0_init_34 hl (k := 0) rfl (by decide +kernel) (by decide) rfl (fun ls hl => ?_)
  refine lv_goto (tgt := 15) hx hb dX0_init_37 (by decide) ?_
  refine lv_iload_n hx hb dX0_init_15 rfl (lv_at hl 0 rfl) ?_
  refine lv_bipush (v := 6) hx hb dX0_init_16 (by decide +kernel) ?_
  refine lv_icmp_ge (tgt := 40) hx hb dX0_init_18 (by decide) (fun c => absurd c (by decide)) (fun _ => ?_)
  refine lv_aload_n hx hb dX0_init_21 rfl (lv_at hl 1 rfl) ?_
  refine va_get (D := G.1) (ci := 0) (v := .ref q1) (C := RX0) (T := TX0) (N := 3) hx hb hts hinX0 hown hK.1 hP 0 rfl rfl 0 (by decide) (hts (.fieldLink RX0 11 "ParcelShelves$History" "rows" "[LParcelShelves$Shop;") (by decide +kernel)) (fun _ h9 => h9) rfl dX0_init_22 ?_
  refine lv_iload_n hx hb dX0_init_25 rfl (lv_at hl 0 rfl) ?_
  refine va_new (ci := 1) (fs := [.null, .int 0, .int 0, .int 0, .int 0, .null, .null, .null, .null, .null, .null, .null, .null, .null]) (C := RX1) (T := TX1) (N := 14) hx hb hts (by decide +kernel) tyX1 tyX1_ok hown (hts (.classLink RX0 9 RX1) (by decide +kernel)) (hts (.instantiable RX1 14) (by decide +kernel)) (hts (.initialized RX1) (by decide +kernel)) hK.1 hP hD hS hA rfl (fun j hj => by rcases (show j = 0 ∨ j = 1 ∨ j = 2 ∨ j = 3 ∨ j = 4 ∨ j = 5 ∨ j = 6 ∨ j = 7 ∨ j = 8 ∨ j = 9 ∨ j = 10 ∨ j = 11 ∨ j = 12 ∨ j = 13 by omega) with rfl | rfl | rfl | rfl | rfl | rfl | rfl | rfl | rfl | rfl | rfl | rfl | rfl | rfl <;> rfl) (Nat.le_of_ble_eq_true rfl) (Nat.le_of_ble_eq_true rfl) dX0_init_26 (fun o10 H hP hD hS => ?_)
  have hP : kz_P G [[(h0, .inr (0, [.ref q1, .int 0, .int 0]))], [(q1, .inl (G.2.2.2, 6, .inr (.inr (.inr (.inr (va_up (va_up (va_up (va_up (fun _ => none) 0 (some (u3 0))) 1 (some (u5 0))) 2 (some (u7 0))) 3 (some (u9 0))))))))], shW G u3 kz_S0, shW G u5 kz_S0, shW G u7 kz_S0, shW G u9 kz_S0, [(o10, .inr (1, [.null, .int 0, .int 0, .int 0, .int 0, .null, .null, .null, .null, .null, .null, .null, .null, .null]))]] H := hP
  have hD : kz_D A [[(h0, .inr (0, [.ref q1, .int 0, .int 0]))], [(q1, .inl (G.2.2.2, 6, .inr (.inr (.inr (.inr (va_up (va_up (va_up (va_up (fun _ => none) 0 (some (u3 0))) 1 (some (u5 0))) 2 (some (u7 0))) 3 (some (u9 0))))))))], shW G u3 kz_S0, shW G u5 kz_S0, shW G u7 kz_S0, shW G u9 kz_S0, [(o10, .inr (1, [.null, .int 0, .int 0, .int 0, .int 0, .null, .null, .null, .null, .null, .null, .null, .null, .null]))]] := hD
  refine lv_dup hx hb dX0_init_29 rfl ?_
  refine kz_iniI (rest := [.ref o10, .int 4, .ref q1]) (wr := [[(h0, .inr (0, [.ref q1, .int 0, .int 0]))], [(q1, .inl (G.2.2.2, 6, .inr (.inr (.inr (.inr (va_up (va_up (va_up (va_up (fun _ => none) 0 (some (u3 0))) 1 (some (u5 0))) 2 (some (u7 0))) 3 (some (u9 0))))))))], shW G u3 kz_S0, shW G u5 kz_S0, shW G u7 kz_S0, shW G u9 kz_S0]) ⟨hx, hb, hml, hown, hts⟩ (c_X1_init l G o10) (cwI 0 hts gX0_init_X1_init rfl rfl rfl (hts (.initialized RX1) (by decide +kernel)) (hts (.methodLink RX0 15 yX1_init) (by decide +kernel)) (hts (.instanceMethod yX1_init) (by decide +kernel)) rfl (by decide +kernel) ⟨(Nat.le_of_ble_eq_true rfl), (Nat.le_of_ble_eq_true rfl)⟩) hK hP hD hS hA hZ0 [6] [0, 1, 2, 3, 4, 5] rfl (by decide) rfl (by decide) (by decide) hl.1 rfl (Nat.le_of_ble_eq_true rfl) dX0_init_30 ⟨(Nat.le_of_ble_eq_true rfl), (Nat.le_of_ble_eq_true rfl)⟩ (fun u11 H locs hu11 hPn hDn hS => ?_)
  have hu11 : u11 0 = o10 := hu11
  subst hu11
  have hP : kz_P G [[(h0, .inr (0, [.ref q1, .int 0, .int 0]))], [(q1, .inl (G.2.2.2, 6, .inr (.inr (.inr (.inr (va_up (va_up (va_up (va_up (fun _ => none) 0 (some (u3 0))) 1 (some (u5 0))) 2 (some (u7 0))) 3 (some (u9 0))))))))], shW G u3 kz_S0, shW G u5 kz_S0, shW G u7 kz_S0, shW G u9 kz_S0, shW G u11 kz_S0] H := hPn
  have hD : kz_D A [[(h0, .inr (0, [.ref q1, .int 0, .int 0]))], [(q1, .inl (G.2.2.2, 6, .inr (.inr (.inr (.inr (va_up (va_up (va_up (va_up (fun _ => none) 0 (some (u3 0))) 1 (some (u5 0))) 2 (some (u7 0))) 3 (some (u9 0))))))))], shW G u3 kz_S0, shW G u5 kz_S0, shW G u7 kz_S0, shW G u9 kz_S0, shW G u11 kz_S0] := hDn
  refine va_astq hx hb hK.1 hP hD hS 1 2 46 1 (r := (RX1, TX1, 14)) rfl rfl (by rfl) rfl (vp_in_nI (n := 4) (N := 6) (by decide) (by decide)) dX0_init_33 (fun H locs hP hD hS => ?_)
  have hP : kz_P G [[(h0, .inr (0, [.ref q1, .int 0, .int 0]))], [(q1, .inl (G.2.2.2, 6, .inr (.inr (.inr (.inr (va_up (va_up (va_up (va_up (va_up (fun _ => none) 0 (some (u3 0))) 1 (some (u5 0))) 2 (some (u7 0))) 3 (some (u9 0))) 4 (some (u11 0))))))))], shW G u3 kz_S0, shW G u5 kz_S0, shW G u7 kz_S0, shW G u9 kz_S0, shW G u11 kz_S0] H := hP
  have hD : kz_D A [[(h0, .inr (0, [.ref q1, .int 0, .int 0]))], [(q1, .inl (G.2.2.2, 6, .inr (.inr (.inr (.inr (va_up (va_up (va_up (va_up (va_up (fun _ => none) 0 (some (u3 0))) 1 (some (u5 0))) 2 (some (u7 0))) 3 (some (u9 0))) 4 (some (u11 0))))))))], shW G u3 kz_S0, shW G u5 kz_S0, shW G u7 kz_S0, shW G u9 kz_S0, shW G u11 kz_S0] := hD
  refine lv_iinc (v := 5) (lv' := [(1, .int 5), (0, .ref h0)]) hx hb dX0_init_34 hl (k := 0) rfl (by decide +kernel) (by decide) rfl (fun ls hl => ?_)
  refine lv_goto (tgt := 15) hx hb dX0_init_37 (by decide) ?_
  refine lv_iload_n hx hb dX0_init_15 rfl (lv_at hl 0 rfl) ?_
  refine lv_bipush (v := 6) hx hb dX0_init_16 (by decide +kernel) ?_
  refine lv_icmp_ge (tgt := 40) hx hb dX0_init_18 (by decide) (fun c => absurd c (by decide)) (fun _ => ?_)
  refine lv_aload_n hx hb dX0_init_21 rfl (lv_at hl 1 rfl) ?_
  refine va_get (D := G.1) (ci := 0) (v := .ref q1) (C := RX0) (T := TX0) (N := 3) hx hb hts hinX0 hown hK.1 hP 0 rfl rfl 0 (by decide) (hts (.fieldLink RX0 11 "ParcelShelves$History" "rows" "[LParcelShelves$Shop;") (by decide +kernel)) (fun _ h9 => h9) rfl dX0_init_22 ?_
  refine lv_iload_n hx hb dX0_init_25 rfl (lv_at hl 0 rfl) ?_
  refine va_new (ci := 1) (fs := [.null, .int 0, .int 0, .int 0, .int 0, .null, .null, .null, .null, .null, .null, .null, .null, .null]) (C := RX1) (T := TX1) (N := 14) hx hb hts (by decide +kernel) tyX1 tyX1_ok hown (hts (.classLink RX0 9 RX1) (by decide +kernel)) (hts (.instantiable RX1 14) (by decide +kernel)) (hts (.initialized RX1) (by decide +kernel)) hK.1 hP hD hS hA rfl (fun j hj => by rcases (show j = 0 ∨ j = 1 ∨ j = 2 ∨ j = 3 ∨ j = 4 ∨ j = 5 ∨ j = 6 ∨ j = 7 ∨ j = 8 ∨ j = 9 ∨ j = 10 ∨ j = 11 ∨ j = 12 ∨ j = 13 by omega) with rfl | rfl | rfl | rfl | rfl | rfl | rfl | rfl | rfl | rfl | rfl | rfl | rfl | rfl <;> rfl) (Nat.le_of_ble_eq_true rfl) (Nat.le_of_ble_eq_true rfl) dX0_init_26 (fun o12 H hP hD hS => ?_)
  have hP : kz_P G [[(h0, .inr (0, [.ref q1, .int 0, .int 0]))], [(q1, .inl (G.2.2.2, 6, .inr (.inr (.inr (.inr (va_up (va_up (va_up (va_up (va_up (fun _ => none) 0 (some (u3 0))) 1 (some (u5 0))) 2 (some (u7 0))) 3 (some (u9 0))) 4 (some (u11 0))))))))], shW G u3 kz_S0, shW G u5 kz_S0, shW G u7 kz_S0, shW G u9 kz_S0, shW G u11 kz_S0, [(o12, .inr (1, [.null, .int 0, .int 0, .int 0, .int 0, .null, .null, .null, .null, .null, .null, .null, .null, .null]))]] H := hP
  have hD : kz_D A [[(h0, .inr (0, [.ref q1, .int 0, .int 0]))], [(q1, .inl (G.2.2.2, 6, .inr (.inr (.inr (.inr (va_up (va_up (va_up (va_up (va_up (fun _ => none) 0 (some (u3 0))) 1 (some (u5 0))) 2 (some (u7 0))) 3 (some (u9 0))) 4 (some (u11 0))))))))], shW G u3 kz_S0, shW G u5 kz_S0, shW G u7 kz_S0, shW G u9 kz_S0, shW G u11 kz_S0, [(o12, .inr (1, [.null, .int 0, .int 0, .int 0, .int 0, .null, .null, .null, .null, .null, .null, .null, .null, .null]))]] := hD
  refine lv_dup hx hb dX0_init_29 rfl ?_
  refine kz_iniI (rest := [.ref o12, .int 5, .ref q1]) (wr := [[(h0, .inr (0, [.ref q1, .int 0, .int 0]))], [(q1, .inl (G.2.2.2, 6, .inr (.inr (.inr (.inr (va_up (va_up (va_up (va_up (va_up (fun _ => none) 0 (some (u3 0))) 1 (some (u5 0))) 2 (some (u7 0))) 3 (some (u9 0))) 4 (some (u11 0))))))))], shW G u3 kz_S0, shW G u5 kz_S0, shW G u7 kz_S0, shW G u9 kz_S0, shW G u11 kz_S0]) ⟨hx, hb, hml, hown, hts⟩ (c_X1_init l G o12) (cwI 0 hts gX0_init_X1_init rfl rfl rfl (hts (.initialized RX1) (by decide +kernel)) (hts (.methodLink RX0 15 yX1_init) (by decide +kernel)) (hts (.instanceMethod yX1_init) (by decide +kernel)) rfl (by decide +kernel) ⟨(Nat.le_of_ble_eq_true rfl), (Nat.le_of_ble_eq_true rfl)⟩) hK hP hD hS hA hZ0 [7] [0, 1, 2, 3, 4, 5, 6] rfl (by decide) rfl (by decide) (by decide) hl.1 rfl (Nat.le_of_ble_eq_true rfl) dX0_init_30 ⟨(Nat.le_of_ble_eq_true rfl), (Nat.le_of_ble_eq_true rfl)⟩ (fun u13 H locs hu13 hPn hDn hS => ?_)
  have hu13 : u13 0 = o12 := hu13
  subst hu13
  have hP : kz_P G [[(h0, .inr (0, [.ref q1, .int 0, .int 0]))], [(q1, .inl (G.2.2.2, 6, .inr (.inr (.inr (.inr (va_up (va_up (va_up (va_up (va_up (fun _ => none) 0 (some (u3 0))) 1 (some (u5 0))) 2 (some (u7 0))) 3 (some (u9 0))) 4 (some (u11 0))))))))], shW G u3 kz_S0, shW G u5 kz_S0, shW G u7 kz_S0, shW G u9 kz_S0, shW G u11 kz_S0, shW G u13 kz_S0] H := hPn
  have hD : kz_D A [[(h0, .inr (0, [.ref q1, .int 0, .int 0]))], [(q1, .inl (G.2.2.2, 6, .inr (.inr (.inr (.inr (va_up (va_up (va_up (va_up (va_up (fun _ => none) 0 (some (u3 0))) 1 (some (u5 0))) 2 (some (u7 0))) 3 (some (u9 0))) 4 (some (u11 0))))))))], shW G u3 kz_S0, shW G u5 kz_S0, shW G u7 kz_S0, shW G u9 kz_S0, shW G u11 kz_S0, shW G u13 kz_S0] := hDn
  refine va_astq hx hb hK.1 hP hD hS 1 2 57 1 (r := (RX1, TX1, 14)) rfl rfl (by rfl) rfl (vp_in_nI (n := 5) (N := 6) (by decide) (by decide)) dX0_init_33 (fun H locs hP hD hS => ?_)
  have hP : kz_P G [[(h0, .inr (0, [.ref q1, .int 0, .int 0]))], [(q1, .inl (G.2.2.2, 6, .inr (.inr (.inr (.inr (va_up (va_up (va_up (va_up (va_up (va_up (fun _ => none) 0 (some (u3 0))) 1 (some (u5 0))) 2 (some (u7 0))) 3 (some (u9 0))) 4 (some (u11 0))) 5 (some (u13 0))))))))], shW G u3 kz_S0, shW G u5 kz_S0, shW G u7 kz_S0, shW G u9 kz_S0, shW G u11 kz_S0, shW G u13 kz_S0] H := hP
  have hD : kz_D A [[(h0, .inr (0, [.ref q1, .int 0, .int 0]))], [(q1, .inl (G.2.2.2, 6, .inr (.inr (.inr (.inr (va_up (va_up (va_up (va_up (va_up (va_up (fun _ => none) 0 (some (u3 0))) 1 (some (u5 0))) 2 (some (u7 0))) 3 (some (u9 0))) 4 (some (u11 0))) 5 (some (u13 0))))))))], shW G u3 kz_S0, shW G u5 kz_S0, shW G u7 kz_S0, shW G u9 kz_S0, shW G u11 kz_S0, shW G u13 kz_S0] := hD
  refine lv_iinc (v := 6) (lv' := [(1, .int 6), (0, .ref h0)]) hx hb dX0_init_34 hl (k := 0) rfl (by decide +kernel) (by decide) rfl (fun ls hl => ?_)
  refine lv_goto (tgt := 15) hx hb dX0_init_37 (by decide) ?_
  refine lv_iload_n hx hb dX0_init_15 rfl (lv_at hl 0 rfl) ?_
  refine lv_bipush (v := 6) hx hb dX0_init_16 (by decide +kernel) ?_
  refine lv_icmp_ge (tgt := 40) hx hb dX0_init_18 (by decide) (fun _ => ?_) (fun c => absurd c (by decide))
  refine W.widen (k := 67) (n := 3528) (Nat.le_of_ble_eq_true rfl) (Nat.le_of_ble_eq_true rfl) ?_
  have hq : ∀ j, j < 6 → (va_up (va_up (va_up (va_up (va_up (va_up (fun _ => none) 0 (some (u3 0))) 1 (some (u5 0))) 2 (some (u7 0))) 3 (some (u9 0))) 4 (some (u11 0))) 5 (some (u13 0))) j = some ((kz_slc [u3, u5, u7, u9, u11, u13]) j 0) := by
    intro j hj
    rcases (show j = 0 ∨ j = 1 ∨ j = 2 ∨ j = 3 ∨ j = 4 ∨ j = 5 by omega) with rfl | rfl | rfl | rfl | rfl | rfl <;> rfl
  have hP := kz_qaP hq hP
  have hP9 : kz_P G [hsW G (kz_adr [h0, q1]) (fun j => (kz_slc [u3, u5, u7, u9, u11, u13]) j 0) kz_Y0, shW G ((kz_slc [u3, u5, u7, u9, u11, u13]) 0) kz_S0, shW G ((kz_slc [u3, u5, u7, u9, u11, u13]) 1) kz_S0, shW G ((kz_slc [u3, u5, u7, u9, u11, u13]) 2) kz_S0, shW G ((kz_slc [u3, u5, u7, u9, u11, u13]) 3) kz_S0, shW G ((kz_slc [u3, u5, u7, u9, u11, u13]) 4) kz_S0, shW G ((kz_slc [u3, u5, u7, u9, u11, u13]) 5) kz_S0] H := hP
  have hD9 : kz_D A [hsW G (kz_adr [h0, q1]) (fun j => (kz_slc [u3, u5, u7, u9, u11, u13]) j 0) kz_Y0, shW G ((kz_slc [u3, u5, u7, u9, u11, u13]) 0) kz_S0, shW G ((kz_slc [u3, u5, u7, u9, u11, u13]) 1) kz_S0, shW G ((kz_slc [u3, u5, u7, u9, u11, u13]) 2) kz_S0, shW G ((kz_slc [u3, u5, u7, u9, u11, u13]) 3) kz_S0, shW G ((kz_slc [u3, u5, u7, u9, u11, u13]) 4) kz_S0, shW G ((kz_slc [u3, u5, u7, u9, u11, u13]) 5) kz_S0] := kz_D_adr (by rfl) hD
  have hok : (kz_adr [h0, q1]) 0 = h0 := rfl
  exact W.vret hx hb hr (fun t ht hW => ⟨⟨(kz_adr [h0, q1], (kz_slc [u3, u5, u7, u9, u11, u13])), rfl, hok, by rw [ht]; exact hP9, hD9⟩, hS.F ht⟩) hS.2.2 dX0_init_40
