/-! CONSTRUCTORS: a new row of numbers, a new object, a call of a constructor -/
abbrev kz_rmI (f n mc ms : Nat) : Room := { frames := f, cells := mc, slots := ms, locals := n }
def kz_ini {α : Type} (l : Launch) (G : kz_G) (y : MethodName) (ws : List Cond) (f n mc ms : Nat) (h0 : Nat) (o : Nat × List Value) (ok : α → Prop) (Post : α → kz_B) : Prop :=
  ∀ sz : Nat, Met l y ws (kz_rmI f n mc ms) (va_Pc [.ref h0] (fun U => U.heap.size = sz ∧ kz_P G [[(h0, .inr o)]] U.heap ∧ kz_K G U ∧ kz_D (fun _ => True) [[(h0, .inr o)]] ∧ kz_Zs (kz_A [[(h0, .inr o)]] sz) U U.heap)) (va_Qv (fun (u : α) => ok u) (fun u t => kz_P G (Post u) t.heap ∧ kz_D (kz_A [[(h0, .inr o)]] sz) (Post u)) (kz_A [[(h0, .inr o)]] sz)) mc ms (kz_A [[(h0, .inr o)]] sz)
section KZI
variable {p : Program} {l : Launch} {e : Env} {R : Room} {s : State} {m : MethodId} {args : Array Value} {below : List Frame} {meth : Method} {c : Code} {H : Heap} {locs : List Loc} {cells slots : Nat} {Q : State → Prop}
variable {cc : ByteArray} {pc : Nat} {ls : Array Slot} {rest st0 : List Value} {G : kz_G} {Ts wy : List Cond} {own C host : String} {y : MethodName} {bytes : ByteArray} {maxL nL index k f n mc ms : Nat} {ret : Option FieldType} {As : List Value} {b : Nat} {bs cs cs' wr : kz_B} {r : Int32} {A : Nat → Prop}
theorem kz_sameI {ty : FieldType} {a d : ClassId} {K : List (ClassId × FieldType)} {D : va_G} {cl : List vw_C} (hK : va_K D cl (K ++ [(a, ty)]) s) (i : Nat) (hi : K[i]? = some (d, ty)) (hty : ∀ C, ty ≠ .object C) : a = d := by
  have h1 := (hK.2 K.length (a, ty) (by rw [List.getElem?_append_right (Nat.le_refl _)]; simp)).2
  have h2 := (hK.2 i (d, ty) (by rw [List.getElem?_append_left (List.getElem?_eq_some_iff.mp hi).1]; exact hi)).2
  have key : ∀ x : ClassId, va_RA s x ty → s.vm.findClass ("[" ++ ty.toString) = some x := by
    intro x hx
    cases ty with
    | object C => exact absurd rfl (hty C)
    | _ => exact hx
  exact Option.some.inj ((key a h1).symm.trans (key d h2))
theorem kz_newI (hexec : p.tables.exec = Jvm.exec) (hb : c.code = cc) (harr : (Cond.arrayClass (newarray.typeOf .int)).before args s = true) (hK : kz_K G s) (hP : kz_P G bs H) (hD : kz_D A bs) (hS : va_S A s.heap H locs) (hA : ∀ q, s.heap.size ≤ q → A q) {v : Int32} {N : Nat} (hn : ¬ v < 0) (hN : v.toNatClampNeg = N) (hbytes : N * componentBytes .int ≤ 536870912) (hcells : cells + 1 ≤ R.cells) (hslots : slots + N ≤ R.slots) (hdg : decode cc pc = .ok (.newarray .int, 2))
    (kk : ∀ (q : Nat) (H1 : Heap), kz_P G (bs ++ [[(q, .inl (G.2.1, N, .inl (fun _ => 0)))]]) H1 → kz_D A (bs ++ [[(q, .inl (G.2.1, N, .inl (fun _ => 0)))]]) → va_S A s.heap H1 locs → W p l e R s m args below meth c H1 locs (cells + 1) (slots + N) Q (F0 m (pc + 2) ls (.ref q :: rest))) : W p l e R s m args below meth c H locs cells slots Q (F0 m pc ls (.int v :: rest)) := by
  refine va_newa (atype := .int) (a0 := (N, .inl (fun _ => 0))) hexec hb harr rfl hK.1 hP hD hS hA (fun cA => rfl) hn hN hbytes hcells hslots hdg (fun q cA H1 hK1 hP1 hD1 hS1 => ?_)
  have e := kz_sameI hK1 0 rfl (fun C h => by cases h)
  subst e
  exact kk q H1 (by unfold kz_P; rw [List.flatten_append]; exact hP1) (by unfold kz_D; rw [List.flatten_append]; exact hD1) hS1
theorem kz_newC (hexec : p.tables.exec = Jvm.exec) (hb : c.code = cc) (harr : (Cond.arrayClass (newarray.typeOf .char)).before args s = true) (hK : kz_K G s) (hP : kz_P G bs H) (hD : kz_D A bs) (hS : va_S A s.heap H locs) (hA : ∀ q, s.heap.size ≤ q → A q) {v : Int32} {N : Nat} (hn : ¬ v < 0) (hN : v.toNatClampNeg = N) (hbytes : N * componentBytes .char ≤ 536870912) (hcells : cells + 1 ≤ R.cells) (hslots : slots + N ≤ R.slots) (hdg : decode cc pc = .ok (.newarray .char, 2))
    (kk : ∀ (q : Nat) (H1 : Heap), kz_P G (bs ++ [[(q, .inl (G.2.2.1, N, .inl (fun _ => 0)))]]) H1 → kz_D A (bs ++ [[(q, .inl (G.2.2.1, N, .inl (fun _ => 0)))]]) → va_S A s.heap H1 locs → W p l e R s m args below meth c H1 locs (cells + 1) (slots + N) Q (F0 m (pc + 2) ls (.ref q :: rest))) : W p l e R s m args below meth c H locs cells slots Q (F0 m pc ls (.int v :: rest)) := by
  refine va_newa (atype := .char) (a0 := (N, .inl (fun _ => 0))) hexec hb harr rfl hK.1 hP hD hS hA (fun cA => rfl) hn hN hbytes hcells hslots hdg (fun q cA H1 hK1 hP1 hD1 hS1 => ?_)
  have e := kz_sameI hK1 1 rfl (fun C h => by cases h)
  subst e
  exact kk q H1 (by unfold kz_P; rw [List.flatten_append]; exact hP1) (by unfold kz_D; rw [List.flatten_append]; exact hD1) hS1
theorem kz_preI {o : Nat × List Value} (hK : kz_K G s) (hP : kz_P G [[(b, .inr o)]] H) (hD : kz_D A [[(b, .inr o)]]) (hZ : kz_Zs A s s.heap) (hS : va_S A s.heap H locs) (hF : ∀ q, kz_A [[(b, .inr o)]] H.size q → A q) : PreS s H (va_Pc [.ref b] (fun U => U.heap.size = H.size ∧ kz_P G [[(b, .inr o)]] U.heap ∧ kz_K G U ∧ kz_D (fun _ => True) [[(b, .inr o)]] ∧ kz_Zs (kz_A [[(b, .inr o)]] H.size) U U.heap)) [.ref b] := kz_preZ hK hP hD hZ hS hF
theorem kz_iniI {α : Type} {o : Nat × List Value} {ok : α → Prop} {Post : α → kz_B} (S : CallFix p m c cc nL s args Ts own) (hM : kz_ini l G y wy f n mc ms b o ok Post) (cw : CallB R s args own index y bytes maxL none wy (kz_rmI f n mc ms) mc ms 0 ∧ y.name = "<init>" ∧ (Cond.instanceMethod y).before args s = true) (hK : kz_K G s) (hP : kz_P G bs H) (hD : kz_D A bs) (hS : va_S A s.heap H locs) (hA : ∀ q, s.heap.size ≤ q → A q) (hZ : kz_Zs A s s.heap) (isC isR : List Nat)
    (hC : isC.map (fun i => bs[i]?) = [[(b, .inr o)]].map some) (hnC : va_nd isC = true) (hR : isR.map (fun i => bs[i]?) = wr.map some) (hnR : va_nd isR = true) (hdis : ∀ i ∈ isR, i ∉ isC)
    (hsize : ls.size = nL) (hstack : st0 = .ref b :: rest) (hW : (rest.map fun v => v.category).sum ≤ 8) (hdg : decode cc pc = .ok (.invokespecial index, 3)) (hf : cells + mc ≤ R.cells ∧ slots + ms ≤ R.slots)
    (kk : ∀ (u : α) (H1 : Heap) (locs1 : List Loc), ok u → kz_P G (wr ++ Post u) H1 → kz_D A (wr ++ Post u) → va_S A s.heap H1 locs1 → W p l e R s m args below meth c H1 locs1 (cells + mc) (slots + ms) Q (F0 m (pc + 3) ls rest)) : W p l e R s m args below meth c H locs cells slots Q (F0 m pc ls st0) := by
  have hPc := hP.sub isC hC
  have hDc := hD.sub isC hnC hC
  have hF := kz_free hD hS hA isC hC
  refine va_callv (va_runI (As := []) (rest := rest) (b := b) S (hM H.size) cw (kz_preI hK hPc hDc hZ hS hF) rfl rfl hsize hstack (lv_room (pc := pc) (ls := ls) (m := m) (rest := rest) hW) hdg hf) hS (fun q _ h => hF q h) hF (fun u t H1 locs1 ht hvm hw hB hz1 hk1 hS1 => ?_)
  obtain ⟨hP1, hD1⟩ := hB
  rw [ht] at hP1
  obtain ⟨hP2, hD2⟩ := kz_join hP hD isC isR hC hR hnR hdis hk1 hF hP1 hD1
  exact kk u H1 locs1 hw hP2 hD2 hS1
theorem kz_iniIN {α : Type} {o : Nat × List Value} {ok : α → Prop} {Post : α → kz_B} (S : CallFix p m c cc nL s args Ts own) (hM : kz_ini l G y wy f n mc ms b o ok Post) (cw : va_CN R s args own index y host bytes maxL none wy (kz_rmI f n mc ms) mc ms 0 ∧ y.name = "<init>" ∧ (Cond.instanceMethod y).before args s = true) (hK : kz_K G s) (hP : kz_P G bs H) (hD : kz_D A bs) (hS : va_S A s.heap H locs) (hA : ∀ q, s.heap.size ≤ q → A q) (hZ : kz_Zs A s s.heap) (isC isR : List Nat)
    (hC : isC.map (fun i => bs[i]?) = [[(b, .inr o)]].map some) (hnC : va_nd isC = true) (hR : isR.map (fun i => bs[i]?) = wr.map some) (hnR : va_nd isR = true) (hdis : ∀ i ∈ isR, i ∉ isC)
    (hsize : ls.size = nL) (hstack : st0 = .ref b :: rest) (hW : (rest.map fun v => v.category).sum ≤ 8) (hdg : decode cc pc = .ok (.invokespecial index, 3)) (hf : cells + mc ≤ R.cells ∧ slots + ms ≤ R.slots)
    (kk : ∀ (u : α) (H1 : Heap) (locs1 : List Loc), ok u → kz_P G (wr ++ Post u) H1 → kz_D A (wr ++ Post u) → va_S A s.heap H1 locs1 → W p l e R s m args below meth c H1 locs1 (cells + mc) (slots + ms) Q (F0 m (pc + 3) ls rest)) : W p l e R s m args below meth c H locs cells slots Q (F0 m pc ls st0) := by
  have hPc := hP.sub isC hC
  have hDc := hD.sub isC hnC hC
  have hF := kz_free hD hS hA isC hC
  refine va_callv (va_runIN (As := []) (rest := rest) (b := b) S (hM H.size) cw (kz_preI hK hPc hDc hZ hS hF) rfl rfl hsize hstack (lv_room (pc := pc) (ls := ls) (m := m) (rest := rest) hW) hdg hf) hS (fun q _ h => hF q h) hF (fun u t H1 locs1 ht hvm hw hB hz1 hk1 hS1 => ?_)
  obtain ⟨hP1, hD1⟩ := hB
  rw [ht] at hP1
  obtain ⟨hP2, hD2⟩ := kz_join hP hD isC isR hC hR hnR hdis hk1 hF hP1 hD1
  exact kk u H1 locs1 hw hP2 hD2 hS1
theorem kz_mvS (S : CallFix p m c cc nL s args Ts own) (hM : kz_mv l G y wy f n As cs cs') (cw : CallB R s args own index y bytes maxL ret wy (kz_rm f n) 0 0 k ∧ (Cond.static y).before args s = true) (hK : kz_K G s) (hP : kz_P G bs H) (hD : kz_D A bs) (hS : va_S A s.heap H locs) (hA : ∀ q, s.heap.size ≤ q → A q) (isC isR isP : List Nat) {bs' : kz_B}
    (hC : isC.map (fun i => bs[i]?) = cs.map some) (hnC : va_nd isC = true) (hR : isR.map (fun i => bs[i]?) = wr.map some) (hnR : va_nd isR = true) (hdis : ∀ i ∈ isR, i ∉ isC) (hO : isP.map (fun i => (wr ++ cs')[i]?) = bs'.map some) (hnO : va_nd isP = true)
    (hn : As.length = k) (hsize : ls.size = nL) (hstack : st0 = As.reverse ++ rest) (hW : (rest.map fun v => v.category).sum ≤ 8) (hdg : decode cc pc = .ok (.invokestatic index, 3)) (hf : cells ≤ R.cells ∧ slots ≤ R.slots)
    (kk : ∀ (H1 : Heap) (locs1 : List Loc), kz_P G bs' H1 → kz_D A bs' → va_S A s.heap H1 locs1 → W p l e R s m args below meth c H1 locs1 cells slots Q (F0 m (pc + 3) ls rest)) : W p l e R s m args below meth c H locs cells slots Q (F0 m pc ls st0) := by
  have hPc := hP.sub isC hC
  have hDc := hD.sub isC hnC hC
  have hF := kz_free hD hS hA isC hC
  refine va_callv (va_runS (As := As) (rest := rest) S (hM H.size) cw (kz_preM hK hPc hDc) rfl hn hsize hstack (lv_room (pc := pc) (ls := ls) (m := m) (rest := rest) hW) hdg hf) hS (fun q _ h => hF q h) hF (fun u t H1 locs1 ht hvm hw hB hz1 hk1 hS1 => ?_)
  obtain ⟨hP1, hD1⟩ := hB
  rw [ht] at hP1
  obtain ⟨hP2, hD2⟩ := kz_join hP hD isC isR hC hR hnR hdis hk1 hF hP1 hD1
  exact kk H1 locs1 (hP2.sub isP hO) (hD2.sub isP hnO hO) hS1
end KZI
