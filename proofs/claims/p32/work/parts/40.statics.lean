/-! THE STATIC ROWS of the class, and contracts that read them -/
def kz_low : Nat → Int32 := fun j => if j = 3 then 1 else if j = 4 then 1 else 0
def kz_high : Nat → Int32 := fun j => if j = 0 then 20 else if j = 1 then 9 else if j = 2 then 50 else if j = 3 then 20 else 9
def kz_beg : Nat → Int32 := fun j => if j = 0 then 5 else if j = 1 then 2 else if j = 2 then 10 else if j = 3 then 7 else 2
def kz_Z1 (n : String) (f : Nat → Int32) (A : Nat → Prop) (U : State) (H : Heap) : Prop := ∃ t, va_Z RX3 n "[I" (.ref t) A U H ∧ va_T .int t 5 (fun j => .int (f j)) A U H
def kz_Z3 (A : Nat → Prop) (U : State) (H : Heap) : Prop := ∃ t, va_Z RX3 "AT_BEGINNING" "[I" (.ref t) A U H ∧ va_X t 5 kz_beg U H ∧ ¬ A t
def kz_Zs (A : Nat → Prop) (U : State) (H : Heap) : Prop := kz_Z1 "LOWEST" kz_low A U H ∧ kz_Z1 "HIGHEST" kz_high A U H ∧ kz_Z3 A U H
theorem kz_Z1.kept {n : String} {f : Nat → Int32} {A : Nat → Prop} {U : State} {H H1 : Heap} (h : kz_Z1 n f A U H) (hq : ∀ a : Nat, a < H.size → ¬ A a → H1[a]? = H[a]?) : kz_Z1 n f A U H1 := by
  obtain ⟨t, h1, h2⟩ := h
  exact ⟨t, h1.kept hq, h2.kept hq⟩
theorem kz_Z1.narrow {n : String} {f : Nat → Int32} {A B : Nat → Prop} {U : State} {H : Heap} (h : kz_Z1 n f A U H) (hAB : ∀ q, B q → A q) : kz_Z1 n f B U H := by
  obtain ⟨t, h1, h2⟩ := h
  exact ⟨t, h1.narrow hAB, h2.narrow hAB⟩
theorem kz_Z1.moved {n : String} {f : Nat → Int32} {A : Nat → Prop} {u U : State} {H : Heap} (hvm : u.vm.Alike U.vm) (h : kz_Z1 n f A u H) : kz_Z1 n f A U H := by
  obtain ⟨t, h1, h2⟩ := h
  exact ⟨t, h1.moved hvm, h2.moved hvm⟩
theorem kz_X_lt {t : Nat} {f : Nat → Int32} {U : State} {H : Heap} (h : va_X t 5 f U H) : t < H.size := by
  obtain ⟨scr, h1, -⟩ := h
  exact (Array.getElem?_eq_some_iff.mp h1).1
theorem kz_Z3.kept {A : Nat → Prop} {U : State} {H H1 : Heap} (h : kz_Z3 A U H) (hq : ∀ a : Nat, a < H.size → ¬ A a → H1[a]? = H[a]?) : kz_Z3 A U H1 := by
  obtain ⟨t, h1, h2, h3⟩ := h
  exact ⟨t, h1.kept hq, h2.kept (hq t (kz_X_lt h2) h3), h3⟩
theorem kz_Z3.narrow {A B : Nat → Prop} {U : State} {H : Heap} (h : kz_Z3 A U H) (hAB : ∀ q, B q → A q) : kz_Z3 B U H := by
  obtain ⟨t, h1, h2, h3⟩ := h
  exact ⟨t, h1.narrow hAB, h2, fun q => h3 (hAB t q)⟩
theorem kz_Z3.moved {A : Nat → Prop} {u U : State} {H : Heap} (hvm : u.vm.Alike U.vm) (h : kz_Z3 A u H) : kz_Z3 A U H := by
  obtain ⟨t, h1, h2, h3⟩ := h
  exact ⟨t, h1.moved hvm, h2.moved hvm, h3⟩
theorem kz_Zs.kept {A : Nat → Prop} {U : State} {H H1 : Heap} (h : kz_Zs A U H) (hq : ∀ a : Nat, a < H.size → ¬ A a → H1[a]? = H[a]?) : kz_Zs A U H1 := ⟨h.1.kept hq, h.2.1.kept hq, h.2.2.kept hq⟩
theorem kz_Zs.narrow {A B : Nat → Prop} {U : State} {H : Heap} (h : kz_Zs A U H) (hAB : ∀ q, B q → A q) : kz_Zs B U H := ⟨h.1.narrow hAB, h.2.1.narrow hAB, h.2.2.narrow hAB⟩
theorem kz_Zs.moved {A : Nat → Prop} {u U : State} {H : Heap} (hvm : u.vm.Alike U.vm) (h : kz_Zs A u H) : kz_Zs A U H := ⟨h.1.moved hvm, h.2.1.moved hvm, h.2.2.moved hvm⟩
def kz_mz (l : Launch) (G : kz_G) (y : MethodName) (ws : List Cond) (f n : Nat) (av : List Value) (bs bs' : kz_B) (r : Int32) : Prop :=
  ∀ sz : Nat, Met l y ws { frames := f, cells := 0, slots := 0, locals := n } (va_Pc av (fun U => U.heap.size = sz ∧ kz_P G bs U.heap ∧ kz_K G U ∧ kz_D (fun _ => True) bs ∧ kz_Zs (kz_A bs sz) U U.heap)) (va_Qi (fun x (_ : Unit) => x = r) (fun _ t => kz_P G bs' t.heap ∧ kz_D (kz_A bs sz) bs') (kz_A bs sz)) 0 0 (kz_A bs sz)
section KZZ
variable {p : Program} {l : Launch} {e : Env} {R : Room} {s : State} {m : MethodId} {args : Array Value} {below : List Frame} {meth : Method} {c : Code} {H : Heap} {locs : List Loc} {cells slots : Nat} {Q : State → Prop}
variable {cc : ByteArray} {pc : Nat} {ls : Array Slot} {rest st0 : List Value} {G : kz_G} {Ts wy : List Cond} {own C host : String} {y : MethodName} {bytes : ByteArray} {maxL nL index k f n : Nat} {ret : Option FieldType} {As : List Value} {b : Nat} {bs cs cs' : kz_B} {r : Int32} {A : Nat → Prop}
theorem kz_preZ {av : List Value} (hK : kz_K G s) (hP : kz_P G cs H) (hD : kz_D A cs) (hZ : kz_Zs A s s.heap) (hS : va_S A s.heap H locs) (hF : ∀ q, kz_A cs H.size q → A q) : PreS s H (va_Pc av (fun U => U.heap.size = H.size ∧ kz_P G cs U.heap ∧ kz_K G U ∧ kz_D (fun _ => True) cs ∧ kz_Zs (kz_A cs H.size) U U.heap)) av :=
  ⟨fun a U g mk q => ⟨q.1, q.2.1, q.2.2.1, q.2.2.2.1.call, q.2.2.2.2.1, kz_Zs.moved (u := U) (U := U.calling g mk a) (Vm.Alike.refl U.vm) q.2.2.2.2.2⟩, fun U hU hW => ⟨rfl, by rw [hU], by rw [hU]; exact hP, hK.warm hW, hD.weaken (fun _ _ => trivial), by rw [hU]; exact ((hZ.kept hS.2.1).moved hW.alike).narrow hF⟩⟩
theorem kz_mzV (S : CallFix p m c cc nL s args Ts own) (hM : kz_mz l G y wy f n (.ref b :: As) cs cs' r) (cw : CallW R s args own C index y bytes maxL ret wy (kz_rm f n) 0 0 k) (hK : kz_K G s) (hP : kz_P G bs H) (hD : kz_D A bs) (hS : va_S A s.heap H locs) (hA : ∀ q, s.heap.size ≤ q → A q) (hZ : kz_Zs A s s.heap) (isC isR isP : List Nat) {wr bs' : kz_B}
    (hC : isC.map (fun i => bs[i]?) = cs.map some) (hnC : va_nd isC = true) (hR : isR.map (fun i => bs[i]?) = wr.map some) (hnR : va_nd isR = true) (hdis : ∀ i ∈ isR, i ∉ isC) (hO : isP.map (fun i => (wr ++ cs')[i]?) = bs'.map some) (hnO : va_nd isP = true)
    (hrv : ∃ cell : Cell, H[b]? = some cell ∧ cell.vm.isStatics = false ∧ s.vm.findClass C = some cell.cls)
    (hn : As.length = k) (hsize : ls.size = nL) (hstack : st0 = As.reverse ++ .ref b :: rest) (hW : (rest.map fun v => v.category).sum ≤ 8) (hdg : decode cc pc = .ok (.invokevirtual index, 3)) (hf : cells ≤ R.cells ∧ slots ≤ R.slots)
    (kk : ∀ (H1 : Heap) (locs1 : List Loc), kz_P G bs' H1 → kz_D A bs' → va_S A s.heap H1 locs1 → W p l e R s m args below meth c H1 locs1 cells slots Q (F0 m (pc + 3) ls (.int r :: rest))) : W p l e R s m args below meth c H locs cells slots Q (F0 m pc ls st0) := by
  have hPc := hP.sub isC hC
  have hDc := hD.sub isC hnC hC
  have hF := kz_free hD hS hA isC hC
  refine va_calli (va_runV (As := As) (rest := rest) (b := b) S (hM H.size) cw ⟨(kz_preZ (av := .ref b :: As) hK hPc hDc hZ hS hF).1, hrv, (kz_preZ (av := .ref b :: As) hK hPc hDc hZ hS hF).2⟩ rfl hn hsize hstack (lv_room (pc := pc) (ls := ls) (m := m) (rest := rest) hW) hdg hf) hS (fun q _ h => hF q h) hF (fun x u t H1 locs1 ht hvm hw hB hz1 hk1 hS1 => ?_)
  subst hw
  obtain ⟨hP1, hD1⟩ := hB
  rw [ht] at hP1
  obtain ⟨hP2, hD2⟩ := kz_join hP hD isC isR hC hR hnR hdis hk1 hF hP1 hD1
  exact kk H1 locs1 (hP2.sub isP hO) (hD2.sub isP hnO hO) hS1
end KZZ
def X3_changeSetting_r (V : kz_S) (S : kz_S) (k : Int32) (v : Int32) : Int32 := if X3_isWithin_p k 0 4 then (if X3_isWithin_p v (kz_low k.toNatClampNeg) (kz_high k.toNatClampNeg) then ((S 0) k.toNatClampNeg) else (-2)) else (-2)
def X3_changeSetting_s (V : kz_S) (S : kz_S) (k : Int32) (v : Int32) : kz_S := if X3_isWithin_p k 0 4 then (if X3_isWithin_p v (kz_low k.toNatClampNeg) (kz_high k.toNatClampNeg) then (va_up S 0 (upd (S 0) k.toNatClampNeg v)) else S) else S
set_option maxHeartbeats 4000000 in
set_option maxRecDepth 100000 in
theorem c_X3_changeSetting (l : Launch) (G : kz_G) (x : Nat) (u1 : Nat) (u2 : Nat) (u3 : Nat) (u4 : Nat) (V : kz_S) (a : Nat → Nat) (S : kz_S) (k : Int32) (v : Int32) : kz_mz l G yX3_changeSetting wsX3_changeSetting 1 22 [.ref x, .int k, .int v] [xoW x (a 0) u1 u2 u3 u4 V, shW G a S] [xoW x (a 0) u1 u2 u3 u4 V, shW G a (X3_changeSetting_s V S k v)] (X3_changeSetting_r V S k v) := by
  intro sz
  refine Met.ofW (cc := cX3_changeSetting) (maxL := 4) (ret := (some .int)) (by decide) rfl ?_
  intro p e s m args below meth c s₁ B hml hv
  obtain ⟨rfl, hsz, hP, hK, hD0, hZ0⟩ := hv
  have hx := B.exec
  have hb := B.bytes
  have hr := B.returns
  have hts := atoms_spec (ws := wsX3_changeSetting) B.pre
  have hown : s.vm.findClass RX3 = some m.cls := findClass_of_methodNamed B.named
  have hlocks := B.notSynchronized
  have hinX3 : ∀ w ∈ u_ws RX3 TX3 8, w ∈ wsX3_changeSetting := by decide +kernel
  have hinX1 : ∀ w ∈ u_ws RX1 TX1 14, w ∈ wsX3_changeSetting := by decide +kernel
  subst hsz
  have hD := hD0.self (sz := s.heap.size)
  generalize hAe : kz_A [xoW x (a 0) u1 u2 u3 u4 V, shW G a S] s.heap.size = A at hD hZ0 ⊢
  have hA : ∀ q : Nat, s.heap.size ≤ q → A q := fun q h => by rw [← hAe]; exact Or.inr h
  have hS : va_S A s.heap s.heap [] := va_S.rf
  obtain ⟨⟨t1, hz1, hT1⟩, ⟨t2, hz2, hT2⟩, ⟨t3, hz3, hX3, hA3⟩⟩ := id hZ0
  have hl := lv_entry ([.ref x, .int k, .int v]) (n := 4) (Nat.le_of_ble_eq_true rfl)
  rw [lg_entry_eq]
  generalize (lg_sl ([.ref x, .int k, .int v]) ++ List.replicate (4 - (lg_sl ([.ref x, .int k, .int v])).length) Slot.unset).toArray = ls at hl ⊢
  have hl : lv_has ls 4 [(0, .ref x), (1, .int k), (2, .int v)] := hl
  refine kz_start (fun QQ hQ => ?_)
  have hP : kz_P G [xoW x (a 0) u1 u2 u3 u4 V, shW G a S] s.heap := hP
  refine lv_iload_n hx hb dX3_changeSetting_0 rfl (lv_at hl 1 rfl) ?_
  refine lv_iconst (v := 0) hx hb dX3_changeSetting_1 (by decide +kernel) ?_
  refine lv_iconst (v := 4) hx hb dX3_changeSetting_2 (by decide +kernel) ?_
  refine kz_rdS (As := [.int k, .int 0, .int 4]) (rest := []) ⟨hx, hb, hml, hown, hts⟩ (c_X3_isWithin l G k 0 4) (va_cwS 3 hts gX3_changeSetting_X3_isWithin rfl rfl rfl (by decide +kernel) ⟨Nat.le_of_ble_eq_true rfl, Nat.le_of_ble_eq_true rfl⟩) hK (hP.sub (cs := []) [] rfl) rfl hl.1 rfl (Nat.le_of_ble_eq_true rfl) dX3_changeSetting_3 ⟨Nat.le_of_ble_eq_true rfl, Nat.le_of_ble_eq_true rfl⟩ ?_
  refine lv_topi (fun y_1 ey_2 => ?_)
  by_cases c_3 : X3_isWithin_p k 0 4
  · rw [if_pos c_3] at ey_2
    subst ey_2
    refine lv_if_ne (tgt := 12) hx hb dX3_changeSetting_6 (by decide) (fun _ => ?_) (fun c => absurd c (by decide))
    refine lv_iload_n hx hb dX3_changeSetting_12 rfl (lv_at hl 2 rfl) ?_
    refine va_gets hx hb hz1 hS hown (hts (.fieldLink RX3 221 "ParcelShelves" "LOWEST" "[I") (by decide +kernel)) (fun _ h9 => h9) dX3_changeSetting_13 ?_
    refine lv_iload_n hx hb dX3_changeSetting_16 rfl (lv_at hl 1 rfl) ?_
    refine va_ti (v := .int (kz_low k.toNatClampNeg)) hx hb hT1 hS (kz_wiIn 4 c_3 rfl (by decide)) rfl dX3_changeSetting_17 ?_
    refine va_gets hx hb hz2 hS hown (hts (.fieldLink RX3 224 "ParcelShelves" "HIGHEST" "[I") (by decide +kernel)) (fun _ h9 => h9) dX3_changeSetting_18 ?_
    refine lv_iload_n hx hb dX3_changeSetting_21 rfl (lv_at hl 1 rfl) ?_
    refine va_ti (v := .int (kz_high k.toNatClampNeg)) hx hb hT2 hS (kz_wiIn 4 c_3 rfl (by decide)) rfl dX3_changeSetting_22 ?_
    refine kz_rdS (As := [.int v, .int (kz_low k.toNatClampNeg), .int (kz_high k.toNatClampNeg)]) (rest := []) ⟨hx, hb, hml, hown, hts⟩ (c_X3_isWithin l G v (kz_low k.toNatClampNeg) (kz_high k.toNatClampNeg)) (va_cwS 3 hts gX3_changeSetting_X3_isWithin rfl rfl rfl (by decide +kernel) ⟨Nat.le_of_ble_eq_true rfl, Nat.le_of_ble_eq_true rfl⟩) hK (hP.sub (cs := []) [] rfl) rfl hl.1 rfl (Nat.le_of_ble_eq_true rfl) dX3_changeSetting_23 ⟨Nat.le_of_ble_eq_true rfl, Nat.le_of_ble_eq_true rfl⟩ ?_
    refine lv_topi (fun y_4 ey_5 => ?_)
    by_cases c_6 : X3_isWithin_p v (kz_low k.toNatClampNeg) (kz_high k.toNatClampNeg)
    · rw [if_pos c_6] at ey_5
      subst ey_5
      refine lv_if_ne (tgt := 32) hx hb dX3_changeSetting_26 (by decide) (fun _ => ?_) (fun c => absurd c (by decide))
      refine lv_aload_n hx hb dX3_changeSetting_32 rfl (lv_at hl 0 rfl) ?_
      refine va_get (D := G.1) (ci := 3) (v := .ref (a 0)) (C := RX3) (T := TX3) (N := 8) hx hb hts hinX3 hown hK.1 hP 0 rfl rfl 0 (by decide) (hts (.fieldLink RX3 12 "ParcelShelves" "now" "LParcelShelves$Shop;") (by decide +kernel)) (fun _ h9 => h9) rfl dX3_changeSetting_33 ?_
      refine va_get (D := G.1) (ci := 1) (v := .ref (a 1)) (C := RX1) (T := TX1) (N := 14) hx hb hts hinX1 hown hK.1 hP 1 rfl rfl 0 (by decide) (hts (.fieldLink RX3 63 "ParcelShelves$Shop" "settings" "[I") (by decide +kernel)) (fun _ h9 => h9) rfl dX3_changeSetting_36 ?_
      refine lv_iload_n hx hb dX3_changeSetting_39 rfl (lv_at hl 1 rfl) ?_
      refine va_iald (f := (S 0)) hx hb hK.1 hP 2 0 rfl rfl (kz_wiIn 4 c_3 rfl (by decide)) dX3_changeSetting_40 ?_
      refine lv_istore_n (lv' := [(3, .int ((S 0) k.toNatClampNeg)), (0, .ref x), (1, .int k), (2, .int v)]) hx hb dX3_changeSetting_41 rfl hl (by decide) rfl (fun ls hl => ?_)
      refine lv_aload_n hx hb dX3_changeSetting_42 rfl (lv_at hl 1 rfl) ?_
      refine va_get (D := G.1) (ci := 3) (v := .ref (a 0)) (C := RX3) (T := TX3) (N := 8) hx hb hts hinX3 hown hK.1 hP 0 rfl rfl 0 (by decide) (hts (.fieldLink RX3 12 "ParcelShelves" "now" "LParcelShelves$Shop;") (by decide +kernel)) (fun _ h9 => h9) rfl dX3_changeSetting_43 ?_
      refine va_get (D := G.1) (ci := 1) (v := .ref (a 1)) (C := RX1) (T := TX1) (N := 14) hx hb hts hinX1 hown hK.1 hP 1 rfl rfl 0 (by decide) (hts (.fieldLink RX3 63 "ParcelShelves$Shop" "settings" "[I") (by decide +kernel)) (fun _ h9 => h9) rfl dX3_changeSetting_46 ?_
      refine lv_iload_n hx hb dX3_changeSetting_49 rfl (lv_at hl 2 rfl) ?_
      refine lv_iload_n hx hb dX3_changeSetting_50 rfl (lv_at hl 3 rfl) ?_
      refine va_iast hx hb hK.1 hP hD hS 2 0 rfl rfl (kz_wiIn 4 c_3 rfl (by decide)) dX3_changeSetting_51 (fun H locs hP hD hS => ?_)
      have hP : kz_P G [xoW x (a 0) u1 u2 u3 u4 V, shW G a (va_up S 0 (upd (S 0) k.toNatClampNeg v))] H := hP
      have hD : kz_D A [xoW x (a 0) u1 u2 u3 u4 V, shW G a (va_up S 0 (upd (S 0) k.toNatClampNeg v))] := hD
      refine lv_iload_n hx hb dX3_changeSetting_52 rfl (lv_at hl 0 rfl) ?_
      subst hQ
      have hP9 : kz_P G [xoW x (a 0) u1 u2 u3 u4 V, shW G a (X3_changeSetting_s V S k v)] H := by rw [X3_changeSetting_s, if_pos c_3, if_pos c_6]; exact hP
      have hD9 : kz_D A [xoW x (a 0) u1 u2 u3 u4 V, shW G a (X3_changeSetting_s V S k v)] := by rw [X3_changeSetting_s, if_pos c_3, if_pos c_6]; exact hD
      exact W.iret (v := ((S 0) k.toNatClampNeg)) hx hb hr (fun t ht hW => ⟨⟨((S 0) k.toNatClampNeg), (), rfl, (by rw [X3_changeSetting_r, if_pos c_3, if_pos c_6]), by rw [ht]; exact hP9, hD9⟩, hS.F ht⟩) hS.2.2 dX3_changeSetting_53
    · rw [if_neg c_6] at ey_5
      subst ey_5
      refine lv_if_ne (tgt := 32) hx hb dX3_changeSetting_26 (by decide) (fun c => absurd c (by decide)) (fun _ => ?_)
      refine lv_bipush (v := (-2)) hx hb dX3_changeSetting_29 (by decide +kernel) ?_
      subst hQ
      have hP9 : kz_P G [xoW x (a 0) u1 u2 u3 u4 V, shW G a (X3_changeSetting_s V S k v)] s.heap := by rw [X3_changeSetting_s, if_pos c_3, if_neg c_6]; exact hP
      have hD9 : kz_D A [xoW x (a 0) u1 u2 u3 u4 V, shW G a (X3_changeSetting_s V S k v)] := by rw [X3_changeSetting_s, if_pos c_3, if_neg c_6]; exact hD
      exact W.iret (v := (-2)) hx hb hr (fun t ht hW => ⟨⟨(-2), (), rfl, (by rw [X3_changeSetting_r, if_pos c_3, if_neg c_6]), by rw [ht]; exact hP9, hD9⟩, hS.F ht⟩) hS.2.2 dX3_changeSetting_31
  · rw [if_neg c_3] at ey_2
    subst ey_2
    refine lv_if_ne (tgt := 12) hx hb dX3_changeSetting_6 (by decide) (fun c => absurd c (by decide)) (fun _ => ?_)
    refine lv_bipush (v := (-2)) hx hb dX3_changeSetting_9 (by decide +kernel) ?_
    subst hQ
    have hP9 : kz_P G [xoW x (a 0) u1 u2 u3 u4 V, shW G a (X3_changeSetting_s V S k v)] s.heap := by rw [X3_changeSetting_s, if_neg c_3]; exact hP
    have hD9 : kz_D A [xoW x (a 0) u1 u2 u3 u4 V, shW G a (X3_changeSetting_s V S k v)] := by rw [X3_changeSetting_s, if_neg c_3]; exact hD
    exact W.iret (v := (-2)) hx hb hr (fun t ht hW => ⟨⟨(-2), (), rfl, (by rw [X3_changeSetting_r, if_neg c_3]), by rw [ht]; exact hP9, hD9⟩, hS.F ht⟩) hS.2.2 dX3_changeSetting_11
