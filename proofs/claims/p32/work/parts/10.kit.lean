/-! THE KIT OF THIS CLAIM: worlds in blocks, three kinds of contract, their calls and ends -/
theorem kz_nI_clamp {n : Nat} (h : n < 2 ^ 31) : (nI n).toNatClampNeg = n := nI_clamp h
-- links to private members of nest mates
def kz_N (U : State) : Prop := va_Nw (.methodLinkNest RX1 74 yX3_weekdayOf RX3) U ∧ va_Nw (.methodLinkNest RX1 78 yX3_indexFor RX3) U ∧ va_Nw (.methodLinkNest RX1 70 yX3_codeFor RX3) U ∧ va_Nw (.methodLinkNest RX1 85 yX3_indexOfCode RX3) U ∧ va_Nw (.methodLinkNest RX3 31 yX2_init RX3) U ∧ va_Nw (.fieldLinkNest RX1 42 RX3 "AT_BEGINNING" "[I" RX3) U
theorem kz_N.warm {s U : State} (hW : s.WarmedH U.vm) (h : kz_N s) : kz_N U :=
  ⟨va_Nw.warmM hW h.1, va_Nw.warmM hW h.2.1, va_Nw.warmM hW h.2.2.1, va_Nw.warmM hW h.2.2.2.1, va_Nw.warmM hW h.2.2.2.2.1, va_Nw.warmF hW h.2.2.2.2.2⟩
theorem kz_N.same {u U : State} (e : u.vm = U.vm) (h : kz_N u) : kz_N U :=
  ⟨va_Nw.same rfl e h.1, va_Nw.same rfl e h.2.1, va_Nw.same rfl e h.2.2.1, va_Nw.same rfl e h.2.2.2.1, va_Nw.same rfl e h.2.2.2.2.1, va_Nw.same rfl e h.2.2.2.2.2⟩
abbrev kz_G : Type := va_G × ClassId × ClassId × ClassId
abbrev kz_ty (G : kz_G) : List (ClassId × FieldType) := [(G.2.1, .int), (G.2.2.1, .char), (G.2.2.2, .object RX1)]
def kz_K (G : kz_G) (U : State) : Prop := va_K G.1 vwCl (kz_ty G) U ∧ kz_N U
theorem kz_K.warm {G : kz_G} {s U : State} (hW : s.WarmedH U.vm) (h : kz_K G s) : kz_K G U := ⟨va_K.moved hW.alike h.1, h.2.warm hW⟩
theorem kz_K.call {G : kz_G} {U : State} {g : JFrame} {mk : MethodId} {a : Array Value} (h : kz_K G U) : kz_K G (U.calling g mk a) := ⟨va_K.moved (u := U) (U := U.calling g mk a) (Vm.Alike.refl U.vm) h.1, h.2.same rfl⟩
-- worlds in blocks
abbrev kz_B : Type := List va_W
abbrev kz_P (G : kz_G) (bs : kz_B) (H : Heap) : Prop := va_P G.1 vwCl bs.flatten H
abbrev kz_D (A : Nat → Prop) (bs : kz_B) : Prop := va_D A bs.flatten
abbrev kz_A (bs : kz_B) (sz : Nat) : Nat → Prop := va_A bs.flatten sz
theorem kz_P_iff {G : va_G} {ws : va_W} {H : Heap} : va_P G vwCl ws H ↔ ∀ q, q ∈ ws → va_at G vwCl q H := by
  constructor
  · intro h q hq
    obtain ⟨k, hk⟩ := List.mem_iff_getElem?.mp hq
    exact h k q hk
  · intro h k q hk
    exact h q (List.mem_of_getElem? hk)
theorem kz_P_mem {G : kz_G} {bs : kz_B} {H : Heap} : kz_P G bs H ↔ ∀ b, b ∈ bs → va_P G.1 vwCl b H := by
  show va_P G.1 vwCl bs.flatten H ↔ _
  rw [kz_P_iff]
  constructor
  · intro h b hb
    rw [kz_P_iff]
    exact fun q hq => h q (List.mem_flatten.mpr ⟨b, hb, hq⟩)
  · intro h q hq
    obtain ⟨b, hb, hq⟩ := List.mem_flatten.mp hq
    exact kz_P_iff.mp (h b hb) q hq
theorem kz_map_mem {bs cs : kz_B} {is : List Nat} (hs : is.map (fun i => bs[i]?) = cs.map some) {b : va_W} (hb : b ∈ cs) : ∃ i, i ∈ is ∧ bs[i]? = some b := by
  have h1 : some b ∈ cs.map some := List.mem_map.mpr ⟨b, hb, rfl⟩
  rw [← hs] at h1
  obtain ⟨i, hi, e⟩ := List.mem_map.mp h1
  exact ⟨i, hi, e⟩
theorem kz_P.sub {G : kz_G} {bs cs : kz_B} {H : Heap} (h : kz_P G bs H) (is : List Nat) (hs : is.map (fun i => bs[i]?) = cs.map some) : kz_P G cs H := by
  rw [kz_P_mem] at h ⊢
  intro b hb
  obtain ⟨i, -, e⟩ := kz_map_mem hs hb
  exact h b (List.mem_of_getElem? e)
theorem kz_D_iff {A : Nat → Prop} {ws : va_W} : va_D A ws ↔ ws.Pairwise (fun p q => p.1 ≠ q.1) ∧ ∀ q, q ∈ ws → A q.1 := by
  constructor
  · intro h
    refine ⟨?_, fun q hq => ?_⟩
    · rw [List.pairwise_iff_getElem]
      intro i j hi hj hij e
      have := h.1 i j ws[i] ws[j] (List.getElem?_eq_getElem hi) (List.getElem?_eq_getElem hj) e
      omega
    · obtain ⟨k, hk⟩ := List.mem_iff_getElem?.mp hq
      exact h.2 k q hk
  · intro h
    refine ⟨fun i j p q hp hq e => ?_, fun k q hk => h.2 q (List.mem_of_getElem? hk)⟩
    have h1 := h.1
    rw [List.pairwise_iff_getElem] at h1
    obtain ⟨hi, ep⟩ := List.getElem?_eq_some_iff.mp hp
    obtain ⟨hj, eq⟩ := List.getElem?_eq_some_iff.mp hq
    subst ep; subst eq
    rcases Nat.lt_trichotomy i j with c | c | c
    · exact absurd e (h1 i j hi hj c)
    · exact c
    · exact absurd e.symm (h1 j i hj hi c)
theorem kz_D_mem {A : Nat → Prop} {bs : kz_B} : kz_D A bs ↔ (∀ b, b ∈ bs → va_D A b) ∧ ∀ (i j : Nat) (b d : va_W), bs[i]? = some b → bs[j]? = some d → i ≠ j → ∀ x, x ∈ b → ∀ y, y ∈ d → x.1 ≠ y.1 := by
  show va_D A bs.flatten ↔ _
  rw [kz_D_iff, List.pairwise_flatten]
  constructor
  · intro h
    refine ⟨fun b hb => kz_D_iff.mpr ⟨h.1.1 b hb, fun q hq => h.2 q (List.mem_flatten.mpr ⟨b, hb, hq⟩)⟩, ?_⟩
    intro i j b d hi hj hne x hx y hy
    have h1 := h.1.2
    rw [List.pairwise_iff_getElem] at h1
    obtain ⟨li, ei⟩ := List.getElem?_eq_some_iff.mp hi
    obtain ⟨lj, ej⟩ := List.getElem?_eq_some_iff.mp hj
    subst ei; subst ej
    rcases Nat.lt_trichotomy i j with c | c | c
    · exact h1 i j li lj c x hx y hy
    · exact absurd c hne
    · exact fun e => h1 j i lj li c y hy x hx e.symm
  · intro h
    refine ⟨⟨fun b hb => (kz_D_iff.mp (h.1 b hb)).1, ?_⟩, fun q hq => ?_⟩
    · rw [List.pairwise_iff_getElem]
      intro i j hi hj hij x hx y hy
      exact h.2 i j bs[i] bs[j] (List.getElem?_eq_getElem hi) (List.getElem?_eq_getElem hj) (Nat.ne_of_lt hij) x hx y hy
    · obtain ⟨b, hb, hq⟩ := List.mem_flatten.mp hq
      exact (kz_D_iff.mp (h.1 b hb)).2 q hq
theorem kz_sel {bs cs : kz_B} {is : List Nat} (hs : is.map (fun i => bs[i]?) = cs.map some) {k : Nat} {b : va_W} (hk : cs[k]? = some b) : ∃ i, is[k]? = some i ∧ bs[i]? = some b := by
  have h1 : (cs.map some)[k]? = some (some b) := by rw [List.getElem?_map, hk]; rfl
  rw [← hs, List.getElem?_map] at h1
  cases h2 : is[k]? with
  | none => rw [h2] at h1; cases h1
  | some i => rw [h2] at h1; exact ⟨i, rfl, Option.some.inj h1⟩
theorem kz_D.sub {A : Nat → Prop} {bs cs : kz_B} (h : kz_D A bs) (is : List Nat) (hn : va_nd is = true) (hs : is.map (fun i => bs[i]?) = cs.map some) : kz_D A cs := by
  rw [kz_D_mem] at h ⊢
  refine ⟨fun b hb => ?_, ?_⟩
  · obtain ⟨i, -, e⟩ := kz_map_mem hs hb
    exact h.1 b (List.mem_of_getElem? e)
  · intro i j b d hi hj hne
    obtain ⟨i', ei, hi'⟩ := kz_sel hs hi
    obtain ⟨j', ej, hj'⟩ := kz_sel hs hj
    refine h.2 i' j' b d hi' hj' (fun e => hne ?_)
    subst e
    exact va_nd_inj is hn i j i' ei ej
theorem kz_D.weaken {A B : Nat → Prop} {bs : kz_B} (h : kz_D A bs) (hAB : ∀ q, A q → B q) : kz_D B bs := va_D.weaken h (fun _ _ _ q => hAB _ q)
theorem kz_D.self {A : Nat → Prop} {bs : kz_B} {sz : Nat} (h : kz_D A bs) : kz_D (kz_A bs sz) bs := va_D.self h
theorem kz_A_iff {bs : kz_B} {sz q : Nat} : kz_A bs sz q ↔ (∃ b, b ∈ bs ∧ ∃ x, x ∈ b ∧ x.1 = q) ∨ sz ≤ q := by
  show va_A bs.flatten sz q ↔ _
  unfold va_A
  constructor
  · rintro (⟨k, e, hk⟩ | h)
    · obtain ⟨b, hb, hx⟩ := List.mem_flatten.mp (List.mem_of_getElem? hk)
      exact Or.inl ⟨b, hb, (q, e), hx, rfl⟩
    · exact Or.inr h
  · rintro (⟨b, hb, x, hx, rfl⟩ | h)
    · obtain ⟨k, hk⟩ := List.mem_iff_getElem?.mp (List.mem_flatten.mpr ⟨b, hb, hx⟩)
      exact Or.inl ⟨k, x.2, hk⟩
    · exact Or.inr h
theorem kz_free {A0 : Nat → Prop} {bs cs : kz_B} {H0 H : Heap} {locs : List Loc} (hD : kz_D A0 bs) (hS : va_S A0 H0 H locs) (hA : ∀ q, H0.size ≤ q → A0 q) (is : List Nat) (hC : is.map (fun i => bs[i]?) = cs.map some) : ∀ q, kz_A cs H.size q → A0 q := by
  intro q hq
  rcases kz_A_iff.mp hq with ⟨b, hb, x, hx, rfl⟩ | h
  · obtain ⟨i, -, e⟩ := kz_map_mem hC hb
    exact (kz_D_iff.mp ((kz_D_mem.mp hD).1 b (List.mem_of_getElem? e))).2 x hx
  · exact hA q (Nat.le_trans hS.1 h)
theorem kz_join {A0 : Nat → Prop} {G : kz_G} {bs wc wr w1 : kz_B} {H H1 : Heap} (hP : kz_P G bs H) (hD : kz_D A0 bs) (isC isR : List Nat) (hC : isC.map (fun i => bs[i]?) = wc.map some) (hR : isR.map (fun i => bs[i]?) = wr.map some) (hn : va_nd isR = true) (hdis : ∀ i ∈ isR, i ∉ isC)
    (hk : ∀ q : Nat, q < H.size → ¬ kz_A wc H.size q → H1[q]? = H[q]?) (hF : ∀ q, kz_A wc H.size q → A0 q) (hP1 : kz_P G w1 H1) (hD1 : kz_D (kz_A wc H.size) w1) : kz_P G (wr ++ w1) H1 ∧ kz_D A0 (wr ++ w1) := by
  have hPr := hP.sub isR hR
  have hDr := hD.sub isR hn hR
  have hlt : ∀ b, b ∈ wr → ∀ x, x ∈ b → x.1 < H.size := fun b hb x hx => (kz_P_iff.mp (kz_P_mem.mp hPr b hb) x hx).lt
  have hna : ∀ b, b ∈ wr → ∀ x, x ∈ b → ¬ kz_A wc H.size x.1 := by
    intro b hb x hx hq
    rcases kz_A_iff.mp hq with ⟨d, hd, y, hy, e⟩ | h
    · obtain ⟨i, hi, ei⟩ := kz_map_mem hR hb
      obtain ⟨j, hj, ej⟩ := kz_map_mem hC hd
      refine (kz_D_mem.mp hD).2 i j b d ei ej (fun e2 => ?_) x hx y hy e.symm
      subst e2
      exact hdis i hi hj
    · have := hlt b hb x hx
      omega
  constructor
  · rw [kz_P_mem]
    intro b hb
    rcases List.mem_append.mp hb with hb | hb
    · rw [kz_P_iff]
      intro x hx
      exact (kz_P_iff.mp (kz_P_mem.mp hPr b hb) x hx).kept (hk _ (hlt b hb x hx) (hna b hb x hx))
    · exact kz_P_mem.mp hP1 b hb
  · show va_D A0 (wr ++ w1).flatten
    have hDr : va_D A0 wr.flatten := hDr
    have hD1 : va_D (va_A wc.flatten H.size) w1.flatten := hD1
    rw [List.flatten_append]
    refine va_D.app hDr (va_D.weaken hD1 (fun _ _ _ q => hF _ q)) ?_
    intro i j p q hp hq e
    obtain ⟨b, hb, hx⟩ := List.mem_flatten.mp (List.mem_of_getElem? hp)
    refine hna b hb p hx ?_
    rw [e]
    exact hD1.2 j q hq
def kz_rem (x y : Int32) : Int32 := x - x / y * y
def kz_chr (x : Int32) : Int32 := (x.toUInt32 % 65536).toInt32
-- CONTRACTS: a read (nothing changes), a change with an int, a change without an answer
def kz_rd (l : Launch) (G : kz_G) (y : MethodName) (ws : List Cond) (f n : Nat) (av : List Value) (bs : kz_B) (r : Int32) : Prop :=
  Met l y ws { frames := f, cells := 0, slots := 0, locals := n } (va_Pc av (fun U => kz_P G bs U.heap ∧ kz_K G U)) (vp_Si (fun x => x = r)) 0 0 (fun _ => False)
def kz_mi (l : Launch) (G : kz_G) (y : MethodName) (ws : List Cond) (f n : Nat) (av : List Value) (bs bs' : kz_B) (r : Int32) : Prop :=
  ∀ sz : Nat, Met l y ws { frames := f, cells := 0, slots := 0, locals := n } (va_Pc av (fun U => U.heap.size = sz ∧ kz_P G bs U.heap ∧ kz_K G U ∧ kz_D (fun _ => True) bs)) (va_Qi (fun x (_ : Unit) => x = r) (fun _ t => kz_P G bs' t.heap ∧ kz_D (kz_A bs sz) bs') (kz_A bs sz)) 0 0 (kz_A bs sz)
def kz_mv (l : Launch) (G : kz_G) (y : MethodName) (ws : List Cond) (f n : Nat) (av : List Value) (bs bs' : kz_B) : Prop :=
  ∀ sz : Nat, Met l y ws { frames := f, cells := 0, slots := 0, locals := n } (va_Pc av (fun U => U.heap.size = sz ∧ kz_P G bs U.heap ∧ kz_K G U ∧ kz_D (fun _ => True) bs)) (va_Qv (fun (_ : Unit) => True) (fun _ t => kz_P G bs' t.heap ∧ kz_D (kz_A bs sz) bs') (kz_A bs sz)) 0 0 (kz_A bs sz)
-- contracts over the static rows (an extra premise E of the free addresses, the state and the heap)
section KZ
variable {p : Program} {l : Launch} {e : Env} {R : Room} {s : State} {m : MethodId} {args : Array Value} {below : List Frame} {meth : Method} {c : Code} {H : Heap} {locs : List Loc} {cells slots : Nat} {Q : State → Prop}
variable {cc : ByteArray} {pc : Nat} {ls : Array Slot} {rest st0 : List Value} {G : kz_G} {Ts wy : List Cond} {own C host : String} {y : MethodName} {bytes : ByteArray} {maxL nL index k f n : Nat} {ret : Option FieldType} {As : List Value} {b : Nat} {bs cs cs' : kz_B} {r : Int32} {A : Nat → Prop}
/-- what is left of a call's price -/
theorem kz_recv (hK : kz_K G s) (hP : kz_P G cs H) {ci q0 : Nat} {q : vw_C} {fs : List Value} (hc : vwCl[ci]? = some q) (he : cs.flatten[q0]? = some (b, .inr (ci, fs))) : ∃ cell : Cell, H[b]? = some cell ∧ cell.vm.isStatics = false ∧ s.vm.findClass q.1 = some cell.cls := va_recv (D := G.1) (cl := vwCl) (tys := kz_ty G) hK.1 hP hc he
theorem kz_preR {av : List Value} (hK : kz_K G s) (hP : kz_P G cs H) : PreS s H (va_Pc av (fun U => kz_P G cs U.heap ∧ kz_K G U)) av :=
  ⟨fun a U g mk q => ⟨q.1, q.2.1, q.2.2.call⟩, fun U hU hW => ⟨rfl, by rw [hU]; exact hP, hK.warm hW⟩⟩
theorem kz_preM {av : List Value} (hK : kz_K G s) (hP : kz_P G cs H) (hD : kz_D A cs) : PreS s H (va_Pc av (fun U => U.heap.size = H.size ∧ kz_P G cs U.heap ∧ kz_K G U ∧ kz_D (fun _ => True) cs)) av :=
  ⟨fun a U g mk q => ⟨q.1, q.2.1, q.2.2.1, q.2.2.2.1.call, q.2.2.2.2⟩, fun U hU hW => ⟨rfl, by rw [hU], by rw [hU]; exact hP, hK.warm hW, hD.weaken (fun _ _ => trivial)⟩⟩
/-- a run that returns an int and changes nothing -/
theorem kz_goR {post : Int32 → Prop} {a : Array Value} (hr : va_Run p l e R s m args below meth c H locs cells slots 0 0 (F0 m pc ls st0) rest (vp_Si post a) (fun _ => False)) (kk : ∀ x : Int32, post x → W p l e R s m args below meth c H locs cells slots Q (F0 m (pc + 3) ls (.int x :: rest))) : W p l e R s m args below meth c H locs cells slots Q (F0 m pc ls st0) := by
  intro T hT X
  obtain ⟨v, st₀, t, T', L, h0, X', hL, e1, -, ⟨x, hv, hp, hh⟩, st⟩ := hr T hT X
  cases hv
  obtain ⟨t2, a1, b1⟩ := kk x hp T' (by rw [e1, hh, h0]) (Stand.forget X' (fun q h => (hL q h).elim))
  exact ⟨t2, st t2 a1, b1⟩
abbrev kz_rm (f n : Nat) : Room := { frames := f, cells := 0, slots := 0, locals := n }
theorem kz_rdV (S : CallFix p m c cc nL s args Ts own) (hM : kz_rd l G y wy f n (.ref b :: As) cs r) (cw : CallW R s args own C index y bytes maxL ret wy (kz_rm f n) 0 0 k) (hK : kz_K G s) (hP : kz_P G cs H) (hrv : ∃ cell : Cell, H[b]? = some cell ∧ cell.vm.isStatics = false ∧ s.vm.findClass C = some cell.cls)
    (hn : As.length = k) (hsize : ls.size = nL) (hstack : st0 = As.reverse ++ .ref b :: rest) (hW : (rest.map fun v => v.category).sum ≤ 8) (hdg : decode cc pc = .ok (.invokevirtual index, 3)) (hf : cells ≤ R.cells ∧ slots ≤ R.slots)
    (kk : W p l e R s m args below meth c H locs cells slots Q (F0 m (pc + 3) ls (.int r :: rest))) : W p l e R s m args below meth c H locs cells slots Q (F0 m pc ls st0) :=
  kz_goR (va_runV (As := As) (rest := rest) (b := b) S hM cw ⟨(kz_preR (av := .ref b :: As) hK hP).1, hrv, (kz_preR (av := .ref b :: As) hK hP).2⟩ rfl hn hsize hstack (lv_room (pc := pc) (ls := ls) (m := m) (rest := rest) hW) hdg hf) (fun x hx => by subst hx; exact kk)
theorem kz_rdS (S : CallFix p m c cc nL s args Ts own) (hM : kz_rd l G y wy f n As cs r) (cw : CallB R s args own index y bytes maxL ret wy (kz_rm f n) 0 0 k ∧ (Cond.static y).before args s = true) (hK : kz_K G s) (hP : kz_P G cs H)
    (hn : As.length = k) (hsize : ls.size = nL) (hstack : st0 = As.reverse ++ rest) (hW : (rest.map fun v => v.category).sum ≤ 8) (hdg : decode cc pc = .ok (.invokestatic index, 3)) (hf : cells ≤ R.cells ∧ slots ≤ R.slots)
    (kk : W p l e R s m args below meth c H locs cells slots Q (F0 m (pc + 3) ls (.int r :: rest))) : W p l e R s m args below meth c H locs cells slots Q (F0 m pc ls st0) :=
  kz_goR (va_runS (As := As) (rest := rest) S hM cw (kz_preR hK hP) rfl hn hsize hstack (lv_room (pc := pc) (ls := ls) (m := m) (rest := rest) hW) hdg hf) (fun x hx => by subst hx; exact kk)
theorem kz_rdSN (S : CallFix p m c cc nL s args Ts own) (hM : kz_rd l G y wy f n As cs r) (cw : va_CN R s args own index y host bytes maxL ret wy (kz_rm f n) 0 0 k ∧ (Cond.static y).before args s = true ∧ True) (hK : kz_K G s) (hP : kz_P G cs H)
    (hn : As.length = k) (hsize : ls.size = nL) (hstack : st0 = As.reverse ++ rest) (hW : (rest.map fun v => v.category).sum ≤ 8) (hdg : decode cc pc = .ok (.invokestatic index, 3)) (hf : cells ≤ R.cells ∧ slots ≤ R.slots)
    (kk : W p l e R s m args below meth c H locs cells slots Q (F0 m (pc + 3) ls (.int r :: rest))) : W p l e R s m args below meth c H locs cells slots Q (F0 m pc ls st0) :=
  kz_goR (va_runSN (As := As) (rest := rest) S hM cw (kz_preR hK hP) rfl hn hsize hstack (lv_room (pc := pc) (ls := ls) (m := m) (rest := rest) hW) hdg hf) (fun x hx => by subst hx; exact kk)
/-- a change with an answer, by invokevirtual: isC the callee's blocks, isR the rest's, then all again in the order of isP -/
theorem kz_miV (S : CallFix p m c cc nL s args Ts own) (hM : kz_mi l G y wy f n (.ref b :: As) cs cs' r) (cw : CallW R s args own C index y bytes maxL ret wy (kz_rm f n) 0 0 k) (hK : kz_K G s) (hP : kz_P G bs H) (hD : kz_D A bs) (hS : va_S A s.heap H locs) (hA : ∀ q, s.heap.size ≤ q → A q) (isC isR isP : List Nat) {wr bs' : kz_B}
    (hC : isC.map (fun i => bs[i]?) = cs.map some) (hnC : va_nd isC = true) (hR : isR.map (fun i => bs[i]?) = wr.map some) (hnR : va_nd isR = true) (hdis : ∀ i ∈ isR, i ∉ isC) (hO : isP.map (fun i => (wr ++ cs')[i]?) = bs'.map some) (hnO : va_nd isP = true)
    (hrv : ∃ cell : Cell, H[b]? = some cell ∧ cell.vm.isStatics = false ∧ s.vm.findClass C = some cell.cls)
    (hn : As.length = k) (hsize : ls.size = nL) (hstack : st0 = As.reverse ++ .ref b :: rest) (hW : (rest.map fun v => v.category).sum ≤ 8) (hdg : decode cc pc = .ok (.invokevirtual index, 3)) (hf : cells ≤ R.cells ∧ slots ≤ R.slots)
    (kk : ∀ (H1 : Heap) (locs1 : List Loc), kz_P G bs' H1 → kz_D A bs' → va_S A s.heap H1 locs1 → W p l e R s m args below meth c H1 locs1 cells slots Q (F0 m (pc + 3) ls (.int r :: rest))) : W p l e R s m args below meth c H locs cells slots Q (F0 m pc ls st0) := by
  have hPc := hP.sub isC hC
  have hDc := hD.sub isC hnC hC
  have hF := kz_free hD hS hA isC hC
  refine va_calli (va_runV (As := As) (rest := rest) (b := b) S (hM H.size) cw ⟨(kz_preM (av := .ref b :: As) hK hPc hDc).1, hrv, (kz_preM (av := .ref b :: As) hK hPc hDc).2⟩ rfl hn hsize hstack (lv_room (pc := pc) (ls := ls) (m := m) (rest := rest) hW) hdg hf) hS (fun q _ h => hF q h) hF (fun x u t H1 locs1 ht hvm hw hB hz1 hk1 hS1 => ?_)
  subst hw
  obtain ⟨hP1, hD1⟩ := hB
  rw [ht] at hP1
  obtain ⟨hP2, hD2⟩ := kz_join hP hD isC isR hC hR hnR hdis hk1 hF hP1 hD1
  exact kk H1 locs1 (hP2.sub isP hO) (hD2.sub isP hnO hO) hS1
theorem kz_mvV (S : CallFix p m c cc nL s args Ts own) (hM : kz_mv l G y wy f n (.ref b :: As) cs cs') (cw : CallW R s args own C index y bytes maxL ret wy (kz_rm f n) 0 0 k) (hK : kz_K G s) (hP : kz_P G bs H) (hD : kz_D A bs) (hS : va_S A s.heap H locs) (hA : ∀ q, s.heap.size ≤ q → A q) (isC isR isP : List Nat) {wr bs' : kz_B}
    (hC : isC.map (fun i => bs[i]?) = cs.map some) (hnC : va_nd isC = true) (hR : isR.map (fun i => bs[i]?) = wr.map some) (hnR : va_nd isR = true) (hdis : ∀ i ∈ isR, i ∉ isC) (hO : isP.map (fun i => (wr ++ cs')[i]?) = bs'.map some) (hnO : va_nd isP = true)
    (hrv : ∃ cell : Cell, H[b]? = some cell ∧ cell.vm.isStatics = false ∧ s.vm.findClass C = some cell.cls)
    (hn : As.length = k) (hsize : ls.size = nL) (hstack : st0 = As.reverse ++ .ref b :: rest) (hW : (rest.map fun v => v.category).sum ≤ 8) (hdg : decode cc pc = .ok (.invokevirtual index, 3)) (hf : cells ≤ R.cells ∧ slots ≤ R.slots)
    (kk : ∀ (H1 : Heap) (locs1 : List Loc), kz_P G bs' H1 → kz_D A bs' → va_S A s.heap H1 locs1 → W p l e R s m args below meth c H1 locs1 cells slots Q (F0 m (pc + 3) ls rest)) : W p l e R s m args below meth c H locs cells slots Q (F0 m pc ls st0) := by
  have hPc := hP.sub isC hC
  have hDc := hD.sub isC hnC hC
  have hF := kz_free hD hS hA isC hC
  refine va_callv (va_runV (As := As) (rest := rest) (b := b) S (hM H.size) cw ⟨(kz_preM (av := .ref b :: As) hK hPc hDc).1, hrv, (kz_preM (av := .ref b :: As) hK hPc hDc).2⟩ rfl hn hsize hstack (lv_room (pc := pc) (ls := ls) (m := m) (rest := rest) hW) hdg hf) hS (fun q _ h => hF q h) hF (fun u t H1 locs1 ht hvm hw hB hz1 hk1 hS1 => ?_)
  obtain ⟨hP1, hD1⟩ := hB
  rw [ht] at hP1
  obtain ⟨hP2, hD2⟩ := kz_join hP hD isC isR hC hR hnR hdis hk1 hF hP1 hD1
  exact kk H1 locs1 (hP2.sub isP hO) (hD2.sub isP hnO hO) hS1
theorem kz_start {g : JFrame} (k : ∀ QQ : State → Prop, QQ = Q → W p l e R s m args below meth c H locs cells slots QQ g) : W p l e R s m args below meth c H locs cells slots Q g := k _ rfl
theorem kz_topR {x y : Int32} (k : W p l e R s m args below meth c H locs cells slots Q (F0 m pc ls (.int (kz_rem x y) :: rest))) : W p l e R s m args below meth c H locs cells slots Q (F0 m pc ls (.int (x - x / y * y) :: rest)) := k
theorem kz_tab (hexec : p.tables.exec = Jvm.exec) (hb : c.code = cc) {dflt lo hi : Int} {offs : Array Int} {len : Nat} {x : Int32} {tgt : Nat} (hdg : decode cc pc = .ok (.tableswitch dflt lo hi offs, len)) (h : ¬ x.toInt < lo → ¬ hi < x.toInt → offs[(x.toInt - lo).toNat]? = some dflt) (ht : (pc : Int) + dflt = (tgt : Int)) (kk : W p l e R s m args below meth c H locs cells slots Q (F0 m tgt ls rest)) : W p l e R s m args below meth c H locs cells slots Q (F0 m pc ls (.int x :: rest)) := by
  by_cases h1 : x.toInt < lo
  · exact lv_tableOut hexec hb hdg (Or.inl h1) ht kk
  · by_cases h2 : hi < x.toInt
    · exact lv_tableOut hexec hb hdg (Or.inr h2) ht kk
    · exact lv_tableIn hexec hb hdg h1 h2 (h h1 h2) ht kk
end KZ
theorem kz_cell {G : kz_G} {bs : kz_B} {H : Heap} (h : kz_P G bs H) (k : Nat) {q : Nat × va_E} (hk : bs.flatten[k]? = some q) : kz_P G [[q]] H := by
  intro i x hx
  cases i with
  | zero => cases hx; exact h k _ hk
  | succ i => cases hx
