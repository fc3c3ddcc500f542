/-! THE CLAIM OUT OF ONE WALK OF THE LAW'S BODY. Your part is whole_start (and what it stands on); all else here is the same for every law, but numbers. -/
def R_law : String := "ParcelShelvesLaw"
def lw_P (b : Addr) (xs : List Int32) (args : Array Value) (s : State) : Prop := args = #[.ref b] ∧ s.IntsAt b xs ∧ xs.length ≤ 2048 ∧ (Jvm.Cond.and given_1 narrow_1).before args s = true
def lw_Q (_ : Array Value) (s : State) (o : Outcome) (t : State) : Prop := o = .returned (some (.int 1)) ∧ Framed s o t [] 600000 7302250
def lw_Z (below : List Frame) (a : Array Value) (s : State) : State → Prop := fun t => ∃ o, t.status = .running ∧ Ended t below o ∧ lw_Q a s o t
/-- the law's own end, with 1 on the stack, nothing written that was there before, its room as the claim has it -/
theorem lw_ret {p : Program} {l : Launch} {e : Env} {s : State} {m : MethodId} {below : List Frame} {meth : Method} {c : Code} {b : Nat} (hx : p.tables.exec = Jvm.exec) (hb : c.code = code) (hr : meth.sig.returnType = ret) (hlocks : meth.locks = false) {pc : Nat} {H : Heap} {ls : Array Slot} (hdg : decode code pc = .ok (.ireturn, 1)) : W p l e room_1 s m #[Value.ref b] below meth c H [] 600000 7302250 (lw_Z below #[Value.ref b] s) (F0 m pc ls [.int 1]) := by
  intro T hT X
  obtain ⟨fs, hret, hrun, hended, hW, hframe⟩ := X.leave (v := some (.int 1)) (hlocks := hlocks) (fun h => by rw [hr] at h; cases h)
  have hmeth' : T.vm.method? m = some meth := X.method'
  refine ⟨T.setFrames fs, ?_, .returned (some (.int 1)), hrun, hended, rfl, ⟨_, rfl⟩, hW, hframe⟩
  jvm_step X.here [X.here.top, hx, hb, hdg, hmeth', hr, ret, narrow_b1]
  (try refine ⟨rfl, ?_⟩); (try refine ⟨rfl, ?_⟩)
  first | (intro acts; rw [hret _ acts rfl rfl rfl]) | rw [hret _ _ rfl rfl rfl]
  exact Steps.refl _
/-- what holds at the law's entry: the machine, the code, the tables' words (any of lw_tbl by 'hts w (by decide +kernel)'), the script of L ints xs at the cell b, what the Statement gives of the start (any of its parts by flat_of_before) -/
def lw_At (p : Program) (s : State) (m : MethodId) (meth : Method) (c : Code) (b L : Nat) (xs : Nat → Int32) : Prop :=
  p.tables.exec = Jvm.exec ∧ c.code = code ∧ meth.sig.returnType = ret ∧ c.maxLocals = 4 ∧ s.vm.findClass R_law = some m.cls ∧ (∀ w ∈ lw_tbl, w.before #[Value.ref b] s = true) ∧ va_X b L xs s s.heap ∧ b < s.heap.size ∧ meth.locks = false ∧ (Jvm.Cond.and given_1 narrow_1).before #[Value.ref b] s = true
/-! THE LAW: its own frame, the world between its calls -/
abbrev kl_W (G : kz_G) (x : Nat) (a sv ah h : Nat → Nat) (b : Nat → Nat → Nat) (t o : Nat → Nat) (V S Sv Sa Y : kz_S) (R : Nat → kz_S) (T M : kz_S) : kz_B := [xoW x (a 0) (sv 0) (ah 0) (h 0) (t 0) V, shW G a S, shW G sv Sv, shW G ah Sa, hsW G h (fun j => b j 0) Y, shW G (b 0) (R 0), shW G (b 1) (R 1), shW G (b 2) (R 2), shW G (b 3) (R 3), shW G (b 4) (R 4), shW G (b 5) (R 5), txW G t T, mdW G o M]
/-- what holds of the machine, the code, the script, the classes, the static rows -/
def kl_C (p : Program) (s : State) (m : MethodId) (c : Code) (bb L : Nat) (xs : Nat → Int32) (G : kz_G) : Prop := p.tables.exec = Jvm.exec ∧ c.code = code ∧ c.maxLocals = 4 ∧ s.vm.findClass RL = some m.cls ∧ (∀ w ∈ wsL_law, w.before #[Value.ref bb] s = true) ∧ va_X bb L xs s s.heap ∧ bb < s.heap.size ∧ kz_K G s ∧ kz_Zs (fun q : Nat => s.heap.size ≤ q) s s.heap
/-- at pc, with this world, the law comes to its end -/
def kl_at (p : Program) (l : Launch) (e : Env) (s : State) (m : MethodId) (below : List Frame) (meth : Method) (c : Code) (bb : Nat) (G : kz_G) (x : Nat) (a sv ah h t o : Nat → Nat) (b : Nat → Nat → Nat) (i pc : Nat) (V S Sv Sa Y : kz_S) (R : Nat → kz_S) (T M : kz_S) : Prop :=
  ∀ (H : Heap) (locs : List Loc) (ls : Array Slot), kz_P G (kl_W G x a sv ah h b t o V S Sv Sa Y R T M) H → kz_D (fun q : Nat => s.heap.size ≤ q) (kl_W G x a sv ah h b t o V S Sv Sa Y R T M) → va_S (fun q : Nat => s.heap.size ≤ q) s.heap H locs → lv_has ls 4 [(0, .ref bb), (1, .ref x), (2, .ref (o 0)), (3, .int (nI i))] → W p l e room_1 s m #[Value.ref bb] below meth c H locs 111 10200 (lw_Z below #[Value.ref bb] s) (F0 m pc ls [])
/-- behind a call -/
def kl_K (p : Program) (l : Launch) (e : Env) (s : State) (m : MethodId) (below : List Frame) (meth : Method) (c : Code) (bb : Nat) (G : kz_G) (x : Nat) (a sv ah h t o : Nat → Nat) (b : Nat → Nat → Nat) (i : Nat) : Prop :=
  ∀ (V S Sv Sa Y : kz_S) (R : Nat → kz_S) (T M : kz_S), kl_I V S Sv Y R T M → kl_at p l e s m below meth c bb G x a sv ah h t o b i 861 V S Sv Sa Y R T M
theorem kl_in {i k L : Nat} (hk : k < 4) (hi : i + 4 ≤ L) (hL : L ≤ 2048) : vp_in (nI i + nI k) L := by
  rw [nI_add]
  exact vp_in_nI (by omega) (by omega)
