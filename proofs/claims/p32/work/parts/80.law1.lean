/-! THE CLAIM OUT OF ONE WALK OF THE LAW'S BODY. Your part is whole_start (and what it stands on); all else here is the same for every law, but numbers. -/
def R_law : String := "ParcelShelvesLaw"
def lw_P (b : Addr) (xs : List Int32) (args : Array Value) (s : State) : Prop := args = #[.ref b] ∧ s.IntsAt b xs ∧ xs.length ≤ 260 ∧ (Jvm.Cond.and given_1 narrow_1).before args s = true
def lw_Q (_ : Array Value) (s : State) (o : Outcome) (t : State) : Prop := o = .returned (some (.int 1)) ∧ Framed s o t [] 600000 7302250
def lw_Z (below : List Frame) (a : Array Value) (s : State) : State → Prop := fun t => ∃ o, t.status = .running ∧ Ended t below o ∧ lw_Q a s o t
/-- the law's own end, with 1 on the stack, nothing written that was there before, its room as the claim has it -/
theorem lw_ret {p : Program} {l : Launch} {e : Env} {s : State} {m : MethodId} {below : List Frame} {meth : Method} {c : Code} {b : Nat} (hx : p.tables.exec = Jvm.exec) (hb : c.code = code) (hr : meth.sig.returnType = ret) (hlocks : meth.locks = false) {pc : Nat} {H : Heap} {ls : Array Slot} (hdg : decode code pc = .ok (.ireturn, 1)) : W p l e room_1 s m #[Value.ref b] below meth c H [] 600000 7302250 (lw_Z below #[Value.ref b] s) (F0 m pc ls [.int 1]) := by
  intro T hT X
  obtain ⟨fs, hret, hrun, hended, hW, hframe⟩ := X.leave (v := some (.int 1)) (hlocks := hlocks) (fun h => by rw [hr] at h; cases h)
  have hmeth' : T.vm.method? m = some meth := X.method'
  refine ⟨T.setFrames fs, ?_, .returned (some (.int 1)), hrun, hended, rfl, ⟨_, rfl⟩, hW, hframe⟩
  jvm_step X.here [X.here.top, hx, hb, hdg, hmeth', hr, ret, narrow_b1]
  (try refine ⟨rfl, ?_⟩); (try refine ⟨rfl, ?_⟩)
  first | (intro acts; rw [hret _ acts rfl rfl rfl]) | rw [hret _ _ rfl rfl rfl]
  exact Steps.refl _
/-- what holds at the law's entry: the machine, the code, the tables' words (any of lw_tbl by 'hts w (by decide +kernel)'), the script of L ints xs at the cell b, what the Statement gives of the start (any of its parts by flat_of_before) -/
def lw_At (p : Program) (s : State) (m : MethodId) (meth : Method) (c : Code) (b L : Nat) (xs : Nat → Int32) : Prop :=
  p.tables.exec = Jvm.exec ∧ c.code = code ∧ meth.sig.returnType = ret ∧ c.maxLocals = 23 ∧ s.vm.findClass R_law = some m.cls ∧ (∀ w ∈ lw_tbl, w.before #[Value.ref b] s = true) ∧ va_X b L xs s s.heap ∧ b < s.heap.size ∧ meth.locks = false ∧ (Jvm.Cond.and given_1 narrow_1).before #[Value.ref b] s = true
/-! THE LAW: its own frame, the world between its calls -/
abbrev kl_W (G : kz_G) (x : Nat) (a sv ah h : Nat → Nat) (b : Nat → Nat → Nat) (t : Nat → Nat) (np nq nc nl nv ng nu nf nk nt : Nat) (V S Y : kz_S) (R : Nat → kz_S) (zp zq zc zl zv zg zu zf zk zt : Nat → Int32) : kz_B := [xoW x (a 0) (sv 0) (ah 0) (h 0) (t 0) V, shW G a S, shW G sv kz_S0, shW G ah kz_S0, hsW G h (fun j => b j 0) Y, shW G (b 0) (R 0), shW G (b 1) (R 1), shW G (b 2) (R 2), shW G (b 3) (R 3), shW G (b 4) (R 4), shW G (b 5) (R 5), txW G t kz_T0, [(np, .inl (G.2.1, 64, .inl zp))], [(nq, .inl (G.2.1, 64, .inl zq))], [(nc, .inl (G.2.1, 64, .inl zc))], [(nl, .inl (G.2.1, 64, .inl zl))], [(nv, .inl (G.2.1, 64, .inl zv))], [(ng, .inl (G.2.1, 10, .inl zg))], [(nu, .inl (G.2.1, 10, .inl zu))], [(nf, .inl (G.2.1, 10, .inl zf))], [(nk, .inl (G.2.1, 10, .inl zk))], [(nt, .inl (G.2.1, 10, .inl zt))]]
abbrev kl_A (s : State) : Nat → Prop := fun q : Nat => s.heap.size ≤ q
/-- what holds of the machine, the code, the script, the classes, the static rows -/
def kl_C (p : Program) (s : State) (m : MethodId) (c : Code) (bb L : Nat) (xs : Nat → Int32) (G : kz_G) : Prop := p.tables.exec = Jvm.exec ∧ c.code = code ∧ c.maxLocals = 23 ∧ s.vm.findClass RL = some m.cls ∧ (∀ w ∈ wsL_law, w.before #[Value.ref bb] s = true) ∧ (va_X bb L xs s s.heap ∧ L ≤ 260) ∧ bb < s.heap.size ∧ kz_K G s ∧ kz_Zs (kl_A s) s s.heap
/-- at pc, with these locals and this world, the law comes to its end -/
def kl_at (p : Program) (l : Launch) (e : Env) (s : State) (m : MethodId) (below : List Frame) (meth : Method) (c : Code) (bb : Nat) (G : kz_G) (x : Nat) (a sv ah h : Nat → Nat) (b : Nat → Nat → Nat) (t : Nat → Nat) (np nq nc nl nv ng nu nf nk nt : Nat) (pc : Nat) (lv : List (Nat × Value)) (V S Y : kz_S) (R : Nat → kz_S) (zp zq zc zl zv zg zu zf zk zt : Nat → Int32) : Prop :=
  ∀ (H : Heap) (locs : List Loc) (ls : Array Slot), kz_P G (kl_W G x a sv ah h b t np nq nc nl nv ng nu nf nk nt V S Y R zp zq zc zl zv zg zu zf zk zt) H → kz_D (kl_A s) (kl_W G x a sv ah h b t np nq nc nl nv ng nu nf nk nt V S Y R zp zq zc zl zv zg zu zf zk zt) → va_S (kl_A s) s.heap H locs → lv_has ls 23 lv → W p l e room_1 s m #[Value.ref bb] below meth c H locs 114 5752 (lw_Z below #[Value.ref bb] s) (F0 m pc ls [])
/-- behind a step -/
def kl_K (p : Program) (l : Launch) (e : Env) (s : State) (m : MethodId) (below : List Frame) (meth : Method) (c : Code) (bb : Nat) (G : kz_G) (x : Nat) (a sv ah h : Nat → Nat) (b : Nat → Nat → Nat) (t : Nat → Nat) (np nq nc nl nv ng nu nf nk nt : Nat) (i : Nat) : Prop :=
  ∀ (V S Y : kz_S) (R : Nat → kz_S) (zp zq zc zl zv zg zu zf zk zt : Nat → Int32) (why beh : Int32), ps_I (i + 1) V S Y zp zq zc zl zv zg zu zf zk zt why beh → kl_at p l e s m below meth c bb G x a sv ah h b t np nq nc nl nv ng nu nf nk nt 1172 [(17, .int 1), (0, .ref bb), (1, .ref x), (2, .ref np), (3, .ref nq), (4, .ref nc), (5, .ref nl), (6, .ref nv), (7, .ref ng), (8, .ref nu), (9, .ref nf), (10, .ref nk), (11, .ref nt), (12, .int why), (13, .int beh), (14, .int (nI i))] V S Y R zp zq zc zl zv zg zu zf zk zt
theorem ps_pos0 {n : Nat} (h : ¬ nI n ≤ 0) : 0 < n := Nat.pos_of_ne_zero fun q => h (by rw [q]; decide)
theorem ps_v0 {k y : Nat} (e : k = 0) (h : y < 21) : X3_isWithin_p (nI y) (kz_low k) (kz_high k) := by
  subst e; exact (ps_wi (k := 20) (by omega) (by omega) : X3_isWithin_p (nI y) 0 (nI 20))
theorem ps_v1 {k y : Nat} (e : k = 1) (h : y < 10) : X3_isWithin_p (nI y) (kz_low k) (kz_high k) := by
  subst e; exact (ps_wi (k := 9) (by omega) (by omega) : X3_isWithin_p (nI y) 0 (nI 9))
theorem ps_v2 {k y : Nat} (e : k = 2) (h : y < 51) : X3_isWithin_p (nI y) (kz_low k) (kz_high k) := by
  subst e; exact (ps_wi (k := 50) (by omega) (by omega) : X3_isWithin_p (nI y) 0 (nI 50))
theorem ps_v3 {k y : Nat} (e : k = 3) (h : y < 20) : X3_isWithin_p (nI (y + 1)) (kz_low k) (kz_high k) := by
  subst e; exact (⟨nI_nlt (a := y + 1) (b := 1) (by omega) (by omega), nI_nlt (a := 20) (b := y + 1) (by omega) (by omega)⟩ : X3_isWithin_p (nI (y + 1)) (nI 1) (nI 20))
theorem ps_v4 {k y : Nat} (e : k = 4) (h : y < 9) : X3_isWithin_p (nI (y + 1)) (kz_low k) (kz_high k) := by
  subst e; exact (⟨nI_nlt (a := y + 1) (b := 1) (by omega) (by omega), nI_nlt (a := 9) (b := y + 1) (by omega) (by omega)⟩ : X3_isWithin_p (nI (y + 1)) (nI 1) (nI 9))
