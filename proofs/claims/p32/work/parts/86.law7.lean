/-- a word of the tables, by its place -/
theorem kl_tb {s : State} {bb : Nat} (hts : ∀ w ∈ lw_tbl, w.before #[Value.ref bb] s = true) (i : Nat) {w : Cond} (h : tables_1[i]? = some w) : w.before #[Value.ref bb] s = true := hts w (show w ∈ k2_sels lw_privs ++ tables_1 from List.mem_append_right _ (List.mem_of_getElem? h))
/-- a static row, read whole -/
theorem kl_X {args : Array Value} {s : State} {tm : Term} {N : Nat} {f : Nat → Int32} (hN : N < 2 ^ 31) (harr : (Cond.arrayOf tm .int).before args s = true) (hlen : (Term.length tm).eval args s none [] s = some (.int (Int32.ofNat N))) (hel : ∀ j : Nat, j < N → (Term.elem tm (.int (Int32.ofNat j))).eval args s none [] s = some (.int (f j))) : ∃ t : Nat, tm.eval args s none [] s = some (.ref t) ∧ va_X t N f s s.heap ∧ t < s.heap.size := by
  obtain ⟨t, cell, ht, hat, hv⟩ := Term.length_spec hlen
  have hsz : cell.slots.size < 2 ^ 31 := by
    have h9 := hlen
    simp only [Term.eval, ht, hat, Option.bind_eq_bind, Option.bind_some] at h9
    by_cases hlt : cell.slots.size < 2147483648
    · exact hlt
    · simp [hlt] at h9
  obtain ⟨hcell, hkn, -, -⟩ := State.arrayAt?_spec hat
  obtain ⟨hof, -⟩ := Cond.arrayOf_spec harr ht hcell
  have hs : cell.slots.size = N := by
    have e2 := congrArg Int32.toNatClampNeg (Value.int.inj hv)
    rw [Int32.toNatClampNeg_ofNat_of_lt hN, show cell.slots.size.toInt32.toNatClampNeg = cell.slots.size from Int32.toNatClampNeg_ofNat_of_lt hsz] at e2
    exact e2.symm
  obtain ⟨t', ht', hT⟩ := va_Tof (A := fun _ => False) (f := fun j => .int (f j)) hN harr hlen hel (fun _ _ q => q)
  cases ht.symm.trans ht'
  obtain ⟨cell2, g1, -, -, -, -, g6, -⟩ := hT
  cases hcell.symm.trans g1
  exact ⟨t, ht, ⟨cell, hcell, hof, hkn, hs, g6⟩, (Array.getElem?_eq_some_iff.mp hcell).1⟩
section KL
variable {s : State} {bb : Nat}
theorem kl_el_LOWEST (hgv : (Jvm.Cond.and given_1 narrow_1).before #[Value.ref bb] s = true) : (Cond.arrayOf (.static RX3 "LOWEST" "[I") .int).before #[Value.ref bb] s = true ∧ (Term.length (.static RX3 "LOWEST" "[I")).eval #[Value.ref bb] s none [] s = some (.int (Int32.ofNat 5)) ∧ ∀ j : Nat, j < 5 → (Term.elem (.static RX3 "LOWEST" "[I") (.int (Int32.ofNat j))).eval #[Value.ref bb] s none [] s = some (.int (kz_low j)) := by
  have hs := flat_of_before _ hgv
  refine ⟨hs _ (by decide +kernel), va_eqt (hs (Cond.eq (.length (.static RX3 "LOWEST" "[I")) (.int 5)) (by decide +kernel)), fun j hj => ?_⟩
  rcases (show j = 0 ∨ j = 1 ∨ j = 2 ∨ j = 3 ∨ j = 4 by omega) with rfl | rfl | rfl | rfl | rfl
  · exact va_eqt (hs (Cond.eq (.elem (.static RX3 "LOWEST" "[I") (.int 0)) (.int 0)) (by decide +kernel))
  · exact va_eqt (hs (Cond.eq (.elem (.static RX3 "LOWEST" "[I") (.int 1)) (.int 0)) (by decide +kernel))
  · exact va_eqt (hs (Cond.eq (.elem (.static RX3 "LOWEST" "[I") (.int 2)) (.int 0)) (by decide +kernel))
  · exact va_eqt (hs (Cond.eq (.elem (.static RX3 "LOWEST" "[I") (.int 3)) (.int 1)) (by decide +kernel))
  · exact va_eqt (hs (Cond.eq (.elem (.static RX3 "LOWEST" "[I") (.int 4)) (.int 1)) (by decide +kernel))
theorem kl_el_HIGHEST (hgv : (Jvm.Cond.and given_1 narrow_1).before #[Value.ref bb] s = true) : (Cond.arrayOf (.static RX3 "HIGHEST" "[I") .int).before #[Value.ref bb] s = true ∧ (Term.length (.static RX3 "HIGHEST" "[I")).eval #[Value.ref bb] s none [] s = some (.int (Int32.ofNat 5)) ∧ ∀ j : Nat, j < 5 → (Term.elem (.static RX3 "HIGHEST" "[I") (.int (Int32.ofNat j))).eval #[Value.ref bb] s none [] s = some (.int (kz_high j)) := by
  have hs := flat_of_before _ hgv
  refine ⟨hs _ (by decide +kernel), va_eqt (hs (Cond.eq (.length (.static RX3 "HIGHEST" "[I")) (.int 5)) (by decide +kernel)), fun j hj => ?_⟩
  rcases (show j = 0 ∨ j = 1 ∨ j = 2 ∨ j = 3 ∨ j = 4 by omega) with rfl | rfl | rfl | rfl | rfl
  · exact va_eqt (hs (Cond.eq (.elem (.static RX3 "HIGHEST" "[I") (.int 0)) (.int 20)) (by decide +kernel))
  · exact va_eqt (hs (Cond.eq (.elem (.static RX3 "HIGHEST" "[I") (.int 1)) (.int 9)) (by decide +kernel))
  · exact va_eqt (hs (Cond.eq (.elem (.static RX3 "HIGHEST" "[I") (.int 2)) (.int 50)) (by decide +kernel))
  · exact va_eqt (hs (Cond.eq (.elem (.static RX3 "HIGHEST" "[I") (.int 3)) (.int 20)) (by decide +kernel))
  · exact va_eqt (hs (Cond.eq (.elem (.static RX3 "HIGHEST" "[I") (.int 4)) (.int 9)) (by decide +kernel))
theorem kl_el_AT_BEGINNING (hgv : (Jvm.Cond.and given_1 narrow_1).before #[Value.ref bb] s = true) : (Cond.arrayOf (.static RX3 "AT_BEGINNING" "[I") .int).before #[Value.ref bb] s = true ∧ (Term.length (.static RX3 "AT_BEGINNING" "[I")).eval #[Value.ref bb] s none [] s = some (.int (Int32.ofNat 5)) ∧ ∀ j : Nat, j < 5 → (Term.elem (.static RX3 "AT_BEGINNING" "[I") (.int (Int32.ofNat j))).eval #[Value.ref bb] s none [] s = some (.int (kz_beg j)) := by
  have hs := flat_of_before _ hgv
  refine ⟨hs _ (by decide +kernel), va_eqt (hs (Cond.eq (.length (.static RX3 "AT_BEGINNING" "[I")) (.int 5)) (by decide +kernel)), fun j hj => ?_⟩
  rcases (show j = 0 ∨ j = 1 ∨ j = 2 ∨ j = 3 ∨ j = 4 by omega) with rfl | rfl | rfl | rfl | rfl
  · exact va_eqt (hs (Cond.eq (.elem (.static RX3 "AT_BEGINNING" "[I") (.int 0)) (.int 5)) (by decide +kernel))
  · exact va_eqt (hs (Cond.eq (.elem (.static RX3 "AT_BEGINNING" "[I") (.int 1)) (.int 2)) (by decide +kernel))
  · exact va_eqt (hs (Cond.eq (.elem (.static RX3 "AT_BEGINNING" "[I") (.int 2)) (.int 10)) (by decide +kernel))
  · exact va_eqt (hs (Cond.eq (.elem (.static RX3 "AT_BEGINNING" "[I") (.int 3)) (.int 7)) (by decide +kernel))
  · exact va_eqt (hs (Cond.eq (.elem (.static RX3 "AT_BEGINNING" "[I") (.int 4)) (.int 2)) (by decide +kernel))
theorem kl_Zs (hts : ∀ w ∈ lw_tbl, w.before #[Value.ref bb] s = true) (hgv : (Jvm.Cond.and given_1 narrow_1).before #[Value.ref bb] s = true) : kz_Zs (fun q : Nat => s.heap.size ≤ q) s s.heap := by
  have hn : ∀ a : Nat, a < s.heap.size → ¬ (fun q : Nat => s.heap.size ≤ q) a := fun a ha => Nat.not_le.mpr ha
  have hini : (Cond.initialized RX3).before #[Value.ref bb] s = true := kl_tb hts 1 (by decide +kernel)
  refine ⟨?_, ?_, ?_⟩
  · obtain ⟨h1, h2, h3⟩ := kl_el_LOWEST hgv
    obtain ⟨t, ht, hT⟩ := va_Tof (A := fun q : Nat => s.heap.size ≤ q) (f := fun j => .int (kz_low j)) (by omega) h1 h2 h3 hn
    exact ⟨t, va_Zref (kl_tb hts 164 (by decide +kernel)) hini ht hn, hT⟩
  · obtain ⟨h1, h2, h3⟩ := kl_el_HIGHEST hgv
    obtain ⟨t, ht, hT⟩ := va_Tof (A := fun q : Nat => s.heap.size ≤ q) (f := fun j => .int (kz_high j)) (by omega) h1 h2 h3 hn
    exact ⟨t, va_Zref (kl_tb hts 166 (by decide +kernel)) hini ht hn, hT⟩
  · obtain ⟨h1, h2, h3⟩ := kl_el_AT_BEGINNING hgv
    obtain ⟨t, ht, hX, hlt⟩ := kl_X (by omega) h1 h2 h3
    exact ⟨t, va_Zref (kl_tb hts 23 (by decide +kernel)) hini ht hn, hX, hn t hlt⟩
/-- the classes, and the rows' classes -/
theorem kl_Kn (hts : ∀ w ∈ lw_tbl, w.before #[Value.ref bb] s = true) : ∃ G : kz_G, kz_K G s := by
  obtain ⟨c0, i0, k0⟩ := u_known (C := RX0) (T := TX0) (N := 3) (n := 3) hts lx_wsX00 (kl_tb hts 88 (by decide +kernel))
  obtain ⟨c1, i1, k1⟩ := u_known (C := RX1) (T := TX1) (N := 14) (n := 14) hts lx_wsX10 (kl_tb hts 17 (by decide +kernel))
  obtain ⟨c2, i2, k2⟩ := u_known (C := RX2) (T := TX2) (N := 2) (n := 2) hts lx_wsX20 (kl_tb hts 107 (by decide +kernel))
  obtain ⟨c3, i3, k3⟩ := u_known (C := RX3) (T := TX3) (N := 8) (n := 8) hts lx_wsX30 (kl_tb hts 9 (by decide +kernel))
  obtain ⟨cI, kI, pI, a1, a2, a3⟩ := Cond.arrayClass_spec (type := .int) (kl_tb hts 86 (w := .arrayClass .int) (by decide +kernel))
  obtain ⟨cC, kC, pC, b1, b2, b3⟩ := Cond.arrayClass_spec (type := .char) (kl_tb hts 118 (w := .arrayClass .char) (by decide +kernel))
  obtain ⟨cp, cS, kS, d1, d2, d3, d4, d5⟩ := Cond.arrayOver_spec (n := RX1) (kl_tb hts 94 (w := .arrayOver (.object RX1)) (by decide +kernel))
  refine ⟨((fun k => if k = 0 then c0 else if k = 1 then c1 else if k = 2 then c2 else c3, fun k => if k = 0 then i0 else if k = 1 then i1 else if k = 2 then i2 else i3), cI, cC, cS), ⟨?_, ?_⟩, ?_⟩
  · intro k q hq
    match k, hq with
    | 0, hq => cases hq; exact k0
    | 1, hq => cases hq; exact k1
    | 2, hq => cases hq; exact k2
    | 3, hq => cases hq; exact k3
    | k + 4, hq => cases hq
  · intro k q hq
    match k, hq with
    | 0, hq => cases hq; exact ⟨fun n z => ⟨fun k h => (by cases h), kI, a2, pI, a3⟩, a1⟩
    | 1, hq => cases hq; exact ⟨fun n z => ⟨fun k h => (by cases h), kC, b2, pC, b3⟩, b1⟩
    | 2, hq => cases hq; exact ⟨fun n z => ⟨fun k h => (by cases h), kS, d3, cp, d4⟩, kS, cp, d3, d4, d1, d5⟩
    | k + 3, hq => cases hq
  · exact ⟨va_Nw.of rfl (kl_tb hts 205 (by decide +kernel)), va_Nw.of rfl (kl_tb hts 208 (by decide +kernel)), va_Nw.of rfl (kl_tb hts 235 (by decide +kernel)), va_Nw.of rfl (kl_tb hts 257 (by decide +kernel)), va_Nw.of rfl (kl_tb hts 108 (by decide +kernel)), va_Nw.of rfl (kl_tb hts 22 (by decide +kernel))⟩
end KL
