-- the whole text, read on both sides
/-- from sign i on, the text is c commands; they stand in z10 from row m on -/
def kr_cl (T : kz_S) (n : Nat) (z : Nat → Int32) : Nat → Nat → Nat → Prop
  | 0, _, _ => False
  | c + 1, i, m => ∃ k, kr_gd T n i k (z (3 * m)) (z (3 * m + 1)) (z (3 * m + 2)) ∧ ((c = 0 ∧ i + k = n) ∨ (i + k < n ∧ kr_sg T n (i + k) = 59 ∧ kr_cl T n z c (i + k + 1) (m + 1)))
/-- where the reading ends: the same error as the class, or the commands -/
def kr_er (T : kz_S) (n : Nat) (q0 : Nat → Int32) (tm sp : Nat) (f : Int32) (r : X4_pq) : Prop := r.2.2.2 = f ∧ (r.2.2.2 = (-6) → ∃ c, r.2.1 = nI (tm + c) ∧ 3 * (tm + c) ≤ n + 1 ∧ kr_cl T n r.1 c sp tm) ∧ ∀ j, j < 3 * tm → r.1 j = q0 j
section KR
variable {T : kz_S} {z8 : Nat → Int32} {z9 : Int32} {n i : Nat}
theorem kr_ep (h : kr_tt T z8 z9 n) : ∀ (k : Nat) (q0 : Nat → Int32) (tm sp : Nat), k + tm = 100 → 3 * tm ≤ sp → sp ≤ n → kr_er T n q0 tm sp (X2_fe T 0 sp (n - sp)) (X4_ep z8 z9 k (q0, nI tm, nI sp, -6))
  | 0, q0, tm, sp, hk, hs, hn => absurd hk (by have := h.2.2.1; omega)
  | k + 1, q0, tm, sp, hk, hs, hn => by
    have hn8 := h.2.2.1
    have c1 := kr_cmdC h hn
    have c2 := kr_okC h hn
    rw [X4_ep]
    have p1 : (pq_rd z8 z9 (q0, nI tm, nI sp, -6)).2.1 = nI (tm + 1) := nI_1 tm
    have p2 : (pq_rd z8 z9 (q0, nI tm, nI sp, -6)).2.2.1 = (X4_rc z8 z9 (nI sp) (-6)).2.2.2.1 := rfl
    have p3 : (pq_rd z8 z9 (q0, nI tm, nI sp, -6)).2.2.2 = (X4_rc z8 z9 (nI sp) (-6)).2.2.2.2 := rfl
    have p0 : (pq_rd z8 z9 (q0, nI tm, nI sp, -6)).1 = upd (upd (upd q0 (3 * tm) (X4_rc z8 z9 (nI sp) (-6)).1) (3 * tm + 1) (X4_rc z8 z9 (nI sp) (-6)).2.1) (3 * tm + 2) (X4_rc z8 z9 (nI sp) (-6)).2.2.1 := by
      show X4_readCommand_c10 z8 z9 q0 (nI tm) (nI sp) (-6) = _
      rw [X4_readCommand_c10, nI_clamp (n := tm) (by omega)]
    generalize pq_rd z8 z9 (q0, nI tm, nI sp, -6) = P at p0 p1 p2 p3 ⊢
    obtain ⟨P0, P1, P2, P3⟩ := P
    have p0 : P0 = _ := p0
    have p1 : P1 = _ := p1
    have p2 : P2 = _ := p2
    have p3 : P3 = _ := p3
    generalize X4_rc z8 z9 (nI sp) (-6) = r at c1 c2 p0 p2 p3
    generalize X2_fe T 0 sp (n - sp) = f at c1 ⊢
    have fr : ∀ j, j < 3 * tm → P0 j = q0 j := fun j hj => by rw [p0, pk_un (by omega), pk_un (by omega), pk_un (by omega)]
    show kr_er T n q0 tm sp f (if P3 = (-6) then (if z9 ≤ P2 then (P0, P1, P2, P3) else (if (pq_sep z8 z9 (P0, P1, P2, P3)).2.2.2 = (-6) then X4_ep z8 z9 k (pq_sep z8 z9 (P0, P1, P2, P3)) else pq_sep z8 z9 (P0, P1, P2, P3))) else (P0, P1, P2, P3))
    rcases c1 with ⟨e, he, a, b⟩ | ⟨w, hw, hw2, a, b, d⟩
    · have hb : ¬ P3 = (-6) := by rw [p3, a]; exact kr_n6 (by omega)
      rw [if_neg hb]
      exact ⟨p3.trans (a.trans b.symm), fun q => absurd q hb, fr⟩
    · obtain ⟨w2, b2, g⟩ := c2 a
      have ew : w2 = w := by
        have := (nI_eq (a := sp + w) (b := sp + w2) (by omega) (by have := g.2.1; omega)).mp (b.symm.trans b2)
        omega
      subst ew
      have hb : P3 = (-6) := p3.trans a
      have hp2 : P2 = nI (sp + w2) := p2.trans b
      have g1 : P0 (3 * tm) = r.1 := by rw [p0, pk_un (by omega), pk_un (by omega), pk_us]
      have g2 : P0 (3 * tm + 1) = r.2.1 := by rw [p0, pk_un (by omega), pk_us]
      have g3 : P0 (3 * tm + 2) = r.2.2.1 := by rw [p0, pk_us]
      rw [← g1, ← g2, ← g3] at g
      rw [if_pos hb, d, kr_aft, hp2, h.2.1]
      by_cases l : n ≤ sp + w2
      · rw [if_pos (nI_le l (by omega)), if_pos l]
        exact ⟨hb, fun _ => ⟨1, p1, by omega, w2, g, Or.inl ⟨rfl, by omega⟩⟩, fr⟩
      · rw [if_neg (nI_ge (by omega) (by omega)), if_neg l]
        have hl : X4_letter_r z8 (nI n) (nI (sp + w2)) = kr_sg T n (sp + w2) := by
          have := kr_tl h (i := sp + w2) (by omega)
          rw [h.2.1] at this
          exact this
        by_cases s : kr_sg T n (sp + w2) = 59
        · have es : pq_sep z8 (nI n) (P0, P1, nI (sp + w2), P3) = (P0, nI (tm + 1), nI (sp + w2 + 1), -6) := by
            show (P0, P1, X4_wants_c12 (nI (sp + w2)) P3 (if X4_letter_r z8 (nI n) (nI (sp + w2)) = 59 then 1 else 0), X4_wants_c13 (nI (sp + w2)) P3 (if X4_letter_r z8 (nI n) (nI (sp + w2)) = 59 then 1 else 0)) = _
            rw [hl, if_pos s, hb, kr_wa, kr_wb, if_neg (by decide), p1]
          rw [es, if_pos rfl, if_pos s]
          have ih := kr_ep h k P0 (tm + 1) (sp + w2 + 1) (by omega) (by omega) (by omega)
          rw [h.2.1] at ih
          refine ⟨ih.1, fun q => ?_, fun j hj => (ih.2.2 j (by omega)).trans (fr j hj)⟩
          obtain ⟨c, i1, i2, i3⟩ := ih.2.1 q
          refine ⟨c + 1, i1.trans (congrArg nI (by omega)), by omega, w2, ?_, Or.inr ⟨by omega, s, i3⟩⟩
          rw [ih.2.2 (3 * tm) (by omega), ih.2.2 (3 * tm + 1) (by omega), ih.2.2 (3 * tm + 2) (by omega)]
          exact g
        · have es : pq_sep z8 (nI n) (P0, P1, nI (sp + w2), P3) = (P0, P1, nI (sp + w2 + 1), nI (sp + w2)) := by
            show (P0, P1, X4_wants_c12 (nI (sp + w2)) P3 (if X4_letter_r z8 (nI n) (nI (sp + w2)) = 59 then 1 else 0), X4_wants_c13 (nI (sp + w2)) P3 (if X4_letter_r z8 (nI n) (nI (sp + w2)) = 59 then 1 else 0)) = _
            rw [hl, if_neg s, hb, kr_wa, kr_wb, if_pos rfl]
          have hn6 : ¬ (nI (sp + w2) : Int32) = (-6) := kr_n6 (by omega)
          rw [es, if_neg hn6, if_neg s]
          exact ⟨rfl, fun q => absurd q hn6, fr⟩
end KR
/-- the first error -/
theorem kr_err {T : kz_S} {z8 : Nat → Int32} {z9 : Int32} (h : kz_tx T z8 z9) (z10 : Nat → Int32) : X2_firstError_r T = X4_errorPosition_r z8 z9 z10 := by
  obtain ⟨n, hn, t1, e9, a, b, c⟩ := h
  have ht : kr_tt T z8 z9 n := ⟨t1, e9, hn, c, a⟩
  have e := (kr_ep ht 100 z10 0 0 (by omega) (by omega) (by omega)).1
  rw [nI_0, Nat.sub_zero] at e
  rw [X2_firstError_r, t1, nI_clamp (by omega), X4_errorPosition_r, X4_eps]
  exact e.symm
