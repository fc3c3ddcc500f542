-- what the numbers of a command are on both sides
section KR
variable {T : kz_S} {z8 : Nat → Int32} {z9 : Int32} {n i : Nat}
theorem kr_asc (x y : Int32) : x + y - 48 = x + (y - 48) := by rw [Int32.sub_eq_add_neg, Int32.sub_eq_add_neg, Int32.add_assoc]
theorem kr_cmdC (h : kr_tt T z8 z9 n) (hi : i ≤ n) : (∃ e, e ≤ n ∧ (X4_rc z8 z9 (nI i) (-6)).2.2.2.2 = nI e ∧ X2_fe T 0 i (n - i) = nI e) ∨ ∃ k, 2 ≤ k ∧ i + k ≤ n ∧ (X4_rc z8 z9 (nI i) (-6)).2.2.2.2 = (-6) ∧ (X4_rc z8 z9 (nI i) (-6)).2.2.2.1 = nI (i + k) ∧ X2_fe T 0 i (n - i) = kr_aft T n (i + k) := by
  rcases (kr_le (kr_ts h (i := i))).2 with c | c | c | c | c | c
  · exact Or.inl ⟨i, hi, kr_cmdN h hi c⟩
  · exact kr_cmdA h c
  · exact kr_cmdD h c
  · exact kr_cmdM h c
  · exact kr_cmdP h (Or.inl c)
  · exact kr_cmdP h (Or.inr c)
theorem kr_dg0 {x : Int32} (h : X2_isDigit_p x) : ¬ x = 59 := fun e => by rw [e] at h; exact absurd h (by decide)
theorem kr_num1 (h : kr_tt T z8 z9 n) {j : Nat} (hj : j < n) : X2_numberAt_r T j 1 = kr_sg T n j - 48 := by
  rw [X2_numberAt_r, X2_num, X2_num, kr_sgC h.1 h.2.2.1 hj, Int32.mul_zero, Int32.zero_add]
theorem kr_num2 (h : kr_tt T z8 z9 n) {j : Nat} (hj : j + 1 < n) : X2_numberAt_r T j 2 = 10 * (kr_sg T n j - 48) + (kr_sg T n (j + 1) - 48) := by
  rw [X2_numberAt_r, X2_num, X2_num, X2_num, kr_sgC h.1 h.2.2.1 hj, kr_sgC h.1 h.2.2.1 (show j < n by omega), Int32.mul_zero, Int32.zero_add, kr_asc]
theorem kr_num4 (h : kr_tt T z8 z9 n) {j : Nat} (hj : j + 3 < n) : X2_numberAt_r T j 4 = kr_num T n j := by
  rw [X2_numberAt_r, X2_num, X2_num, X2_num, X2_num, X2_num, kr_sgC h.1 h.2.2.1 (show j < n by omega), kr_sgC h.1 h.2.2.1 (show j + 1 < n by omega), kr_sgC h.1 h.2.2.1 (show j + 1 + 1 < n by omega), kr_sgC h.1 h.2.2.1 (show j + 1 + 1 + 1 < n by omega), kr_asc, kr_asc, kr_asc, kr_asc]
  rfl
/-- a command of k signs, and what the reference tells of it -/
def kr_gd (T : kz_S) (n i k : Nat) (u1 u2 u3 : Int32) : Prop := 2 ≤ k ∧ i + k ≤ n ∧ (∀ j, i ≤ j → j < i + k → ¬ kr_sg T n j = 59) ∧ u1 = kr_sg T n i ∧
  ((kr_sg T n i = 97 ∧ u2 = X2_numberAt_r T (i + 1) 1 ∧ u3 = X2_sizeAt_r T (nI i + 2)) ∨ (kr_sg T n i = 100 ∧ u2 = X2_numberAt_r T (i + 1) (k - 1)) ∨ (kr_sg T n i = 109 ∧ u2 = X2_numberAt_r T (i + 1) 4 ∧ u3 = X2_numberAt_r T (i + 2 + 4) 1) ∨ ((kr_sg T n i = 112 ∨ kr_sg T n i = 120) ∧ u2 = X2_numberAt_r T (i + 1) 4))
/-- what the reference tells of a command that is right -/
def kr_ok4 (T : kz_S) (n i : Nat) (r : Int32 × Int32 × Int32 × Int32 × Int32) : Prop := r.2.2.2.2 = (-6) → ∃ k, r.2.2.2.1 = nI (i + k) ∧ kr_gd T n i k r.1 r.2.1 r.2.2.1
theorem kr_szE {x : Int32} (h : x = 115 ∨ x = 109 ∨ x = 108) : (if x = 115 then (0 : Int32) else if x = 109 then 1 else if x = 108 then 2 else 2) = X2_sizeOf_r x ∧ ¬ x = 59 := by
  rcases h with rfl | rfl | rfl <;> decide
theorem kr_okA (h : kr_tt T z8 z9 n) (hc : kr_sg T n i = 97) : kr_ok4 T n i (X4_rc z8 z9 (nI i) (-6)) := by
  have hi : i < n := kr_in hc (by decide)
  have hn := h.2.2.1
  have e : X4_rc z8 z9 (nI i) (-6) = rc_a z8 z9 97 (X4_figure_r z8 z9 (nI (i + 1)) (-6) 0 9) (rc_g z8 z9 0 9 (nI (i + 1), -6)) := by
    rw [X4_rc, kr_tl h (by omega), hc, rc_w, kr_wa, kr_wb, show rc_b 97 = 1 by decide, if_neg (by decide), rc_k, if_pos rfl]
  intro e0
  rw [e] at e0 ⊢
  rw [rc_a, rc_g, kr_fa, X4_figure_r, kr_tl h (by omega)] at e0 ⊢
  have e0 : X4_size_c13 z8 z9 (nI (i + 2)) (X4_figure_c13 z8 z9 (nI (i + 1)) (-6) 0 9) = (-6) := e0
  by_cases c : X2_isDigit_p (kr_sg T n (i + 1))
  · have hi1 := kr_inD c
    rw [kr_fb1 h (by omega) ((kr_dg (kr_ts h)).mpr c)] at e0 ⊢
    rw [kr_sb h (by omega)] at e0
    by_cases d : X2_sizeOf_r (kr_sg T n (i + 2)) < 0
    · rw [if_pos d] at e0
      exact absurd e0 (kr_n6 (by omega))
    · have d' := Decidable.not_not.mp (fun q => d ((kr_sz (kr_ts h (i := i + 2))).mpr q))
      have hi2 : i + 2 < n := d'.elim (fun q => kr_in q (by decide)) (fun q => q.elim (fun q => kr_in q (by decide)) (fun q => kr_in q (by decide)))
      have hz := kr_szE d'
      refine ⟨3, kr_sa, by omega, by omega, fun j h1 h2 => ?_, hc.symm, Or.inl ⟨hc, (kr_num1 h hi1).symm, ?_⟩⟩
      · rcases (show j = i ∨ j = i + 1 ∨ j = i + 2 by omega) with rfl | rfl | rfl
        · rw [hc]; decide
        · exact kr_dg0 c
        · exact hz.2
      · show X4_size_r z8 z9 (nI (i + 2)) (-6) = _
        rw [X4_size_r, kr_tl h (by omega), hz.1, X2_sizeAt_r, show nI i + 2 = nI (i + 2) from nI_add i 2, kr_sgC h.1 hn hi2]
  · rw [kr_fb0 h (by omega) (fun q => c ((kr_dg (kr_ts h)).mp q)), kr_so (kr_n6 (by omega))] at e0
    exact absurd e0 (kr_n6 (by omega))
theorem kr_okD (h : kr_tt T z8 z9 n) (hc : kr_sg T n i = 100) : kr_ok4 T n i (X4_rc z8 z9 (nI i) (-6)) := by
  have hi : i < n := kr_in hc (by decide)
  have hn := h.2.2.1
  have e : X4_rc z8 z9 (nI i) (-6) = (100, X4_days_r z8 z9 (nI (i + 1)) (-6), 0, X4_days_c12 z8 z9 (nI (i + 1)) (-6), X4_days_c13 z8 z9 (nI (i + 1)) (-6)) := by
    rw [X4_rc, kr_tl h (by omega), hc, rc_w, kr_wa, kr_wb, show rc_b 100 = 1 by decide, if_neg (by decide), rc_k, if_neg (by decide), if_pos rfl]
  intro e0
  rw [e] at e0 ⊢
  have e0 : X4_days_c13 z8 z9 (nI (i + 1)) (-6) = (-6) := e0
  have hf : X4_figure_r z8 z9 (nI (i + 1)) (-6) 1 9 = kr_sg T n (i + 1) - 48 := by rw [X4_figure_r, kr_tl h (by omega)]
  rw [X4_days_c13, ite_self, ite_self, ite_self] at e0
  have hd := kr_dg1 (kr_ts h (i := i + 1))
  by_cases c : X4_in_p (kr_sg T n (i + 1) - 48) 1 9
  · have hp := hd.1.mp c
    have hi1 : i + 1 < n := by
      by_cases q : i + 1 < n
      · exact q
      · exact absurd (show X2_phaseAfterFirstDigit_r (kr_sg T n (i + 1)) = (-1) by rw [kr_sg, if_neg q]; decide) hp
    have c59 : ¬ kr_sg T n (i + 1) = 59 := fun q => by rw [q] at c; exact absurd c (by decide)
    have er : X4_days_r z8 z9 (nI (i + 1)) (-6) = if X4_in_p (kr_sg T n (i + 2) - 48) 0 9 then (if 30 < 10 * (kr_sg T n (i + 1) - 48) + (kr_sg T n (i + 2) - 48) then kr_sg T n (i + 1) - 48 else 10 * (kr_sg T n (i + 1) - 48) + (kr_sg T n (i + 2) - 48)) else kr_sg T n (i + 1) - 48 := by
      rw [X4_days_r, e0, if_pos rfl, kr_fa, kr_tl h (by omega), hf]
    have es : X4_days_c12 z8 z9 (nI (i + 1)) (-6) = if X4_in_p (kr_sg T n (i + 2) - 48) 0 9 then (if 30 < 10 * (kr_sg T n (i + 1) - 48) + (kr_sg T n (i + 2) - 48) then nI (i + 2) else nI (i + 3)) else nI (i + 2) := by
      rw [X4_days_c12, e0, if_pos rfl, kr_fa, kr_tl h (by omega), hf, nI_1]
    rw [er, es]
    by_cases t1 : X4_in_p (kr_sg T n (i + 2) - 48) 0 9
    · by_cases t2 : 30 < 10 * (kr_sg T n (i + 1) - 48) + (kr_sg T n (i + 2) - 48)
      · rw [if_pos t1, if_pos t2, if_pos t1, if_pos t2]
        refine ⟨2, rfl, by omega, by omega, fun j h1 h2 => ?_, hc.symm, Or.inr (Or.inl ⟨hc, (kr_num1 h hi1).symm⟩)⟩
        rcases (show j = i ∨ j = i + 1 by omega) with rfl | rfl
        · rw [hc]; decide
        · exact c59
      · rw [if_pos t1, if_neg t2, if_pos t1, if_neg t2]
        have d := (kr_dg (kr_ts h)).mp t1
        have hi2 := kr_inD d
        refine ⟨3, rfl, by omega, by omega, fun j h1 h2 => ?_, hc.symm, Or.inr (Or.inl ⟨hc, (kr_num2 h (show i + 1 + 1 < n by omega)).symm⟩)⟩
        rcases (show j = i ∨ j = i + 1 ∨ j = i + 2 by omega) with rfl | rfl | rfl
        · rw [hc]; decide
        · exact c59
        · exact kr_dg0 d
    · rw [if_neg t1, if_neg t1]
      refine ⟨2, rfl, by omega, by omega, fun j h1 h2 => ?_, hc.symm, Or.inr (Or.inl ⟨hc, (kr_num1 h hi1).symm⟩)⟩
      rcases (show j = i ∨ j = i + 1 by omega) with rfl | rfl
      · rw [hc]; decide
      · exact c59
  · rw [kr_fb0 h (by omega) c] at e0
    exact absurd e0 (kr_n6 (by omega))
/-- a code of four figures, or wrong -/
theorem kr_r4k (h : kr_tt T z8 z9 n) {j : Nat} (hj : j ≤ n) : (∃ e, e ≤ n ∧ (rc_4 z8 z9 (nI j, -6)).2.2 = nI e) ∨ (j + 4 ≤ n ∧ rc_4 z8 z9 (nI j, -6) = (X2_numberAt_r T j 4, nI (j + 4), -6) ∧ ∀ k, j ≤ k → k < j + 4 → ¬ kr_sg T n k = 59) := by
  have hn := h.2.2.1
  rw [rc_4]
  by_cases c0 : X2_isDigit_p (kr_sg T n j)
  · have l0 := kr_inD c0
    rw [kr_f1 h (by omega) 0 c0]
    by_cases c1 : X2_isDigit_p (kr_sg T n (j + 1))
    · have l1 := kr_inD c1
      rw [kr_f1 h (by omega) _ c1]
      by_cases c2 : X2_isDigit_p (kr_sg T n (j + 2))
      · have l2 := kr_inD c2
        rw [kr_f1 h (by omega) _ c2]
        by_cases c3 : X2_isDigit_p (kr_sg T n (j + 3))
        · have l3 := kr_inD c3
          rw [kr_f1 h (by omega) _ c3]
          refine Or.inr ⟨by omega, by rw [kr_num4 h (by omega)]; rfl, fun k h1 h2 => ?_⟩
          rcases (show k = j ∨ k = j + 1 ∨ k = j + 2 ∨ k = j + 3 by omega) with rfl | rfl | rfl | rfl
          · exact kr_dg0 c0
          · exact kr_dg0 c1
          · exact kr_dg0 c2
          · exact kr_dg0 c3
        · exact Or.inl ⟨j + 3, by omega, kr_f0 h (by omega) _ c3⟩
      · exact Or.inl ⟨j + 2, by omega, kr_ff2 (kr_n6 (by omega)) _ (kr_f0 h (by omega) _ c2)⟩
    · exact Or.inl ⟨j + 1, by omega, kr_ff2 (kr_n6 (by omega)) _ (kr_ff2 (kr_n6 (by omega)) _ (kr_f0 h (by omega) _ c1))⟩
  · exact Or.inl ⟨j, by omega, kr_ff2 (kr_n6 (by omega)) _ (kr_ff2 (kr_n6 (by omega)) _ (kr_ff2 (kr_n6 (by omega)) _ (kr_f0 h (by omega) _ c0)))⟩
theorem kr_okP (h : kr_tt T z8 z9 n) (hc : kr_sg T n i = 112 ∨ kr_sg T n i = 120) : kr_ok4 T n i (X4_rc z8 z9 (nI i) (-6)) := by
  have hn := h.2.2.1
  have hi : i < n := hc.elim (fun e => kr_in e (by decide)) (fun e => kr_in e (by decide))
  have hm : ¬ kr_sg T n i = 109 := fun e => by rw [e] at hc; exact absurd hc (by decide)
  have h59 : ¬ kr_sg T n i = 59 := fun e => by rw [e] at hc; exact absurd hc (by decide)
  have er := kr_rcC h hi (hc.elim Or.inl (fun e => Or.inr (Or.inl e)))
  rw [rc_t, if_neg hm] at er
  have e13 : (X4_rc z8 z9 (nI i) (-6)).2.2.2.2 = (rc_4 z8 z9 (nI (i + 1), -6)).2.2 := by rw [er]
  have e12 : (X4_rc z8 z9 (nI i) (-6)).2.2.2.1 = (rc_4 z8 z9 (nI (i + 1), -6)).2.1 := by rw [er]
  have e1 : (X4_rc z8 z9 (nI i) (-6)).1 = kr_sg T n i := by rw [er]
  have e2 : (X4_rc z8 z9 (nI i) (-6)).2.1 = (rc_4 z8 z9 (nI (i + 1), -6)).1 := by rw [er]
  clear er
  generalize X4_rc z8 z9 (nI i) (-6) = r at e13 e12 e1 e2 ⊢
  intro e0
  rw [e13] at e0
  rcases kr_r4k h (j := i + 1) (by omega) with ⟨e, he, a⟩ | ⟨he, a, b⟩
  · rw [a] at e0
    exact absurd e0 (kr_n6 (by omega))
  · rw [a] at e12 e2
    refine ⟨5, e12, by omega, by omega, fun j h1 h2 => ?_, e1, Or.inr (Or.inr (Or.inr ⟨hc, e2⟩))⟩
    by_cases q : j = i
    · rw [q]; exact h59
    · exact b j (by omega) (by omega)
theorem kr_okM (h : kr_tt T z8 z9 n) (hc : kr_sg T n i = 109) : kr_ok4 T n i (X4_rc z8 z9 (nI i) (-6)) := by
  have hn := h.2.2.1
  have hi : i < n := kr_in hc (by decide)
  have er := kr_rcC h hi (Or.inr (Or.inr hc))
  rw [rc_t, if_pos hc, rc_m, rc_w] at er
  have e13 : (X4_rc z8 z9 (nI i) (-6)).2.2.2.2 = X4_figure_c13 z8 z9 (X4_wants_c12 (rc_4 z8 z9 (nI (i + 1), -6)).2.1 (rc_4 z8 z9 (nI (i + 1), -6)).2.2 (if X4_letter_r z8 z9 (rc_4 z8 z9 (nI (i + 1), -6)).2.1 = 62 then 1 else 0)) (X4_wants_c13 (rc_4 z8 z9 (nI (i + 1), -6)).2.1 (rc_4 z8 z9 (nI (i + 1), -6)).2.2 (if X4_letter_r z8 z9 (rc_4 z8 z9 (nI (i + 1), -6)).2.1 = 62 then 1 else 0)) 0 5 := by rw [er]
  have e12 : (X4_rc z8 z9 (nI i) (-6)).2.2.2.1 = X4_figure_c12 z8 z9 (X4_wants_c12 (rc_4 z8 z9 (nI (i + 1), -6)).2.1 (rc_4 z8 z9 (nI (i + 1), -6)).2.2 (if X4_letter_r z8 z9 (rc_4 z8 z9 (nI (i + 1), -6)).2.1 = 62 then 1 else 0)) (X4_wants_c13 (rc_4 z8 z9 (nI (i + 1), -6)).2.1 (rc_4 z8 z9 (nI (i + 1), -6)).2.2 (if X4_letter_r z8 z9 (rc_4 z8 z9 (nI (i + 1), -6)).2.1 = 62 then 1 else 0)) 0 5 := by rw [er]
  have e3 : (X4_rc z8 z9 (nI i) (-6)).2.2.1 = X4_figure_r z8 z9 (X4_wants_c12 (rc_4 z8 z9 (nI (i + 1), -6)).2.1 (rc_4 z8 z9 (nI (i + 1), -6)).2.2 (if X4_letter_r z8 z9 (rc_4 z8 z9 (nI (i + 1), -6)).2.1 = 62 then 1 else 0)) (X4_wants_c13 (rc_4 z8 z9 (nI (i + 1), -6)).2.1 (rc_4 z8 z9 (nI (i + 1), -6)).2.2 (if X4_letter_r z8 z9 (rc_4 z8 z9 (nI (i + 1), -6)).2.1 = 62 then 1 else 0)) 0 5 := by rw [er]
  have e1 : (X4_rc z8 z9 (nI i) (-6)).1 = kr_sg T n i := by rw [er]
  have e2 : (X4_rc z8 z9 (nI i) (-6)).2.1 = (rc_4 z8 z9 (nI (i + 1), -6)).1 := by rw [er]
  clear er
  generalize X4_rc z8 z9 (nI i) (-6) = r at e13 e12 e3 e1 e2 ⊢
  intro e0
  rw [e13] at e0
  clear e13
  rcases kr_r4k h (j := i + 1) (by omega) with ⟨e, he, a⟩ | ⟨he, a, b⟩
  · have hb : ¬ nI e = (-6) := kr_n6 (by omega)
    rw [a, kr_wo hb, kr_fo hb] at e0
    exact absurd e0 hb
  · rw [a] at e0 e12 e2 e3
    have e5 : i + 1 + 4 = i + 5 := by omega
    rw [e5] at e0 e12 e3
    rw [show ((X2_numberAt_r T (i + 1) 4, nI (i + 5), (-6 : Int32)) : Int32 × Int32 × Int32).2.1 = nI (i + 5) from rfl, show ((X2_numberAt_r T (i + 1) 4, nI (i + 5), (-6 : Int32)) : Int32 × Int32 × Int32).2.2 = -6 from rfl, kr_wa, kr_wb, kr_tl h (by omega)] at e0 e12 e3
    by_cases c : kr_sg T n (i + 5) = 62
    · have l5 := kr_in c (by decide)
      rw [if_pos c, if_neg (by decide : ¬ (1 : Int32) = 0)] at e0 e12 e3
      rw [kr_fa] at e12
      rw [X4_figure_r, kr_tl h (by omega)] at e3
      by_cases d : X3_isWithin_p (kr_sg T n (i + 5 + 1)) 48 53
      · have l6 : i + 5 + 1 < n := by
          by_cases q : i + 5 + 1 < n
          · exact q
          · exact absurd d (by rw [kr_sg, if_neg q]; decide)
        have d59 : ¬ kr_sg T n (i + 5 + 1) = 59 := fun q => by rw [q] at d; exact absurd d (by decide)
        refine ⟨7, e12, by omega, by omega, fun j h1 h2 => ?_, e1, Or.inr (Or.inr (Or.inl ⟨hc, e2, ?_⟩))⟩
        · by_cases q : j = i
          · rw [q, hc]; decide
          · by_cases q2 : j < i + 1 + 4
            · exact b j (by omega) q2
            · rcases (show j = i + 5 ∨ j = i + 5 + 1 by omega) with rfl | rfl
              · rw [c]; decide
              · exact d59
        · rw [e3, kr_num1 h (show i + 2 + 4 < n by omega)]
      · rw [kr_fb0 h (by omega) (fun q => d ((kr_dg5 (kr_ts h)).mp q))] at e0
        exact absurd e0 (kr_n6 (by omega))
    · rw [if_neg c, if_pos (rfl : (0 : Int32) = 0), kr_fo (kr_n6 (by omega))] at e0
      exact absurd e0 (kr_n6 (by omega))
theorem kr_okC (h : kr_tt T z8 z9 n) (hi : i ≤ n) : kr_ok4 T n i (X4_rc z8 z9 (nI i) (-6)) := by
  rcases (kr_le (kr_ts h (i := i))).2 with c | c | c | c | c | c
  · intro e0
    rw [(kr_cmdN h hi c).1] at e0
    exact absurd e0 (kr_n6 (by have := h.2.2.1; omega))
  · exact kr_okA h c
  · exact kr_okD h c
  · exact kr_okM h c
  · exact kr_okP h (Or.inl c)
  · exact kr_okP h (Or.inr c)
end KR
