/-- if nothing is wrong yet, n characters have been read since s -/
def kz_pr (n s : Nat) (a b : Int32) : Prop := b = (-6) → a = nI (s + n)
theorem kz_prW {n s : Nat} {a b d : Int32} (h : kz_pr n s a b) (hs : s + n ≤ 1000) : kz_pr (n + 1) s (X4_wants_c12 a b d) (X4_wants_c13 a b d) := by
  intro e
  rw [X4_wants_c13] at e
  by_cases c : b = (-6)
  · rw [X4_wants_c12, if_pos c, h c]
    split <;> exact nI_1 _
  · rw [if_neg c] at e
    exact absurd e c
theorem kz_prF {z8 : Nat → Int32} {z9 : Int32} {n s : Nat} {a b lo hi : Int32} (h : kz_pr n s a b) (hs : s + n ≤ 1000) : kz_pr (n + 1) s (X4_figure_c12 z8 z9 a b lo hi) (X4_figure_c13 z8 z9 a b lo hi) := by
  rw [X4_figure_c12, X4_figure_c13]
  exact kz_prW h hs
theorem kz_prZ {z8 : Nat → Int32} {z9 : Int32} {n s : Nat} {a b : Int32} (h : kz_pr n s a b) (hs : s + n ≤ 1000) : kz_pr (n + 1) s (X4_size_c12 z8 z9 a b) (X4_size_c13 z8 z9 a b) := by
  rw [X4_size_c12, X4_size_c13]
  by_cases c1 : X4_letter_r z8 z9 a = 115
  · rw [if_pos c1, if_pos c1]; exact kz_prW h hs
  · rw [if_neg c1, if_neg c1]
    by_cases c2 : X4_letter_r z8 z9 a = 109
    · rw [if_pos c2, if_pos c2]; exact kz_prW h hs
    · rw [if_neg c2, if_neg c2]
      by_cases c3 : X4_letter_r z8 z9 a = 108
      · rw [if_pos c3, if_pos c3]; exact kz_prW h hs
      · rw [if_neg c3, if_neg c3]; exact kz_prW h hs
theorem kz_prD {z8 : Nat → Int32} {z9 : Int32} {n s : Nat} {a b : Int32} (h : kz_pr n s a b) (hs : s + n ≤ 1000) (e : X4_days_c13 z8 z9 a b = (-6)) : X4_days_c12 z8 z9 a b = nI (s + (n + 1)) ∨ X4_days_c12 z8 z9 a b = nI (s + (n + 2)) := by
  have hf := kz_prF (z8 := z8) (z9 := z9) (lo := 1) (hi := 9) h hs
  rw [X4_days_c13] at e
  rw [X4_days_c12]
  by_cases c1 : X4_figure_c13 z8 z9 a b 1 9 = (-6)
  · rw [if_pos c1]
    split
    · split
      · exact Or.inl (hf c1)
      · exact Or.inr (by rw [hf c1]; exact nI_1 _)
    · exact Or.inl (hf c1)
  · rw [if_neg c1] at e
    exact absurd e c1
theorem kz_rc2 {z8 : Nat → Int32} {z9 z12 z13 : Int32} {s : Nat} (h : z12 = nI s) (hs : s ≤ 900) (e : (X4_rc z8 z9 z12 z13).2.2.2.2 = (-6)) : ∃ k, 2 ≤ k ∧ k ≤ 7 ∧ (X4_rc z8 z9 z12 z13).2.2.2.1 = nI (s + k) := by
  have h0 : kz_pr 0 s z12 z13 := fun _ => h
  have h1 : kz_pr 1 s (rc_w z12 z13 (rc_b (X4_letter_r z8 z9 z12))).1 (rc_w z12 z13 (rc_b (X4_letter_r z8 z9 z12))).2 := kz_prW h0 (by omega)
  rw [X4_rc] at e ⊢
  generalize rc_w z12 z13 (rc_b (X4_letter_r z8 z9 z12)) = q at h1 e ⊢
  generalize X4_letter_r z8 z9 z12 = c at e ⊢
  rw [rc_k] at e ⊢
  by_cases c1 : c = 97
  · rw [if_pos c1] at e ⊢
    exact ⟨3, by omega, by omega, kz_prZ (kz_prF h1 (by omega)) (by omega) e⟩
  · rw [if_neg c1] at e ⊢
    by_cases c2 : c = 100
    · rw [if_pos c2] at e ⊢
      rcases kz_prD h1 (by omega) e with e2 | e2
      · exact ⟨2, by omega, by omega, e2⟩
      · exact ⟨3, by omega, by omega, e2⟩
    · rw [if_neg c2] at e ⊢
      have hf : ∀ (n : Nat) (u : Int32 × Int32 × Int32), n ≤ 50 → kz_pr n s u.2.1 u.2.2 → kz_pr (n + 1) s (rc_f z8 z9 u).2.1 (rc_f z8 z9 u).2.2 := fun n u hn hu => kz_prF hu (by omega)
      have h5 : kz_pr 5 s (rc_4 z8 z9 q).2.1 (rc_4 z8 z9 q).2.2 := hf 4 _ (by omega) (hf 3 _ (by omega) (hf 2 _ (by omega) (hf 1 (0, q) (by omega) h1)))
      generalize rc_4 z8 z9 q = u at h5 e ⊢
      rw [rc_t] at e ⊢
      by_cases c3 : c = 109
      · rw [if_pos c3] at e ⊢
        have h6 : kz_pr 6 s (rc_w u.2.1 u.2.2 (if X4_letter_r z8 z9 u.2.1 = 62 then 1 else 0)).1 (rc_w u.2.1 u.2.2 (if X4_letter_r z8 z9 u.2.1 = 62 then 1 else 0)).2 := kz_prW h5 (by omega)
        generalize rc_w u.2.1 u.2.2 (if X4_letter_r z8 z9 u.2.1 = 62 then 1 else 0) = q3 at h6 e ⊢
        rw [rc_m] at e ⊢
        exact ⟨7, by omega, by omega, kz_prF h6 (by omega) e⟩
      · rw [if_neg c3] at e ⊢
        exact ⟨5, by omega, by omega, h5 e⟩
abbrev X4_pq : Type := (Nat → Int32) × Int32 × Int32 × Int32
def pq_rd (z8 : Nat → Int32) (z9 : Int32) (q : X4_pq) : X4_pq := (X4_readCommand_c10 z8 z9 q.1 q.2.1 q.2.2.1 q.2.2.2, X4_readCommand_c11 z8 z9 q.1 q.2.1 q.2.2.1 q.2.2.2, X4_readCommand_c12 z8 z9 q.1 q.2.1 q.2.2.1 q.2.2.2, X4_readCommand_c13 z8 z9 q.1 q.2.1 q.2.2.1 q.2.2.2)
def pq_sep (z8 : Nat → Int32) (z9 : Int32) (q : X4_pq) : X4_pq := (q.1, q.2.1, X4_wants_c12 q.2.2.1 q.2.2.2 (if X4_letter_r z8 z9 q.2.2.1 = 59 then 1 else 0), X4_wants_c13 q.2.2.1 q.2.2.2 (if X4_letter_r z8 z9 q.2.2.1 = 59 then 1 else 0))
/-- the commands are read, one after the other -/
def X4_ep (z8 : Nat → Int32) (z9 : Int32) : Nat → X4_pq → X4_pq
  | 0, q => q
  | n + 1, q => if (pq_rd z8 z9 q).2.2.2 = (-6) then (if z9 ≤ (pq_rd z8 z9 q).2.2.1 then pq_rd z8 z9 q else (if (pq_sep z8 z9 (pq_rd z8 z9 q)).2.2.2 = (-6) then X4_ep z8 z9 n (pq_sep z8 z9 (pq_rd z8 z9 q)) else pq_sep z8 z9 (pq_rd z8 z9 q))) else pq_rd z8 z9 q
def X4_eps (z8 : Nat → Int32) (z9 : Int32) (z10 : Nat → Int32) : X4_pq := X4_ep z8 z9 100 (z10, 0, 0, (-6))
def X4_errorPosition_r (z8 : Nat → Int32) (z9 : Int32) (z10 : Nat → Int32) : Int32 := (X4_eps z8 z9 z10).2.2.2
def X4_errorPosition_c10 (z8 : Nat → Int32) (z9 : Int32) (z10 : Nat → Int32) : Nat → Int32 := (X4_eps z8 z9 z10).1
def X4_errorPosition_c11 (z8 : Nat → Int32) (z9 : Int32) (z10 : Nat → Int32) : Int32 := (X4_eps z8 z9 z10).2.1
def X4_errorPosition_c12 (z8 : Nat → Int32) (z9 : Int32) (z10 : Nat → Int32) : Int32 := (X4_eps z8 z9 z10).2.2.1
def X4_errorPosition_c13 (z8 : Nat → Int32) (z9 : Int32) (z10 : Nat → Int32) : Int32 := (X4_eps z8 z9 z10).2.2.2
/-- where the reading of commands stands: the next one, from where on -/
def kz_at (z8 : Nat → Int32) (z9 : Int32) (k : Nat) (q : X4_pq) : Prop := ∃ tm sp, k + tm = 100 ∧ 3 * tm ≤ sp ∧ sp ≤ 80 ∧ q.2.1 = nI tm ∧ q.2.2.1 = nI sp ∧ q.2.2.2 = (-6)
theorem kz_at_next {z8 : Nat → Int32} {z9 : Int32} {k : Nat} {q : X4_pq} (h : kz_at z8 z9 (k + 1) q) (hz9 : ∃ t, t ≤ 80 ∧ z9 = nI t) (h1 : (pq_rd z8 z9 q).2.2.2 = (-6)) (h2 : ¬ z9 ≤ (pq_rd z8 z9 q).2.2.1) (h3 : (pq_sep z8 z9 (pq_rd z8 z9 q)).2.2.2 = (-6)) : kz_at z8 z9 k (pq_sep z8 z9 (pq_rd z8 z9 q)) := by
  obtain ⟨tm, sp, e1, e2, e3, e4, e5, e6⟩ := h
  obtain ⟨t, ht, et⟩ := hz9
  obtain ⟨n, n2, n7, en⟩ := kz_rc2 (z8 := z8) (z9 := z9) (z13 := q.2.2.2) e5 (by omega) h1
  have h4 : (pq_rd z8 z9 q).2.2.1 = nI (sp + n) := en
  rw [h4, et] at h2
  have h5 := kz_gt h2 (by omega) (by omega)
  refine ⟨tm + 1, sp + n + 1, by omega, by omega, by omega, ?_, ?_, h3⟩
  · show q.2.1 + 1 = _
    rw [e4]; exact nI_1 _
  · exact kz_prW (n := 0) (s := sp + n) (a := (pq_rd z8 z9 q).2.2.1) (b := (pq_rd z8 z9 q).2.2.2) (fun _ => h4) (by omega) h3
theorem kz_at_S {z8 : Nat → Int32} {z9 : Int32} {k : Nat} {q : X4_pq} (h : kz_at z8 z9 k q) : ∃ s, s ≤ 900 ∧ q.2.2.1 = nI s := by
  obtain ⟨tm, sp, e1, e2, e3, e4, e5, e6⟩ := h
  exact ⟨sp, by omega, e5⟩
theorem kz_at_T {z8 : Nat → Int32} {z9 : Int32} {k : Nat} {q : X4_pq} (h : kz_at z8 z9 k q) : ∃ s, s ≤ 27 ∧ q.2.1 = nI s := by
  obtain ⟨tm, sp, e1, e2, e3, e4, e5, e6⟩ := h
  exact ⟨tm, by omega, e4⟩
theorem kz_at_L {z8 : Nat → Int32} {z9 : Int32} {k : Nat} {q : X4_pq} (h : kz_at z8 z9 k q) (h1 : (pq_rd z8 z9 q).2.2.2 = (-6)) : ∃ s, s ≤ 1000 ∧ (pq_rd z8 z9 q).2.2.1 = nI s := by
  obtain ⟨tm, sp, e1, e2, e3, e4, e5, e6⟩ := h
  obtain ⟨n, n2, n7, en⟩ := kz_rc2 (z8 := z8) (z9 := z9) (z13 := q.2.2.2) e5 (by omega) h1
  exact ⟨sp + n, by omega, en⟩
theorem kz_at_k {z8 : Nat → Int32} {z9 : Int32} {k : Nat} {q : X4_pq} (h : kz_at z8 z9 k q) : ∃ j, k = j + 1 := by
  obtain ⟨tm, sp, e1, e2, e3, e4, e5, e6⟩ := h
  exact ⟨k - 1, by omega⟩
