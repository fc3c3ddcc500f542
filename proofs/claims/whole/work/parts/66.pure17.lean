-- the reference's reading, sign by sign
theorem kr_wa (i : Nat) (d : Int32) : X4_wants_c12 (nI i) (-6) d = nI (i + 1) := by rw [X4_wants_c12, if_pos rfl, ite_self, nI_1]
theorem kr_wb (i : Nat) (d : Int32) : X4_wants_c13 (nI i) (-6) d = if d = 0 then nI i else (-6) := by rw [X4_wants_c13, if_pos rfl]
theorem kr_wo {b : Int32} (hb : ¬ b = (-6)) (a d : Int32) : X4_wants_c13 a b d = b := by rw [X4_wants_c13, if_neg hb]
section KR
variable {T : kz_S} {z8 : Nat → Int32} {z9 : Int32} {n i : Nat}
/-- both sides read the same text -/
def kr_tt (T : kz_S) (z8 : Nat → Int32) (z9 : Int32) (n : Nat) : Prop := T 1 0 = nI n ∧ z9 = nI n ∧ n ≤ 80 ∧ (∀ k, k < n → T 0 k = z8 k) ∧ ∀ k, k < 80 → ∃ c, c < 128 ∧ T 0 k = nI c
theorem kr_tl (h : kr_tt T z8 z9 n) (hi : i ≤ 1000) : X4_letter_r z8 z9 (nI i) = kr_sg T n i := kr_sgR h.2.1 h.2.2.1 h.2.2.2.1 (by omega)
theorem kr_ts (h : kr_tt T z8 z9 n) : kr_sn (kr_sg T n i) := kr_sgN h.2.2.1 h.2.2.2.2
theorem kr_fa (lo hi : Int32) : X4_figure_c12 z8 z9 (nI i) (-6) lo hi = nI (i + 1) := by rw [X4_figure_c12, kr_wa]
theorem kr_fb0 (h : kr_tt T z8 z9 n) (hi9 : i ≤ 1000) {lo hi : Int32} (c : ¬ X4_in_p (kr_sg T n i - 48) lo hi) : X4_figure_c13 z8 z9 (nI i) (-6) lo hi = nI i := by
  rw [X4_figure_c13, kr_tl h hi9, if_neg c, kr_wb, if_pos rfl]
theorem kr_fb1 (h : kr_tt T z8 z9 n) (hi9 : i ≤ 1000) {lo hi : Int32} (c : X4_in_p (kr_sg T n i - 48) lo hi) : X4_figure_c13 z8 z9 (nI i) (-6) lo hi = (-6) := by
  rw [X4_figure_c13, kr_tl h hi9, if_pos c, kr_wb, if_neg (by decide)]
theorem kr_fo {b : Int32} (hb : ¬ b = (-6)) (a lo hi : Int32) : X4_figure_c13 z8 z9 a b lo hi = b := by rw [X4_figure_c13, kr_wo hb]
theorem kr_sa : X4_size_c12 z8 z9 (nI i) (-6) = nI (i + 1) := by rw [X4_size_c12, kr_wa, kr_wa, ite_self, ite_self, ite_self]
theorem kr_sb (h : kr_tt T z8 z9 n) (hi9 : i ≤ 1000) : X4_size_c13 z8 z9 (nI i) (-6) = if X2_sizeOf_r (kr_sg T n i) < 0 then nI i else (-6) := by
  have hs := kr_sz (kr_ts h (i := i))
  rw [X4_size_c13, kr_tl h hi9, kr_wb, kr_wb, if_neg (by decide : ¬ (1 : Int32) = 0), if_pos rfl]
  by_cases c1 : kr_sg T n i = 115
  · rw [if_pos c1, if_neg (fun q => hs.mp q (Or.inl c1))]
  · rw [if_neg c1]
    by_cases c2 : kr_sg T n i = 109
    · rw [if_pos c2, if_neg (fun q => hs.mp q (Or.inr (Or.inl c2)))]
    · rw [if_neg c2]
      by_cases c3 : kr_sg T n i = 108
      · rw [if_pos c3, if_neg (fun q => hs.mp q (Or.inr (Or.inr c3)))]
      · rw [if_neg c3, if_pos (hs.mpr (fun q => q.elim c1 (fun q => q.elim c2 c3)))]
theorem kr_so {b : Int32} (hb : ¬ b = (-6)) (a : Int32) : X4_size_c13 z8 z9 a b = b := by rw [X4_size_c13, kr_wo hb, kr_wo hb, ite_self, ite_self, ite_self]
/-- one command, read on both sides: wrong at the same sign, or right and of the same length -/
def kr_cmd (T : kz_S) (z8 : Nat → Int32) (z9 : Int32) (n i : Nat) : Prop := (∃ e, e ≤ n ∧ (X4_rc z8 z9 (nI i) (-6)).2.2.2.2 = nI e ∧ X2_fe T 0 i (n - i) = nI e) ∨ ∃ k, 2 ≤ k ∧ i + k ≤ n ∧ (X4_rc z8 z9 (nI i) (-6)).2.2.2.2 = (-6) ∧ (X4_rc z8 z9 (nI i) (-6)).2.2.2.1 = nI (i + k) ∧ X2_fe T 0 i (n - i) = kr_aft T n (i + k)
end KR
