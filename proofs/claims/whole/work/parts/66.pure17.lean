-- the reference's reading, sign by sign
theorem kr_wa (i : Nat) (d : Int32) : X4_wants_c12 (nI i) (-6) d = nI (i + 1) := by rw [X4_wants_c12, if_pos rfl, ite_self, nI_1]
theorem kr_wb (i : Nat) (d : Int32) : X4_wants_c13 (nI i) (-6) d = if d = 0 then nI i else (-6) := by rw [X4_wants_c13, if_pos rfl]
theorem kr_wo {b : Int32} (hb : ¬ b = (-6)) (a d : Int32) : X4_wants_c13 a b d = b := by rw [X4_wants_c13, if_neg hb]
section KR
variable {T : kz_S} {z8 : Nat → Int32} {z9 : Int32} {n i : Nat}
/-- both sides read the same text -/
def kr_tt (T : kz_S) (z8 : Nat → Int32) (z9 : Int32) (n : Nat) : Prop := T 1 0 = nI n ∧ z9 = nI n ∧ n ≤ 80 ∧ (∀ k, k < n → T 0 k = z8 k) ∧ ∀ k, k < 80 → ∃ c, c < 128 ∧ T 0 k = nI c
theorem kr_tl (h : kr_tt T z8 z9 n) (hi : i ≤ 1000) : X4_letter_r z8 z9 (nI i) = kr_sg T n i := kr_sgR h.2.1 h.2.2.1 h.2.2.2.1 (by omega)
theorem kr_ts (h : kr_tt T z8 z9 n) : kr_sn (kr_sg T n i) := kr_sgN h.2.2.1 h.2.2.2.2
theorem kr_fa (lo hi : Int32) : X4_figure_c12 z8 z9 (nI i) (-6) lo hi = nI (i + 1) := by rw [X4_figure_c12, kr_wa]
theorem kr_fb0 (h : kr_tt T z8 z9 n) (hi9 : i ≤ 1000) {lo hi : Int32} (c : ¬ X4_in_p (kr_sg T n i - 48) lo hi) : X4_figure_c13 z8 z9 (nI i) (-6) lo hi = nI i := by
  rw [X4_figure_c13, kr_tl h hi9, if_neg c, kr_wb, if_pos rfl]
theorem kr_fb1 (h : kr_tt T z8 z9 n) (hi9 : i ≤ 1000) {lo hi : Int32} (c : X4_in_p (kr_sg T n i - 48) lo hi) : X4_figure_c13 z8 z9 (nI i) (-6) lo hi = (-6) := by
  rw [X4_figure_c13, kr_tl h hi9, if_pos c, kr_wb, if_neg (by decide)]
theorem kr_fo {b : Int32} (hb : ¬ b = (-6)) (a lo hi : Int32) : X4_figure_c13 z8 z9 a b lo hi = b := by rw [X4_figure_c13, kr_wo hb]
theorem kr_sa : X4_size_c12 z8 z9 (nI i) (-6) = nI (i + 1) := by rw [X4_size_c12, kr_wa, kr_wa, ite_self, ite_self, ite_self]
theorem kr_sb (h : kr_tt T z8 z9 n) (hi9 : i ≤ 1000) : X4_size_c13 z8 z9 (nI i) (-6) = if X2_sizeOf_r (kr_sg T n i) < 0 then nI i else (-6) := by
  have hs := kr_sz (kr_ts h (i := i))
  rw [X4_size_c13, kr_tl h hi9, kr_wb, kr_wb, if_neg (by decide : ¬ (1 : Int32) = 0), if_pos rfl]
  by_cases c1 : kr_sg T n i = 115
  · rw [if_pos c1, if_neg (fun q => hs.mp q (Or.inl c1))]
  · rw [if_neg c1]
    by_cases c2 : kr_sg T n i = 109
    · rw [if_pos c2, if_neg (fun q => hs.mp q (Or.inr (Or.inl c2)))]
    · rw [if_neg c2]
      by_cases c3 : kr_sg T n i = 108
      · rw [if_pos c3, if_neg (fun q => hs.mp q (Or.inr (Or.inr c3)))]
      · rw [if_neg c3, if_pos (hs.mpr (fun q => q.elim c1 (fun q => q.elim c2 c3)))]
theorem kr_so {b : Int32} (hb : ¬ b = (-6)) (a : Int32) : X4_size_c13 z8 z9 a b = b := by rw [X4_size_c13, kr_wo hb, kr_wo hb, ite_self, ite_self, ite_self]
/-- one command, read on both sides: wrong at the same sign, or right and of the same length -/
def kr_cmd (T : kz_S) (z8 : Nat → Int32) (z9 : Int32) (n i : Nat) : Prop := (∃ e, e ≤ n ∧ (X4_rc z8 z9 (nI i) (-6)).2.2.2.2 = nI e ∧ X2_fe T 0 i (n - i) = nI e) ∨ ∃ k, 2 ≤ k ∧ i + k ≤ n ∧ (X4_rc z8 z9 (nI i) (-6)).2.2.2.2 = (-6) ∧ (X4_rc z8 z9 (nI i) (-6)).2.2.2.1 = nI (i + k) ∧ X2_fe T 0 i (n - i) = kr_aft T n (i + k)
theorem kr_cmdA (h : kr_tt T z8 z9 n) (hc : kr_sg T n i = 97) : kr_cmd T z8 z9 n i := by
  have hi : i < n := kr_in hc (by decide)
  have hn := h.2.2.1
  have e : X4_rc z8 z9 (nI i) (-6) = rc_a z8 z9 97 (X4_figure_r z8 z9 (nI (i + 1)) (-6) 0 9) (rc_g z8 z9 0 9 (nI (i + 1), -6)) := by
    rw [X4_rc, kr_tl h (by omega), hc, rc_w, kr_wa, kr_wb, show rc_b 97 = 1 by decide, if_neg (by decide), rc_k, if_pos rfl]
  unfold kr_cmd
  rw [e, kr_feA h.1 hn hc, rc_a, rc_g]
  show (∃ e, e ≤ n ∧ X4_size_c13 z8 z9 (X4_figure_c12 z8 z9 (nI (i + 1)) (-6) 0 9) (X4_figure_c13 z8 z9 (nI (i + 1)) (-6) 0 9) = nI e ∧ _) ∨ ∃ k, 2 ≤ k ∧ i + k ≤ n ∧ X4_size_c13 z8 z9 (X4_figure_c12 z8 z9 (nI (i + 1)) (-6) 0 9) (X4_figure_c13 z8 z9 (nI (i + 1)) (-6) 0 9) = (-6) ∧ X4_size_c12 z8 z9 (X4_figure_c12 z8 z9 (nI (i + 1)) (-6) 0 9) (X4_figure_c13 z8 z9 (nI (i + 1)) (-6) 0 9) = nI (i + k) ∧ _
  rw [kr_fa]
  by_cases c : X2_isDigit_p (kr_sg T n (i + 1))
  · have hi1 := kr_inD c
    rw [kr_fb1 h (by omega) ((kr_dg (kr_ts h)).mpr c), kr_sa, kr_sb h (by omega), if_pos c]
    by_cases d : X2_sizeOf_r (kr_sg T n (i + 2)) < 0
    · rw [if_pos d, if_pos d]
      exact Or.inl ⟨i + 2, by omega, rfl, rfl⟩
    · rw [if_neg d, if_neg d]
      have hi2 : i + 2 < n := by
        by_cases q : i + 2 < n
        · exact q
        · exact absurd (show X2_sizeOf_r (kr_sg T n (i + 2)) < 0 by rw [kr_sg, if_neg q]; decide) d
      exact Or.inr ⟨3, by omega, by omega, rfl, rfl, rfl⟩
  · rw [kr_fb0 h (by omega) (fun q => c ((kr_dg (kr_ts h)).mp q)), kr_so (kr_n6 (by omega)), if_neg c]
    exact Or.inl ⟨i + 1, by omega, rfl, rfl⟩
end KR
