-- a wrong letter
section KR
variable {T : kz_S} {z8 : Nat → Int32} {z9 : Int32} {n i : Nat}
theorem kr_wn {b : Int32} (hb : ¬ b = (-6)) (a d : Int32) : X4_wants_c12 a b d = a := by rw [X4_wants_c12, if_neg hb]
theorem kr_rf {b : Int32} (hb : ¬ b = (-6)) (x a : Int32) : (rc_f z8 z9 (x, a, b)).2.2 = b := by rw [rc_f, kr_fo hb]
theorem kr_r4 {b : Int32} (hb : ¬ b = (-6)) (a : Int32) : (rc_4 z8 z9 (a, b)).2.2 = b := by
  rw [rc_4]
  have h1 : ∀ s : Int32 × Int32 × Int32, s.2.2 = b → (rc_f z8 z9 s).2.2 = b := fun s e => by
    obtain ⟨x, y, w⟩ := s
    subst e
    exact kr_rf hb x y
  exact h1 _ (h1 _ (h1 _ (h1 _ rfl)))
theorem kr_cmdN (h : kr_tt T z8 z9 n) (hi : i ≤ n) (hc : rc_b (kr_sg T n i) = 0) : (X4_rc z8 z9 (nI i) (-6)).2.2.2.2 = nI i ∧ X2_fe T 0 i (n - i) = nI i := by
  have hn := h.2.2.1
  have hx := (kr_le (kr_ts h (i := i))).1.mp hc
  have hb : ¬ nI i = (-6) := kr_n6 (by omega)
  refine ⟨?_, by rw [kr_feS h.1 hn hi (by decide) (by decide), kr_p0, if_pos hx]⟩
  have n97 : ¬ kr_sg T n i = 97 := fun e => by rw [e] at hc; exact absurd hc (by decide)
  have n100 : ¬ kr_sg T n i = 100 := fun e => by rw [e] at hc; exact absurd hc (by decide)
  have n109 : ¬ kr_sg T n i = 109 := fun e => by rw [e] at hc; exact absurd hc (by decide)
  rw [X4_rc, kr_tl h (by omega), hc, rc_w, kr_wa, kr_wb, if_pos rfl, rc_k, if_neg n97, if_neg n100, rc_t, if_neg n109]
  exact kr_r4 hb _
end KR
