-- codes
section KR
variable {T : kz_S} {z8 : Nat → Int32} {z9 : Int32} {n i : Nat}
theorem kr_f1 (h : kr_tt T z8 z9 n) {j : Nat} (hj : j ≤ 1000) (x : Int32) (hd : X2_isDigit_p (kr_sg T n j)) : rc_f z8 z9 (x, nI j, -6) = (10 * x + (kr_sg T n j - 48), nI (j + 1), -6) := by
  rw [rc_f, kr_fa, kr_fb1 h hj ((kr_dg (kr_ts h)).mpr hd), X4_figure_r, kr_tl h hj]
theorem kr_f0 (h : kr_tt T z8 z9 n) {j : Nat} (hj : j ≤ 1000) (x : Int32) (hd : ¬ X2_isDigit_p (kr_sg T n j)) : (rc_f z8 z9 (x, nI j, -6)).2.2 = nI j := by
  rw [rc_f, kr_fb0 h hj (fun q => hd ((kr_dg (kr_ts h)).mp q))]
theorem kr_ff2 {b : Int32} (hb : ¬ b = (-6)) (s : Int32 × Int32 × Int32) (hs : s.2.2 = b) : (rc_f z8 z9 s).2.2 = b := by
  obtain ⟨x, y, w⟩ := s
  subst hs
  exact kr_rf hb x y
end KR
