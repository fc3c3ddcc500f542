-- one sign, read on both sides
/-- the sign at i, -6 behind the last -/
def kr_sg (T : kz_S) (n i : Nat) : Int32 := if i < n then T 0 i else (-6)
theorem kr_sgC {T : kz_S} {n i : Nat} (h1 : T 1 0 = nI n) (hn : n ≤ 80) (hi : i < n) : X2_signAt_r T (nI i) = kr_sg T n i := by
  have e : T 1 0 - 1 = nI (n - 1) := by
    have := nI_pred (n - 1)
    rw [show n - 1 + 1 = n by omega] at this
    rw [h1, this]
  rw [X2_signAt_r, e, if_pos (show X3_isWithin_p (nI i) 0 (nI (n - 1)) from ⟨nI_pos (by omega), nI_nlt (by omega) (by omega)⟩), nI_clamp (by omega), kr_sg, if_pos hi]
theorem kr_sgR {T : kz_S} {z8 : Nat → Int32} {z9 : Int32} {n i : Nat} (h9 : z9 = nI n) (hn : n ≤ 80) (hc : ∀ k, k < n → T 0 k = z8 k) (hi : i < 2 ^ 20) : X4_letter_r z8 z9 (nI i) = kr_sg T n i := by
  rw [X4_letter_r, h9, kr_sg]
  by_cases c : i < n
  · rw [if_neg (nI_ge (a := i) (b := n) c (by omega)), if_pos c, nI_clamp (by omega), hc i c]
  · rw [if_pos (nI_le (by omega) (by omega)), if_neg c]
theorem kr_feE {T : kz_S} {n : Nat} {p : Int32} (h1 : T 1 0 = nI n) : X2_fe T p n (n - n) = if X2_isEndAllowed_p p then (-6) else nI n := by
  rw [Nat.sub_self, X2_fe, h1]
/-- a phase that must go on: a sign that doesn't fit, or none, is the error -/
theorem kr_feS {T : kz_S} {n i : Nat} {p : Int32} (h1 : T 1 0 = nI n) (hn : n ≤ 80) (hi : i ≤ n) (hp : ¬ X2_isEndAllowed_p p) (h6 : X2_phaseAfter_r p (-6) = (-1)) : X2_fe T p i (n - i) = if X2_phaseAfter_r p (kr_sg T n i) = (-1) then nI i else X2_fe T (X2_phaseAfter_r p (kr_sg T n i)) (i + 1) (n - (i + 1)) := by
  by_cases c : i < n
  · by_cases d : X2_phaseAfter_r p (kr_sg T n i) = (-1)
    · rw [if_pos d]
      exact X2_fe_t c (by rw [kr_sgC h1 hn c]; exact d)
    · rw [if_neg d, X2_fe_f c (by rw [kr_sgC h1 hn c]; exact d), kr_sgC h1 hn c]
  · have e : i = n := by omega
    subst e
    rw [kr_feE h1, if_neg hp, kr_sg, if_neg c, if_pos h6]
/-- a phase that may end: behind it the text ends, or the sign decides -/
theorem kr_feM {T : kz_S} {n i : Nat} {p : Int32} (h1 : T 1 0 = nI n) (hn : n ≤ 80) (hi : i ≤ n) (hp : X2_isEndAllowed_p p) : X2_fe T p i (n - i) = if n ≤ i then (-6) else if X2_phaseAfter_r p (kr_sg T n i) = (-1) then nI i else X2_fe T (X2_phaseAfter_r p (kr_sg T n i)) (i + 1) (n - (i + 1)) := by
  by_cases c : i < n
  · rw [if_neg (by omega : ¬ n ≤ i)]
    by_cases d : X2_phaseAfter_r p (kr_sg T n i) = (-1)
    · rw [if_pos d]
      exact X2_fe_t c (by rw [kr_sgC h1 hn c]; exact d)
    · rw [if_neg d, X2_fe_f c (by rw [kr_sgC h1 hn c]; exact d), kr_sgC h1 hn c]
  · have e : i = n := by omega
    subst e
    rw [kr_feE h1, if_pos hp, if_pos (Nat.le_refl _)]
