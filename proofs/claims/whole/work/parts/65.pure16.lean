-- the class's grammar, command by command
theorem kr_p0 (x : Int32) : X2_phaseAfter_r 0 x = X2_phaseAfterLetter_r x := by rw [X2_phaseAfter_r, if_neg (by decide), if_pos rfl]
theorem kr_p1 (x : Int32) : X2_phaseAfter_r 1 x = if X2_isDigit_p x then 2 else (-1) := by rw [X2_phaseAfter_r, if_neg (by decide), if_neg (by decide), if_pos rfl]
theorem kr_p2 (x : Int32) : X2_phaseAfter_r 2 x = if X2_sizeOf_r x < 0 then (-1) else 6 := by rw [X2_phaseAfter_r, if_neg (by decide), if_neg (by decide), if_neg (by decide), if_pos rfl]
theorem kr_p3 (x : Int32) : X2_phaseAfter_r 3 x = X2_phaseAfterFirstDigit_r x := by rw [X2_phaseAfter_r, if_neg (by decide), if_neg (by decide), if_neg (by decide), if_neg (by decide), if_pos rfl]
theorem kr_p24 (x : Int32) : X2_phaseAfter_r 24 x = if x = 62 then 25 else (-1) := by rw [X2_phaseAfter_r, if_neg (by decide), if_neg (by decide), if_neg (by decide), if_neg (by decide), if_neg (by decide), if_neg (by decide), if_neg (by decide), if_pos rfl]
theorem kr_p25 (x : Int32) : X2_phaseAfter_r 25 x = if X3_isWithin_p x 48 53 then 6 else (-1) := by rw [X2_phaseAfter_r, if_neg (by decide), if_neg (by decide), if_neg (by decide), if_neg (by decide), if_neg (by decide), if_neg (by decide), if_neg (by decide), if_neg (by decide), if_pos rfl]
/-- the phases within a code -/
def kr_cd (p : Int32) : Prop := p = 10 ∨ p = 11 ∨ p = 12 ∨ p = 13 ∨ p = 20 ∨ p = 21 ∨ p = 22 ∨ p = 23
theorem kr_pc {p : Int32} (hp : kr_cd p) (x : Int32) : X2_phaseAfter_r p x = if X2_isDigit_p x then (if p = 13 then 6 else p + 1) else (-1) := by
  rcases hp with rfl | rfl | rfl | rfl | rfl | rfl | rfl | rfl <;>
  rw [X2_phaseAfter_r, if_neg (by decide), if_neg (by decide), if_neg (by decide), if_neg (by decide), if_neg (by decide), if_neg (by decide), if_neg (by decide), if_neg (by decide), if_neg (by decide), X2_phaseInCode_r, if_neg (by decide)]
section KR
variable {T : kz_S} {n i : Nat}
theorem kr_in {x : Int32} (h : kr_sg T n i = x) (hx : ¬ x = (-6)) : i < n := by
  by_cases c : i < n
  · exact c
  · rw [kr_sg, if_neg c] at h
    exact absurd h.symm hx
theorem kr_inD (h : X2_isDigit_p (kr_sg T n i)) : i < n := by
  by_cases c : i < n
  · exact c
  · rw [kr_sg, if_neg c] at h
    exact absurd h (by decide)
theorem kr_feA (h1 : T 1 0 = nI n) (hn : n ≤ 80) (h : kr_sg T n i = 97) : X2_fe T 0 i (n - i) = if X2_isDigit_p (kr_sg T n (i + 1)) then (if X2_sizeOf_r (kr_sg T n (i + 2)) < 0 then nI (i + 2) else kr_aft T n (i + 3)) else nI (i + 1) := by
  have hi : i < n := kr_in h (by decide)
  rw [kr_feS h1 hn (by omega) (by decide) (by decide), kr_p0, h, show X2_phaseAfterLetter_r 97 = 1 by decide, if_neg (by decide), kr_feS h1 hn (by omega) (by decide) (by decide), kr_p1]
  by_cases c : X2_isDigit_p (kr_sg T n (i + 1))
  · have hi1 := kr_inD c
    rw [if_pos c, if_pos c, if_neg (by decide), kr_feS h1 hn (by omega) (by decide) (by decide), kr_p2]
    by_cases d : X2_sizeOf_r (kr_sg T n (i + 1 + 1)) < 0
    · rw [if_pos d, if_pos d, if_pos rfl]
    · rw [if_neg d, if_neg d, if_neg (by decide)]
      have hi2 : i + 1 + 1 < n := by
        by_cases q : i + 1 + 1 < n
        · exact q
        · exact absurd (show X2_sizeOf_r (kr_sg T n (i + 1 + 1)) < 0 by rw [kr_sg, if_neg q]; decide) d
      exact kr_fe6 h1 hn (by omega)
  · rw [if_neg c, if_neg c, if_pos rfl]
/-- one digit of a code -/
theorem kr_feC (h1 : T 1 0 = nI n) (hn : n ≤ 80) {p : Int32} (hp : kr_cd p) (hi : i ≤ n) : X2_fe T p i (n - i) = if X2_isDigit_p (kr_sg T n i) then X2_fe T (if p = 13 then 6 else p + 1) (i + 1) (n - (i + 1)) else nI i := by
  have hne : ¬ (if p = 13 then (6 : Int32) else p + 1) = (-1) := by
    rcases hp with rfl | rfl | rfl | rfl | rfl | rfl | rfl | rfl <;> decide
  have hnE : ¬ X2_isEndAllowed_p p := by
    rcases hp with rfl | rfl | rfl | rfl | rfl | rfl | rfl | rfl <;> decide
  rw [kr_feS h1 hn hi hnE (by rw [kr_pc hp, if_neg (by decide)]), kr_pc hp]
  by_cases c : X2_isDigit_p (kr_sg T n i)
  · rw [if_pos c, if_pos c, if_neg hne]
  · rw [if_neg c, if_neg c, if_pos rfl]
end KR
