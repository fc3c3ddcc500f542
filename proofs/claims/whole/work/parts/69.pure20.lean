-- days
section KR
variable {T : kz_S} {z8 : Nat → Int32} {z9 : Int32} {n i : Nat}
theorem kr_p4 (x : Int32) : X2_phaseAfter_r 4 x = if x = 59 then 0 else if X2_isDigit_p x then 6 else (-1) := by
  rw [X2_phaseAfter_r, if_pos (by decide)]
  by_cases c : x = 59
  · rw [if_pos c, if_pos c]
  · rw [if_neg c, if_neg c, if_neg (by decide), if_neg (by decide), if_neg (by decide), if_neg (by decide), if_pos rfl]
theorem kr_p5 (x : Int32) : X2_phaseAfter_r 5 x = if x = 59 then 0 else if x = 48 then 6 else (-1) := by
  rw [X2_phaseAfter_r, if_pos (by decide)]
  by_cases c : x = 59
  · rw [if_pos c, if_pos c]
  · rw [if_neg c, if_neg c, if_neg (by decide), if_neg (by decide), if_neg (by decide), if_neg (by decide), if_neg (by decide), if_pos rfl]
/-- how many figures of days the class takes behind the first -/
def kr_two (a b : Int32) : Prop := (X2_phaseAfterFirstDigit_r a = 4 ∧ X2_isDigit_p b) ∨ (X2_phaseAfterFirstDigit_r a = 5 ∧ b = 48)
theorem kr_twT : kr_all (fun a => kr_all (fun b => decide (X4_in_p (a - 48) 1 9 → ((X4_in_p (b - 48) 0 9 ∧ ¬ 30 < 10 * (a - 48) + (b - 48)) ↔ ((X2_phaseAfterFirstDigit_r a = 4 ∧ X2_isDigit_p b) ∨ (X2_phaseAfterFirstDigit_r a = 5 ∧ b = 48)))))) = true := by decide +kernel
theorem kr_tw {a b : Int32} (ha : kr_sn a) (hb : kr_sn b) (h : X4_in_p (a - 48) 1 9) : (X4_in_p (b - 48) 0 9 ∧ ¬ 30 < 10 * (a - 48) + (b - 48)) ↔ kr_two a b := of_decide_eq_true (kr_all_of (f := fun b => decide (X4_in_p (a - 48) 1 9 → ((X4_in_p (b - 48) 0 9 ∧ ¬ 30 < 10 * (a - 48) + (b - 48)) ↔ ((X2_phaseAfterFirstDigit_r a = 4 ∧ X2_isDigit_p b) ∨ (X2_phaseAfterFirstDigit_r a = 5 ∧ b = 48))))) (kr_all_of kr_twT ha) hb) h
end KR
