-- a whole text, executed on both sides
section KR
variable {S T V : kz_S} {z0 z8 z10 : Nat → Int32} {z6 z7 z9 : Int32} {n i k m : Nat}
-- the flag of what is saved stays
theorem kr_v5a {y w : Int32} : X3_refuseFor_s V y w 5 = V 5 := rfl
theorem kr_v5b {p q : Nat} : X3_refuseForNoPlace_s V S p q 5 = V 5 := by
  rw [X3_refuseForNoPlace_s]
  repeat' split
  all_goals rfl
theorem kr_v5c {code : Int32} : X3_refuseForNoParcel_s V S code 5 = V 5 := by
  rw [X3_refuseForNoParcel_s]
  repeat' split
  all_goals rfl
theorem kr_v5come {q v : Int32} : X3_letCome_s0 V S q v 5 = V 5 := by
  rw [X3_letCome_s0]
  repeat' split
  all_goals first | rfl | exact kr_v5b
theorem kr_v5fetch {q : Int32} : X3_letFetch_s0 V S q 5 = V 5 := by
  rw [X3_letFetch_s0]
  repeat' split
  all_goals rfl
theorem kr_v5refuse {q : Int32} : X3_letRefuse_s0 V S q 5 = V 5 := by
  rw [X3_letRefuse_s0]
  repeat' split
  all_goals first | rfl | exact kr_v5c
theorem kr_v5move {q v : Int32} : X3_moveParcel_s0 V S q v 5 = V 5 := by
  rw [X3_moveParcel_s0]
  repeat' split
  all_goals first | rfl | exact kr_v5b | exact kr_v5c
theorem kr_v5one : X3_executeCommand_s0 V S T i 5 = V 5 := by
  rw [X3_executeCommand_s0]
  by_cases c1 : X2_signAt_r T (nI i) = 97
  · rw [if_pos c1]
    exact kr_v5come
  · rw [if_neg c1]
    by_cases c2 : X2_signAt_r T (nI i) = 100
    · rw [if_pos c2]
    · rw [if_neg c2]
      by_cases c3 : X2_signAt_r T (nI i) = 109
      · rw [if_pos c3]
        exact kr_v5move
      · rw [if_neg c3]
        by_cases c4 : X2_signAt_r T (nI i) = 112
        · rw [if_pos c4]
          exact kr_v5fetch
        · rw [if_neg c4]
          by_cases c5 : X2_signAt_r T (nI i) = 120
          · rw [if_pos c5]
            exact kr_v5refuse
          · rw [if_neg c5]
theorem kr_v5exl : ∀ (n i : Nat) (V S : kz_S) (x : Int32), (X3_exl T V S x i n).1 5 = V 5
  | 0, _, _, _, _ => rfl
  | n + 1, i, V, S, x => by
    rw [X3_exl]
    by_cases c : X2_isStartOfCommand_p T i
    · rw [if_pos c]
      by_cases d : X3_isError_p (X3_executeCommand_r V S T i)
      · rw [if_pos d]
        exact kr_v5one
      · rw [if_neg d, kr_v5exl n]
        exact kr_v5one
    · rw [if_neg c]
      exact kr_v5exl n (i + 1) V S x
theorem kr_v5exec : X3_execute_V V S T 5 = V 5 := by
  rw [X3_execute_V]
  split
  · exact kr_v5exl _ _ V S 0
  · rfl
-- where commands start
theorem kr_st (h : kr_tt T z8 z9 n) {j : Nat} (hj : j < n) : X2_isStartOfCommand_p T (j + 1) ↔ kr_sg T n j = 59 := by
  have hn := h.2.2.1
  show (nI (j + 1) = 0 ∨ X2_signAt_r T (nI (j + 1) - 1) = 59) ↔ _
  rw [nI_pred, kr_sgC h.1 hn hj]
  exact ⟨fun q => q.elim (fun e => absurd e (nI_ne0 (by omega) (by omega))) id, Or.inr⟩
theorem kr_skip {x : Int32} {b : Nat} (hb : b ≤ n) : ∀ d a, a + d = b → (∀ j, a ≤ j → j < b → ¬ X2_isStartOfCommand_p T j) → X3_exl T V S x a (n - a) = X3_exl T V S x b (n - b)
  | 0, a, e, _ => by rw [show a = b by omega]
  | d + 1, a, e, hP => by
    rw [X3_exl_n (by omega) (hP a (Nat.le_refl _) (by omega))]
    exact kr_skip hb d (a + 1) (by omega) (fun j h1 h2 => hP j (by omega) h2)
/-- how a run over the commands ends -/
def kr_eo (A : kz_S × kz_S × Int32) (B : X4_xq × Nat) (L : Nat) : Prop := A.2.2 = nI B.2 ∧ B.2 ≤ L ∧ kz_R9 A.2.1 B.1.1 ∧ A.1 6 0 = B.1.2.1 ∧ A.1 7 0 = B.1.2.2
theorem kr_exl (h : kr_tt T z8 z9 n) : ∀ (c i m : Nat) (V S : kz_S) (z0 : Nat → Int32) (z6 z7 : Int32), kr_cl T n z10 c i m → X2_isStartOfCommand_p T i → kz_R9 S z0 → V 6 0 = z6 → V 7 0 = z7 → kr_eo (X3_exl T V S (nI m) i (n - i)) (X4_exl z10 (z0, z6, z7) m (m + c - m)) (m + c)
  | 0, _, _, _, _, _, _, _, hcl, _, _, _, _ => False.elim hcl
  | c + 1, i, m, V, S, z0, z6, z7, hcl, hst, hR, v6, v7 => by
    rw [kr_cl] at hcl
    obtain ⟨k, g, e⟩ := hcl
    have hk2 := g.1
    have hkn := g.2.1
    have h59 := g.2.2.1
    obtain ⟨o6, o7, oR, oe⟩ := kr_one h hR v6 v7 g (e.elim (fun q => Or.inl q.2) (fun q => Or.inr q.2.1))
    by_cases w : X4_executeOne_r z0 z6 z7 z10 (3 * m) = 0
    · have ne : ¬ X3_isError_p (X3_executeCommand_r V S T i) := fun q => oe.mp q w
      have ns : ∀ b, b ≤ i + k + 1 → b ≤ n → ∀ j, i + 1 ≤ j → j < b → ¬ X2_isStartOfCommand_p T j := fun b hb hbn j h1 h2 q => by
        obtain ⟨j, rfl⟩ : ∃ y, j = y + 1 := ⟨j - 1, by omega⟩
        exact h59 j (by omega) (by omega) ((kr_st h (by omega)).mp q)
      rw [X3_exl_s (by omega) hst ne, X4_exl_s (q := (z0, z6, z7)) (by omega) w, nI_1]
      rcases e with ⟨c0, en⟩ | ⟨l, s, hcl⟩
      · subst c0
        rw [kr_skip (b := n) (Nat.le_refl _) (n - (i + 1)) (i + 1) (by omega) (ns n (by omega) (Nat.le_refl _)), X3_exl_e (Nat.le_refl _), X4_exl_e (by omega)]
        exact ⟨rfl, Nat.le_refl _, oR, o6, o7⟩
      · rw [kr_skip (b := i + k + 1) (by omega) k (i + 1) (by omega) (ns (i + k + 1) (Nat.le_refl _) (by omega))]
        have ih := kr_exl h c (i + k + 1) (m + 1) _ _ _ _ _ hcl ((kr_st h l).mpr s) oR o6 o7
        rw [show m + 1 + c = m + (c + 1) by omega] at ih
        exact ih
    · rw [X3_exl_b (by omega) hst (oe.mpr w), X4_exl_b (q := (z0, z6, z7)) (by omega) w]
      exact ⟨rfl, by show m ≤ _; omega, oR, o6, o7⟩
theorem kr_exec {Y : kz_S} {R : Nat → kz_S} {z1 : Nat → Int32} {z2 : Int32} (ht : kz_tx T z8 z9) (hR : kz_R9 S z0) (v6 : V 6 0 = z6) (v7 : V 7 0 = z7) (hH : kz_H Y R z1 z2) (z10 : Nat → Int32) : X3_execute_r V S T = X4_execute_r z0 z1 z2 z6 z7 z8 z9 z10 ∧ kz_R9 (X3_execute_S V S T) (X4_execute_c0 z0 z1 z2 z6 z7 z8 z9 z10) ∧ X3_execute_V V S T 6 0 = X4_execute_c6 z0 z1 z2 z6 z7 z8 z9 z10 ∧ X3_execute_V V S T 7 0 = X4_execute_c7 z0 z1 z2 z6 z7 z8 z9 z10 ∧ kz_H (X3_execute_Y V S Y T) (X3_execute_R S Y R T) (X4_execute_c1 z0 z1 z2 z6 z7 z8 z9 z10) (X4_execute_c2 z0 z1 z2 z6 z7 z8 z9 z10) ∧ kz_tx (X3_execute_T T) z8 (X4_execute_c9 z0 z1 z2 z6 z7 z8 z9 z10) := by
  have he := kr_err ht z10
  rw [X3_execute_r, X3_execute_S, X3_execute_V, X3_execute_Y, X3_execute_R, X3_execute_T, X4_execute_r, X4_execute_c0, X4_execute_c1, X4_execute_c2, X4_execute_c6, X4_execute_c7, X4_execute_c9, he]
  by_cases c : X4_errorPosition_r z8 z9 z10 = (-6)
  · rw [if_pos c, if_pos c, if_pos c, if_pos c, if_pos c, if_pos c, if_pos c, if_pos c, if_pos c, if_pos c, if_pos c, if_pos c, if_pos c]
    have hcl := (kr_clear ht V).2
    obtain ⟨n, hn, t1, e9, a, b, d⟩ := ht
    have ht : kr_tt T z8 z9 n := ⟨t1, e9, hn, d, a⟩
    have ep := (kr_ep ht 100 z10 0 0 (by omega) (by omega) (by omega)).2.1
    rw [nI_0] at ep
    obtain ⟨q, q1, q2, q3⟩ := ep c
    rw [Nat.zero_add] at q1 q2
    have e11 : (X4_errorPosition_c11 z8 z9 z10).toNatClampNeg = q := by
      rw [show X4_errorPosition_c11 z8 z9 z10 = nI q from q1, nI_clamp (by omega)]
    have x := kr_exl ht q 0 0 V S z0 z6 z7 q3 (Or.inl nI_0) hR v6 v7
    rw [nI_0, Nat.zero_add, Nat.sub_zero, Nat.sub_zero] at x
    have ex : X3_exs V S T = X3_exl T V S 0 0 n := by rw [X3_exs, t1, nI_clamp (by omega)]
    have ey : X4_exs z0 z6 z7 (X4_errorPosition_c10 z8 z9 z10) (X4_errorPosition_c11 z8 z9 z10) = X4_exl (X4_errorPosition_c10 z8 z9 z10) (z0, z6, z7) 0 q := by rw [X4_exs, e11]
    have x : kr_eo (X3_exl T V S 0 0 n) (X4_exl (X4_errorPosition_c10 z8 z9 z10) (z0, z6, z7) 0 q) q := x
    rw [← ex, ← ey] at x
    generalize X3_exs V S T = A at x ⊢
    generalize X4_exs z0 z6 z7 (X4_errorPosition_c10 z8 z9 z10) (X4_errorPosition_c11 z8 z9 z10) = B at x ⊢
    obtain ⟨x1, x2, x3, x4, x5⟩ := x
    refine ⟨x1, x3, x4, x5, ?_, hcl⟩
    have ne : ¬ X3_isError_p A.2.2 := by rw [x1]; exact kr_ok (by omega)
    rw [X3_recorded_s, if_neg ne]
    exact kr_rec hH hR
  · rw [if_neg c, if_neg c, if_neg c, if_neg c, if_neg c, if_neg c, if_neg c, if_neg c, if_neg c, if_neg c, if_neg c, if_neg c, if_neg c]
    exact ⟨rfl, hR, v6, v7, hH, ht⟩
end KR
