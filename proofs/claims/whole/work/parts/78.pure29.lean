-- one command, executed on both sides
section KR
variable {S T V : kz_S} {z0 z8 z10 : Nat → Int32} {z6 z7 z9 : Int32} {n i k m : Nat}
theorem kr_wC {q v : Int32} : 0 ≤ X4_whyNotCome_r z0 z6 z7 q v → X4_whyNotCome_r z0 z6 z7 q v = 0 := by
  rw [X4_whyNotCome_r]
  repeat' split
  all_goals decide
theorem kr_wF {q : Int32} : 0 ≤ X4_whyNotFetch_r z0 z6 z7 q → X4_whyNotFetch_r z0 z6 z7 q = 0 := by
  rw [X4_whyNotFetch_r]
  repeat' split
  all_goals decide
theorem kr_wR {q : Int32} : 0 ≤ X4_whyNotRefuse_r z0 z6 z7 q → X4_whyNotRefuse_r z0 z6 z7 q = 0 := by
  rw [X4_whyNotRefuse_r, X4_refuseCode_r, ite_self]
  repeat' split
  all_goals decide
theorem kr_wM {q v : Int32} : 0 ≤ X4_whyNotMove_r z0 z6 z7 q v → X4_whyNotMove_r z0 z6 z7 q v = 0 := by
  rw [X4_whyNotMove_r, X4_refuseCode_r, ite_self]
  repeat' split
  all_goals decide
theorem kr_wP {q : Int32} : 0 ≤ X4_whyNotPass_r z0 q → X4_whyNotPass_r z0 q = 0 := by
  rw [X4_whyNotPass_r]
  repeat' split
  all_goals decide
/-- a command: an error alike, or done alike -/
def kr_o1 (V' S' : kz_S) (r w : Int32) (z' : Nat → Int32) (a b : Int32) : Prop := V' 6 0 = a ∧ V' 7 0 = b ∧ kz_R9 S' z' ∧ (X3_isError_p r ↔ ¬ w = 0)
theorem kr_o1_of {V' S' : kz_S} {r w a b r' : Int32} {z z' : Nat → Int32} (h : kr_op V' S' r z w z' a b r') (hw : 0 ≤ w → w = 0) : kr_o1 V' S' r w (if w = 0 then z' else z) a b := by
  obtain ⟨h6, h7, ⟨c, e, q, k⟩ | ⟨c, e, q, k⟩⟩ := h
  · have w0 : ¬ w = 0 := fun x => c (by rw [x]; decide)
    rw [if_neg w0]
    exact ⟨h6, h7, k, fun _ => w0, fun _ => e⟩
  · have w0 := hw c
    rw [if_pos w0]
    exact ⟨h6, h7, k, fun x => absurd x e, fun x => absurd w0 x⟩
theorem kr_ffs {P : Nat → Prop} [DecidablePred P] {nf : Int32} {b n : Nat} (hb : b ≤ n) : ∀ d a, a + d = b → (∀ j, a ≤ j → j < b → ¬ P j) → kz_ff P nf a (n - a) = kz_ff P nf b (n - b)
  | 0, a, e, _ => by rw [show a = b by omega]
  | d + 1, a, e, hP => by
    rw [kz_ff_f (by omega) (hP a (Nat.le_refl _) (by omega))]
    exact kr_ffs hb d (a + 1) (by omega) (fun j h1 h2 => hP j (by omega) h2)
theorem kr_dgK (h : kr_tt T z8 z9 n) (hk : 2 ≤ k) (hn : i + k ≤ n) (h59 : ∀ j, i ≤ j → j < i + k → ¬ kr_sg T n j = 59) (e : i + k = n ∨ kr_sg T n (i + k) = 59) : X2_dg T i = k - 1 := by
  have h80 := h.2.2.1
  have e9 : X2_endOfCommand_r T i = nI (i + k) := by
    have sk := kr_ffs (P := fun j => X2_signAt_r T (nI j) = 59) (nf := nI n) hn k i rfl (fun j h1 h2 => by
      show ¬ X2_signAt_r T (nI j) = 59
      rw [kr_sgC h.1 h80 (by omega)]
      exact h59 j h1 h2)
    rw [X2_endOfCommand_r, h.1, nI_clamp (by omega)]
    refine sk.trans ?_
    by_cases l : i + k < n
    · have s : kr_sg T n (i + k) = 59 := e.elim (fun q => absurd q (by omega)) id
      exact kz_ff_t l (show X2_signAt_r T (nI (i + k)) = 59 by rw [kr_sgC h.1 h80 l]; exact s)
    · rw [kz_ff_e (by omega), show i + k = n by omega]
  have h4 : X2_endOfCommand_r T i - nI i - 1 = nI (i + k - i - 1) := by
    rw [e9, pk_sub (by omega)]
    exact pk_sub (a := i + k - i) (b := 1) (by omega)
  rw [X2_dg, h4, nI_clamp (by omega)]
  omega
theorem kr_one (h : kr_tt T z8 z9 n) (hR : kz_R9 S z0) (v6 : V 6 0 = z6) (v7 : V 7 0 = z7) (g : kr_gd T n i k (z10 (3 * m)) (z10 (3 * m + 1)) (z10 (3 * m + 2))) (e : i + k = n ∨ kr_sg T n (i + k) = 59) : kr_o1 (X3_executeCommand_s0 V S T i) (X3_executeCommand_s1 V S T i) (X3_executeCommand_r V S T i) (X4_executeOne_r z0 z6 z7 z10 (3 * m)) (X4_executeOne_c0 z0 z6 z7 z10 (3 * m)) (X4_executeOne_c6 z0 z6 z7 z10 (3 * m)) (X4_executeOne_c7 z0 z6 z7 z10 (3 * m)) := by
  obtain ⟨hk2, hkn, h59, e1, g⟩ := g
  have hn := h.2.2.1
  have hs : X2_signAt_r T (nI i) = kr_sg T n i := kr_sgC h.1 hn (by omega)
  rcases g with ⟨c, e2, e3⟩ | ⟨c, e2⟩ | ⟨c, e2, e3⟩ | ⟨c | c, e2⟩
  · have a0 : X3_executeCommand_s0 V S T i = X3_letCome_s0 V S (X2_numberAt_r T (i + 1) 1) (X2_sizeAt_r T (nI i + 2)) := by rw [X3_executeCommand_s0, hs, c, if_pos rfl]
    have a1 : X3_executeCommand_s1 V S T i = X3_letCome_s1 V S (X2_numberAt_r T (i + 1) 1) (X2_sizeAt_r T (nI i + 2)) := by rw [X3_executeCommand_s1, hs, c, if_pos rfl]
    have a2 : X3_executeCommand_r V S T i = X3_letCome_r V S (X2_numberAt_r T (i + 1) 1) (X2_sizeAt_r T (nI i + 2)) := by rw [X3_executeCommand_r, hs, c, if_pos rfl]
    have b0 : X4_executeOne_c0 z0 z6 z7 z10 (3 * m) = if X4_whyNotCome_r z0 z6 z7 (z10 (3 * m + 1)) (z10 (3 * m + 2)) = 0 then X4_comes_c0 z0 (z10 (3 * m + 1)) (z10 (3 * m + 2)) else z0 := by rw [X4_executeOne_c0, e1, c, if_pos rfl]
    have b1 : X4_executeOne_r z0 z6 z7 z10 (3 * m) = X4_whyNotCome_r z0 z6 z7 (z10 (3 * m + 1)) (z10 (3 * m + 2)) := by rw [X4_executeOne_r, e1, c, if_pos rfl, ite_self]
    have b6 : X4_executeOne_c6 z0 z6 z7 z10 (3 * m) = X4_whyNotCome_c6 z0 z6 z7 (z10 (3 * m + 1)) (z10 (3 * m + 2)) := by rw [X4_executeOne_c6, e1, c, if_pos rfl, ite_self]
    have b7 : X4_executeOne_c7 z0 z6 z7 z10 (3 * m) = X4_whyNotCome_c7 z0 z6 z7 (z10 (3 * m + 1)) (z10 (3 * m + 2)) := by rw [X4_executeOne_c7, e1, c, if_pos rfl, ite_self]
    rw [a0, a1, a2, b0, b1, b6, b7, e2, e3]
    exact kr_o1_of (kr_come hR v6 v7 _ _) kr_wC
  · have dk := kr_dgK h hk2 hkn h59 e
    have a0 : X3_executeCommand_s0 V S T i = V := by rw [X3_executeCommand_s0, hs, c, if_neg (by decide), if_pos rfl]
    have a1 : X3_executeCommand_s1 V S T i = X3_letPass_s S (X2_numberAt_r T (i + 1) (k - 1)) := by rw [X3_executeCommand_s1, hs, c, if_neg (by decide), if_pos rfl, dk]
    have a2 : X3_executeCommand_r V S T i = X3_letPass_r S (X2_numberAt_r T (i + 1) (k - 1)) := by rw [X3_executeCommand_r, hs, c, if_neg (by decide), if_pos rfl, dk]
    have b0 : X4_executeOne_c0 z0 z6 z7 z10 (3 * m) = if X4_whyNotPass_r z0 (z10 (3 * m + 1)) = 0 then X4_passes_c0 z0 (z10 (3 * m + 1)).toNatClampNeg else z0 := by rw [X4_executeOne_c0, e1, c, if_neg (by decide), if_neg (by decide), if_neg (by decide), if_neg (by decide)]
    have b1 : X4_executeOne_r z0 z6 z7 z10 (3 * m) = X4_whyNotPass_r z0 (z10 (3 * m + 1)) := by rw [X4_executeOne_r, e1, c, if_neg (by decide), if_neg (by decide), if_neg (by decide), if_neg (by decide), ite_self]
    have b6 : X4_executeOne_c6 z0 z6 z7 z10 (3 * m) = z6 := by rw [X4_executeOne_c6, e1, c, if_neg (by decide), if_neg (by decide), if_neg (by decide), if_neg (by decide), ite_self]
    have b7 : X4_executeOne_c7 z0 z6 z7 z10 (3 * m) = z7 := by rw [X4_executeOne_c7, e1, c, if_neg (by decide), if_neg (by decide), if_neg (by decide), if_neg (by decide), ite_self]
    rw [a0, a1, a2, b0, b1, b6, b7, e2]
    exact kr_o1_of (kr_pass hR v6 v7 _) kr_wP
  · have a0 : X3_executeCommand_s0 V S T i = X3_moveParcel_s0 V S (X2_numberAt_r T (i + 1) 4) (X2_numberAt_r T (i + 2 + 4) 1) := by rw [X3_executeCommand_s0, hs, c, if_neg (by decide), if_neg (by decide), if_pos rfl]
    have a1 : X3_executeCommand_s1 V S T i = X3_moveParcel_s1 V S (X2_numberAt_r T (i + 1) 4) (X2_numberAt_r T (i + 2 + 4) 1) := by rw [X3_executeCommand_s1, hs, c, if_neg (by decide), if_neg (by decide), if_pos rfl]
    have a2 : X3_executeCommand_r V S T i = X3_moveParcel_r V S (X2_numberAt_r T (i + 1) 4) (X2_numberAt_r T (i + 2 + 4) 1) := by rw [X3_executeCommand_r, hs, c, if_neg (by decide), if_neg (by decide), if_pos rfl]
    have b0 : X4_executeOne_c0 z0 z6 z7 z10 (3 * m) = if X4_whyNotMove_r z0 z6 z7 (z10 (3 * m + 1)) (z10 (3 * m + 2)) = 0 then X4_moves_c0 z0 (z10 (3 * m + 1)) (z10 (3 * m + 2)) else z0 := by rw [X4_executeOne_c0, e1, c, if_neg (by decide), if_pos rfl]
    have b1 : X4_executeOne_r z0 z6 z7 z10 (3 * m) = X4_whyNotMove_r z0 z6 z7 (z10 (3 * m + 1)) (z10 (3 * m + 2)) := by rw [X4_executeOne_r, e1, c, if_neg (by decide), if_pos rfl, ite_self]
    have b6 : X4_executeOne_c6 z0 z6 z7 z10 (3 * m) = X4_whyNotMove_c6 z0 z6 z7 (z10 (3 * m + 1)) (z10 (3 * m + 2)) := by rw [X4_executeOne_c6, e1, c, if_neg (by decide), if_pos rfl, ite_self]
    have b7 : X4_executeOne_c7 z0 z6 z7 z10 (3 * m) = X4_whyNotMove_c7 z0 z6 z7 (z10 (3 * m + 1)) (z10 (3 * m + 2)) := by rw [X4_executeOne_c7, e1, c, if_neg (by decide), if_pos rfl, ite_self]
    rw [a0, a1, a2, b0, b1, b6, b7, e2, e3]
    exact kr_o1_of (kr_move hR v6 v7 _ _) kr_wM
  · have a0 : X3_executeCommand_s0 V S T i = X3_letFetch_s0 V S (X2_numberAt_r T (i + 1) 4) := by rw [X3_executeCommand_s0, hs, c, if_neg (by decide), if_neg (by decide), if_neg (by decide), if_pos rfl]
    have a1 : X3_executeCommand_s1 V S T i = X3_letFetch_s1 V S (X2_numberAt_r T (i + 1) 4) := by rw [X3_executeCommand_s1, hs, c, if_neg (by decide), if_neg (by decide), if_neg (by decide), if_pos rfl]
    have a2 : X3_executeCommand_r V S T i = X3_letFetch_r V S (X2_numberAt_r T (i + 1) 4) := by rw [X3_executeCommand_r, hs, c, if_neg (by decide), if_neg (by decide), if_neg (by decide), if_pos rfl]
    have b0 : X4_executeOne_c0 z0 z6 z7 z10 (3 * m) = if X4_whyNotFetch_r z0 z6 z7 (z10 (3 * m + 1)) = 0 then X4_fetches_c0 z0 (z10 (3 * m + 1)) else z0 := by rw [X4_executeOne_c0, e1, c, if_neg (by decide), if_neg (by decide), if_pos rfl]
    have b1 : X4_executeOne_r z0 z6 z7 z10 (3 * m) = X4_whyNotFetch_r z0 z6 z7 (z10 (3 * m + 1)) := by rw [X4_executeOne_r, e1, c, if_neg (by decide), if_neg (by decide), if_pos rfl, ite_self]
    have b6 : X4_executeOne_c6 z0 z6 z7 z10 (3 * m) = X4_whyNotFetch_c6 z0 z6 z7 (z10 (3 * m + 1)) := by rw [X4_executeOne_c6, e1, c, if_neg (by decide), if_neg (by decide), if_pos rfl, ite_self]
    have b7 : X4_executeOne_c7 z0 z6 z7 z10 (3 * m) = X4_whyNotFetch_c7 z0 z6 z7 (z10 (3 * m + 1)) := by rw [X4_executeOne_c7, e1, c, if_neg (by decide), if_neg (by decide), if_pos rfl, ite_self]
    rw [a0, a1, a2, b0, b1, b6, b7, e2]
    exact kr_o1_of (kr_fetch hR v6 v7 _) kr_wF
  · have a0 : X3_executeCommand_s0 V S T i = X3_letRefuse_s0 V S (X2_numberAt_r T (i + 1) 4) := by rw [X3_executeCommand_s0, hs, c, if_neg (by decide), if_neg (by decide), if_neg (by decide), if_neg (by decide), if_pos rfl]
    have a1 : X3_executeCommand_s1 V S T i = X3_letRefuse_s1 V S (X2_numberAt_r T (i + 1) 4) := by rw [X3_executeCommand_s1, hs, c, if_neg (by decide), if_neg (by decide), if_neg (by decide), if_neg (by decide), if_pos rfl]
    have a2 : X3_executeCommand_r V S T i = X3_letRefuse_r V S (X2_numberAt_r T (i + 1) 4) := by rw [X3_executeCommand_r, hs, c, if_neg (by decide), if_neg (by decide), if_neg (by decide), if_neg (by decide), if_pos rfl]
    have b0 : X4_executeOne_c0 z0 z6 z7 z10 (3 * m) = if X4_whyNotRefuse_r z0 z6 z7 (z10 (3 * m + 1)) = 0 then X4_goesBack_c0 z0 (X4_placeBy_r z0 (z10 (3 * m + 1))).toNatClampNeg else z0 := by rw [X4_executeOne_c0, e1, c, if_neg (by decide), if_neg (by decide), if_neg (by decide), if_pos rfl]
    have b1 : X4_executeOne_r z0 z6 z7 z10 (3 * m) = X4_whyNotRefuse_r z0 z6 z7 (z10 (3 * m + 1)) := by rw [X4_executeOne_r, e1, c, if_neg (by decide), if_neg (by decide), if_neg (by decide), if_pos rfl, ite_self]
    have b6 : X4_executeOne_c6 z0 z6 z7 z10 (3 * m) = X4_whyNotRefuse_c6 z0 z6 z7 (z10 (3 * m + 1)) := by rw [X4_executeOne_c6, e1, c, if_neg (by decide), if_neg (by decide), if_neg (by decide), if_pos rfl, ite_self]
    have b7 : X4_executeOne_c7 z0 z6 z7 z10 (3 * m) = X4_whyNotRefuse_c7 z0 z6 z7 (z10 (3 * m + 1)) := by rw [X4_executeOne_c7, e1, c, if_neg (by decide), if_neg (by decide), if_neg (by decide), if_pos rfl, ite_self]
    rw [a0, a1, a2, b0, b1, b6, b7, e2]
    exact kr_o1_of (kr_refuse hR v6 v7 _) kr_wR
end KR
