/-! WHAT A STATE IS: numbers by component and place; the cells of each object, read off it -/
abbrev kz_S : Type := Nat → Nat → Int32
abbrev shW (G : kz_G) (a : Nat → Nat) (S : kz_S) : va_W := [(a 0, .inr (1, [.ref (a 1), .int (S 1 0), .int (S 2 0), .int (S 3 0), .int (S 4 0), .ref (a 2), .ref (a 3), .ref (a 4), .ref (a 5), .ref (a 6), .ref (a 7), .ref (a 8), .ref (a 9), .ref (a 10)])), (a 1, .inl (G.2.1, 5, .inl (S 0))), (a 2, .inl (G.2.1, 48, .inl (S 5))), (a 3, .inl (G.2.1, 48, .inl (S 6))), (a 4, .inl (G.2.1, 48, .inl (S 7))), (a 5, .inl (G.2.1, 48, .inl (S 8))), (a 6, .inl (G.2.1, 336, .inl (S 9))), (a 7, .inl (G.2.1, 10, .inl (S 10))), (a 8, .inl (G.2.1, 10, .inl (S 11))), (a 9, .inl (G.2.1, 10, .inl (S 12))), (a 10, .inl (G.2.1, 10, .inl (S 13)))]
abbrev txW (G : kz_G) (a : Nat → Nat) (S : kz_S) : va_W := [(a 0, .inr (2, [.ref (a 1), .int (S 1 0)])), (a 1, .inl (G.2.2.1, 80, .inl (S 0)))]
abbrev hsW (G : kz_G) (a : Nat → Nat) (rw : Nat → Nat) (S : kz_S) : va_W := [(a 0, .inr (0, [.ref (a 1), .int (S 1 0), .int (S 2 0)])), (a 1, .inl (G.2.2.2, 6, .inr (.inr (.inr (.inr (fun j => some (rw j)))))))]
abbrev xoW (x n0 n1 n2 n3 n4 : Nat) (S : kz_S) : va_W := [(x, .inr (3, [.ref n0, .ref n1, .ref n2, .ref n3, .ref n4, .int (S 5 0), .int (S 6 0), .int (S 7 0)]))]
-- searches, counts, sums over places
def kz_ff (P : Nat → Prop) [DecidablePred P] (nf : Int32) : Nat → Nat → Int32
  | _, 0 => nf
  | i, n + 1 => if P i then nI i else kz_ff P nf (i + 1) n
theorem kz_ff_t {P : Nat → Prop} [DecidablePred P] {nf : Int32} {i E : Nat} (h : i < E) (hp : P i) : kz_ff P nf i (E - i) = nI i := by
  rw [show E - i = (E - (i + 1)) + 1 by omega, kz_ff, if_pos hp]
theorem kz_ff_f {P : Nat → Prop} [DecidablePred P] {nf : Int32} {i E : Nat} (h : i < E) (hp : ¬ P i) : kz_ff P nf i (E - i) = kz_ff P nf (i + 1) (E - (i + 1)) := by
  rw [show E - i = (E - (i + 1)) + 1 by omega, kz_ff, if_neg hp]
theorem kz_ff_e {P : Nat → Prop} [DecidablePred P] {nf : Int32} {i E : Nat} (h : E ≤ i) : kz_ff P nf i (E - i) = nf := by
  rw [show E - i = 0 by omega, kz_ff]
/-- some place among n from i on -/
def kz_fb (P : Nat → Prop) [DecidablePred P] : Nat → Nat → Bool
  | _, 0 => false
  | i, n + 1 => if P i then true else kz_fb P (i + 1) n
theorem kz_fb_t {P : Nat → Prop} [DecidablePred P] {i E : Nat} (h : i < E) (hp : P i) : kz_fb P i (E - i) = true := by
  rw [show E - i = (E - (i + 1)) + 1 by omega, kz_fb, if_pos hp]
theorem kz_fb_f {P : Nat → Prop} [DecidablePred P] {i E : Nat} (h : i < E) (hp : ¬ P i) : kz_fb P i (E - i) = kz_fb P (i + 1) (E - (i + 1)) := by
  rw [show E - i = (E - (i + 1)) + 1 by omega, kz_fb, if_neg hp]
theorem kz_fb_e {P : Nat → Prop} [DecidablePred P] {i E : Nat} (h : E ≤ i) : kz_fb P i (E - i) = false := by
  rw [show E - i = 0 by omega, kz_fb]
/-- how many of the first n places -/
def kz_cn (P : Nat → Prop) [DecidablePred P] : Nat → Int32
  | 0 => 0
  | n + 1 => if P n then kz_cn P n + 1 else kz_cn P n
theorem kz_cn_t {P : Nat → Prop} [DecidablePred P] {n : Nat} (h : P n) : kz_cn P n + 1 = kz_cn P (n + 1) := by rw [kz_cn, if_pos h]
theorem kz_cn_f {P : Nat → Prop} [DecidablePred P] {n : Nat} (h : ¬ P n) : kz_cn P n = kz_cn P (n + 1) := by rw [kz_cn, if_neg h]
/-- the sum over the first n places -/
def kz_sm (f : Nat → Int32) : Nat → Int32
  | 0 => 0
  | n + 1 => kz_sm f n + f n
/-- the sum over those of the first n places that count -/
def kz_sp (P : Nat → Prop) [DecidablePred P] (f : Nat → Int32) : Nat → Int32
  | 0 => 0
  | n + 1 => if P n then kz_sp P f n + f n else kz_sp P f n
theorem kz_sp_t {P : Nat → Prop} [DecidablePred P] {f : Nat → Int32} {n : Nat} (h : P n) : kz_sp P f n + f n = kz_sp P f (n + 1) := by rw [kz_sp, if_pos h]
theorem kz_sp_f {P : Nat → Prop} [DecidablePred P] {f : Nat → Int32} {n : Nat} (h : ¬ P n) : kz_sp P f n = kz_sp P f (n + 1) := by rw [kz_sp, if_neg h]
-- numbers
theorem kz_e1 (b : Nat) : (nI b + 1) * 8 = nI (8 * (b + 1)) := by rw [nI_1]; exact (pk_mul (b + 1) 8).trans (by rw [Nat.mul_comm])
theorem kz_e2 (b : Nat) : nI b * 8 = nI (8 * b) := (pk_mul b 8).trans (by rw [Nat.mul_comm])
theorem kz_e3 (b : Nat) : 8 * nI b = nI (8 * b) := pk_mul 8 b
theorem kz_e4 (b i : Nat) : nI b * 8 + nI i = nI (8 * b + i) := by rw [kz_e2, nI_add]
theorem kz_le {a b : Nat} (h : nI a ≤ nI b) (ha : a < 2 ^ 31) (hb : b < 2 ^ 31) : a ≤ b := (nI_leI ha hb).mp h
theorem kz_gt {a b : Nat} (h : ¬ nI a ≤ nI b) (ha : a < 2 ^ 31) (hb : b < 2 ^ 31) : b < a := Nat.not_le.mp (fun q => h ((nI_leI ha hb).mpr q))
theorem kz_lt {a b : Nat} (h : nI a < nI b) (ha : a < 2 ^ 31) (hb : b < 2 ^ 31) : a < b := (nI_ltI ha hb).mp h
theorem kz_ge {a b : Nat} (h : ¬ nI a < nI b) (ha : a < 2 ^ 31) (hb : b < 2 ^ 31) : b ≤ a := Nat.not_lt.mp (fun q => h ((nI_ltI ha hb).mpr q))
theorem kz_remN {a d : Nat} (ha : a < 2 ^ 31) (h0 : 0 < d) (hd : d < 2 ^ 31) : kz_rem (nI a) (nI d) = nI (a % d) := pk_rem ha h0 hd
theorem kz_divN {a d : Nat} (ha : a < 2 ^ 31) (h0 : 0 < d) (hd : d < 2 ^ 31) : nI a / nI d = nI (a / d) := pk_div ha h0 hd
theorem kz_subN {a b : Nat} (h : b ≤ a) : nI a - nI b = nI (a - b) := pk_sub h
theorem kz_wdN {d : Nat} (hd : d < 2 ^ 30) : kz_rem (nI d) 7 + 1 = nI (d % 7 + 1) := by
  rw [show (7 : Int32) = nI 7 from rfl, kz_remN (by omega) (by omega) (by omega), nI_1]
theorem kz_ixN (w j : Nat) : (nI (w + 1) - 1) * 48 + nI j = nI (48 * w + j) := by
  rw [show nI (w + 1) - 1 = nI w from nI_pred w]
  exact (congrArg (· + nI j) ((pk_mul w 48).trans (by rw [Nat.mul_comm]))).trans (nI_add _ _)
theorem kz_ifc {P Q : Prop} [Decidable P] [Decidable Q] (h : P ↔ Q) : (if P then (1 : Int32) else 0) = if Q then 1 else 0 := by
  by_cases c : P
  · rw [if_pos c, if_pos (h.mp c)]
  · rw [if_neg c, if_neg (fun q => c (h.mpr q))]
