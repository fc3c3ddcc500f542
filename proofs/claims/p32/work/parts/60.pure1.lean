/-! PURE: codes, searches, sums -/
def kz_alB (f : Nat → Bool) : Nat → Bool
  | 0 => true
  | n + 1 => f n && kz_alB f n
theorem kz_alB_of {f : Nat → Bool} : ∀ n, kz_alB f n = true → ∀ j, j < n → f j = true
  | 0, _, j, h => absurd h (by omega)
  | n + 1, h, j, hj => by
    rw [kz_alB, Bool.and_eq_true] at h
    by_cases e : j = n
    · rw [e]; exact h.1
    · exact kz_alB_of n h.2 j (by omega)
def ps_ciB (w j : Nat) : Bool := decide (X3_indexOfCode_r (nI (ps_cd (w + 1) j)) = nI (48 * w + j))
set_option maxRecDepth 100000 in
theorem ps_ciT : kz_alB (fun w => kz_alB (fun j => ps_ciB w j) 48) 7 = true := by decide +kernel
theorem ps_ci {w j : Nat} (hw : w < 7) (hj : j < 48) : X3_indexOfCode_r (nI (ps_cd (w + 1) j)) = nI (48 * w + j) := of_decide_eq_true (kz_alB_of 48 (kz_alB_of 7 ps_ciT w hw) j hj)
def ps_cfB (w j : Nat) : Bool := decide (X3_codeFor_r (nI w) (nI j) = nI (ps_cd w j))
set_option maxRecDepth 100000 in
theorem ps_cfT : kz_alB (fun w => kz_alB (fun j => ps_cfB w j) 48) 8 = true := by decide +kernel
theorem ps_cf {w j : Nat} (hw : w < 8) (hj : j < 48) : X3_codeFor_r (nI w) (nI j) = nI (ps_cd w j) := of_decide_eq_true (kz_alB_of 48 (kz_alB_of 8 ps_cfT w hw) j hj)
def ps_icB (c : Nat) : Bool := decide (X3_indexOfCode_r (nI c) = (-1) ∨ (0 ≤ X3_indexOfCode_r (nI c) ∧ X3_indexOfCode_r (nI c) < 336 ∧ ps_cd ((X3_indexOfCode_r (nI c)).toNatClampNeg / 48 + 1) ((X3_indexOfCode_r (nI c)).toNatClampNeg % 48) = c))
set_option maxRecDepth 100000 in
theorem ps_icT : kz_alB (fun a => kz_alB (fun b => ps_icB (100 * a + b)) 100) 100 = true := by decide +kernel
theorem ps_icS {c : Nat} (h : c < 10000) : X3_indexOfCode_r (nI c) = (-1) ∨ (0 ≤ X3_indexOfCode_r (nI c) ∧ X3_indexOfCode_r (nI c) < 336 ∧ ps_cd ((X3_indexOfCode_r (nI c)).toNatClampNeg / 48 + 1) ((X3_indexOfCode_r (nI c)).toNatClampNeg % 48) = c) := by
  have h1 := kz_alB_of 100 (kz_alB_of 100 ps_icT (c / 100) (by omega)) (c % 100) (by omega)
  have h2 : ps_icB (100 * (c / 100) + c % 100) = true := h1
  rw [show 100 * (c / 100) + c % 100 = c by omega] at h2
  exact of_decide_eq_true h2
/-- what a number is: no code, or the code of a weekday and a place -/
theorem ps_ic (code : Int32) : X3_indexOfCode_r code = (-1) ∨ ∃ w j, w < 7 ∧ j < 48 ∧ code = nI (ps_cd (w + 1) j) ∧ X3_indexOfCode_r code = nI (48 * w + j) := by
  by_cases h : X3_isWithin_p code 0 9999
  · obtain ⟨c, hc, rfl⟩ := kz_wiE (n := 9999) h rfl (by decide)
    rcases ps_icS (c := c) (by omega) with h1 | ⟨h1, h2, h3⟩
    · exact Or.inl h1
    · obtain ⟨k, hk, e⟩ := nI_of (x := X3_indexOfCode_r (nI c)) (Int32.not_lt.mpr h1)
      rw [e] at h2 h3
      rw [nI_clamp hk] at h3
      have hk2 := kz_lt (b := 336) h2 hk (by decide)
      refine Or.inr ⟨k / 48, k % 48, by omega, by omega, by rw [h3], ?_⟩
      rw [e, show 48 * (k / 48) + k % 48 = k by omega]
  · left
    rw [X3_indexOfCode_r, if_neg h]
theorem ps_cd_lt {w j : Nat} (hw : w < 8) (hj : j < 48) : ps_cd w j < 10000 := by
  unfold ps_cd
  omega
theorem ps_cd_inj {w j v k : Nat} (hw : w < 8) (hj : j < 48) (hv : v < 8) (hk : k < 48) (h : ps_cd w j = ps_cd v k) : w = v ∧ j = k := by
  unfold ps_cd at h
  have h1 : (10 - (3 * w + j / 8 + 7 * (j % 8)) % 10) % 10 < 10 := Nat.mod_lt _ (by decide)
  have h2 : (10 - (3 * v + k / 8 + 7 * (k % 8)) % 10) % 10 < 10 := Nat.mod_lt _ (by decide)
  generalize (10 - (3 * w + j / 8 + 7 * (j % 8)) % 10) % 10 = x at h h1
  generalize (10 - (3 * v + k / 8 + 7 * (k % 8)) % 10) % 10 = y at h h2
  omega
theorem ps_cdI_inj {w j v k : Nat} (hw : w < 8) (hj : j < 48) (hv : v < 8) (hk : k < 48) (h : nI (ps_cd w j) = nI (ps_cd v k)) : w = v ∧ j = k :=
  ps_cd_inj hw hj hv hk ((nI_eq (by have := ps_cd_lt hw hj; omega) (by have := ps_cd_lt hv hk; omega)).mp h)
-- leavings
/-- the last day on which a code was left, by the list -/
def ps_lv (zl zv : Nat → Int32) (code : Int32) : Nat → Int32
  | 0 => (-1)
  | n + 1 => if zl n = code then zv n else ps_lv zl zv code n
theorem ps_lv_un {zl zv : Nat → Int32} {D : Nat} {r code : Int32} : ∀ n, (∀ i, i < n → ∃ d, d ≤ D ∧ zv i = nI d) → (ps_lv zl zv code n = (-1) ∧ ps_un zl zv r code n = 0) ∨ ∃ d, d ≤ D ∧ ps_lv zl zv code n = nI d ∧ ps_un zl zv r code n = nI d + r
  | 0, _ => Or.inl ⟨rfl, rfl⟩
  | n + 1, h => by
    rw [ps_lv, ps_un]
    by_cases c : zl n = code
    · rw [if_pos c, if_pos c]
      obtain ⟨d, hd, e⟩ := h n (by omega)
      exact Or.inr ⟨d, hd, e, by rw [e]⟩
    · rw [if_neg c, if_neg c]
      exact ps_lv_un n (fun i hi => h i (by omega))
theorem ps_lv_upd {zl zv : Nat → Int32} {m : Nat} {c x code : Int32} : ∀ n, n ≤ m → ps_lv (upd zl m c) (upd zv m x) code n = ps_lv zl zv code n
  | 0, _ => rfl
  | n + 1, h => by rw [ps_lv, ps_lv, ps_lv_upd n (by omega), pk_un (by omega), pk_un (by omega)]
theorem ps_un_0 {zl zv : Nat → Int32} {r code : Int32} : ∀ n, (∀ i, i < n → ¬ zl i = code) → ps_un zl zv r code n = 0
  | 0, _ => rfl
  | n + 1, h => by rw [ps_un, if_neg (h n (by omega)), ps_un_0 n (fun i hi => h i (by omega))]
-- searches
theorem ps_on_no {zp : Nat → Int32} {w : Int32} : ∀ n, (∀ i, i < n → ¬ zp i = w) → ps_on zp w n = (-1)
  | 0, _ => rfl
  | n + 1, h => by rw [ps_on, if_neg (h n (by omega)), ps_on_no n (fun i hi => h i (by omega))]
theorem ps_on_some {zp : Nat → Int32} {w : Int32} : ∀ n, (∃ i, i < n ∧ zp i = w) → ∃ i, i < n ∧ zp i = w ∧ ps_on zp w n = nI i
  | 0, h => by obtain ⟨i, hi, -⟩ := h; omega
  | n + 1, h => by
    rw [ps_on]
    by_cases c : zp n = w
    · rw [if_pos c]; exact ⟨n, by omega, c, rfl⟩
    · rw [if_neg c]
      obtain ⟨i, hi, e⟩ := h
      have hne : i ≠ n := fun q => c (q ▸ e)
      obtain ⟨k, h1, h2, h3⟩ := ps_on_some n ⟨i, by omega, e⟩
      exact ⟨k, by omega, h2, h3⟩
theorem ps_by_no {zp zc : Nat → Int32} {w : Int32} : ∀ n, (∀ i, i < n → ¬ (¬ zp i < 0 ∧ zc i = w)) → ps_by zp zc w n = (-1)
  | 0, _ => rfl
  | n + 1, h => by rw [ps_by, if_neg (h n (by omega)), ps_by_no n (fun i hi => h i (by omega))]
theorem ps_by_some {zp zc : Nat → Int32} {w : Int32} : ∀ n, (∃ i, i < n ∧ ¬ zp i < 0 ∧ zc i = w) → ∃ i, i < n ∧ ¬ zp i < 0 ∧ zc i = w ∧ ps_by zp zc w n = nI i
  | 0, h => by obtain ⟨i, hi, -⟩ := h; omega
  | n + 1, h => by
    rw [ps_by]
    by_cases c : ¬ zp n < 0 ∧ zc n = w
    · rw [if_pos c]; exact ⟨n, by omega, c.1, c.2, rfl⟩
    · rw [if_neg c]
      obtain ⟨i, hi, e⟩ := h
      have hne : i ≠ n := fun q => c (q ▸ e)
      obtain ⟨k, h1, h2, h3⟩ := ps_by_some n ⟨i, by omega, e⟩
      exact ⟨k, by omega, h2, h3⟩
/-- the law's search for a place against the class's two -/
theorem ps_scff {T Z P Q : Nat → Prop} [DecidablePred T] [DecidablePred Z] [DecidablePred P] [DecidablePred Q] : ∀ n i, i + n < 2 ^ 31 → (∀ j, i ≤ j → j < i + n → (P j ↔ ¬ T j ∧ ¬ Z j) ∧ (Q j ↔ ¬ T j)) → (kz_ff P (-1) i n = (-1) ∧ ps_sc T Z i n = if kz_fb Q i n = true then (-5) else (-6)) ∨ ∃ j, i ≤ j ∧ j < i + n ∧ P j ∧ kz_ff P (-1) i n = nI j ∧ ps_sc T Z i n = nI j
  | 0, i, _, _ => Or.inl ⟨rfl, rfl⟩
  | n + 1, i, hi, h => by
    obtain ⟨h1, h2⟩ := h i (Nat.le_refl i) (by omega)
    by_cases cP : P i
    · obtain ⟨a, b⟩ := h1.mp cP
      exact Or.inr ⟨i, Nat.le_refl i, by omega, cP, by rw [kz_ff, if_pos cP], by rw [ps_sc, if_neg a, if_neg b]⟩
    · have ih := ps_scff (T := T) (Z := Z) (P := P) (Q := Q) n (i + 1) (by omega) (fun j a b => h j (by omega) (by omega))
      rw [kz_ff, if_neg cP, ps_sc, kz_fb]
      by_cases cT : T i
      · rw [if_pos cT, if_neg (fun q => (h2.mp q) cT)]
        rcases ih with ih | ⟨j, a, b, c⟩
        · exact Or.inl ih
        · exact Or.inr ⟨j, by omega, by omega, c⟩
      · have cZ : Z i := Decidable.byContradiction fun q => cP (h1.mpr ⟨cT, q⟩)
        rw [if_neg cT, if_pos cZ, if_pos (h2.mpr cT), if_pos rfl]
        rcases ih with ⟨a, b⟩ | ⟨j, a, b, c, d, e⟩
        · refine Or.inl ⟨a, ?_⟩
          rw [b, if_pos]
          split <;> decide
        · refine Or.inr ⟨j, by omega, by omega, c, d, ?_⟩
          rw [e, if_neg (nI_pos (by omega))]
-- sums
theorem ps_sm0 {f : Nat → Int32} : ∀ n, (∀ j, j < n → f j = 0) → kz_sm f n = 0
  | 0, _ => rfl
  | n + 1, h => by rw [kz_sm, ps_sm0 n (fun j hj => h j (by omega)), h n (by omega)]; rfl
theorem ps_sm1 {f : Nat → Int32} {j : Nat} : ∀ n, j < n → (∀ k, k < n → k ≠ j → f k = 0) → kz_sm f n = f j
  | 0, hj, _ => absurd hj (Nat.not_lt_zero _)
  | n + 1, hj, h => by
    rw [kz_sm]
    by_cases e : n = j
    · subst e
      rw [ps_sm0 n (fun k hk => h k (by omega) (by omega)), Int32.zero_add]
    · rw [ps_sm1 n (by omega) (fun k hk hne => h k (by omega) hne), h n (by omega) e, Int32.add_zero]
theorem ps_smA {f g : Nat → Int32} : ∀ n, kz_sm (fun j => f j + g j) n = kz_sm f n + kz_sm g n
  | 0 => rfl
  | n + 1 => by
    rw [kz_sm, kz_sm, kz_sm, ps_smA n, Int32.add_assoc, Int32.add_assoc]
    congr 1
    rw [← Int32.add_assoc, ← Int32.add_assoc, Int32.add_comm (kz_sm g n)]
theorem ps_smE {f g : Nat → Int32} : ∀ n, (∀ j, j < n → f j = g j) → kz_sm f n = kz_sm g n
  | 0, _ => rfl
  | n + 1, h => by rw [kz_sm, kz_sm, ps_smE n (fun j hj => h j (by omega)), h n (by omega)]
theorem ps_sw {d : Nat → Nat → Int32} (m : Nat) : ∀ n, kz_sm (fun i => kz_sm (fun j => d i j) m) n = kz_sm (fun j => kz_sm (fun i => d i j) n) m
  | 0 => (ps_sm0 m (fun _ _ => rfl)).symm
  | n + 1 => by
    rw [kz_sm, ps_sw m n]
    exact (ps_smA m).symm
theorem ps_spm {P : Nat → Prop} [DecidablePred P] {f : Nat → Int32} : ∀ n, kz_sp P f n = kz_sm (fun i => if P i then f i else 0) n
  | 0 => rfl
  | n + 1 => by
    rw [kz_sp, kz_sm, ps_spm n]
    split
    · rfl
    · rw [Int32.add_zero]
theorem ps_cns {P : Nat → Prop} [DecidablePred P] : ∀ n, kz_cn P n = kz_sp P (fun _ => 1) n
  | 0 => rfl
  | n + 1 => by rw [kz_cn, kz_sp, ps_cns n]
/-- a sum over parcels is the sum over their places -/
theorem ps_bij {zp f g : Nat → Int32} {n : Nat} {A B : Nat → Prop} [DecidablePred A] [DecidablePred B]
    (hr : ∀ i, i < n → (A i ∧ ∃ j, j < 48 ∧ zp i = nI j ∧ B j ∧ f i = g j) ∨ (¬ A i ∧ ∀ j, j < 48 → ¬ (zp i = nI j ∧ B j)))
    (hc : ∀ j, j < 48 → B j → ∃ i, i < n ∧ zp i = nI j) (hi : ∀ i k, i < n → k < n → zp i = zp k → ¬ zp i < 0 → i = k) : kz_sp A f n = kz_sp B g 48 := by
  rw [ps_spm, ps_spm]
  have h1 : kz_sm (fun i => if A i then f i else 0) n = kz_sm (fun i => kz_sm (fun j => if zp i = nI j ∧ B j then g j else 0) 48) n := by
    refine ps_smE n (fun i hin => ?_)
    rcases hr i hin with ⟨a, j, hj, e, b, q⟩ | ⟨a, b⟩
    · rw [if_pos a, ps_sm1 (j := j) 48 hj (fun k hk hne => if_neg (fun h => hne ((nI_eq (by omega) (by omega)).mp (h.1.symm.trans e)))), if_pos ⟨e, b⟩]
      exact q
    · rw [if_neg a, ps_sm0 48 (fun k hk => if_neg (b k hk))]
  rw [h1, ps_sw]
  refine ps_smE 48 (fun j hj => ?_)
  by_cases b : B j
  · rw [if_pos b]
    obtain ⟨i, hin, e⟩ := hc j hj b
    rw [ps_sm1 (j := i) n hin (fun k hk hne => if_neg (fun h => hne (hi k i hk hin (h.1.trans e.symm) (by rw [h.1]; exact nI_pos (by omega))))), if_pos ⟨e, b⟩]
  · rw [if_neg b, ps_sm0 n (fun k hk => if_neg (fun h => b h.2))]
