-- set; what is kept
theorem kr_or1 {c A B : Prop} (h : c) : ((c ∧ A) ∨ (¬ c ∧ B)) ↔ A := ⟨fun q => q.elim (fun x => x.2) (fun x => absurd h x.1), fun a => Or.inl ⟨h, a⟩⟩
theorem kr_or0 {c A B : Prop} (h : ¬ c) : ((c ∧ A) ∨ (¬ c ∧ B)) ↔ B := ⟨fun q => q.elim (fun x => absurd x.1 h) (fun x => x.2), fun b => Or.inr ⟨h, b⟩⟩
theorem kr_rng1 {j : Nat} (hj : j ≤ 4) (v : Int32) : X4_isInRange_p (nI j) v ↔ X3_isWithin_p v (kz_low j) (kz_high j) := by
  unfold X4_isInRange_p
  rcases (show j = 0 ∨ j = 1 ∨ j = 2 ∨ j = 3 ∨ j = 4 by omega) with rfl | rfl | rfl | rfl | rfl
  · rw [kr_or1 (by decide)]; exact Iff.rfl
  · rw [kr_or0 (by decide), kr_or1 (by decide)]; exact Iff.rfl
  · rw [kr_or0 (by decide), kr_or0 (by decide), kr_or1 (by decide)]; exact Iff.rfl
  · rw [kr_or0 (by decide), kr_or0 (by decide), kr_or0 (by decide), kr_or1 (by decide)]; exact Iff.rfl
  · rw [kr_or0 (by decide), kr_or0 (by decide), kr_or0 (by decide), kr_or0 (by decide)]
    exact ⟨fun q => q.2, fun q => ⟨by decide, q⟩⟩
theorem kr_rng0 {k v : Int32} (h : X4_isInRange_p k v) : X3_isWithin_p k 0 4 := by
  rcases h with ⟨e, -⟩ | ⟨-, ⟨e, -⟩ | ⟨-, ⟨e, -⟩ | ⟨-, ⟨e, -⟩ | ⟨-, e, -⟩⟩⟩⟩ <;> subst e <;> decide
theorem kr_lowhigh {j : Nat} (hj : j ≤ 4) {v : Int32} (h : X3_isWithin_p v (kz_low j) (kz_high j)) : ∃ n, n ≤ 50 ∧ v = nI n := by
  have h0 : ¬ v < 0 := by
    intro q
    refine h.1 (Int32.lt_of_lt_of_le q ?_)
    rcases (show j = 0 ∨ j = 1 ∨ j = 2 ∨ j = 3 ∨ j = 4 by omega) with rfl | rfl | rfl | rfl | rfl <;> decide
  refine nI_of2 (M := 50) (n := 50) (by decide) h0 (Int32.le_trans (Int32.not_lt.mp h.2) ?_)
  rcases (show j = 0 ∨ j = 1 ∨ j = 2 ∨ j = 3 ∨ j = 4 by omega) with rfl | rfl | rfl | rfl | rfl <;> decide
section KR
variable {D : Nat} {S T V Sv : kz_S} {z y : Nat → Int32}
theorem kr_setS (h : kz_RS D S z) {j n : Nat} (hj : j ≤ 4) (hn : n ≤ 50) : kz_RS D (va_up S 0 (upd (S 0) j (nI n))) (upd z j (nI n)) := by
  obtain ⟨h1, h2, h3, h4, h5, h6⟩ := h.1
  have u : ∀ i, 5 ≤ i → upd z j (nI n) i = z i := fun i hi => pk_un (by omega)
  refine ⟨⟨fun k hk => ?_, fun k hk => ?_, by rw [u 5 (by omega)]; exact h3, by rw [u 6 (by omega)]; exact h4, by rw [u 7 (by omega)]; exact h5, by rw [u 10 (by omega), u 8 (by omega), u 9 (by omega), u 11 (by omega)]; exact h6⟩, fun i hi => kr_plF (h.2.1 i hi) (u _ (by omega)) (u _ (by omega)) (u _ (by omega)) (u _ (by omega)) rfl rfl rfl rfl, fun k hk9 => ?_, fun k hk9 => kr_bnF (h.2.2.2.1 k hk9) (u _ (by omega)) (u _ (by omega)) (u _ (by omega)) (u _ (by omega)) rfl rfl rfl rfl, fun i hi => kr_bdF (h.2.2.2.2 i hi) (u _ (by omega)) (u _ (by omega)) (u _ (by omega))⟩
  · show upd (S 0) j (nI n) k = upd z j (nI n) k
    by_cases e : k = j
    · subst e; rw [pk_us, pk_us]
    · rw [pk_un e, pk_un e]; exact h1 k hk
  · by_cases e : k = j
    · subst e; exact ⟨n, hn, pk_us⟩
    · rw [pk_un e]; exact h2 k hk
  · rw [u _ (by omega)]
    exact h.2.2.1 k hk9
theorem kr_set (h : kz_R9 S z) (z1 : Nat → Int32) (z2 k v : Int32) : X3_changeSetting_r V S k v = X4_set_r z z1 z2 k v ∧ kz_R9 (X3_changeSetting_s V S k v) (X4_set_c0 z z1 z2 k v) ∧ ((X3_isError_p (X3_changeSetting_r V S k v) ∧ X4_set_c1 z z1 z2 k v = z1 ∧ X4_set_c2 z z1 z2 k v = z2) ∨ (¬ X3_isError_p (X3_changeSetting_r V S k v) ∧ X4_set_c1 z z1 z2 k v = X4_record_c1 z z1 z2 ∧ X4_set_c2 z z1 z2 k v = X4_record_c2 z z1 z2)) := by
  obtain ⟨D, hD, e5, h0⟩ := id h
  rw [X3_changeSetting_r, X3_changeSetting_s, X4_set_r, X4_set_c0, X4_set_c1, X4_set_c2]
  by_cases c : X3_isWithin_p k 0 4
  · rw [if_pos c, if_pos c]
    obtain ⟨j, hj, rfl⟩ := kz_wiE (n := 4) c rfl (by decide)
    rw [nI_clamp (n := j) (by omega)]
    by_cases g : X3_isWithin_p v (kz_low j) (kz_high j)
    · have g' := (kr_rng1 hj v).mpr g
      obtain ⟨n, hn, rfl⟩ := kr_lowhigh hj g
      obtain ⟨m, hm, em⟩ := h0.1.2.1 j (by omega)
      rw [if_pos g, if_pos g, if_pos g', if_pos g', if_pos g', if_pos g', h0.1.1 j (by omega), em]
      exact ⟨rfl, ⟨D, hD, by rw [pk_un (by omega), e5], kr_setS h0 hj hn⟩, Or.inr ⟨kr_ok (by omega), rfl, rfl⟩⟩
    · have g' := fun q => g ((kr_rng1 hj v).mp q)
      rw [if_neg g, if_neg g, if_neg g', if_neg g', if_neg g', if_neg g']
      exact ⟨rfl, h, Or.inl ⟨by decide, rfl, rfl⟩⟩
  · have g' := fun q => c (kr_rng0 (k := k) (v := v) q)
    rw [if_neg c, if_neg c, if_neg g', if_neg g', if_neg g', if_neg g']
    exact ⟨rfl, h, Or.inl ⟨by decide, rfl, rfl⟩⟩
end KR
/-- what is kept before each change -/
def kz_H (Y : kz_S) (R : Nat → kz_S) (z1 : Nat → Int32) (z2 : Int32) : Prop := ∃ o c, o < 6 ∧ c ≤ 5 ∧ Y 1 0 = nI o ∧ Y 2 0 = nI c ∧ z2 = nI c ∧ ∀ i, i < c → kz_R9 (R ((o + i) % 6)) (fun k => z1 (580 * i + k))
theorem kz_R9.ext {S : kz_S} {z y : Nat → Int32} (h : kz_R9 S z) (e : ∀ j, j < 580 → y j = z j) : kz_R9 S y := by
  obtain ⟨D, hD, e5, h0⟩ := h
  exact ⟨D, hD, (e 5 (by omega)).trans e5, h0.ext e⟩
theorem kr_top {Y : kz_S} {o c : Nat} (ho : o < 6) (hc : c ≤ 5) (e1 : Y 1 0 = nI o) (e2 : Y 2 0 = nI c) : kz_top Y = (o + c) % 6 := by
  rw [kz_top, e1, e2, nI_add, show (6 : Int32) = nI 6 from rfl, kz_remN (by omega) (by omega) (by omega), nI_clamp (by omega)]
theorem kr_prep {Y : kz_S} {R : Nat → kz_S} {z1 : Nat → Int32} {z2 : Int32} (h : kz_H Y R z1 z2) (S : kz_S) : kz_H Y (X0_prepare_R Y R S) z1 z2 := by
  obtain ⟨o, c, ho, hc, e1, e2, e3, hr⟩ := h
  refine ⟨o, c, ho, hc, e1, e2, e3, fun i hi => ?_⟩
  rw [X0_prepare_R, kr_top ho hc e1 e2, va_up_ne _ _ (by omega)]
  exact hr i hi
theorem kr_rec {Y : kz_S} {R : Nat → kz_S} {z1 : Nat → Int32} {z2 : Int32} (h : kz_H Y R z1 z2) {S : kz_S} {z : Nat → Int32} (hS : kz_R9 S z) : kz_H (X0_keepPrepared_s Y) (X0_prepare_R Y R S) (X4_record_c1 z z1 z2) (X4_record_c2 z z1 z2) := by
  obtain ⟨o, c, ho, hc, e1, e2, e3, hr⟩ := h
  rw [X0_keepPrepared_s, X0_prepare_R, kr_top ho hc e1 e2, X4_record_c1, X4_record_c2, e2, e3]
  by_cases h5 : c = 5
  · subst h5
    rw [if_pos (by decide), if_pos (by decide), if_pos (by decide)]
    refine ⟨(o + 1) % 6, 5, Nat.mod_lt _ (by omega), Nat.le_refl _, ?_, e2, by decide, fun i hi => ?_⟩
    · show kz_rem (Y 1 0 + 1) 6 = nI ((o + 1) % 6)
      rw [e1, nI_1, show (6 : Int32) = nI 6 from rfl, kz_remN (by omega) (by omega) (by omega)]
    · by_cases e4 : i = 4
      · subst e4
        rw [show ((o + 1) % 6 + 4) % 6 = (o + 5) % 6 by omega, va_up_self]
        refine hS.ext (fun j hj => ?_)
        rw [pk_cpy_in (by omega) (by omega)]
        exact congrArg z (by omega)
      · rw [show ((o + 1) % 6 + i) % 6 = (o + (i + 1)) % 6 by omega, va_up_ne _ _ (by omega)]
        refine (hr (i + 1) (by omega)).ext (fun j hj => ?_)
        rw [pk_cpy_out (by omega), pk_cpy_in (by omega) (by omega)]
        show z1 _ = z1 (580 * (i + 1) + j)
        exact congrArg z1 (by omega)
  · have n5 : ¬ nI c = 5 := fun e => h5 ((nI_eq (a := c) (b := 5) (by omega) (by omega)).mp e)
    have l5 : ¬ 5 ≤ nI c := nI_ge (a := c) (b := 5) (by omega) (by omega)
    rw [if_neg l5, if_neg n5, if_neg n5, nI_clamp (by omega)]
    refine ⟨o, c + 1, ho, by omega, e1, ?_, by rw [nI_1], fun i hi => ?_⟩
    · show nI c + 1 = nI (c + 1)
      rw [nI_1]
    · by_cases e4 : i = c
      · subst e4
        rw [va_up_self]
        refine hS.ext (fun j hj => ?_)
        rw [pk_cpy_in (by omega) (by omega)]
        exact congrArg z (by omega)
      · rw [va_up_ne _ _ (by omega)]
        refine (hr i (by omega)).ext (fun j hj => ?_)
        rw [pk_cpy_out (by omega)]
theorem kr_undo {Y : kz_S} {R : Nat → kz_S} {z1 : Nat → Int32} {z2 : Int32} (h : kz_H Y R z1 z2) {V S : kz_S} {z : Nat → Int32} (hS : kz_R9 S z) : X3_undo_r V S Y R = X4_undo_r z z1 z2 ∧ kz_R9 (X3_undo_s1 V S Y R) (X4_undo_c0 z z1 z2) ∧ kz_H (X3_undo_s2 V S Y R) R z1 (X4_undo_c2 z z1 z2) := by
  obtain ⟨o, c, ho, hc, e1, e2, e3, hr⟩ := id h
  rw [X3_undo_r, X3_undo_s1, X3_undo_s2, X4_undo_r, X4_undo_c0, X4_undo_c2, e2, e3]
  by_cases h0 : c = 0
  · subst h0
    rw [if_pos (by decide), if_pos (by decide), if_pos (by decide), if_pos (by decide), if_pos (by decide), ← e3]
    exact ⟨rfl, hS, h⟩
  · have n0 : ¬ nI c = 0 := nI_ne0 (by omega) (by omega)
    have ec : nI c - 1 = nI (c - 1) := by
      have := nI_pred (c - 1)
      rwa [show c - 1 + 1 = c by omega] at this
    rw [if_neg n0, if_neg n0, if_neg n0, if_neg n0, if_neg n0, ec, nI_clamp (by omega)]
    have t2 : X0_takeBack_Y Y 2 0 = nI (c - 1) := by
      show Y 2 0 - 1 = nI (c - 1)
      rw [e2, ec]
    refine ⟨rfl, ?_, o, c - 1, ho, by omega, e1, t2, rfl, fun i hi => hr i (by omega)⟩
    rw [kr_top (Y := X0_takeBack_Y Y) ho (by omega) e1 t2]
    refine (hr (c - 1) (by omega)).ext (fun j hj => ?_)
    rw [pk_cpy_in (by omega) (by omega)]
    show z1 _ = z1 (580 * (c - 1) + j)
    exact congrArg z1 (by omega)
