-- predictions, save, restore
section KR
variable {D : Nat} {S T V Sv : kz_S} {z y : Nat → Int32}
theorem kr_gi (h : kz_RS D S z) {d : Nat} (e : z 5 = nI d) {j : Nat} (hj : j < 48) : ∀ n i, kz_ff (fun d => X1_isFree_p (X1_days S d) j) (-6) i (n + 1) = X4_gi z j i n
  | 0, i => by
    have hi := kr_free (kr_days h e i).1 hj
    rw [kz_ff, kz_ff, X4_gi]
    by_cases c : X4_isTaken_p (X4_days z i) j
    · rw [if_pos c, if_neg (fun q => absurd c (hi.mp q))]
    · rw [if_neg c, if_pos (hi.mpr c)]
  | n + 1, i => by
    have hi := kr_free (kr_days h e i).1 hj
    rw [kz_ff, X4_gi, kr_gi h e hj n (i + 1)]
    by_cases c : X4_isTaken_p (X4_days z i) j
    · rw [if_pos c, if_neg (fun q => absurd c (hi.mp q))]
    · rw [if_neg c, if_pos (hi.mpr c)]
theorem kr_aside {z5 g : Nat → Int32} {j : Nat} (hj : j < 580) : X4_takeBack_c0 g (X4_putAside_c5 z z5) j = z j := by
  rw [X4_takeBack_c0, X4_putAside_c5, pk_cpy_in (by omega) (by omega), pk_cpy_in (by omega) (by omega)]
  exact congrArg z (by omega)
theorem kr_goesIn (h : kz_R9 S z) (z5 : Nat → Int32) (code : Int32) : X3_goesIn_r S code = X4_goesIn_r z z5 code ∧ kz_R9 S (X4_goesIn_c0 z z5 code) := by
  obtain ⟨D, hD, e5, h0⟩ := id h
  rw [X3_goesIn_r, X4_goesIn_r, X4_goesIn_c0]
  rcases kr_place h0 code with ⟨f1, f2⟩ | ⟨p, hp, ht, f1, f2⟩
  · rw [if_pos f1, if_pos f2, if_pos f2]
    exact ⟨rfl, h⟩
  · rw [f1, f2, if_neg (kr_n1 (by omega)), if_neg (kr_n6 (by omega)), if_neg (kr_n6 (by omega)), nI_clamp (n := p) (by omega)]
    refine ⟨?_, h.ext (fun j hj => kr_aside hj)⟩
    rw [X3_gi, kr_gi h0 e5 hp 59 1]
    have t0 : X4_isTaken_p (X4_days z 0) p := (kr_tk h0 hp).mp ht
    have e60 : X4_gi z p 0 (59 + 1) = X4_gi z p 1 59 := by rw [X4_gi, if_pos t0]
    exact e60.symm
theorem kr_psd : ∀ n, (X4_psn z n).1 = X4_days z n
  | 0 => rfl
  | n + 1 => by rw [X4_psn, X4_days, kr_psd n]
theorem kr_chargesIn (h : kz_R9 S z) (z5 : Nat → Int32) (d : Int32) : X3_chargesIn_r S d = X4_chargesIn_r z z5 d ∧ kz_R9 S (X4_chargesIn_c0 z z5 d) := by
  obtain ⟨D, hD, e5, h0⟩ := id h
  rw [X3_chargesIn_r, X4_chargesIn_r, X4_chargesIn_c0]
  by_cases c : X3_isWithin_p d 1 30
  · have c' : X4_in_p d 1 30 := c
    rw [if_pos c, if_pos c', if_pos c']
    refine ⟨?_, h.ext (fun j hj => kr_aside hj)⟩
    obtain ⟨-, -, -, -, -, -, -, -, k1⟩ := (kr_days h0 e5 d.toNatClampNeg).1.1
    obtain ⟨-, -, -, -, -, -, -, -, k2⟩ := h0.1
    rw [kr_aside (by omega), X4_passes_c0, kr_psd, ← k1, ← k2]
    rfl
  · have c' : ¬ X4_in_p d 1 30 := c
    rw [if_neg c, if_neg c', if_neg c']
    exact ⟨rfl, h⟩
theorem kr_cp (h : kz_R9 S z) (g : Nat → Int32) : kz_R9 S (va_cpy z g 0 0 580) := h.ext (fun j hj => by
  rw [pk_cpy_in (by omega) (by omega)]
  exact congrArg z (by omega))
/-- what is saved -/
def kz_sv (V Sv : kz_S) (z3 : Nat → Int32) (z4 : Int32) : Prop := (V 5 0 = 0 ∧ z4 = 0) ∨ (V 5 0 = 1 ∧ z4 = 1 ∧ kz_R9 Sv z3)
theorem kr_parcelsNN (h : kz_RS D S z) : ¬ X3_isError_p (X1_parcelsOnShelves_r S) := by
  rw [kr_parcels h, X4_parcels_r]
  obtain ⟨k, hk, e⟩ := kr_cn0 (P := X4_isTaken_p z) 48
  rw [e]
  exact kr_ok (by omega)
theorem kr_save (h : kz_R9 S z) (z3 : Nat → Int32) : X3_save_r V S Sv = X4_parcels_r z ∧ kz_sv (X3_save_s0 V S Sv) (X3_save_s2 V S Sv) (X4_save_c3 z z3) (X4_save_c4 z z3) := by
  obtain ⟨D, hD, e5, h0⟩ := id h
  exact ⟨kr_parcels h0, Or.inr ⟨rfl, rfl, kr_cp h z3⟩⟩
theorem kr_restore {Y : kz_S} {R : Nat → kz_S} {z1 : Nat → Int32} {z2 : Int32} (hH : kz_H Y R z1 z2) (h : kz_R9 S z) {z3 : Nat → Int32} {z4 : Int32} (hs : kz_sv V Sv z3 z4) : X3_restore_r V S Sv Y R = X4_restore_r z z1 z2 z3 z4 ∧ kz_R9 (X3_restore_s1 V S Sv Y R) (X4_restore_c0 z z1 z2 z3 z4) ∧ kz_H (X3_restore_s3 V S Sv Y R) (X3_restore_s4 V S Sv Y R) (X4_restore_c1 z z1 z2 z3 z4) (X4_restore_c2 z z1 z2 z3 z4) := by
  rw [X3_restore_r, X3_restore_s1, X3_restore_s3, X3_restore_s4, X4_restore_r, X4_restore_c0, X4_restore_c1, X4_restore_c2]
  rcases hs with ⟨a, b⟩ | ⟨a, b, hv⟩
  · rw [if_pos a, if_pos a, if_pos a, if_pos a, if_pos b, if_pos b, if_pos b, if_pos b]
    exact ⟨rfl, h, hH⟩
  · have a' : ¬ V 5 0 = 0 := by rw [a]; decide
    have b' : ¬ z4 = 0 := by rw [b]; decide
    rw [if_neg a', if_neg a', if_neg a', if_neg a', if_neg b', if_neg b', if_neg b', if_neg b']
    have hv' := kr_cp hv z
    obtain ⟨D, hD, e5, h0⟩ := id hv'
    refine ⟨kr_parcels h0, hv', ?_⟩
    rw [X3_recorded_s, if_neg (kr_parcelsNN h0)]
    exact kr_rec hH h
end KR
