/-! THE LAW'S OWN METHODS: calls of static changes, the script's cells, folds over rows -/
section KLS
variable {p : Program} {l : Launch} {e : Env} {R : Room} {s : State} {m : MethodId} {args : Array Value} {below : List Frame} {meth : Method} {c : Code} {H : Heap} {locs : List Loc} {cells slots : Nat} {Q : State → Prop}
variable {cc : ByteArray} {pc : Nat} {ls : Array Slot} {rest st0 : List Value} {G : kz_G} {Ts wy : List Cond} {own C host : String} {y : MethodName} {bytes : ByteArray} {maxL nL index k f n : Nat} {ret : Option FieldType} {As : List Value} {b : Nat} {bs cs cs' wr : kz_B} {r : Int32} {A : Nat → Prop}
theorem kz_miS (S : CallFix p m c cc nL s args Ts own) (hM : kz_mi l G y wy f n As cs cs' r) (cw : CallB R s args own index y bytes maxL ret wy (kz_rm f n) 0 0 k ∧ (Cond.static y).before args s = true) (hK : kz_K G s) (hP : kz_P G bs H) (hD : kz_D A bs) (hS : va_S A s.heap H locs) (hA : ∀ q, s.heap.size ≤ q → A q) (isC isR isP : List Nat) {bs' : kz_B}
    (hC : isC.map (fun i => bs[i]?) = cs.map some) (hnC : va_nd isC = true) (hR : isR.map (fun i => bs[i]?) = wr.map some) (hnR : va_nd isR = true) (hdis : ∀ i ∈ isR, i ∉ isC) (hO : isP.map (fun i => (wr ++ cs')[i]?) = bs'.map some) (hnO : va_nd isP = true)
    (hn : As.length = k) (hsize : ls.size = nL) (hstack : st0 = As.reverse ++ rest) (hW : (rest.map fun v => v.category).sum ≤ 8) (hdg : decode cc pc = .ok (.invokestatic index, 3)) (hf : cells ≤ R.cells ∧ slots ≤ R.slots)
    (kk : ∀ (H1 : Heap) (locs1 : List Loc), kz_P G bs' H1 → kz_D A bs' → va_S A s.heap H1 locs1 → W p l e R s m args below meth c H1 locs1 cells slots Q (F0 m (pc + 3) ls (.int r :: rest))) : W p l e R s m args below meth c H locs cells slots Q (F0 m pc ls st0) := by
  have hPc := hP.sub isC hC
  have hDc := hD.sub isC hnC hC
  have hF := kz_free hD hS hA isC hC
  refine va_calli (va_runS (As := As) (rest := rest) S (hM H.size) cw (kz_preM hK hPc hDc) rfl hn hsize hstack (lv_room (pc := pc) (ls := ls) (m := m) (rest := rest) hW) hdg hf) hS (fun q _ h => hF q h) hF (fun x u t H1 locs1 ht hvm hw hB hz1 hk1 hS1 => ?_)
  subst hw
  obtain ⟨hP1, hD1⟩ := hB
  rw [ht] at hP1
  obtain ⟨hP2, hD2⟩ := kz_join hP hD isC isR hC hR hnR hdis hk1 hF hP1 hD1
  exact kk H1 locs1 (hP2.sub isP hO) (hD2.sub isP hnO hO) hS1
/-- a read of the script -/
def kz_rx (l : Launch) (y : MethodName) (ws : List Cond) (f n : Nat) (av : List Value) (bb L : Nat) (xs : Nat → Int32) (r : Int32) : Prop :=
  Met l y ws { frames := f, cells := 0, slots := 0, locals := n } (va_Pc av (fun U => va_X bb L xs U U.heap ∧ bb < U.heap.size)) (vp_Si (fun x => x = r)) 0 0 (fun _ => False)
theorem kz_rxS {bb L : Nat} {xs : Nat → Int32} (S : CallFix p m c cc nL s args Ts own) (hM : kz_rx l y wy f n As bb L xs r) (cw : CallB R s args own index y bytes maxL ret wy (kz_rm f n) 0 0 k ∧ (Cond.static y).before args s = true) (hX : va_X bb L xs s s.heap) (hbl : bb < s.heap.size) (hbA : ¬ A bb) (hS : va_S A s.heap H locs)
    (hn : As.length = k) (hsize : ls.size = nL) (hstack : st0 = As.reverse ++ rest) (hW : (rest.map fun v => v.category).sum ≤ 8) (hdg : decode cc pc = .ok (.invokestatic index, 3)) (hf : cells ≤ R.cells ∧ slots ≤ R.slots)
    (kk : W p l e R s m args below meth c H locs cells slots Q (F0 m (pc + 3) ls (.int r :: rest))) : W p l e R s m args below meth c H locs cells slots Q (F0 m pc ls st0) :=
  kz_goR (va_runS (As := As) (rest := rest) S hM cw ⟨fun a U g mk q => ⟨q.1, va_X.moved (u := U) (U := U.calling g mk a) (Vm.Alike.refl U.vm) q.2.1, q.2.2⟩, fun U hU hW => ⟨rfl, by rw [hU]; exact (hX.kept (hS.2.1 bb hbl hbA)).moved hW.alike, by rw [hU]; exact Nat.lt_of_lt_of_le hbl hS.1⟩⟩ rfl hn hsize hstack (lv_room (pc := pc) (ls := ls) (m := m) (rest := rest) hW) hdg hf) (fun x hx => by subst hx; exact kk)
end KLS
-- numbers of the law
theorem ps_dec (x : Int32) : x + Int32.ofInt (-1) = x - 1 := by rw [Int32.sub_eq_add_neg]; rfl
def ps_lo (v : Int32) (n : Nat) : Nat := v.toBitVec.toNat % 2 ^ 31 % n
theorem ps_lo_lt {v : Int32} {n : Nat} (h : 0 < n) : ps_lo v n < n := Nat.mod_lt _ h
theorem ps_lo_e {v : Int32} {n : Nat} (h : 0 < n) (h2 : n < 2 ^ 31) : kz_rem (v &&& 2147483647) (nI n) = nI (ps_lo v n) := by
  rw [pk_and v 31 (by decide +kernel), kz_remN (Nat.mod_lt _ (by decide)) h h2]
  rfl
/-- a code: by weekday (from 1) and place -/
def ps_cd (w j : Nat) : Nat := 1000 * w + 100 * (j / 8) + 10 * (j % 8) + (10 - (3 * w + j / 8 + 7 * (j % 8)) % 10) % 10
theorem ps_jlt {j m : Nat} (hj : j < 1000) (hm : m < 1000) (h : nI j - 1 < nI m) : j ≤ m := by
  have h1 := Int32.lt_iff_toInt_lt.mp h
  rw [show nI j - 1 = nI j - nI 1 from rfl, pk_sub_toInt (by omega) (by omega), nI_toInt (by omega)] at h1
  omega
theorem ps_jge {j m : Nat} (hj : j < 1000) (hm : m < 1000) (h : ¬ nI j - 1 < nI m) : m + 1 ≤ j := by
  rcases Nat.lt_or_ge j (m + 1) with q | q
  · refine absurd (Int32.lt_iff_toInt_lt.mpr ?_) h
    rw [show nI j - 1 = nI j - nI 1 from rfl, pk_sub_toInt (by omega) (by omega), nI_toInt (by omega)]
    omega
  · exact q
theorem ps_z {n : Nat} (hn : n < 2 ^ 31) (h : nI n = 0) : n = 0 := (nI_eq hn (by decide)).mp h
theorem ps_nz {n : Nat} (h : ¬ nI n = 0) : n ≠ 0 := fun q => h (by rw [q]; rfl)
theorem ps_in {x : Int32} {k N : Nat} (hN : N ≤ k) (hk : k < 2 ^ 31) (h : ∃ n, n < N ∧ x = nI n) : vp_in x k := by
  obtain ⟨n, hn, rfl⟩ := h
  exact vp_in_nI (by omega) hk
theorem ps_self {x : Int32} {N : Nat} (hN : N < 2 ^ 31) (h : ∃ n, n ≤ N ∧ x = nI n) : x = nI x.toNatClampNeg ∧ x.toNatClampNeg ≤ N := by
  obtain ⟨n, hn, rfl⟩ := h
  rw [nI_clamp (by omega)]
  exact ⟨rfl, hn⟩
-- folds over the law's rows
/-- until when a code rests, by the list of leavings -/
def ps_un (zl zv : Nat → Int32) (r code : Int32) : Nat → Int32
  | 0 => 0
  | n + 1 => if zl n = code then zv n + r else ps_un zl zv r code n
theorem ps_un_t {zl zv : Nat → Int32} {r code : Int32} {n : Nat} (h : zl n = code) : zv n + r = ps_un zl zv r code (n + 1) := by rw [ps_un, if_pos h]
theorem ps_un_f {zl zv : Nat → Int32} {r code : Int32} {n : Nat} (h : ¬ zl n = code) : ps_un zl zv r code n = ps_un zl zv r code (n + 1) := by rw [ps_un, if_neg h]
/-- the parcel on a place -/
def ps_on (zp : Nat → Int32) (w : Int32) : Nat → Int32
  | 0 => (-1)
  | n + 1 => if zp n = w then nI n else ps_on zp w n
theorem ps_on_t {zp : Nat → Int32} {w : Int32} {n : Nat} (h : zp n = w) : nI n = ps_on zp w (n + 1) := by rw [ps_on, if_pos h]
theorem ps_on_f {zp : Nat → Int32} {w : Int32} {n : Nat} (h : ¬ zp n = w) : ps_on zp w n = ps_on zp w (n + 1) := by rw [ps_on, if_neg h]
/-- the parcel with a code -/
def ps_by (zp zc : Nat → Int32) (w : Int32) : Nat → Int32
  | 0 => (-1)
  | n + 1 => if ¬ zp n < 0 ∧ zc n = w then nI n else ps_by zp zc w n
theorem ps_by_t {zp zc : Nat → Int32} {w : Int32} {n : Nat} (h : ¬ zp n < 0) (h2 : zc n = w) : nI n = ps_by zp zc w (n + 1) := by rw [ps_by, if_pos ⟨h, h2⟩]
theorem ps_by_f {zp zc : Nat → Int32} {w : Int32} {n : Nat} (h : ¬ (¬ zp n < 0 ∧ zc n = w)) : ps_by zp zc w n = ps_by zp zc w (n + 1) := by rw [ps_by, if_neg h]
/-- the first free place that does not rest among n places from i on; -5: only such are free, -6: none is -/
def ps_sc (T Z : Nat → Prop) [DecidablePred T] [DecidablePred Z] : Nat → Nat → Int32
  | _, 0 => (-6)
  | i, n + 1 => if T i then ps_sc T Z (i + 1) n else if Z i then (if ps_sc T Z (i + 1) n < 0 then (-5) else ps_sc T Z (i + 1) n) else nI i
theorem ps_sc_T {T Z : Nat → Prop} [DecidablePred T] [DecidablePred Z] {i E : Nat} {x : Int32} (hi : i < E) (hx : x = ps_sc T Z (i + 1) (E - (i + 1))) (h : T i) : x = ps_sc T Z i (E - i) := by
  rw [show E - i = (E - (i + 1)) + 1 by omega, ps_sc, if_pos h]; exact hx
theorem ps_sc_N {T Z : Nat → Prop} [DecidablePred T] [DecidablePred Z] {i E : Nat} {x : Int32} (hi : i < E) (hx : x = ps_sc T Z (i + 1) (E - (i + 1))) (h : ¬ T i) (hz : ¬ Z i) : nI i = ps_sc T Z i (E - i) := by
  rw [show E - i = (E - (i + 1)) + 1 by omega, ps_sc, if_neg h, if_neg hz]
theorem ps_sc_Z {T Z : Nat → Prop} [DecidablePred T] [DecidablePred Z] {i E : Nat} {x : Int32} (hi : i < E) (hx : x = ps_sc T Z (i + 1) (E - (i + 1))) (h : ¬ T i) (hz : Z i) (hn : ¬ 0 ≤ x) : (-5) = ps_sc T Z i (E - i) := by
  rw [show E - i = (E - (i + 1)) + 1 by omega, ps_sc, if_neg h, if_pos hz, ← hx, if_pos (Int32.not_le.mp hn)]
theorem ps_sc_K {T Z : Nat → Prop} [DecidablePred T] [DecidablePred Z] {i E : Nat} {x : Int32} (hi : i < E) (hx : x = ps_sc T Z (i + 1) (E - (i + 1))) (h : ¬ T i) (hz : Z i) (hn : 0 ≤ x) : x = ps_sc T Z i (E - i) := by
  rw [show E - i = (E - (i + 1)) + 1 by omega, ps_sc, if_neg h, if_pos hz, ← hx, if_neg (Int32.not_lt.mpr hn)]
/-- how many of the first n parcels are there -/
def ps_ct (zp : Nat → Int32) : Nat → Nat
  | 0 => 0
  | n + 1 => ps_ct zp n + (if zp n < 0 then 0 else 1)
theorem ps_ct_le (zp : Nat → Int32) : ∀ n, ps_ct zp n ≤ n
  | 0 => Nat.le_refl 0
  | n + 1 => by
    have := ps_ct_le zp n
    rw [ps_ct]
    split <;> omega
theorem ps_ct_n {zp : Nat → Int32} {j : Nat} {y : Int32} : ∀ n, n ≤ j → ps_ct (upd zp j y) n = ps_ct zp n
  | 0, _ => rfl
  | n + 1, h => by rw [ps_ct, ps_ct, ps_ct_n n (by omega), pk_un (by omega)]
theorem ps_ct_l {zp : Nat → Int32} {j : Nat} {y : Int32} (hj : ¬ zp j < 0) (hy : y < 0) : ∀ n, j < n → ps_ct (upd zp j y) n + 1 = ps_ct zp n
  | 0, h => absurd h (Nat.not_lt_zero _)
  | n + 1, h => by
    by_cases e : n = j
    · subst e
      rw [ps_ct, ps_ct, ps_ct_n n (Nat.le_refl n), pk_us, if_pos hy, if_neg hj]
    · have := ps_ct_l hj hy n (by omega)
      rw [ps_ct, ps_ct, pk_un e]
      omega
theorem ps_ct_p {zp : Nat → Int32} {j : Nat} {y : Int32} (hj : zp j < 0) (hy : ¬ y < 0) : ∀ n, j < n → ps_ct (upd zp j y) n = ps_ct zp n + 1
  | 0, h => absurd h (Nat.not_lt_zero _)
  | n + 1, h => by
    by_cases e : n = j
    · subst e
      rw [ps_ct, ps_ct, ps_ct_n n (Nat.le_refl n), pk_us, if_neg hy, if_pos hj]
    · have := ps_ct_p hj hy n (by omega)
      rw [ps_ct, ps_ct, pk_un e]
      omega
