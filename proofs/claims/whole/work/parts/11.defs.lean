theorem bel_nat {x : Int32} {n : Nat} (hn : n < 2 ^ 31) (h : bel x (nI n) = true) : ∃ j, j < n ∧ x = nI j := by
  simp only [bel, Bool.and_eq_true, Bool.not_eq_true', decide_eq_false_iff_not] at h
  obtain ⟨j, hj, rfl⟩ := nI_of h.1
  exact ⟨j, nJ_nle hn hj h.2, rfl⟩
theorem bel_of {j n : Nat} (hj : j < n) (hn : n < 2 ^ 31) : bel (nI j) (nI n) = true := by
  simp only [bel, Bool.and_eq_true, Bool.not_eq_true', decide_eq_false_iff_not]
  exact ⟨nI_pos (by omega), nI_ge hj hn⟩
theorem bel_vin {x : Int32} {n : Nat} (hn : n < 2 ^ 31) {k : Nat} (hk : n ≤ k) (hk2 : k < 2 ^ 31) (h : bel x (nI n) = true) : vp_in x k := by
  obtain ⟨j, hj, rfl⟩ := bel_nat hn h
  exact vp_in_nI (by omega) hk2
def drF (f : Int64) (x : Int32) (b : Bool) : Int64 := if b = true then f ||| bitI x else f &&& (bitI x ^^^ (-1))
def R_drain (x : Int32) (b : Bool) (f : Int64) (r : Int32) (f' : Int64) : Prop := (bel x 36 = false ∧ r = -1 ∧ f' = f) ∨ (bel x 36 = true ∧ r = bI (firmB f x) ∧ f' = drF f x b)
def R_tuft (x : Int32) (t : Nat) (m : Nat → Int32) (r : Int32) (t' : Nat) (m' : Nat → Int32) : Prop := (bel x 36 = false ∧ r = -1 ∧ t' = t ∧ m' = m) ∨ (bel x 36 = true ∧ 6 ≤ t ∧ r = -3 ∧ t' = t ∧ m' = m) ∨ (bel x 36 = true ∧ t < 6 ∧ r = nI t ∧ t' = t + 1 ∧ m' = upd m t x)
def R_plant (x y : Int32) (t : Nat) (m : Nat → Int32) (r : Int32) (m' : Nat → Int32) : Prop := ((bel x (nI t) && bel y 36) = false ∧ r = -1 ∧ m' = m) ∨ ((bel x (nI t) && bel y 36) = true ∧ r = m x.toNatClampNeg ∧ m' = upd m x.toNatClampNeg y)
def R_person (x : Int32) (n : Nat) (kd ce ho ac : Nat → Int32) (r : Int32) (n' : Nat) (kd' ce' ho' ac' : Nat → Int32) : Prop := (bel x 4 = false ∧ r = -1 ∧ n' = n ∧ kd' = kd ∧ ce' = ce ∧ ho' = ho ∧ ac' = ac) ∨ (bel x 4 = true ∧ 6 ≤ n ∧ r = -3 ∧ n' = n ∧ kd' = kd ∧ ce' = ce ∧ ho' = ho ∧ ac' = ac) ∨ (bel x 4 = true ∧ n < 6 ∧ r = nI n ∧ n' = n + 1 ∧ kd' = upd kd n x ∧ ce' = upd ce n 0 ∧ ho' = upd ho n 0 ∧ ac' = upd ac n 0)
def R_sit (x y w : Int32) (n : Nat) (ce ho : Nat → Int32) (r : Int32) (ce' ho' : Nat → Int32) : Prop := ((bel x (nI n) && (bel y 36 && bel w 100)) = false ∧ r = -1 ∧ ce' = ce ∧ ho' = ho) ∨ ((bel x (nI n) && (bel y 36 && bel w 100)) = true ∧ r = ho x.toNatClampNeg ∧ ce' = upd ce x.toNatClampNeg y ∧ ho' = upd ho x.toNatClampNeg w)
def R_frost (x z r z' : Int32) : Prop := (bel x 10 = false ∧ r = -1 ∧ z' = z) ∨ (bel x 10 = true ∧ r = z ∧ z' = x)
def toldF (x w : Int32) (n : Nat) (kd ce ho ac : Nat → Int32) : Int32 := if bel x (nI n) = false then -1 else if w = 0 then kd x.toNatClampNeg else if w = 1 then (if 0 < ho x.toNatClampNeg then ce x.toNatClampNeg else -4) else if w = 2 then ho x.toNatClampNeg else if w = 3 then ac x.toNatClampNeg else -1
def ofF (x w : Int32) (f : Int64) (t : Nat) (m : Nat → Int32) (z : Int32) (n : Nat) (kd ce ho : Nat → Int32) : Int32 := if bel x 36 = false then -1 else if w = 0 then bI (firmB f x) else if w = 1 then nI (tiF m x t) else if w = 2 then bI (firmB (wkX z f m t (-1)) x) else if w = 3 then wInF kd ce ho x n else -1
def mossF (x : Int32) (t : Nat) (m : Nat → Int32) : Int32 := if bel x (nI t) = false then -1 else m x.toNatClampNeg
def pullF (x w : Int32) (t : Nat) (m : Nat → Int32) (n : Nat) (kd ce ho : Nat → Int32) : Int32 := if (bel x 36 && bel w (nI t)) = false then -1001 else if seatF ce ho x n = false then -1002 else wInF kd ce ho x n - 3 * aprt x (m w.toNatClampNeg)
def bcF (w : Int64) : Int32 :=
  let a := w - ((w.toUInt64 >>> ((1 : Int32).toInt64.toUInt64 &&& Int64.toUInt64 63)).toInt64 &&& 6148914691236517205)
  let b := (a &&& 3689348814741910323) + ((a.toUInt64 >>> ((2 : Int32).toInt64.toUInt64 &&& Int64.toUInt64 63)).toInt64 &&& 3689348814741910323)
  let c := (b + (b.toUInt64 >>> ((4 : Int32).toInt64.toUInt64 &&& Int64.toUInt64 63)).toInt64) &&& 1085102592571150095
  let d := c + (c.toUInt64 >>> ((8 : Int32).toInt64.toUInt64 &&& Int64.toUInt64 63)).toInt64
  let e := d + (d.toUInt64 >>> ((16 : Int32).toInt64.toUInt64 &&& Int64.toUInt64 63)).toInt64
  let h := e + (e.toUInt64 >>> ((32 : Int32).toInt64.toUInt64 &&& Int64.toUInt64 63)).toInt64
  h.toInt32 &&& 127
def countF (w : Int32) (t n : Nat) (q : Int32) (y z : Int32) (ac : Nat → Int32) : Int32 := if w = 0 then nI t else if w = 1 then nI n else if w = 2 then q else if w = 3 then y else if w = 4 then z else if w = 5 then achF ac n else -1
def wayF (x y : Int32) (W : Int64) : Int32 := if (bel x 36 && bel y 36) = false then -1 else stX W x y
/-- the parts, from the k-th cell on -/
def ptF (w : Int64) : Nat → Int64 × Nat
  | 0 => (w, 0)
  | n + 1 => if (ptF w n).1 &&& bitI (nI n) = 0 then ptF w n else ((ptF w n).1 &&& (jnF (ptF w n).1 (bitI (nI n)) 36 ^^^ (-1)), (ptF w n).2 + 1)
def plS (z : Int32) (f : Int64) (m : Nat → Int32) (t : Nat) (x y : Int32) : Nat → Int32
  | 0 => 0
  | n + 1 => if 0 ≤ stX (wkX z f m t (nI n)) x y then plS z f m t x y n else plS z f m t x y n ||| (1 <<< (nI n &&& 31))
def pilotsF (x y z : Int32) (f : Int64) (m : Nat → Int32) (t : Nat) : Int32 := if (bel x 36 && bel y 36) = false then -1 else if 0 ≤ stX (wkX z f m t (-1)) x y then plS z f m t x y t else -4
/-- a year, by the first of each -/
def R_year (f : Int64) (t : Nat) (m : Nat → Int32) (z : Int32) (n : Nat) (kd ce ho ac : Nat → Int32) (y r : Int32) (f' : Int64) (m' : Nat → Int32) (z' : Int32) (ho' ac' : Nat → Int32) (y' : Int32) : Prop := (¬ y < 9999 ∧ r = -3 ∧ f' = f ∧ m' = m ∧ z' = z ∧ ho' = ho ∧ ac' = ac ∧ y' = y) ∨ (y < 9999 ∧ r = nI (mvC kd ce ho n z m t) ∧ f' = f ||| strF kd ce ho n ∧ (∀ j, j < t → m' j = mvd kd ce ho n z (m j)) ∧ z' = frX z ∧ (∀ j, j < n → ho' j = 0 ∧ ac' j = (if 0 < ho j ∧ f &&& bitI (ce j) = 0 then ac j + 1 else ac j)) ∧ y' = y + 1)
theorem acF_hi {f : Int64} {ce ho ac : Nat → Int32} {k : Nat} : ∀ {n : Nat}, n ≤ k → acF f ce ho ac n k = ac k
  | 0, _ => rfl
  | n + 1, h => by
    rw [acF]
    have := acF_hi (f := f) (ce := ce) (ho := ho) (ac := ac) (k := k) (n := n) (by omega)
    split
    · simp [upd, show ¬ k = n by omega, this]
    · exact this
theorem acF_at {f : Int64} {ce ho ac : Nat → Int32} {j : Nat} : ∀ {n : Nat}, j < n → acF f ce ho ac n j = (if 0 < ho j ∧ f &&& bitI (ce j) = 0 then ac j + 1 else ac j)
  | 0, h => absurd h (Nat.not_lt_zero _)
  | n + 1, h => by
    rw [acF]
    rcases Nat.lt_succ_iff_lt_or_eq.mp h with q | q
    · have ih := acF_at (f := f) (ce := ce) (ho := ho) (ac := ac) q
      split
      · simp [upd, show ¬ j = n by omega, ih]
      · exact ih
    · subst q
      have e := acF_hi (f := f) (ce := ce) (ho := ho) (ac := ac) (k := j) (n := j) (Nat.le_refl _)
      split
      · simp [upd, e]
      · exact e
