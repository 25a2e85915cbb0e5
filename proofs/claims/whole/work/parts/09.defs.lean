theorem wkF_congr {f : Int64} {m m' : Nat → Int32} {x : Int32} : ∀ {t : Nat}, (∀ j, j < t → m j = m' j) → wkF f m x t = wkF f m' x t
  | 0, _ => rfl
  | t + 1, h => by rw [wkF, wkF, wkF_congr (fun j hj => h j (by omega)), h t (by omega)]
/-- where one can walk behind the year -/
noncomputable def thW (kd ce ho : Nat → Int32) (n : Nat) (z : Int32) (f : Int64) (m : Nat → Int32) (t : Nat) : Int64 := wkX (frX z) (f ||| strF kd ce ho n) (fun j => mvd kd ce ho n z (m j)) t (-1)
theorem thW_of {kd ce ho : Nat → Int32} {n : Nat} {z : Int32} {f : Int64} {m nm : Nat → Int32} {t : Nat} (h : ∀ j, j < t → nm j = mvd kd ce ho n z (m j)) : wkX (frX z) (f ||| strF kd ce ho n) nm t (-1) = thW kd ce ho n z f m t := by
  unfold thW wkX
  rw [wkF_congr h]
/-! the tape -/
def sgn (w : Int64) (k : Nat) : Int64 := (w.toUInt64 >>> ((nI (8 * k)).toInt64.toUInt64 &&& Int64.toUInt64 63)).toInt64 &&& 255
def ctF (w : Int64) : Nat → Bool
  | 0 => true
  | n + 1 => ctF w n && (!decide (sgn w n < 32) && !decide (126 < sgn w n))
theorem ctF_s {w : Int64} {k : Nat} (h : ctF w k = true) (h1 : ¬ sgn w k < 32) (h2 : ¬ 126 < sgn w k) : ctF w (k + 1) = true := by simp [ctF, h, h1, h2]
theorem ctF_no {w : Int64} {k : Nat} (h : sgn w k < 32 ∨ 126 < sgn w k) : ∀ {n : Nat}, k < n → ctF w n = false
  | 0, q => absurd q (Nat.not_lt_zero _)
  | n + 1, q => by
    rcases Nat.lt_succ_iff_lt_or_eq.mp q with r | r
    · simp [ctF, ctF_no h r]
    · subst r
      rcases h with h | h <;> simp [ctF, h]
def byt (w : Int64) (k : Nat) : Int32 := vp_nar .byte (w.toUInt64 >>> ((nI (8 * k)).toInt64.toUInt64 &&& Int64.toUInt64 63)).toInt64.toInt32.toInt8.toInt32
def apF (w : Int64) : Nat → (Nat → Int32) → Nat → (Nat → Int32)
  | 0, z, _ => z
  | j + 1, z, m => apF w j (upd z m (byt w j)) (m + 1)
abbrev tpS : Type := Int64 × (Nat → Int32) × Nat
def ttF (x : Int32) (st : tpS) : Bool × tpS := if st.2.2 < 6 then (true, st.1, upd st.2.1 st.2.2 x, st.2.2 + 1) else (false, st)
def tcF (x y : Int32) (st : tpS) : Bool × tpS := if y = 35 then (true, st.1 ||| bitI x, st.2) else if y = 46 then (true, st) else if y = 109 then ttF x st else (false, st)
def tkF (pl : Nat) (y : Int32) (st : tpS) : Bool × tpS := if 6 ≤ pl / 7 then (false, st) else if pl / 7 = 5 ∧ pl % 7 = 6 then (false, st) else if pl % 7 = 6 then (if y = 47 then (true, st) else (false, st)) else tcF (nI (pl / 7 * 6 + pl % 7)) y st
theorem ttF_le {x : Int32} {st : tpS} (h : st.2.2 ≤ 6) : (ttF x st).2.2.2 ≤ 6 := by
  unfold ttF; split
  · show st.2.2 + 1 ≤ 6; omega
  · exact h
theorem tcF_le {x y : Int32} {st : tpS} (h : st.2.2 ≤ 6) : (tcF x y st).2.2.2 ≤ 6 := by
  unfold tcF; split
  · exact h
  · split
    · exact h
    · split
      · exact ttF_le h
      · exact h
theorem tkF_le {pl : Nat} {y : Int32} {st : tpS} (h : st.2.2 ≤ 6) : (tkF pl y st).2.2.2 ≤ 6 := by
  unfold tkF; split
  · exact h
  · split
    · exact h
    · split
      · split <;> exact h
      · exact tcF_le h
def rdT (tb : Nat → Int32) (tn : Nat) : Nat → Nat → Nat → tpS → Int32 × tpS
  | 0, _, pl, st => if pl < 41 then (-20 - nI tn, st) else (nI st.2.2, st)
  | n + 1, k, pl, st => if tb k = 32 then rdT tb tn n (k + 1) pl st else if (tkF pl (tb k) st).1 = true then rdT tb tn n (k + 1) (pl + 1) (tkF pl (tb k) st).2 else (-20 - nI k, (tkF pl (tb k) st).2)
theorem jr0 {j : Nat} (h : nI j - 1 < 0) (hj : j < 2 ^ 31) : j = 0 := by
  cases j with
  | zero => rfl
  | succ q => rw [nI_pred] at h; exact absurd h (nI_pos (by omega))
theorem jr1 {j : Nat} (h : ¬ nI j - 1 < 0) : ∃ q, j = q + 1 := by
  cases j with
  | zero => exact absurd (by decide) h
  | succ q => exact ⟨q, rfl⟩
