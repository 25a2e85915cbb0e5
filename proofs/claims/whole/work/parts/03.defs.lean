/-! the values that the leaves answer -/
def bel (x b : Int32) : Bool := !decide (x < 0) && !decide (b ≤ x)
def stay (x : Int32) : Bool := !decide (x < 1) && !decide (99 < x)
def inJ (v lo hi : Int64) : Bool := !decide (v < lo) && !decide (hi < v)
def bitI (x : Int32) : Int64 := 1 <<< (x.toInt64 &&& 63)
def rem6 (x : Int32) : Int32 := x - x / 6 * 6
def aprt (x y : Int32) : Int32 := (if 0 ≤ x / 6 - y / 6 then x / 6 - y / 6 else -(x / 6 - y / 6)) + (if 0 ≤ rem6 x - rem6 y then rem6 x - rem6 y else -(rem6 x - rem6 y))
def bsd (w : Int64) : Int64 := ((w <<< ((6 : Int32).toInt64 &&& 63) ||| (w.toUInt64 >>> ((6 : Int32).toInt64.toUInt64 &&& Int64.toUInt64 63)).toInt64) ||| ((w &&& (-34905131041)) <<< ((1 : Int32).toInt64 &&& 63) ||| ((w &&& (-1090785346)).toUInt64 >>> ((1 : Int32).toInt64.toUInt64 &&& Int64.toUInt64 63)).toInt64)) &&& 68719476735
def nbr (x y : Int32) : Int32 := if y = 0 then (if x < 6 then -1 else x - 6) else if y = 1 then (if rem6 x ≤ 0 then -1 else x - 1) else if y = 2 then (if 5 ≤ rem6 x then -1 else x + 1) else (if 30 ≤ x then -1 else x + 6)
def jnF (w z : Int64) : Nat → Int64
  | 0 => z
  | n + 1 => jnF w z n ||| (bsd (jnF w z n) &&& w)
def stF (w : Int64) (y : Int32) : Nat → Nat → Int64 → Int32
  | 0, _, _ => -4
  | n + 1, k, z => if z &&& bitI y = 0 then (if (z ||| (bsd z &&& w)) = z then -4 else stF w y n (k + 1) (z ||| (bsd z &&& w))) else nI k
def stX (w : Int64) (x y : Int32) : Int32 := if w &&& bitI y = 0 then -4 else stF w y 36 0 (bitI x &&& w)
def wt (k h : Int32) : Int32 := if k = 1 then 2 * h else if k = 2 then h / 2 else if k = 3 then 2 * h else h
/-- who sits in a cell, of the first n people; what they count -/
def seatF (ce ho : Nat → Int32) (w : Int32) : Nat → Bool
  | 0 => false
  | n + 1 => seatF ce ho w n || (decide (0 < ho n) && decide (ce n = w))
def wInF (kd ce ho : Nat → Int32) (w : Int32) : Nat → Int32
  | 0 => 0
  | n + 1 => if 0 < ho n ∧ ce n = w then wInF kd ce ho w n + wt (kd n) (ho n) else wInF kd ce ho w n
theorem seatF_yes {ce ho : Nat → Int32} {w : Int32} {k : Nat} (h1 : 0 < ho k) (h2 : ce k = w) : ∀ {n : Nat}, k < n → seatF ce ho w n = true
  | 0, h => absurd h (Nat.not_lt_zero _)
  | n + 1, h => by
    rcases Nat.lt_succ_iff_lt_or_eq.mp h with q | q
    · simp [seatF, seatF_yes h1 h2 q]
    · subst q; simp [seatF, h1, h2]
def strF (kd ce ho : Nat → Int32) : Nat → Int64
  | 0 => 0
  | n + 1 => if 0 < ho n ∧ kd n = 3 then strF kd ce ho n ||| bitI (ce n) else strF kd ce ho n
def acF (f : Int64) (ce ho ac : Nat → Int32) : Nat → Nat → Int32
  | 0 => ac
  | n + 1 => if 0 < ho n ∧ f &&& bitI (ce n) = 0 then upd (acF f ce ho ac n) n (acF f ce ho ac n n + 1) else acF f ce ho ac n
def achF (ac : Nat → Int32) : Nat → Int32
  | 0 => 0
  | n + 1 => if 0 < ac n then achF ac n ||| (1 <<< (nI n &&& 31)) else achF ac n
/-- the first n are those of h, the rest those of f -/
def cpF {α : Type} (f h : Nat → α) (n : Nat) : Nat → α := fun j => if j < n then h j else f j
theorem cpF_0 {α : Type} (f h : Nat → α) : f = cpF f h 0 := by funext j; simp [cpF]
theorem cpF_s (f h : Nat → Int32) (k : Nat) : upd (cpF f h k) k (h k) = cpF f h (k + 1) := by
  funext j
  simp only [upd, cpF]
  by_cases q : j = k
  · subst q; simp
  · by_cases r : j < k
    · simp [q, r, Nat.lt_succ_of_lt r]
    · have : ¬ j < k + 1 := by omega
      simp [q, r, this]
theorem cpF_sL (f h : Nat → Int64) (k : Nat) : vp_updL (cpF f h k) k (h k) = cpF f h (k + 1) := by
  funext j
  simp only [vp_updL, cpF]
  by_cases q : j = k
  · subst q; simp
  · by_cases r : j < k
    · simp [q, r, Nat.lt_succ_of_lt r]
    · have : ¬ j < k + 1 := by omega
      simp [q, r, this]
theorem i_pos {x : Int32} (h : ¬ x ≤ 0) : 0 < x := Int32.not_le.mp h
theorem i_npos {x : Int32} (h : x ≤ 0) : ¬ 0 < x := Int32.not_lt.mpr h
theorem wInF_a {kd ce ho : Nat → Int32} {w : Int32} {k : Nat} (h : decide (0 < ho k) = false) : wInF kd ce ho w k = wInF kd ce ho w (k + 1) := by
  rw [wInF]; exact (if_neg (fun q => of_decide_eq_false h q.1)).symm
theorem wInF_b {kd ce ho : Nat → Int32} {w : Int32} {k : Nat} (h : ¬ ce k = w) : wInF kd ce ho w k = wInF kd ce ho w (k + 1) := by
  rw [wInF]; exact (if_neg (fun q => h q.2)).symm
theorem wInF_c {kd ce ho : Nat → Int32} {w : Int32} {k : Nat} (h : decide (0 < ho k) = true) (h2 : ce k = w) : wInF kd ce ho w k + wt (kd k) (ho k) = wInF kd ce ho w (k + 1) := by
  rw [wInF]; exact (if_pos ⟨of_decide_eq_true h, h2⟩).symm
theorem strF_a {kd ce ho : Nat → Int32} {k : Nat} (h : decide (0 < ho k) = false) : strF kd ce ho k = strF kd ce ho (k + 1) := by
  rw [strF]; exact (if_neg (fun q => of_decide_eq_false h q.1)).symm
theorem strF_b {kd ce ho : Nat → Int32} {k : Nat} (h : ¬ kd k = 3) : strF kd ce ho k = strF kd ce ho (k + 1) := by
  rw [strF]; exact (if_neg (fun q => h q.2)).symm
theorem strF_c {kd ce ho : Nat → Int32} {k : Nat} (h : decide (0 < ho k) = true) (h2 : kd k = 3) : strF kd ce ho k ||| bitI (ce k) = strF kd ce ho (k + 1) := by
  rw [strF]; exact (if_pos ⟨of_decide_eq_true h, h2⟩).symm
theorem acF_a {f : Int64} {ce ho ac : Nat → Int32} {k : Nat} (h : decide (0 < ho k) = false) : acF f ce ho ac k = acF f ce ho ac (k + 1) := by
  rw [acF]; exact (if_neg (fun q => of_decide_eq_false h q.1)).symm
theorem acF_b {f : Int64} {ce ho ac : Nat → Int32} {k : Nat} (h : ¬ f &&& bitI (ce k) = 0) : acF f ce ho ac k = acF f ce ho ac (k + 1) := by
  rw [acF]; exact (if_neg (fun q => h q.2)).symm
theorem acF_c {f : Int64} {ce ho ac : Nat → Int32} {k : Nat} (h : decide (0 < ho k) = true) (h2 : f &&& bitI (ce k) = 0) : upd (acF f ce ho ac k) k (acF f ce ho ac k k + 1) = acF f ce ho ac (k + 1) := by
  rw [acF]; exact (if_pos ⟨of_decide_eq_true h, h2⟩).symm
theorem achF_a {ac : Nat → Int32} {k : Nat} (h : ac k ≤ 0) : achF ac k = achF ac (k + 1) := by
  rw [achF]; exact (if_neg (i_npos h)).symm
theorem achF_c {ac : Nat → Int32} {k : Nat} (h : ¬ ac k ≤ 0) : achF ac k ||| (1 <<< (nI k &&& 31)) = achF ac (k + 1) := by
  rw [achF]; exact (if_pos (i_pos h)).symm
