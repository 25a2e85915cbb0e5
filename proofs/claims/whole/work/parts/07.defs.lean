def spn (x y : Int32) (n : Nat) : Bool := !decide (x < 0) && !decide (y < 0) && !decide (nI n < x) && !decide (nI n - x < y)
def rfs (h : Bool) (ln : Int32) (n : Nat) (x y w : Int32) : Int32 := if h = false then -11 else if ln = x then (if spn y w n = false then -13 else 0) else -12
def cutL (ln : Int32) (v : Int64) : Int64 := if ln = 0 then v.toInt32.toInt8.toInt32.toInt64 else if ln = 1 then v.toInt32.toInt64 else v
def telF (hi : Nat → Int64) (m : Nat → Int32) (j : Nat) : Nat → Bool
  | 0 => true
  | n + 1 => telF hi m j n && decide (hi (j + n) = (m n).toInt64)
theorem telF_s {hi : Nat → Int64} {m : Nat → Int32} {j k : Nat} (h : telF hi m j k = true) (h2 : hi (j + k) = (m k).toInt64) : telF hi m j (k + 1) = true := by simp [telF, h, h2]
theorem telF_no {hi : Nat → Int64} {m : Nat → Int32} {j k : Nat} (h2 : ¬ hi (j + k) = (m k).toInt64) : ∀ {n : Nat}, k < n → telF hi m j n = false
  | 0, h => absurd h (Nat.not_lt_zero _)
  | n + 1, h => by
    rcases Nat.lt_succ_iff_lt_or_eq.mp h with q | q
    · simp [telF, telF_no h2 q]
    · subst q; simp [telF, h2]
def imin (x y : Int32) : Int32 := if y < x then y else x
def imax (x y : Int32) : Int32 := if x < y then y else x
def rowF (ds : Nat → Int32) (i : Nat) (st : (Nat → Int32) × (Nat → Int32)) : Nat → (Nat → Int32) × (Nat → Int32)
  | 0 => st
  | n + 1 => (upd (rowF ds i st n).1 n (imin ((rowF ds i st n).1 n) (ds (i * 36 + n))), upd (rowF ds i st n).2 i (imax ((rowF ds i st n).2 i) (ds (i * 36 + n))))
def dwF (ds df dm : Nat → Int32) : Nat → (Nat → Int32) × (Nat → Int32)
  | 0 => (cpF df (fun _ => 99) 36, cpF dm (fun _ => 0) 36)
  | n + 1 => rowF ds n (dwF ds df dm n) 36
def restB (ds df dm : Nat → Int32) (i j : Nat) : Bool := decide (ds (i * 36 + j) = df j) && decide (ds (i * 36 + j) = dm i)
def rsI (B : Nat → Bool) : Nat → Nat
  | 0 => 0
  | n + 1 => if B n = true then rsI B n + 1 else rsI B n
def rsC (B : Nat → Nat → Bool) : Nat → Nat
  | 0 => 0
  | n + 1 => rsC B n + rsI (B n) 36
def fsF (B : Nat → Nat → Bool) : Nat → Nat → Int32
  | 0, _ => -4
  | n + 1, k => if B (k / 36) (k % 36) = true then nI (100 * (k / 36) + k % 36) else fsF B n (k + 1)
theorem fsF_y {B : Nat → Nat → Bool} {i j : Nat} (hi : i < 36) (hj : j < 36) (h : B i j = true) : fsF B (1296 - (36 * i + j)) (36 * i + j) = nI (100 * i + j) := by
  rw [show 1296 - (36 * i + j) = (1296 - (36 * i + j) - 1) + 1 by omega, fsF, show (36 * i + j) / 36 = i by omega, show (36 * i + j) % 36 = j by omega, if_pos h]
theorem fsF_n {B : Nat → Nat → Bool} {i j : Nat} (hi : i < 36) (hj : j < 36) (h : B i j = false) : fsF B (1296 - (36 * i + j)) (36 * i + j) = fsF B (1296 - (36 * i + (j + 1))) (36 * i + (j + 1)) := by
  rw [show 1296 - (36 * i + j) = (1296 - (36 * i + (j + 1))) + 1 by omega, fsF, show (36 * i + j) / 36 = i by omega, show (36 * i + j) % 36 = j by omega, if_neg (by rw [h]; decide)]
  rfl
/-! costs -/
def cov (kt : Nat → Int32) (kw kc : Int64) (x : Int32) : Int32 := if x < 0 then 1000 else if firmB kw x = false then 1000 else kt x.toNatClampNeg + (if kc &&& bitI x = 0 then 2 else 1)
def rlx (kw kc : Int64) (i n : Nat) (st : (Nat → Int32) × Bool) : (Nat → Int32) × Bool := if st.1 i ≤ (if firmB kw (nI i) = false then 1000 else cov st.1 kw kc (nbr (nI i) (nI n))) then st else (upd st.1 i (if firmB kw (nI i) = false then 1000 else cov st.1 kw kc (nbr (nI i) (nI n))), true)
def sdF (kw kc : Int64) (i : Nat) (st : (Nat → Int32) × Bool) : Nat → (Nat → Int32) × Bool
  | 0 => st
  | n + 1 => rlx kw kc i n (sdF kw kc i st n)
def clF (kw kc : Int64) (st : (Nat → Int32) × Bool) : Nat → (Nat → Int32) × Bool
  | 0 => st
  | n + 1 => sdF kw kc n (clF kw kc st n) 4
def rdS (kw kc : Int64) : Nat → Bool → (Nat → Int32) → (Nat → Int32)
  | 0, _, z => z
  | n + 1, b, z => if b = true then rdS kw kc n (clF kw kc (z, false) 36).2 (clF kw kc (z, false) 36).1 else z
theorem rdS_f (kw kc : Int64) (n : Nat) (z : Nat → Int32) : rdS kw kc n false z = z := by cases n <;> rfl
def kcX (z : Int32) (f : Int64) : Int64 := if z ≤ 0 then f else 68719476735
def inF (kt : Nat → Int32) (w : Int64) (x : Int32) : Nat → Int32 := if firmB w x = false then cpF kt (fun _ => 1000) 36 else upd (cpF kt (fun _ => 1000) 36) x.toNatClampNeg 0
def nsS (kt : Nat → Int32) (kw kc : Int64) (x : Int32) : Nat → Nat → Int32
  | 0, _ => -4
  | n + 1, k => if cov kt kw kc (nbr x (nI k)) = kt x.toNatClampNeg then nbr x (nI k) else nsS kt kw kc x n (k + 1)
def nxF (kt : Nat → Int32) (kw kc : Int64) (x : Int32) : Int32 := if kt x.toNatClampNeg = 0 then -4 else nsS kt kw kc x 4 0
def spF (kt : Nat → Int32) (kw kc : Int64) : Nat → Int32 → Int32
  | 0, a => a
  | n + 1, a => if a < 0 then a else spF kt kw kc n (nxF kt kw kc a)
theorem vin36 {x : Int32} (h : ¬ x < 0) (h2 : x < 36) : vp_in x 36 := by
  obtain ⟨j, hj, rfl⟩ := nI_of h
  exact vp_in_nI ((nI_ltI hj (by omega)).mp h2) (by omega)
theorem vin_of {x : Int32} (h : vp_in x 36) : ∃ j : Nat, j < 36 ∧ x = nI j := vp_in_of h (by omega)
theorem nbr_ok : ∀ i, i < 36 → ∀ j, j < 4 → nbr (nI i) (nI j) < 36 ∧ (nbr (nI i) (nI j) < 0 ∨ 0 ≤ nbr (nI i) (nI j)) := by decide +kernel
theorem nbr_lt {i j : Nat} (hi : i < 36) (hj : j < 4) : nbr (nI i) (nI j) < 36 := (nbr_ok i hi j hj).1
theorem nbr_lt2 {x : Int32} {j : Nat} (hx : vp_in x 36) (hj : j < 4) : nbr x (nI j) < 36 := by
  obtain ⟨i, hi, rfl⟩ := vin_of hx
  exact nbr_lt hi hj
theorem nsS_rng {kt : Nat → Int32} {kw kc : Int64} {x : Int32} (hx : vp_in x 36) : ∀ n k : Nat, n + k = 4 → nsS kt kw kc x n k < 0 ∨ vp_in (nsS kt kw kc x n k) 36
  | 0, _, _ => Or.inl (by show (-4 : Int32) < 0; decide)
  | n + 1, k, h => by
    rw [nsS]
    split
    · by_cases q : nbr x (nI k) < 0
      · exact Or.inl q
      · exact Or.inr (vin36 q (nbr_lt2 hx (by omega)))
    · exact nsS_rng hx n (k + 1) (by omega)
theorem nxF_rng {kt : Nat → Int32} {kw kc : Int64} {x : Int32} (hx : vp_in x 36) : nxF kt kw kc x < 0 ∨ vp_in (nxF kt kw kc x) 36 := by
  unfold nxF
  split
  · exact Or.inl (by decide)
  · exact nsS_rng hx 4 0 rfl
