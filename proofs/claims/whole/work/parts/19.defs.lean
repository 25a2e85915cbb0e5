theorem seat_pos {ho : Nat → Int32} {n j : Nat} (h : ∀ j, j < n → 0 ≤ ho j) (hj : j < n) (q : ¬ ho j = 0) : 0 < ho j := i32_lt_of_le_ne (h j hj) (fun e => q e.symm)
theorem toldF_c {x w : Int32} {n : Nat} {kd ce ho ac : Nat → Int32} (h : bel x (nI n) = true) : toldF x w n kd ce ho ac = if w = 0 then kd x.toNatClampNeg else if w = 1 then (if 0 < ho x.toNatClampNeg then ce x.toNatClampNeg else -4) else if w = 2 then ho x.toNatClampNeg else if w = 3 then ac x.toNatClampNeg else -1 := by
  unfold toldF; rw [h]; exact if_neg (by decide)
theorem bel4 {w : Int32} (h : bel w 4 = true) (h0 : ¬ w = 0) (h1 : ¬ w = 1) (h2 : ¬ w = 2) : w = 3 := by
  obtain ⟨j, hj, rfl⟩ := bel_nat (n := 4) (by omega) h
  have a0 : j ≠ 0 := fun q => h0 (by rw [q]; rfl)
  have a1 : j ≠ 1 := fun q => h1 (by rw [q]; rfl)
  have a2 : j ≠ 2 := fun q => h2 (by rw [q]; rfl)
  have : j = 3 := by omega
  rw [this]; rfl
theorem toldF_out {x w : Int32} {n : Nat} {kd ce ho ac : Nat → Int32} (h : bel w 4 = false) : -1 = toldF x w n kd ce ho ac := by
  have h0 : ¬ w = 0 := fun q => by rw [q] at h; exact absurd h (by decide)
  have h1 : ¬ w = 1 := fun q => by rw [q] at h; exact absurd h (by decide)
  have h2 : ¬ w = 2 := fun q => by rw [q] at h; exact absurd h (by decide)
  have h3 : ¬ w = 3 := fun q => by rw [q] at h; exact absurd h (by decide)
  unfold toldF
  simp [h0, h1, h2, h3]
theorem ofF_out {x w : Int32} {f : Int64} {t : Nat} {m : Nat → Int32} {z : Int32} {n : Nat} {kd ce ho : Nat → Int32} (h : bel x 36 = false ∨ bel w 4 = false) : -1 = ofF x w f t m z n kd ce ho := by
  unfold ofF
  rcases h with h | h
  · rw [if_pos h]
  · have h0 : ¬ w = 0 := fun q => by rw [q] at h; exact absurd h (by decide)
    have h1 : ¬ w = 1 := fun q => by rw [q] at h; exact absurd h (by decide)
    have h2 : ¬ w = 2 := fun q => by rw [q] at h; exact absurd h (by decide)
    have h3 : ¬ w = 3 := fun q => by rw [q] at h; exact absurd h (by decide)
    simp [h0, h1, h2, h3]
def mcF (f : Int64) : Nat → Nat
  | 0 => 0
  | n + 1 => if firmB f (nI n) = true then mcF f n + 1 else mcF f n
theorem mcF_a {f : Int64} {n : Nat} (h : firmB f (nI n) = false) : mcF f n + 0 = mcF f (n + 1) := by
  rw [mcF]; exact (if_neg (by rw [h]; decide)).symm
theorem mcF_c {f : Int64} {n : Nat} (h : firmB f (nI n) = true) : mcF f n + 1 = mcF f (n + 1) := by
  rw [mcF]; exact (if_pos h).symm
/-! the model's tape -/
def sgM (w : Int64) (k : Nat) : Int64 := (w >>> ((nI (8 * k)).toInt64 &&& 63)) &&& 255
def ctM (w : Int64) : Nat → Bool
  | 0 => true
  | n + 1 => ctM w n && inJ (sgM w n) 32 126
theorem ctM_s {w : Int64} {k : Nat} (h : ctM w k = true) (h1 : inJ (sgM w k) 32 126 = true) : ctM w (k + 1) = true := by simp [ctM, h, h1]
theorem ctM_no {w : Int64} {k : Nat} (h : inJ (sgM w k) 32 126 = false) : ∀ {n : Nat}, k < n → ctM w n = false
  | 0, q => absurd q (Nat.not_lt_zero _)
  | n + 1, q => by
    rcases Nat.lt_succ_iff_lt_or_eq.mp q with r | r
    · simp [ctM, ctM_no h r]
    · subst r; simp [ctM, h]
def apM (w : Int64) : Nat → (Nat → Int32) → Nat → (Nat → Int32)
  | 0, z, _ => z
  | j + 1, z, m => apM w j (upd z m (sgM w j).toInt32) (m + 1)
theorem ty18 {x : Int32} (h : (!decide (x < 1) && !decide (8 < x)) = true) : ∃ k, x = nI k ∧ 1 ≤ k ∧ k ≤ 8 := by
  simp only [Bool.and_eq_true, Bool.not_eq_true', decide_eq_false_iff_not] at h
  exact ty_nat h.1 h.2
theorem ty18f {x : Int32} (h : (!decide (x < 1) && !decide (8 < x)) = false) : x < 1 ∨ 8 < x := by
  by_cases a : x < 1
  · exact Or.inl a
  · by_cases b : 8 < x
    · exact Or.inr b
    · rw [decide_eq_false a, decide_eq_false b] at h; exact absurd h (by decide)
theorem rdT_blank {tb : Nat → Int32} {tn pl : Nat} {st : tpS} {a b : Nat} (h : ∀ j, a ≤ j → j < b → tb j = 32) : b ≤ tn → a ≤ b → rdT tb tn (tn - a) a pl st = rdT tb tn (tn - b) b pl st := by
  intro hb hab
  induction b with
  | zero => rw [show a = 0 by omega]
  | succ b ih =>
    by_cases q : a = b + 1
    · rw [q]
    · rw [ih (fun j h1 h2 => h j h1 (by omega)) (by omega) (by omega), show tn - b = (tn - (b + 1)) + 1 by omega, rdT, if_pos (h b (by omega) (by omega))]
theorem rdT_end {tb : Nat → Int32} {tn pl : Nat} {st : tpS} (h : pl < 41) : rdT tb tn (tn - tn) tn pl st = (-20 - nI tn, st) := by
  rw [Nat.sub_self, rdT, if_pos h]
theorem rdT_end2 {tb : Nat → Int32} {tn pl : Nat} {st : tpS} (h : 41 ≤ pl) : rdT tb tn (tn - tn) tn pl st = (nI st.2.2, st) := by
  rw [Nat.sub_self, rdT, if_neg (by omega)]
theorem rdT_no {tb : Nat → Int32} {tn pl a : Nat} {st : tpS} (ha : a < tn) (h : ¬ tb a = 32) (q : (tkF pl (tb a) st).1 = false) : rdT tb tn (tn - a) a pl st = (-20 - nI a, (tkF pl (tb a) st).2) := by
  rw [show tn - a = (tn - (a + 1)) + 1 by omega, rdT, if_neg h, if_neg (by rw [q]; decide)]
theorem rdT_yes {tb : Nat → Int32} {tn pl a : Nat} {st : tpS} (ha : a < tn) (h : ¬ tb a = 32) (q : (tkF pl (tb a) st).1 = true) : rdT tb tn (tn - a) a pl st = rdT tb tn (tn - (a + 1)) (a + 1) (pl + 1) (tkF pl (tb a) st).2 := by
  rw [show tn - a = (tn - (a + 1)) + 1 by omega, rdT, if_neg h, if_pos q]
theorem tk41 {y : Int32} {st : tpS} : (tkF 41 y st).1 = false := by
  unfold tkF
  rw [if_neg (by decide), if_pos ⟨by decide, by decide⟩]
/-- the signs of a place -/
theorem tk_slash {pl : Nat} {y : Int32} {st : tpS} (h : pl < 41) (h6 : pl % 7 = 6) : tkF pl y st = if y = 47 then (true, st) else (false, st) := by
  unfold tkF; rw [if_neg (by omega), if_neg (by omega), if_pos h6]
theorem tk_cell {pl : Nat} {y : Int32} {st : tpS} (h : pl < 41) (h6 : ¬ pl % 7 = 6) : tkF pl y st = tcF (nI (pl - pl / 7)) y st := by
  unfold tkF; rw [if_neg (by omega), if_neg (by omega), if_neg h6, show pl / 7 * 6 + pl % 7 = pl - pl / 7 by omega]
