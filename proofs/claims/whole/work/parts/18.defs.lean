/-! bits -/
theorem bitI_bv : ∀ j, j < 64 → (bitI (nI j)).toBitVec = BitVec.twoPow 64 j := by decide +kernel
theorem shc_bv : ∀ j, j < 64 → (nI j).toInt64 &&& 63 = lN j := by decide +kernel
theorem shm_bv : ∀ j, j < 64 → ((lN j).toBitVec.smod 64).toNat = j := by decide +kernel
theorem i64_ext {x y : Int64} (h : ∀ i, i < 64 → x.toBitVec.getLsbD i = y.toBitVec.getLsbD i) : x = y := by
  apply Int64.toBitVec_inj.mp
  exact BitVec.eq_of_getLsbD_eq (fun i hi => h i hi)
theorem firmB_bit {f : Int64} {j : Nat} (hj : j < 64) : firmB f (nI j) = f.toBitVec.getLsbD j := by
  have e : (f &&& bitI (nI j) = 0) ↔ f.toBitVec.getLsbD j = false := by
    rw [← Int64.toBitVec_inj, Int64.toBitVec_and, bitI_bv j hj, BitVec.and_twoPow]
    cases hq : f.toBitVec.getLsbD j with
    | false => simp
    | true =>
      simp only [if_true]
      constructor
      · intro h
        have h2 := congrArg (fun z : BitVec 64 => z.getLsbD j) h
        simp [BitVec.getLsbD_twoPow, hj] at h2
      · intro h; cases h
  unfold firmB
  cases hq : f.toBitVec.getLsbD j with
  | false => rw [decide_eq_true (e.mpr hq)]; rfl
  | true => rw [decide_eq_false (fun q => by rw [e.mp q] at hq; cases hq)]; rfl
def hasJ (f : Int64) (x : Int32) : Bool := decide ((f >>> (x.toInt64 &&& 63)) &&& 1 = 1)
theorem hasJ_bit {f : Int64} {j : Nat} (hj : j < 64) : hasJ f (nI j) = f.toBitVec.getLsbD j := by
  have e : ((f >>> ((nI j).toInt64 &&& 63)) &&& 1 = 1) ↔ f.toBitVec.getLsbD j = true := by
    rw [shc_bv j hj, ← Int64.toBitVec_inj, Int64.toBitVec_and, Int64.toBitVec_shiftRight]
    have e1 : (1 : Int64).toBitVec = BitVec.twoPow 64 0 := by decide
    rw [e1, BitVec.and_twoPow]
    have e2 : (f.toBitVec.sshiftRight' ((lN j).toBitVec.smod 64)).getLsbD 0 = f.toBitVec.getLsbD j := by
      rw [BitVec.sshiftRight', shm_bv j hj, BitVec.getLsbD_sshiftRight]
      simp [hj]
    have e3 : (f.toBitVec.sshiftRight' ((lN j).toBitVec.smod (64 : BitVec 64))).getLsbD 0 = f.toBitVec.getLsbD j := e2
    have e4 : (Int64.toBitVec 64) = (64 : BitVec 64) := by decide
    rw [show (f.toBitVec.sshiftRight' ((lN j).toBitVec.smod 64)).getLsbD 0 = f.toBitVec.getLsbD j from e2]
    cases hq : f.toBitVec.getLsbD j with
    | false =>
      simp only [Bool.false_eq_true, if_false, iff_false]
      decide
    | true => simp
  unfold hasJ
  cases hq : f.toBitVec.getLsbD j with
  | false => rw [decide_eq_false (fun q => by rw [e.mp q] at hq; cases hq)]
  | true => rw [decide_eq_true (e.mpr hq)]
theorem hasJ_firm {f : Int64} {x : Int32} (h : vp_in x 36) : hasJ f x = firmB f x := by
  obtain ⟨j, hj, rfl⟩ := vin_of h
  rw [hasJ_bit (by omega), firmB_bit (by omega)]
theorem firmB_or {a b : Int64} {j : Nat} (hj : j < 64) : firmB (a ||| b) (nI j) = (firmB a (nI j) || firmB b (nI j)) := by
  rw [firmB_bit hj, firmB_bit hj, firmB_bit hj, Int64.toBitVec_or, BitVec.getLsbD_or]
theorem firmB_bitI {i j : Nat} (hi : i < 64) (hj : j < 64) : firmB (bitI (nI i)) (nI j) = decide (i = j) := by
  rw [firmB_bit hj, bitI_bv i hi, BitVec.getLsbD_twoPow]
  simp [hi, hj]
theorem firmB_0 {j : Nat} (hj : j < 64) : firmB 0 (nI j) = false := by
  rw [firmB_bit hj]; simp
theorem or64_0 (x : Int64) : x ||| 0 = x := by
  apply i64_ext; intro i _; simp
theorem or32_0 (x : Int32) : x ||| 0 = x := by
  apply Int32.toBitVec_inj.mp; simp
/-! numbers as told -/
theorem i64_le_of (x : Int32) (y : Int32) : (x.toInt64 < y.toInt64) ↔ x < y := by
  rw [Int64.lt_iff_toInt_lt, Int32.lt_iff_toInt_lt, Int32.toInt_toInt64, Int32.toInt_toInt64]
theorem inJ_gen {x lo hi : Int32} : inJ x.toInt64 lo.toInt64 hi.toInt64 = (!decide (x < lo) && !decide (hi < x)) := by
  unfold inJ
  congr 1
  · congr 1; exact decide_eq_decide.mpr (i64_le_of _ _)
  · congr 1; exact decide_eq_decide.mpr (i64_le_of _ _)
theorem lt_succ32 {x : Int32} {n : Nat} (hn : n + 1 < 2 ^ 31) : (nI n < x) ↔ (nI (n + 1) ≤ x) := by
  rw [Int32.lt_iff_toInt_lt, Int32.le_iff_toInt_le, nI_toInt (by omega), nI_toInt hn]
  omega
theorem inJ_bel {x : Int32} (n : Nat) (hn : n + 1 < 2 ^ 31) {v : Int64} (hv : v = (nI n).toInt64) : inJ x.toInt64 0 v = bel x (nI (n + 1)) := by
  subst hv
  rw [show (0 : Int64) = (0 : Int32).toInt64 from by decide, inJ_gen]
  unfold bel
  congr 1
  congr 1; exact decide_eq_decide.mpr (lt_succ32 hn)
theorem inJ_beln {x : Int32} {n : Nat} (hn : n < 2 ^ 30) : inJ x.toInt64 0 (nI n - 1).toInt64 = bel x (nI n) := by
  cases n with
  | zero =>
    rw [show (0 : Int64) = (0 : Int32).toInt64 from by decide, inJ_gen]
    unfold bel
    by_cases h : x < 0
    · simp [h]
    · have h2 : 0 ≤ x := Int32.not_lt.mp h
      have h3 : nI 0 - 1 < x := by
        rw [Int32.lt_iff_toInt_lt]
        rw [Int32.le_iff_toInt_le] at h2
        have : (nI 0 - 1 : Int32).toInt = -1 := by decide
        have e0 : (0 : Int32).toInt = 0 := by decide
        omega
      rw [decide_eq_true h3, decide_eq_true (show nI 0 ≤ x from h2)]
  | succ n =>
    rw [nI_pred]
    exact inJ_bel n (by omega) rfl
theorem inJ_stay {x : Int32} : inJ x.toInt64 1 99 = stay x := by
  rw [show (1 : Int64) = (1 : Int32).toInt64 from by decide, show (99 : Int64) = (99 : Int32).toInt64 from by decide, inJ_gen]; rfl
theorem inJ_18 {x : Int32} : inJ x.toInt64 1 8 = (!decide (x < 1) && !decide (8 < x)) := by
  rw [show (1 : Int64) = (1 : Int32).toInt64 from by decide, show (8 : Int64) = (8 : Int32).toInt64 from by decide, inJ_gen]
theorem not_lt_le (x y : Int32) : (!decide (x < y)) = decide (y ≤ x) := by
  by_cases h : x < y
  · rw [decide_eq_true h, decide_eq_false (Int32.not_le.mpr h)]; rfl
  · rw [decide_eq_false h, decide_eq_true (Int32.not_lt.mp h)]; rfl
theorem inJ_34 {x : Int32} : inJ x.toInt64 (-1) 34 = (!decide (x < -1) && decide (x ≤ 34)) := by
  rw [show (-1 : Int64) = (-1 : Int32).toInt64 from by decide, show (34 : Int64) = (34 : Int32).toInt64 from by decide, inJ_gen, not_lt_le 34 x]
/-! the seats as the model holds them -/
def SA (kd ce ho : Nat → Int32) (n : Nat) (w : Int64) (sc : Nat → Int32) : Prop := ∀ i, i < 36 → firmB w (nI i) = seatF ce ho (nI i) n ∧ (seatF ce ho (nI i) n = true → sc i = wInF kd ce ho (nI i) n)
def SB (kd ce ho : Nat → Int32) (n k : Nat) (w : Int64) (sc : Nat → Int32) : Prop := (∀ i, i < 36 → firmB w (nI i) = seatF ce ho (nI i) k) ∧ ∀ i, i < 36 → (∃ j, j < n ∧ ce j = nI i) → sc i = wInF kd ce ho (nI i) k
theorem SB_0 {kd ce ho sc : Nat → Int32} {n : Nat} (h : ∀ j, j < n → sc (ce j).toNatClampNeg = 0) : SB kd ce ho n 0 0 sc := by
  refine ⟨fun i hi => firmB_0 (by omega), fun i hi ⟨j, hj, e⟩ => ?_⟩
  have := h j hj
  rw [e, nI_clamp (by omega)] at this
  exact this
theorem SB_SA {kd ce ho sc : Nat → Int32} {n : Nat} {w : Int64} (h : SB kd ce ho n n w sc) : SA kd ce ho n w sc := by
  intro i hi
  refine ⟨h.1 i hi, fun q => ?_⟩
  obtain ⟨j, hj, -, e⟩ := seatF_ex q
  exact h.2 i hi ⟨j, hj, e⟩
theorem SB_a {kd ce ho sc : Nat → Int32} {n k : Nat} {w : Int64} (h : SB kd ce ho n k w sc) (q : ho k ≤ 0) : SB kd ce ho n (k + 1) w sc := by
  have q' := i_npos q
  refine ⟨fun i hi => ?_, fun i hi e => ?_⟩
  · rw [h.1 i hi]; simp [seatF, q']
  · rw [h.2 i hi e]; simp [wInF, q']
theorem SB_c {kd ce ho sc : Nat → Int32} {n k : Nat} {w : Int64} (h : SB kd ce ho n k w sc) (hk : k < n) (hc : vp_in (ce k) 36) (q : ¬ ho k ≤ 0) : SB kd ce ho n (k + 1) (w ||| bitI (ce k)) (upd sc (ce k).toNatClampNeg (sc (ce k).toNatClampNeg + wt (kd k) (ho k))) := by
  have q' := i_pos q
  obtain ⟨a, ha, e⟩ := vin_of hc
  refine ⟨fun i hi => ?_, fun i hi ex => ?_⟩
  · rw [firmB_or (by omega), h.1 i hi, e, firmB_bitI (by omega) (by omega)]
    have : decide (a = i) = decide (ce k = nI i) := by
      rw [e]; exact decide_eq_decide.mpr (nI_eq (by omega) (by omega)).symm
    simp [seatF, q', this]
  · rw [e, nI_clamp (by omega)]
    by_cases r : i = a
    · subst r
      have := h.2 i hi ⟨k, hk, e⟩
      simp [upd, wInF, q', e, this]
    · have : ¬ ce k = nI i := fun z => r ((nI_eq (by omega) (by omega)).mp (z.symm.trans e))
      simp [upd, r, wInF, this, h.2 i hi ex]
theorem SA_at {kd ce ho sc : Nat → Int32} {n : Nat} {w : Int64} (h : SA kd ce ho n w sc) {x : Int32} (hx : vp_in x 36) : firmB w x = seatF ce ho x n ∧ (firmB w x = true → sc x.toNatClampNeg = wInF kd ce ho x n) := by
  obtain ⟨j, hj, rfl⟩ := vin_of hx
  rw [nI_clamp (by omega)]
  exact ⟨(h j hj).1, fun q => (h j hj).2 ((h j hj).1 ▸ q)⟩
/-- the model's walk over the cells, for a tuft at x -/
def gmF (kd ce ho : Nat → Int32) (n : Nat) (x : Int32) : Nat → Int32 × Int32 × Bool
  | 0 => (0, -1, false)
  | i + 1 => if seatF ce ho (nI i) n = false then gmF kd ce ho n x i else if plF kd ce ho n (nI i) x ≤ (gmF kd ce ho n x i).1 then ((gmF kd ce ho n x i).1, (gmF kd ce ho n x i).2.1, decide (plF kd ce ho n (nI i) x = (gmF kd ce ho n x i).1) || (gmF kd ce ho n x i).2.2) else (plF kd ce ho n (nI i) x, nI i, false)
theorem gmF_inv (kd ce ho : Nat → Int32) (n : Nat) (x : Int32) : ∀ i : Nat, i ≤ 36 → ((gmF kd ce ho n x i).1 = 0 ∧ (gmF kd ce ho n x i).2.1 = -1 ∧ ∀ j, j < i → seatF ce ho (nI j) n = true → plF kd ce ho n (nI j) x ≤ 0) ∨ (0 < (gmF kd ce ho n x i).1 ∧ (∀ j, j < i → seatF ce ho (nI j) n = true → plF kd ce ho n (nI j) x ≤ (gmF kd ce ho n x i).1) ∧ ∃ j, j < i ∧ seatF ce ho (nI j) n = true ∧ (gmF kd ce ho n x i).2.1 = nI j ∧ plF kd ce ho n (nI j) x = (gmF kd ce ho n x i).1 ∧ ((gmF kd ce ho n x i).2.2 = false → ∀ k, k < i → seatF ce ho (nI k) n = true → k ≠ j → plF kd ce ho n (nI k) x < (gmF kd ce ho n x i).1) ∧ ((gmF kd ce ho n x i).2.2 = true → ∃ k, k < i ∧ k ≠ j ∧ seatF ce ho (nI k) n = true ∧ plF kd ce ho n (nI k) x = (gmF kd ce ho n x i).1))
  | 0, _ => Or.inl ⟨rfl, rfl, fun _ h => absurd h (Nat.not_lt_zero _)⟩
  | i + 1, hi => by
    have ih := gmF_inv kd ce ho n x i (by omega)
    generalize hr : gmF kd ce ho n x i = r at ih
    obtain ⟨mo, to, two⟩ := r
    dsimp only at ih
    cases hs : seatF ce ho (nI i) n with
    | false =>
      have e : gmF kd ce ho n x (i + 1) = (mo, to, two) := by simp [gmF, hr, hs]
      rw [e]; dsimp only
      rcases ih with ⟨h1, h2, h3⟩ | ⟨h1, h2, j, hj, a1, a2, a3, a4, a5⟩
      · refine Or.inl ⟨h1, h2, fun j hj q => ?_⟩
        rcases Nat.lt_succ_iff_lt_or_eq.mp hj with c | c
        · exact h3 j c q
        · subst c; rw [hs] at q; cases q
      · refine Or.inr ⟨h1, fun k hk q => ?_, j, by omega, a1, a2, a3, fun f k hk q ne => ?_, fun f => ?_⟩
        · rcases Nat.lt_succ_iff_lt_or_eq.mp hk with c | c
          · exact h2 k c q
          · subst c; rw [hs] at q; cases q
        · rcases Nat.lt_succ_iff_lt_or_eq.mp hk with c | c
          · exact a4 f k c q ne
          · subst c; rw [hs] at q; cases q
        · obtain ⟨k, b1, b2, b3, b4⟩ := a5 f
          exact ⟨k, by omega, b2, b3, b4⟩
    | true =>
      by_cases c1 : plF kd ce ho n (nI i) x ≤ mo
      · have e : gmF kd ce ho n x (i + 1) = (mo, to, decide (plF kd ce ho n (nI i) x = mo) || two) := by simp [gmF, hr, hs, c1]
        rw [e]; dsimp only
        rcases ih with ⟨h1, h2, h3⟩ | ⟨h1, h2, j, hj, a1, a2, a3, a4, a5⟩
        · refine Or.inl ⟨h1, h2, fun j hj q => ?_⟩
          rcases Nat.lt_succ_iff_lt_or_eq.mp hj with c | c
          · exact h3 j c q
          · subst c; rw [← h1]; exact c1
        · refine Or.inr ⟨h1, fun k hk q => ?_, j, by omega, a1, a2, a3, fun f k hk q ne => ?_, fun f => ?_⟩
          · rcases Nat.lt_succ_iff_lt_or_eq.mp hk with c | c
            · exact h2 k c q
            · subst c; exact c1
          · simp only [Bool.or_eq_false_iff, decide_eq_false_iff_not] at f
            rcases Nat.lt_succ_iff_lt_or_eq.mp hk with c | c
            · exact a4 f.2 k c q ne
            · subst c; exact i32_lt_of_le_ne c1 f.1
          · simp only [Bool.or_eq_true, decide_eq_true_eq] at f
            rcases f with f | f
            · exact ⟨i, by omega, by omega, hs, f⟩
            · obtain ⟨k, b1, b2, b3, b4⟩ := a5 f
              exact ⟨k, by omega, b2, b3, b4⟩
      · have e : gmF kd ce ho n x (i + 1) = (plF kd ce ho n (nI i) x, nI i, false) := by simp [gmF, hr, hs, c1]
        rw [e]; dsimp only
        have clt : mo < plF kd ce ho n (nI i) x := Int32.not_le.mp c1
        have hle : ∀ j, j < i → seatF ce ho (nI j) n = true → plF kd ce ho n (nI j) x < plF kd ce ho n (nI i) x := by
          intro j hj q
          rcases ih with ⟨h1, h2, h3⟩ | ⟨h1, h2, -⟩
          · exact Int32.lt_of_le_of_lt (h3 j hj q) (h1 ▸ clt)
          · exact Int32.lt_of_le_of_lt (h2 j hj q) clt
        have hpos : 0 < plF kd ce ho n (nI i) x := by
          rcases ih with ⟨h1, h2, h3⟩ | ⟨h1, h2, -⟩
          · exact h1 ▸ clt
          · exact Int32.lt_trans h1 clt
        refine Or.inr ⟨hpos, fun k hk q => ?_, i, by omega, hs, rfl, rfl, fun _ k hk q ne => hle k (by omega) q, fun f => by cases f⟩
        rcases Nat.lt_succ_iff_lt_or_eq.mp hk with c | c
        · exact Int32.le_of_lt (hle k c q)
        · subst c; exact Int32.le_refl _
/-- every seat is a cell -/
theorem seat_cell {ce ho : Nat → Int32} {n : Nat} (hc : ∀ j, j < n → vp_in (ce j) 36) {y : Int32} (h : seatF ce ho y n = true) : ∃ i, i < 36 ∧ y = nI i := by
  obtain ⟨j, hj, -, e⟩ := seatF_ex h
  subst e
  exact vin_of (hc j hj)
theorem gmF_gl {kd ce ho : Nat → Int32} {n : Nat} (hc : ∀ j, j < n → vp_in (ce j) 36) (x : Int32) : (¬ (gmF kd ce ho n x 36).2.1 < 0 ∧ (gmF kd ce ho n x 36).2.2 = false ∧ gl kd ce ho n x = (gmF kd ce ho n x 36).2.1) ∨ (((gmF kd ce ho n x 36).2.1 < 0 ∨ (gmF kd ce ho n x 36).2.2 = true) ∧ gl kd ce ho n x = x) := by
  rcases gmF_inv kd ce ho n x 36 (Nat.le_refl _) with ⟨h1, h2, h3⟩ | ⟨h1, h2, j, hj, a1, a2, a3, a4, a5⟩
  · refine Or.inr ⟨Or.inl (by rw [h2]; decide), gl_no ?_⟩
    rintro ⟨y, hy, hp, -⟩
    obtain ⟨i, hi, rfl⟩ := seat_cell hc hy
    exact absurd hp (Int32.not_lt.mpr (h3 i hi hy))
  · cases ht : (gmF kd ce ho n x 36).2.2 with
    | false =>
      refine Or.inl ⟨by rw [a2]; exact nI_pos (by omega), rfl, ?_⟩
      rw [a2]
      refine gl_of ⟨a1, by rw [a3]; exact h1, fun y' hy' hne => ?_⟩
      obtain ⟨i, hi, rfl⟩ := seat_cell hc hy'
      rw [a3]
      exact a4 ht i hi hy' (fun q => hne (by rw [q]))
    | true =>
      refine Or.inr ⟨Or.inr rfl, gl_no ?_⟩
      rintro ⟨y, hy, hp, hm⟩
      obtain ⟨i, hi, rfl⟩ := seat_cell hc hy
      obtain ⟨k, b1, b2, b3, b4⟩ := a5 ht
      have key : ∀ a, a < 36 → seatF ce ho (nI a) n = true → plF kd ce ho n (nI a) x = (gmF kd ce ho n x 36).1 → a = i := by
        intro a ha hsa ea
        apply Classical.byContradiction
        intro ne
        have hne : nI a ≠ nI i := fun r => ne ((nI_eq (by omega) (by omega)).mp r)
        have hlt := hm (nI a) hsa hne
        rw [ea] at hlt
        exact absurd hlt (Int32.not_lt.mpr (h2 i hi hy))
      exact b2 ((key k b1 b3 b4).trans (key j hj a1 a3).symm)
theorem near_ocl {x y : Int32} (h : ¬ x = y) : (if x ≤ y then x + (if x / 6 = y / 6 then 1 else 6) else x - (if x / 6 = y / 6 then 1 else 6)) = ocl x y := by
  unfold ocl
  by_cases q : x ≤ y
  · have : ¬ y ≤ x := fun r => h (Int32.le_antisymm q r)
    rw [if_pos q, if_neg this]
  · have : y ≤ x := Int32.le_of_lt (Int32.not_le.mp q)
    rw [if_neg q, if_pos this]
theorem frM_eq : ∀ n, n < 10 → (if nI n ≤ 0 then 0 else nI n - 1) = frX (nI n) := by decide +kernel
/-! the model's steps -/
def sprF (w : Int64) : Int64 := ((((w ||| w <<< ((6 : Int32).toInt64 &&& 63)) ||| w >>> ((6 : Int32).toInt64 &&& 63)) ||| (w &&& (-34905131041)) <<< ((1 : Int32).toInt64 &&& 63)) ||| (w &&& (-1090785346)) >>> ((1 : Int32).toInt64 &&& 63)) &&& 68719476735
def smF (w : Int64) (y : Int32) : Nat → Nat → Int64 → Int32
  | 0, _, _ => -4
  | n + 1, k, z => if firmB z y = true then nI k else smF w y n (k + 1) (sprF z &&& w)
def stM (w : Int64) (x y : Int32) : Int32 := if firmB w x = false then -4 else if firmB w y = false then -4 else smF w y 36 0 (bitI x)
/-- within the 36 cells -/
def in36 (z : Int64) : Prop := z &&& 68719476735 = z
theorem shr_eq {z : Int64} (h : z &&& 68719476735 = z) : ∀ k : Int32, (k = 6 ∨ k = 1) → z >>> (k.toInt64 &&& 63) = (z.toUInt64 >>> (k.toInt64.toUInt64 &&& Int64.toUInt64 63)).toInt64 := by
  intro k hk
  have hm : z.toBitVec.msb = false := by
    rw [← h, Int64.toBitVec_and, BitVec.msb_and]
    have : (Int64.toBitVec 68719476735).msb = false := by decide
    rw [this, Bool.and_false]
  apply Int64.toBitVec_inj.mp
  rcases hk with rfl | rfl
  · rw [Int64.toBitVec_shiftRight]
    show z.toBitVec.sshiftRight' _ = _
    rw [BitVec.sshiftRight', BitVec.sshiftRight_eq_of_msb_false hm]
    rfl
  · rw [Int64.toBitVec_shiftRight]
    show z.toBitVec.sshiftRight' _ = _
    rw [BitVec.sshiftRight', BitVec.sshiftRight_eq_of_msb_false hm]
    rfl
theorem and64_assoc (a b c : Int64) : (a &&& b) &&& c = a &&& (b &&& c) := by
  apply i64_ext; intro i _; simp [Bool.and_assoc]
theorem and64_comm (a b : Int64) : a &&& b = b &&& a := by
  apply i64_ext; intro i _; simp [Bool.and_comm]
theorem or64_assoc (a b c : Int64) : (a ||| b) ||| c = a ||| (b ||| c) := by
  apply i64_ext; intro i _; simp [Bool.or_assoc]
theorem and_or64 (a b c : Int64) : (a ||| b) &&& c = (a &&& c) ||| (b &&& c) := by
  apply i64_ext; intro i _; simp [Bool.and_or_distrib_right]
theorem and36 {z m : Int64} (h : z &&& 68719476735 = z) : (z &&& m) &&& 68719476735 = z &&& m := by
  rw [and64_assoc, and64_comm m, ← and64_assoc, h]
theorem spr_bsd {z : Int64} (h : in36 z) : sprF z = z ||| bsd z := by
  unfold in36 at h
  unfold sprF bsd
  rw [shr_eq h 6 (Or.inl rfl), shr_eq (and36 h) 1 (Or.inr rfl)]
  generalize z <<< ((6 : Int32).toInt64 &&& 63) = a
  generalize (z.toUInt64 >>> ((6 : Int32).toInt64.toUInt64 &&& Int64.toUInt64 63)).toInt64 = b
  generalize (z &&& (-34905131041)) <<< ((1 : Int32).toInt64 &&& 63) = c
  generalize ((z &&& (-1090785346)).toUInt64 >>> ((1 : Int32).toInt64.toUInt64 &&& Int64.toUInt64 63)).toInt64 = e
  have : (((((z ||| a) ||| b) ||| c) ||| e) &&& 68719476735 : Int64) = (z &&& 68719476735) ||| (((a ||| b) ||| (c ||| e)) &&& 68719476735) := by
    rw [← and_or64]; congr 1; simp only [or64_assoc]
  rw [this, h]
theorem bsd36 (z : Int64) : in36 (bsd z) := by
  unfold in36 bsd
  rw [and64_assoc]; rfl
theorem or36 {a b : Int64} (ha : in36 a) (hb : in36 b) : in36 (a ||| b) := by
  unfold in36 at *; rw [and_or64, ha, hb]
theorem sub_and {z w : Int64} (h : z &&& w = z) : (z ||| bsd z) &&& w = z ||| (bsd z &&& w) := by
  rw [and_or64, h]
theorem sub_step {z w : Int64} (h : z &&& w = z) : (z ||| (bsd z &&& w)) &&& w = z ||| (bsd z &&& w) := by
  rw [and_or64, h, and64_assoc]
  congr 2
  apply i64_ext; intro i _; simp
theorem bitI36 : ∀ j, j < 36 → in36 (bitI (nI j)) := by
  have : ∀ j, j < 36 → bitI (nI j) &&& 68719476735 = bitI (nI j) := by decide +kernel
  exact this
theorem firm_and0 {f : Int64} {x : Int32} : (f &&& bitI x = 0) ↔ firmB f x = false := by
  unfold firmB; simp
/-- a fixpoint stays -/
theorem smF_fix {w : Int64} {y : Int32} {z : Int64} (hz : sprF z &&& w = z) (hy : firmB z y = false) : ∀ n k, smF w y n k z = -4
  | 0, _ => rfl
  | n + 1, k => by rw [smF, if_neg (by rw [hy]; decide), hz]; exact smF_fix hz hy n (k + 1)
theorem sm_st {w : Int64} {y : Int32} : ∀ (n k : Nat) (z : Int64), in36 z → z &&& w = z → smF w y n k z = stF w y n k z
  | 0, _, _, _, _ => rfl
  | n + 1, k, z, h1, h2 => by
    have e : sprF z &&& w = z ||| (bsd z &&& w) := by rw [spr_bsd h1, sub_and h2]
    rw [smF, stF]
    cases hf : firmB z y with
    | true =>
      rw [if_pos rfl, if_neg (fun q => by rw [firm_and0.mp q] at hf; cases hf)]
    | false =>
      rw [if_neg (by decide), if_pos (firm_and0.mpr hf)]
      by_cases q : z ||| (bsd z &&& w) = z
      · rw [if_pos q, e, q]
        exact smF_fix (by rw [e, q]) hf n (k + 1)
      · rw [if_neg q, e]
        exact sm_st n (k + 1) _ (or36 h1 (by unfold in36; exact and36 (bsd36 z))) (sub_step h2)
theorem stF_0 {w : Int64} {y : Int32} : ∀ n k, stF w y n k 0 = -4
  | 0, _ => rfl
  | n + 1, k => by
    rw [stF, if_pos (by apply i64_ext; intro i _; simp), if_pos (by rw [show bsd 0 = 0 by decide]; apply i64_ext; intro i _; simp)]
theorem stM_eq {w : Int64} {x y : Int32} (hx : vp_in x 36) : stM w x y = stX w x y := by
  obtain ⟨j, hj, rfl⟩ := vin_of hx
  unfold stM stX
  by_cases hy : w &&& bitI y = 0
  · rw [if_pos hy, firm_and0.mp hy]
    split <;> rfl
  · have hy' : firmB w y = true := by
      cases q : firmB w y with
      | true => rfl
      | false => exact absurd (firm_and0.mpr q) hy
    rw [if_neg hy, hy']
    cases hq : firmB w (nI j) with
    | false =>
      rw [if_pos rfl, and64_comm, firm_and0.mpr hq, stF_0]
    | true =>
      rw [if_neg (by decide), if_neg (by decide)]
      have e : bitI (nI j) &&& w = bitI (nI j) := by
        apply i64_ext
        intro i hi
        rw [Int64.toBitVec_and, BitVec.getLsbD_and, bitI_bv j (by omega), BitVec.getLsbD_twoPow]
        rw [firmB_bit (by omega)] at hq
        by_cases r : j = i
        · subst r; simp [hq]
        · simp [r]
      rw [e]
      exact sm_st 36 0 _ (bitI36 j hj) e
