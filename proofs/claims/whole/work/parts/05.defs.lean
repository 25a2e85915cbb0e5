def firmB (f : Int64) (x : Int32) : Bool := !decide (f &&& bitI x = 0)
def tiF (m : Nat → Int32) (x : Int32) : Nat → Nat
  | 0 => 0
  | n + 1 => if m n = x then tiF m x n + 1 else tiF m x n
def wkF (f : Int64) (m : Nat → Int32) (x : Int32) : Nat → Int64
  | 0 => f
  | n + 1 => if nI n = x then wkF f m x n else wkF f m x n ||| bitI (m n)
def wkX (z : Int32) (f : Int64) (m : Nat → Int32) (t : Nat) (x : Int32) : Int64 := if z ≤ 0 then wkF f m x t else 68719476735
def ocl (x y : Int32) : Int32 := if y ≤ x then x - (if x / 6 = y / 6 then 1 else 6) else x + (if x / 6 = y / 6 then 1 else 6)
def frX (z : Int32) : Int32 := if z - 1 < 0 then 0 else z - 1
/-- what a seat pulls -/
def plF (kd ce ho : Nat → Int32) (n : Nat) (y x : Int32) : Int32 := wInF kd ce ho y n - 3 * aprt y x
def isGl (kd ce ho : Nat → Int32) (n : Nat) (x y : Int32) : Prop := seatF ce ho y n = true ∧ 0 < plF kd ce ho n y x ∧ ∀ y', seatF ce ho y' n = true → y' ≠ y → plF kd ce ho n y' x < plF kd ce ho n y x
noncomputable def gl (kd ce ho : Nat → Int32) (n : Nat) (x : Int32) : Int32 := @dite _ (∃ y, isGl kd ce ho n x y) (Classical.propDecidable _) (fun h => Classical.choose h) (fun _ => x)
theorem gl_of {kd ce ho : Nat → Int32} {n : Nat} {x y : Int32} (h : isGl kd ce ho n x y) : gl kd ce ho n x = y := by
  have hx : ∃ y, isGl kd ce ho n x y := ⟨y, h⟩
  unfold gl
  rw [dif_pos hx]
  have h2 := Classical.choose_spec hx
  apply Classical.byContradiction
  intro q
  exact absurd (Int32.lt_trans (h.2.2 _ h2.1 q) (h2.2.2 _ h.1 (Ne.symm q))) (Int32.lt_irrefl)
theorem gl_no {kd ce ho : Nat → Int32} {n : Nat} {x : Int32} (h : ¬ ∃ y, isGl kd ce ho n x y) : gl kd ce ho n x = x := by
  unfold gl
  rw [dif_neg h]
noncomputable def mvd (kd ce ho : Nat → Int32) (n : Nat) (z : Int32) (x : Int32) : Int32 := @ite _ (z = 0 ∧ ¬ gl kd ce ho n x = x) (Classical.propDecidable _) (ocl x (gl kd ce ho n x)) x
noncomputable def mvC (kd ce ho : Nat → Int32) (n : Nat) (z : Int32) (m : Nat → Int32) : Nat → Nat
  | 0 => 0
  | t + 1 => @ite _ (z = 0 ∧ ¬ gl kd ce ho n (m t) = m t) (Classical.propDecidable _) (mvC kd ce ho n z m t + 1) (mvC kd ce ho n z m t)
/-- the list of seats, of the first k people -/
def SR (kd ce ho : Nat → Int32) (k n : Nat) (sc sw : Nat → Int32) : Prop := n ≤ k ∧ (∀ i, i < n → seatF ce ho (sc i) k = true ∧ sw i = wInF kd ce ho (sc i) k) ∧ (∀ i j, i < n → j < n → sc i = sc j → i = j) ∧ (∀ j, j < k → 0 < ho j → ∃ i, i < n ∧ sc i = ce j)
def addP (n : Nat) (sc sw : Nat → Int32) (w h : Int32) (n' : Nat) (sc' sw' : Nat → Int32) : Prop := (∃ j, j < n ∧ sc j = w ∧ n' = n ∧ sc' = sc ∧ sw' = upd sw j (sw j + h)) ∨ ((∀ j, j < n → ¬ sc j = w) ∧ n' = n + 1 ∧ sc' = upd sc n w ∧ sw' = upd sw n h)
theorem SR_0 {kd ce ho sc sw : Nat → Int32} : SR kd ce ho 0 0 sc sw := ⟨Nat.le_refl _, fun _ h => absurd h (Nat.not_lt_zero _), fun _ _ h => absurd h (Nat.not_lt_zero _), fun _ h => absurd h (Nat.not_lt_zero _)⟩
theorem SR_skip {kd ce ho sc sw : Nat → Int32} {k n : Nat} (h : SR kd ce ho k n sc sw) (hq : decide (0 < ho k) = false) : SR kd ce ho (k + 1) n sc sw := by
  obtain ⟨h1, h2, h3, h4⟩ := h
  have hq' : ¬ 0 < ho k := of_decide_eq_false hq
  refine ⟨by omega, fun i hi => ?_, h3, fun j hj hp => ?_⟩
  · obtain ⟨a, b⟩ := h2 i hi
    exact ⟨by simp [seatF, a], by simp [wInF, hq', b]⟩
  · rcases Nat.lt_succ_iff_lt_or_eq.mp hj with q | q
    · exact h4 j q hp
    · subst q; exact absurd hp hq'
theorem seatF_ex {ce ho : Nat → Int32} {w : Int32} : ∀ {k : Nat}, seatF ce ho w k = true → ∃ j, j < k ∧ 0 < ho j ∧ ce j = w
  | 0, h => by simp [seatF] at h
  | k + 1, h => by
    simp only [seatF, Bool.or_eq_true, Bool.and_eq_true, decide_eq_true_eq] at h
    rcases h with h | h
    · obtain ⟨j, a, b⟩ := seatF_ex h
      exact ⟨j, by omega, b⟩
    · exact ⟨k, by omega, h⟩
theorem wInF_no {kd ce ho : Nat → Int32} {w : Int32} : ∀ {k : Nat}, seatF ce ho w k = false → wInF kd ce ho w k = 0
  | 0, _ => rfl
  | k + 1, h => by
    simp only [seatF, Bool.or_eq_false_iff, Bool.and_eq_false_iff, decide_eq_false_iff_not] at h
    have h2 : ¬ (0 < ho k ∧ ce k = w) := fun q => h.2.elim (fun r => r q.1) (fun r => r q.2)
    simp [wInF, h2, wInF_no h.1]
theorem SR_add {kd ce ho sc sw sc' sw' : Nat → Int32} {k n n' : Nat} (h : SR kd ce ho k n sc sw) (hq : decide (0 < ho k) = true) (ha : addP n sc sw (ce k) (wt (kd k) (ho k)) n' sc' sw') : SR kd ce ho (k + 1) n' sc' sw' := by
  obtain ⟨h1, h2, h3, h4⟩ := h
  have hq' : 0 < ho k := of_decide_eq_true hq
  rcases ha with ⟨j, hj, e1, rfl, rfl, rfl⟩ | ⟨hno, rfl, rfl, rfl⟩
  · refine ⟨by omega, fun i hi => ?_, h3, fun p hp hpp => ?_⟩
    · obtain ⟨a, b⟩ := h2 i hi
      refine ⟨by simp [seatF, a], ?_⟩
      by_cases q : i = j
      · subst q
        simp [upd, wInF, hq', e1, b]
      · have : ¬ ce k = sc' i := fun r => q (h3 i j hi hj (by rw [← r, e1]))
        simp [upd, q, wInF, this, b]
    · rcases Nat.lt_succ_iff_lt_or_eq.mp hp with q | q
      · exact h4 p q hpp
      · subst q; exact ⟨j, hj, e1⟩
  · have hseat : seatF ce ho (ce k) k = false := by
      cases hs : seatF ce ho (ce k) k with
      | false => rfl
      | true =>
        obtain ⟨p, hp, hpp, e⟩ := seatF_ex hs
        obtain ⟨i, hi, e2⟩ := h4 p hp hpp
        exact absurd (e2.trans e) (hno i hi)
    refine ⟨by omega, fun i hi => ?_, fun i j hi hj e => ?_, fun p hp hpp => ?_⟩
    · by_cases q : i = n
      · subst q
        simp [upd, seatF, wInF, hq', wInF_no hseat]
      · obtain ⟨a, b⟩ := h2 i (by omega)
        have : ¬ ce k = sc i := fun r => hno i (by omega) r.symm
        simp [upd, q, seatF, wInF, a, b, this]
    · by_cases q : i = n
      · by_cases r : j = n
        · omega
        · simp [upd, q, r] at e
          exact absurd e.symm (hno j (by omega))
      · by_cases r : j = n
        · simp [upd, q, r] at e
          exact absurd e (hno i (by omega))
        · simp [upd, q, r] at e
          exact h3 i j (by omega) (by omega) e
    · rcases Nat.lt_succ_iff_lt_or_eq.mp hp with q | q
      · obtain ⟨i, hi, e⟩ := h4 p q hpp
        exact ⟨i, by omega, by simp [upd, Nat.ne_of_lt hi, e]⟩
      · subst q; exact ⟨n, by omega, by simp [upd]⟩
def goF (sc sw : Nat → Int32) (x : Int32) : Nat → Int32 × Int32
  | 0 => (0, x)
  | n + 1 => if sw n - 3 * aprt (sc n) x ≤ (goF sc sw x n).1 then (if sw n - 3 * aprt (sc n) x = (goF sc sw x n).1 then ((goF sc sw x n).1, x) else goF sc sw x n) else (sw n - 3 * aprt (sc n) x, sc n)
theorem i32_le_trans {a b c : Int32} (h : a ≤ b) (h2 : b ≤ c) : a ≤ c := Int32.le_trans h h2
theorem i32_lt_of_le_ne {a b : Int32} (h : a ≤ b) (h2 : ¬ a = b) : a < b := by
  rcases Int32.lt_or_eq_of_le h with q | q
  · exact q
  · exact absurd q h2
/-- what the walk over the seats finds -/
theorem goF_inv (sc sw : Nat → Int32) (x : Int32) : ∀ n : Nat, ((goF sc sw x n).1 = 0 ∧ (goF sc sw x n).2 = x ∧ ∀ j, j < n → sw j - 3 * aprt (sc j) x ≤ 0) ∨ (0 < (goF sc sw x n).1 ∧ (∀ j, j < n → sw j - 3 * aprt (sc j) x ≤ (goF sc sw x n).1) ∧ ((∃ j, j < n ∧ sw j - 3 * aprt (sc j) x = (goF sc sw x n).1 ∧ (goF sc sw x n).2 = sc j ∧ ∀ i, i < n → i ≠ j → sw i - 3 * aprt (sc i) x < (goF sc sw x n).1) ∨ ((goF sc sw x n).2 = x ∧ ∃ i j, i < n ∧ j < n ∧ i ≠ j ∧ sw i - 3 * aprt (sc i) x = (goF sc sw x n).1 ∧ sw j - 3 * aprt (sc j) x = (goF sc sw x n).1)))
  | 0 => Or.inl ⟨rfl, rfl, fun _ h => absurd h (Nat.not_lt_zero _)⟩
  | n + 1 => by
    have ih := goF_inv sc sw x n
    generalize hr : goF sc sw x n = r at ih
    obtain ⟨mo, go⟩ := r
    dsimp only at ih
    by_cases c1 : sw n - 3 * aprt (sc n) x ≤ mo
    · by_cases c2 : sw n - 3 * aprt (sc n) x = mo
      · have e : goF sc sw x (n + 1) = (mo, x) := by simp [goF, hr, c1, c2]
        rw [e]
        dsimp only
        rcases ih with ⟨h1, h2, h3⟩ | ⟨h1, h2, h3⟩
        · refine Or.inl ⟨h1, rfl, fun j hj => ?_⟩
          rcases Nat.lt_succ_iff_lt_or_eq.mp hj with q | q
          · exact h3 j q
          · subst q; rw [c2, h1]; exact Int32.le_refl _
        · refine Or.inr ⟨h1, fun j hj => ?_, Or.inr ⟨rfl, ?_⟩⟩
          · rcases Nat.lt_succ_iff_lt_or_eq.mp hj with q | q
            · exact h2 j q
            · subst q; exact c1
          · rcases h3 with ⟨j, hj, e1, -⟩ | ⟨-, i, j, hi, hj, hij, e1, e2⟩
            · exact ⟨j, n, by omega, by omega, by omega, e1, c2⟩
            · exact ⟨i, j, by omega, by omega, hij, e1, e2⟩
      · have e : goF sc sw x (n + 1) = (mo, go) := by simp [goF, hr, c1, c2]
        rw [e]
        dsimp only
        have clt := i32_lt_of_le_ne c1 c2
        rcases ih with ⟨h1, h2, h3⟩ | ⟨h1, h2, h3⟩
        · refine Or.inl ⟨h1, h2, fun j hj => ?_⟩
          rcases Nat.lt_succ_iff_lt_or_eq.mp hj with q | q
          · exact h3 j q
          · subst q; rw [← h1]; exact c1
        · refine Or.inr ⟨h1, fun j hj => ?_, ?_⟩
          · rcases Nat.lt_succ_iff_lt_or_eq.mp hj with q | q
            · exact h2 j q
            · subst q; exact c1
          · rcases h3 with ⟨j, hj, e1, e2, e3⟩ | ⟨e0, i, j, hi, hj, hij, e1, e2⟩
            · refine Or.inl ⟨j, by omega, e1, e2, fun i hi hij => ?_⟩
              rcases Nat.lt_succ_iff_lt_or_eq.mp hi with q | q
              · exact e3 i q hij
              · subst q; exact clt
            · exact Or.inr ⟨e0, i, j, by omega, by omega, hij, e1, e2⟩
    · have e : goF sc sw x (n + 1) = (sw n - 3 * aprt (sc n) x, sc n) := by simp [goF, hr, c1]
      rw [e]
      dsimp only
      have clt : mo < sw n - 3 * aprt (sc n) x := Int32.not_le.mp c1
      have hle : ∀ j, j < n → sw j - 3 * aprt (sc j) x < sw n - 3 * aprt (sc n) x := by
        intro j hj
        rcases ih with ⟨h1, h2, h3⟩ | ⟨h1, h2, h3⟩
        · exact Int32.lt_of_le_of_lt (h3 j hj) (h1 ▸ clt)
        · exact Int32.lt_of_le_of_lt (h2 j hj) clt
      have hpos : 0 < sw n - 3 * aprt (sc n) x := by
        rcases ih with ⟨h1, h2, h3⟩ | ⟨h1, h2, h3⟩
        · exact h1 ▸ clt
        · exact Int32.lt_trans h1 clt
      refine Or.inr ⟨hpos, fun j hj => ?_, Or.inl ⟨n, by omega, rfl, rfl, fun i hi hij => hle i (by omega)⟩⟩
      rcases Nat.lt_succ_iff_lt_or_eq.mp hj with q | q
      · exact Int32.le_of_lt (hle j q)
      · subst q; exact Int32.le_refl _
theorem goF_gl {kd ce ho sc sw : Nat → Int32} {k n : Nat} (h : SR kd ce ho k n sc sw) (x : Int32) : (goF sc sw x n).2 = gl kd ce ho k x := by
  obtain ⟨h1, h2, h3, h4⟩ := h
  have hpl : ∀ j, j < n → sw j - 3 * aprt (sc j) x = plF kd ce ho k (sc j) x := fun j hj => by rw [(h2 j hj).2]; rfl
  have hse : ∀ y, seatF ce ho y k = true → ∃ j, j < n ∧ sc j = y := fun y hy => by
    obtain ⟨p, hp, hpp, e⟩ := seatF_ex hy
    obtain ⟨i, hi, e2⟩ := h4 p hp hpp
    exact ⟨i, hi, e2.trans e⟩
  rcases goF_inv sc sw x n with ⟨g1, g2, g3⟩ | ⟨g1, g2, g3⟩
  · rw [g2]
    refine (gl_no ?_).symm
    rintro ⟨y, hy, hp, -⟩
    obtain ⟨j, hj, rfl⟩ := hse y hy
    have := g3 j hj
    rw [hpl j hj] at this
    exact absurd hp (Int32.not_lt.mpr this)
  · rcases g3 with ⟨j, hj, e1, e2, e3⟩ | ⟨e0, i, j, hi, hj, hij, e1, e2⟩
    · rw [e2]
      refine (gl_of ⟨(h2 j hj).1, ?_, fun y' hy' hne => ?_⟩).symm
      · rw [← hpl j hj, e1]; exact g1
      · obtain ⟨i, hi, rfl⟩ := hse y' hy'
        rw [← hpl j hj, ← hpl i hi, e1]
        exact e3 i hi (fun q => hne (by rw [q]))
    · rw [e0]
      refine (gl_no ?_).symm
      rintro ⟨y, hy, hp, hm⟩
      obtain ⟨q, hq, rfl⟩ := hse y hy
      have key : ∀ a, a < n → sw a - 3 * aprt (sc a) x = (goF sc sw x n).1 → a = q := by
        intro a ha ea
        apply Classical.byContradiction
        intro ne
        have hne : sc a ≠ sc q := fun r => ne (h3 a q ha hq r)
        have hlt := hm (sc a) (h2 a ha).1 hne
        rw [← hpl a ha, ← hpl q hq, ea] at hlt
        exact absurd hlt (Int32.not_lt.mpr (g2 q hq))
      exact hij ((key i hi e1).trans (key j hj e2).symm)
theorem mvd_id {kd ce ho : Nat → Int32} {n : Nat} {z x : Int32} (h : gl kd ce ho n x = x) : mvd kd ce ho n z x = x := by
  unfold mvd; exact if_neg (fun q => q.2 h)
theorem mvd_go {kd ce ho : Nat → Int32} {n : Nat} {z x : Int32} (h0 : z = 0) (h : ¬ gl kd ce ho n x = x) : mvd kd ce ho n z x = ocl x (gl kd ce ho n x) := by
  unfold mvd; exact if_pos ⟨h0, h⟩
theorem mvd_fr {kd ce ho : Nat → Int32} {n : Nat} {z x : Int32} (h : ¬ z = 0) : mvd kd ce ho n z x = x := by
  unfold mvd; exact if_neg (fun q => h q.1)
theorem mvC_fr {kd ce ho : Nat → Int32} {n : Nat} {z : Int32} {m : Nat → Int32} (h : ¬ z = 0) : ∀ t, mvC kd ce ho n z m t = 0
  | 0 => rfl
  | t + 1 => by
    unfold mvC; rw [if_neg (fun q => h q.1)]; exact mvC_fr h t
theorem mvC_s {kd ce ho : Nat → Int32} {n : Nat} {z : Int32} {m : Nat → Int32} {t : Nat} (h0 : z = 0) (h : ¬ gl kd ce ho n (m t) = m t) : mvC kd ce ho n z m t + 1 = mvC kd ce ho n z m (t + 1) := by
  rw [mvC]; exact (if_pos ⟨h0, h⟩).symm
theorem mvC_k {kd ce ho : Nat → Int32} {n : Nat} {z : Int32} {m : Nat → Int32} {t : Nat} (h : gl kd ce ho n (m t) = m t) : mvC kd ce ho n z m t = mvC kd ce ho n z m (t + 1) := by
  rw [mvC]; exact (if_neg (fun q => q.2 h)).symm
theorem cpF_keep {α : Type} {f h : Nat → α} {k : Nat} (e : h k = f k) : cpF f h k = cpF f h (k + 1) := by
  funext j
  simp only [cpF]
  by_cases r : j < k
  · simp [r, Nat.lt_succ_of_lt r]
  · by_cases q : j = k
    · subst q; simp [e]
    · have : ¬ j < k + 1 := by omega
      simp [r, this]
theorem cpF_put {f h : Nat → Int32} {k : Nat} {v : Int32} (e : v = h k) : upd (cpF f h k) k v = cpF f h (k + 1) := by
  rw [e]; exact cpF_s f h k
theorem cpF_id {α : Type} {f h : Nat → α} (e : ∀ j, h j = f j) (k : Nat) : cpF f h k = f := by
  funext j; simp only [cpF]; split
  · exact e j
  · rfl
theorem cpF_at {α : Type} {f h : Nat → α} (k : Nat) : cpF f h k k = f k := by simp [cpF]
theorem tiF_a {m : Nat → Int32} {x : Int32} {k : Nat} (h : ¬ m k = x) : tiF m x k = tiF m x (k + 1) := by
  rw [tiF]; exact (if_neg h).symm
theorem tiF_c {m : Nat → Int32} {x : Int32} {k : Nat} (h : m k = x) : tiF m x k + 1 = tiF m x (k + 1) := by
  rw [tiF]; exact (if_pos h).symm
theorem wkF_a {f : Int64} {m : Nat → Int32} {x : Int32} {k : Nat} (h : nI k = x) : wkF f m x k = wkF f m x (k + 1) := by
  rw [wkF]; exact (if_pos h).symm
theorem wkF_c {f : Int64} {m : Nat → Int32} {x : Int32} {k : Nat} (h : ¬ nI k = x) : wkF f m x k ||| bitI (m k) = wkF f m x (k + 1) := by
  rw [wkF]; exact (if_neg h).symm
