/-! the cheapest ways: numbers in place of ints -/
def cntP (P : Nat → Bool) : Nat → Nat
  | 0 => 0
  | n + 1 => if P n = true then cntP P n + 1 else cntP P n
theorem cntP_le (P : Nat → Bool) : ∀ n, cntP P n ≤ n
  | 0 => Nat.le_refl _
  | n + 1 => by
    have := cntP_le P n
    rw [cntP]; split <;> omega
theorem cntP_mono {P Q : Nat → Bool} : ∀ n, (∀ i, i < n → P i = true → Q i = true) → cntP P n ≤ cntP Q n
  | 0, _ => Nat.le_refl _
  | n + 1, h => by
    have ih := cntP_mono n (fun i hi => h i (by omega))
    rw [cntP, cntP]
    by_cases q : P n = true
    · rw [if_pos q, if_pos (h n (by omega) q)]; omega
    · rw [if_neg q]; split <;> omega
theorem cntP_lt {P Q : Nat → Bool} {c : Nat} (h1 : Q c = true) (h2 : P c = false) : ∀ n, c < n → (∀ i, i < n → P i = true → Q i = true) → cntP P n < cntP Q n
  | 0, hc, _ => absurd hc (Nat.not_lt_zero _)
  | n + 1, hc, h => by
    rw [cntP, cntP]
    by_cases q : c = n
    · subst q
      have ih := cntP_mono c (fun i hi => h i (by omega))
      rw [if_neg (by rw [h2]; decide), if_pos h1]; omega
    · have ih := cntP_lt h1 h2 n (by omega) (fun i hi => h i (by omega))
      by_cases q2 : P n = true
      · rw [if_pos q2, if_pos (h n (by omega) q2)]; omega
      · rw [if_neg q2]; split <;> omega
theorem cntP_all {P : Nat → Bool} : ∀ n, cntP P n = n → ∀ i, i < n → P i = true
  | 0, _, _, h => absurd h (Nat.not_lt_zero _)
  | n + 1, e, i, hi => by
    have h1 := cntP_le P n
    rw [cntP] at e
    by_cases q : P n = true
    · rw [if_pos q] at e
      by_cases r : i = n
      · rw [r]; exact q
      · exact cntP_all n (by omega) i (by omega)
    · rw [if_neg q] at e; omega
def updN (f : Nat → Nat) (i v : Nat) : Nat → Nat := fun j => if j = i then v else f j
/-- the n-th neighbour -/
def nb (i n : Nat) : Nat := (nbr (nI i) (nI n)).toNatClampNeg
theorem nb_ok {i n : Nat} (hi : i < 36) (hn : n < 4) (h : ¬ nbr (nI i) (nI n) < 0) : nb i n < 36 ∧ nbr (nI i) (nI n) = nI (nb i n) := by
  obtain ⟨j, hj, e⟩ := vin_of (vin36 h (nbr_lt hi hn))
  unfold nb
  rw [e, nI_clamp (by omega)]
  exact ⟨hj, rfl⟩
theorem csN_12 (C : Int64) (x : Int32) : csN C x = 1 ∨ csN C x = 2 := by
  unfold csN; split
  · exact Or.inl rfl
  · exact Or.inr rfl
/-- it may be bettered by a neighbour -/
def bt (W C : Int64) (i n : Nat) (v : Nat → Nat) : Prop := firmB W (nI i) = true ∧ ¬ nbr (nI i) (nI n) < 0 ∧ v (nb i n) + csN C (nI (nb i n)) < v i
def rN (W C : Int64) (i n : Nat) (st : (Nat → Nat) × Bool) : (Nat → Nat) × Bool := @ite _ (bt W C i n st.1) (by unfold bt; exact inferInstance) (updN st.1 i (st.1 (nb i n) + csN C (nI (nb i n))), true) st
theorem rN_y {W C : Int64} {i n : Nat} {v : Nat → Nat} {b : Bool} (h : bt W C i n v) : rN W C i n (v, b) = (updN v i (v (nb i n) + csN C (nI (nb i n))), true) := by unfold rN; exact if_pos h
theorem rN_n {W C : Int64} {i n : Nat} {v : Nat → Nat} {b : Bool} (h : ¬ bt W C i n v) : rN W C i n (v, b) = (v, b) := by unfold rN; exact if_neg h
def sN (W C : Int64) (i : Nat) (st : (Nat → Nat) × Bool) : Nat → (Nat → Nat) × Bool
  | 0 => st
  | n + 1 => rN W C i n (sN W C i st n)
def kN (W C : Int64) (st : (Nat → Nat) × Bool) : Nat → (Nat → Nat) × Bool
  | 0 => st
  | i + 1 => sN W C i (kN W C st i) 4
def vI (W : Int64) (y : Nat) : Nat → Nat := fun i => if i = y ∧ firmB W (nI y) = true then 0 else 1000
def vR (W C : Int64) (y : Nat) : Nat → (Nat → Nat) × Bool
  | 0 => (vI W y, true)
  | r + 1 => kN W C ((vR W C y r).1, false) 36
/-- what holds of a state and stays -/
theorem rN_keep {W C : Int64} {I : (Nat → Nat) → Prop} (h : ∀ i n v, i < 36 → n < 4 → I v → bt W C i n v → I (updN v i (v (nb i n) + csN C (nI (nb i n))))) {i n : Nat} (hi : i < 36) (hn : n < 4) {st : (Nat → Nat) × Bool} (hs : I st.1) : I (rN W C i n st).1 := by
  obtain ⟨v, b⟩ := st
  by_cases q : bt W C i n v
  · rw [rN_y q]; exact h i n v hi hn hs q
  · rw [rN_n q]; exact hs
theorem sN_keep {W C : Int64} {I : (Nat → Nat) → Prop} (h : ∀ i n v, i < 36 → n < 4 → I v → bt W C i n v → I (updN v i (v (nb i n) + csN C (nI (nb i n))))) {i : Nat} (hi : i < 36) {st : (Nat → Nat) × Bool} (hs : I st.1) : ∀ n, n ≤ 4 → I (sN W C i st n).1
  | 0, _ => hs
  | n + 1, q => rN_keep h hi (by omega) (sN_keep h hi hs n (by omega))
theorem kN_keep {W C : Int64} {I : (Nat → Nat) → Prop} (h : ∀ i n v, i < 36 → n < 4 → I v → bt W C i n v → I (updN v i (v (nb i n) + csN C (nI (nb i n))))) {st : (Nat → Nat) × Bool} (hs : I st.1) : ∀ i, i ≤ 36 → I (kN W C st i).1
  | 0, _ => hs
  | i + 1, q => sN_keep h (by omega) (kN_keep h hs i (by omega)) 4 (Nat.le_refl _)
theorem vR_keep {W C : Int64} {y : Nat} {I : (Nat → Nat) → Prop} (h : ∀ i n v, i < 36 → n < 4 → I v → bt W C i n v → I (updN v i (v (nb i n) + csN C (nI (nb i n))))) (h0 : I (vI W y)) : ∀ r, I (vR W C y r).1
  | 0 => h0
  | r + 1 => kN_keep h (st := ((vR W C y r).1, false)) (vR_keep h h0 r) 36 (Nat.le_refl _)
/-- values only fall -/
theorem up_le {W C : Int64} {i n : Nat} {v : Nat → Nat} (q : bt W C i n v) (j : Nat) : updN v i (v (nb i n) + csN C (nI (nb i n))) j ≤ v j := by
  simp only [updN]
  split
  · rename_i e; rw [e]; exact Nat.le_of_lt q.2.2
  · exact Nat.le_refl _
theorem le_keep {W C : Int64} {u : Nat → Nat} : ∀ i n (v : Nat → Nat), i < 36 → n < 4 → (∀ j, v j ≤ u j) → bt W C i n v → (∀ j, updN v i (v (nb i n) + csN C (nI (nb i n))) j ≤ u j) := fun i n v _ _ h q j => Nat.le_trans (up_le q j) (h j)
theorem kN_le {W C : Int64} {st : (Nat → Nat) × Bool} (i : Nat) (hi : i ≤ 36) (j : Nat) : (kN W C st i).1 j ≤ st.1 j := kN_keep (I := fun v => ∀ j, v j ≤ st.1 j) le_keep (fun _ => Nat.le_refl _) i hi j
theorem sN_le {W C : Int64} {st : (Nat → Nat) × Bool} {i : Nat} (hi : i < 36) (n : Nat) (hn : n ≤ 4) (j : Nat) : (sN W C i st n).1 j ≤ st.1 j := sN_keep (I := fun v => ∀ j, v j ≤ st.1 j) le_keep hi (fun _ => Nat.le_refl _) n hn j
theorem vR_le {W C : Int64} {y : Nat} (r j : Nat) : (vR W C y (r + 1)).1 j ≤ (vR W C y r).1 j := kN_le 36 (Nat.le_refl _) j
theorem vR_anti {W C : Int64} {y : Nat} (j r : Nat) : ∀ k, (vR W C y (r + k)).1 j ≤ (vR W C y r).1 j
  | 0 => Nat.le_refl _
  | k + 1 => Nat.le_trans (vR_le (r + k) j) (vR_anti j r k)
/-- a sweep brings what a neighbour offers -/
theorem rN_off {W C : Int64} {i n B : Nat} {st : (Nat → Nat) × Bool} (hf : firmB W (nI i) = true) (hb : ¬ nbr (nI i) (nI n) < 0) (h : st.1 (nb i n) ≤ B) : (rN W C i n st).1 i ≤ B + csN C (nI (nb i n)) := by
  obtain ⟨v, b⟩ := st
  by_cases q : bt W C i n v
  · rw [rN_y q]; simp only [updN]; rw [if_pos trivial]; exact Nat.add_le_add_right h _
  · rw [rN_n q]
    have : ¬ v (nb i n) + csN C (nI (nb i n)) < v i := fun r => q ⟨hf, hb, r⟩
    have h' : v (nb i n) ≤ B := h
    show v i ≤ _
    omega
theorem sN_off {W C : Int64} {i n B : Nat} {st : (Nat → Nat) × Bool} (hi : i < 36) (hn : n < 4) (hf : firmB W (nI i) = true) (hb : ¬ nbr (nI i) (nI n) < 0) (h : st.1 (nb i n) ≤ B) : (sN W C i st 4).1 i ≤ B + csN C (nI (nb i n)) := by
  have key : ∀ m, n < m → m ≤ 4 → (sN W C i st m).1 i ≤ B + csN C (nI (nb i n)) := by
    intro m
    induction m with
    | zero => exact fun h _ => absurd h (Nat.not_lt_zero _)
    | succ m ih =>
      intro h1 h2
      by_cases q : n = m
      · subst q
        exact rN_off hf hb (Nat.le_trans (sN_le hi n (by omega) _) h)
      · refine Nat.le_trans ?_ (ih (by omega) (by omega))
        exact rN_keep (W := W) (C := C) (I := fun v => ∀ j, v j ≤ (sN W C i st m).1 j) le_keep hi (by omega) (fun _ => Nat.le_refl _) i
  exact key 4 hn (Nat.le_refl _)
theorem kN_off {W C : Int64} {i n B : Nat} {st : (Nat → Nat) × Bool} (hi : i < 36) (hn : n < 4) (hf : firmB W (nI i) = true) (hb : ¬ nbr (nI i) (nI n) < 0) (h : st.1 (nb i n) ≤ B) : (kN W C st 36).1 i ≤ B + csN C (nI (nb i n)) := by
  have key : ∀ m, i < m → m ≤ 36 → (kN W C st m).1 i ≤ B + csN C (nI (nb i n)) := by
    intro m
    induction m with
    | zero => exact fun h _ => absurd h (Nat.not_lt_zero _)
    | succ m ih =>
      intro h1 h2
      by_cases q : i = m
      · subst q
        exact sN_off hi hn hf hb (Nat.le_trans (kN_le i (by omega) _) h)
      · refine Nat.le_trans ?_ (ih (by omega) (by omega))
        exact sN_le (by omega) 4 (Nat.le_refl _) i
  exact key 36 hi (Nat.le_refl _)
/-- nothing to better: nothing changes -/
def Fix (W C : Int64) (v : Nat → Nat) : Prop := ∀ i n, i < 36 → n < 4 → ¬ bt W C i n v
theorem sN_fix {W C : Int64} {v : Nat → Nat} {b : Bool} (h : Fix W C v) {i : Nat} (hi : i < 36) : ∀ n, n ≤ 4 → sN W C i (v, b) n = (v, b)
  | 0, _ => rfl
  | n + 1, q => by rw [sN, sN_fix h hi n (by omega), rN_n (h i n hi (by omega))]
theorem kN_fix {W C : Int64} {v : Nat → Nat} {b : Bool} (h : Fix W C v) : ∀ i, i ≤ 36 → kN W C (v, b) i = (v, b)
  | 0, _ => rfl
  | i + 1, q => by rw [kN, kN_fix h i (by omega), sN_fix h (by omega) 4 (Nat.le_refl _)]
/-- the flag is down only where nothing changed -/
theorem sN_flag {W C : Int64} {i : Nat} {st : (Nat → Nat) × Bool} : ∀ n, (sN W C i st n).2 = false → sN W C i st n = st
  | 0, _ => rfl
  | n + 1, h => by
    rw [sN] at h ⊢
    obtain ⟨v, b, e⟩ : ∃ v b, sN W C i st n = (v, b) := ⟨_, _, rfl⟩
    rw [e] at h ⊢
    by_cases q : bt W C i n v
    · rw [rN_y q] at h; cases h
    · rw [rN_n q] at h ⊢
      have := sN_flag (W := W) (C := C) (i := i) (st := st) n (by rw [e]; exact h)
      rw [← e]; exact this
theorem kN_flag {W C : Int64} {st : (Nat → Nat) × Bool} : ∀ i, (kN W C st i).2 = false → kN W C st i = st
  | 0, _ => rfl
  | i + 1, h => by
    rw [kN] at h ⊢
    have e := sN_flag 4 h
    rw [e] at h ⊢
    exact kN_flag i h
/-- a sequence that only falls comes to rest -/
theorem rest1 : ∀ (k : Nat) (f : Nat → Nat), (∀ m, f (m + 1) ≤ f m) → f 0 ≤ k → ∃ N, ∀ m, N ≤ m → f m = f N := by
  intro k
  induction k with
  | zero =>
    intro f hf h0
    have : ∀ m, f m = 0 := by
      intro m
      induction m with
      | zero => omega
      | succ m ih => have := hf m; omega
    exact ⟨0, fun m _ => by rw [this m, this 0]⟩
  | succ k ih =>
    intro f hf h0
    by_cases q : ∃ m, f m < f 0
    · obtain ⟨m, hm⟩ := q
      obtain ⟨N, hN⟩ := ih (fun j => f (m + j)) (fun j => hf (m + j)) (by show f (m + 0) ≤ k; rw [Nat.add_zero]; omega)
      exact ⟨m + N, fun j hj => by have := hN (j - m) (by omega); simpa [show m + (j - m) = j by omega] using this⟩
    · have ha : ∀ m, f m ≤ f 0 := by
        intro m
        induction m with
        | zero => exact Nat.le_refl _
        | succ m ih => exact Nat.le_trans (hf m) ih
      exact ⟨0, fun m _ => Nat.le_antisymm (ha m) (Nat.le_of_not_lt (fun r => q ⟨m, r⟩))⟩
theorem restK (g : Nat → Nat → Nat) (hg : ∀ m j, g (m + 1) j ≤ g m j) : ∀ k, ∃ N, ∀ m, N ≤ m → ∀ j, j < k → g m j = g N j
  | 0 => ⟨0, fun _ _ _ h => absurd h (Nat.not_lt_zero _)⟩
  | k + 1 => by
    obtain ⟨N, hN⟩ := restK g hg k
    obtain ⟨M, hM⟩ := rest1 (g 0 k) (fun m => g m k) (fun m => hg m k) (Nat.le_refl _)
    refine ⟨N + M, fun m hm j hj => ?_⟩
    by_cases q : j = k
    · subst q
      exact (hM m (by omega)).trans (hM (N + M) (by omega)).symm
    · exact (hN m (by omega) j (by omega)).trans (hN (N + M) (by omega) j (by omega)).symm
/-- every value is the first one, or a neighbour gives it -/
def Par (W C : Int64) (y : Nat) (v : Nat → Nat) : Prop := ∀ i, i < 36 → v i = vI W y i ∨ (firmB W (nI i) = true ∧ ∃ n, n < 4 ∧ ¬ nbr (nI i) (nI n) < 0 ∧ v (nb i n) + csN C (nI (nb i n)) ≤ v i)
theorem Par_keep {W C : Int64} {y : Nat} : ∀ i n v, i < 36 → n < 4 → Par W C y v → bt W C i n v → Par W C y (updN v i (v (nb i n) + csN C (nI (nb i n)))) := by
  intro i n v hi hn h q j hj
  by_cases e : j = i
  · subst e
    refine Or.inr ⟨q.1, n, hn, q.2.1, ?_⟩
    have := up_le q (nb j n)
    simp only [updN] at this ⊢
    rw [if_pos (trivial : True)] <;> omega
  · rcases h j hj with r | ⟨r1, m, r2, r3, r4⟩
    · refine Or.inl ?_
      simp only [updN]; rw [if_neg e]; exact r
    · refine Or.inr ⟨r1, m, r2, r3, ?_⟩
      have := up_le q (nb j m)
      have e2 : updN v i (v (nb i n) + csN C (nI (nb i n))) j = v j := by simp only [updN]; rw [if_neg e]
      rw [e2]
      omega
/-- the least of those -/
theorem least_of {D : Nat → Nat} {P : Nat → Prop} : ∀ m, (∃ i, i < 36 ∧ P i ∧ D i ≤ m) → ∃ i, i < 36 ∧ P i ∧ ∀ j, j < 36 → P j → D i ≤ D j
  | 0, ⟨i, h1, h2, h3⟩ => ⟨i, h1, h2, fun j _ _ => by omega⟩
  | m + 1, ⟨i, h1, h2, h3⟩ => by
    by_cases q : ∃ j, j < 36 ∧ P j ∧ D j ≤ m
    · exact least_of m q
    · refine ⟨i, h1, h2, fun j hj hp => ?_⟩
      have : ¬ D j ≤ m := fun r => q ⟨j, hj, hp, r⟩
      omega
/-- after 35 rounds nothing more is to better -/
theorem vR_fix {W C : Int64} {y : Nat} (hy : y < 36) : Fix W C (vR W C y 35).1 ∧ Par W C y (vR W C y 35).1 := by
  obtain ⟨N, hN⟩ := restK (fun m j => (vR W C y m).1 j) (fun m j => vR_le m j) 36
  have hPar : ∀ r, Par W C y (vR W C y r).1 := vR_keep (I := Par W C y) Par_keep (fun i hi => Or.inl rfl)
  have hle : ∀ r j, j < 36 → (vR W C y N).1 j ≤ (vR W C y r).1 j := by
    intro r j hj
    by_cases q : r ≤ N
    · have := vR_anti (W := W) (C := C) (y := y) j r (N - r)
      rw [show r + (N - r) = N by omega] at this
      exact this
    · exact Nat.le_of_eq (hN r (by omega) j hj).symm
  have hfix : ∀ i n, i < 36 → n < 4 → firmB W (nI i) = true → ¬ nbr (nI i) (nI n) < 0 → (vR W C y N).1 i ≤ (vR W C y N).1 (nb i n) + csN C (nI (nb i n)) := by
    intro i n hi hn hf hb
    have := kN_off (W := W) (C := C) (st := ((vR W C y N).1, false)) hi hn hf hb (Nat.le_refl _)
    have e := hN (N + 1) (by omega) i hi
    rw [← e]
    exact this
  have hcnt : ∀ r, r ≤ 35 → r + 1 ≤ cntP (fun i => decide ((vR W C y r).1 i = (vR W C y N).1 i)) 36 := by
    intro r
    induction r with
    | zero =>
      intro _
      have hyD : (vR W C y 0).1 y = (vR W C y N).1 y := by
        have h1 := hle 0 y hy
        have e0 : (vR W C y 0).1 y = vI W y y := rfl
        rw [e0] at h1 ⊢
        unfold vI at h1 ⊢
        by_cases q : firmB W (nI y) = true
        · rw [if_pos ⟨rfl, q⟩] at h1 ⊢; omega
        · rw [if_neg (fun r => q r.2)]
          rcases hPar N y hy with r | ⟨r, -⟩
          · rw [r]; unfold vI; rw [if_neg (fun r => q r.2)]
          · exact absurd r q
      have := cntP_lt (P := fun _ => false) (Q := fun i => decide ((vR W C y 0).1 i = (vR W C y N).1 i)) (c := y) (decide_eq_true hyD) rfl 36 hy (fun i _ h => by cases h)
      omega
    | succ r ih =>
      intro hr
      have ih := ih (by omega)
      by_cases hall : ∃ i, i < 36 ∧ ¬ (vR W C y r).1 i = (vR W C y N).1 i
      · obtain ⟨i0, h0, h0n⟩ := hall
        obtain ⟨i, hi, hin, hmin⟩ := least_of (D := (vR W C y N).1) (P := fun i => ¬ (vR W C y r).1 i = (vR W C y N).1 i) ((vR W C y N).1 i0) ⟨i0, h0, h0n, Nat.le_refl _⟩
        have hlt : (vR W C y N).1 i < (vR W C y r).1 i := Nat.lt_of_le_of_ne (hle r i hi) (fun e => hin e.symm)
        have h00 : (vR W C y r).1 i ≤ vI W y i := by
          have := vR_anti (W := W) (C := C) (y := y) i 0 r
          rw [Nat.zero_add] at this
          exact this
        rcases hPar N i hi with q | ⟨hf, n, hn, hb, hge⟩
        · omega
        · obtain ⟨hnb, -⟩ := nb_ok hi hn hb
          have hc := csN_12 C (nI (nb i n))
          have hbs : (vR W C y r).1 (nb i n) = (vR W C y N).1 (nb i n) := by
            apply Classical.byContradiction
            intro q
            have := hmin (nb i n) hnb q
            omega
          have hnew : (vR W C y (r + 1)).1 i = (vR W C y N).1 i := by
            have h1 := kN_off (W := W) (C := C) (st := ((vR W C y r).1, false)) hi hn hf hb (Nat.le_of_eq hbs)
            have h2 := hle (r + 1) i hi
            have h3 : (vR W C y (r + 1)).1 i ≤ (vR W C y N).1 (nb i n) + csN C (nI (nb i n)) := h1
            omega
          have := cntP_lt (P := fun i => decide ((vR W C y r).1 i = (vR W C y N).1 i)) (Q := fun i => decide ((vR W C y (r + 1)).1 i = (vR W C y N).1 i)) (c := i) (decide_eq_true hnew) (decide_eq_false hin) 36 hi (fun j hj h => by
            have h := of_decide_eq_true h
            have h1 := vR_le (W := W) (C := C) (y := y) r j
            have h2 := hle (r + 1) j hj
            exact decide_eq_true (by omega))
          omega
      · have : cntP (fun i => decide ((vR W C y (r + 1)).1 i = (vR W C y N).1 i)) 36 = cntP (fun _ => true) 36 := by
          refine Nat.le_antisymm (cntP_mono 36 (fun _ _ _ => rfl)) (cntP_mono 36 (fun j hj _ => ?_))
          have h : (vR W C y r).1 j = (vR W C y N).1 j := Classical.byContradiction (fun q => hall ⟨j, hj, q⟩)
          have h1 := vR_le (W := W) (C := C) (y := y) r j
          have h2 := hle (r + 1) j hj
          exact decide_eq_true (by omega)
        rw [this]
        have e : cntP (fun _ => true) 36 = 36 := by decide
        omega
  have h35 := hcnt 35 (Nat.le_refl _)
  have hle36 := cntP_le (fun i => decide ((vR W C y 35).1 i = (vR W C y N).1 i)) 36
  have hall := cntP_all 36 (by omega : cntP (fun i => decide ((vR W C y 35).1 i = (vR W C y N).1 i)) 36 = 36)
  refine ⟨fun i n hi hn q => ?_, hPar 35⟩
  have e1 := of_decide_eq_true (hall i hi)
  have e2 := of_decide_eq_true (hall (nb i n) (nb_ok hi hn q.2.1).1)
  have := hfix i n hi hn q.1 q.2.1
  have h3 := q.2.2
  rw [e1, e2] at h3
  omega
theorem vR_36 {W C : Int64} {y : Nat} (hy : y < 36) : vR W C y 36 = ((vR W C y 35).1, false) := by
  show kN W C ((vR W C y 35).1, false) 36 = _
  exact kN_fix (vR_fix hy).1 36 (Nat.le_refl _)
theorem vR_t {W C : Int64} {y r : Nat} (hy : y < 36) (hr : r ≤ 36) (h : (vR W C y r).2 = true) : r < 36 := by
  by_cases q : r = 36
  · subst q; rw [vR_36 hy] at h; cases h
  · omega
theorem vR_stay {W C : Int64} {y r : Nat} (h : (vR W C y r).2 = false) : ∀ k, vR W C y (r + k) = vR W C y r
  | 0 => rfl
  | k + 1 => by
    have ih := vR_stay h k
    show kN W C ((vR W C y (r + k)).1, false) 36 = _
    rw [ih]
    cases r with
    | zero => cases h
    | succ r =>
      have e : kN W C ((vR W C y r).1, false) 36 = ((vR W C y r).1, false) := kN_flag 36 h
      have e2 : vR W C y (r + 1) = ((vR W C y r).1, false) := e
      rw [e2]
      exact e
theorem vR_f {W C : Int64} {y r : Nat} (hr : r ≤ 36) (h : (vR W C y r).2 = false) : (vR W C y r).1 = (vR W C y 36).1 := by
  have := vR_stay h (36 - r)
  rw [show r + (36 - r) = 36 by omega] at this
  rw [this]
/-- the numbers are small, or 1000 -/
def Bd (v : Nat → Nat) : Prop := ∀ i, i < 36 → v i = 1000 ∨ v i + 2 ≤ 2 * cntP (fun j => decide (¬ v j = 1000)) 36
theorem Bd_0 {W : Int64} {y : Nat} (hy : y < 36) : Bd (vI W y) := by
  intro i hi
  unfold vI
  by_cases q : i = y ∧ firmB W (nI y) = true
  · rw [if_pos q]
    refine Or.inr ?_
    have := cntP_lt (P := fun _ => false) (Q := fun j => decide (¬ (if j = y ∧ firmB W (nI y) = true then 0 else 1000) = 1000)) (c := y) (by rw [if_pos ⟨rfl, q.2⟩]; decide) rfl 36 hy (fun i _ h => by cases h)
    omega
  · rw [if_neg q]; exact Or.inl rfl
theorem Bd_s {v : Nat → Nat} (h : Bd v) {i : Nat} (hi : i < 36) : v i = 1000 ∨ v i ≤ 70 := by
  rcases h i hi with q | q
  · exact Or.inl q
  · have := cntP_le (fun j => decide (¬ v j = 1000)) 36
    exact Or.inr (by omega)
theorem Bd_keep {W C : Int64} : ∀ i n v, i < 36 → n < 4 → Bd v → bt W C i n v → Bd (updN v i (v (nb i n) + csN C (nI (nb i n)))) := by
  intro i n v hi hn h q
  have hb := (nb_ok hi hn q.2.1).1
  have hc := csN_12 C (nI (nb i n))
  have hv : v i ≤ 1000 := by rcases Bd_s h hi with r | r <;> omega
  have hlt := q.2.2
  have hbn : v (nb i n) + 2 ≤ 2 * cntP (fun j => decide (¬ v j = 1000)) 36 := by
    rcases h (nb i n) hb with r | r
    · omega
    · exact r
  generalize ht : v (nb i n) + csN C (nI (nb i n)) = t at *
  have hsub : ∀ j, j < 36 → decide (¬ v j = 1000) = true → decide (¬ updN v i t j = 1000) = true := by
    intro j hj r
    have r := of_decide_eq_true r
    simp only [updN]
    split
    · exact decide_eq_true (by omega)
    · exact decide_eq_true r
  have hmono := cntP_mono 36 hsub
  have ht2 : t + 2 ≤ 2 * cntP (fun j => decide (¬ updN v i t j = 1000)) 36 := by
    by_cases r : v i = 1000
    · have := cntP_lt (P := fun j => decide (¬ v j = 1000)) (Q := fun j => decide (¬ updN v i t j = 1000)) (c := i) (decide_eq_true (by simp only [updN]; rw [if_pos trivial]; omega)) (decide_eq_false (fun z => z r)) 36 hi hsub
      omega
    · rcases h i hi with z | z
      · exact absurd z r
      · omega
  intro j hj
  by_cases e : j = i
  · refine Or.inr ?_
    have : updN v i t j = t := by simp only [updN]; rw [if_pos e]
    rw [this]; exact ht2
  · have e2 : updN v i t j = v j := by simp only [updN]; rw [if_neg e]
    rw [e2]
    rcases h j hj with z | z
    · exact Or.inl z
    · exact Or.inr (by omega)
/-- what isn't walkable stays at 1000 -/
def NF (W : Int64) (v : Nat → Nat) : Prop := ∀ i, i < 36 → firmB W (nI i) = false → v i = 1000
theorem NF_0 {W : Int64} {y : Nat} : NF W (vI W y) := by
  intro i hi h
  unfold vI
  rw [if_neg]
  intro q
  rw [← q.1, h] at q
  exact absurd q.2 (by decide)
theorem NF_keep {W C : Int64} : ∀ i n v, i < 36 → n < 4 → NF W v → bt W C i n v → NF W (updN v i (v (nb i n) + csN C (nI (nb i n)))) := by
  intro i n v hi hn h q j hj hf
  simp only [updN]
  rw [if_neg]
  · exact h j hj hf
  · intro e; rw [e, q.1] at hf; cases hf
def VN (W C : Int64) (y : Nat) : Nat → Nat := (vR W C y 36).1
/-- the model's numbers: none is -4 -/
def eN (v : Nat) : Int32 := if v = 1000 then -4 else nI v
def Enc (z : Nat → Int32) (v : Nat → Nat) : Prop := ∀ i, i < 36 → z i = eN (v i)
theorem eN_4 {v : Nat} (h : v = 1000 ∨ v ≤ 70) : eN v = -4 ↔ v = 1000 := by
  unfold eN
  constructor
  · intro q
    rcases h with r | r
    · exact r
    · rw [if_neg (by omega)] at q; exact absurd q (nI_ne4 (by omega))
  · intro q; rw [if_pos q]
theorem eN_n {v : Nat} (h : ¬ v = 1000) : eN v = nI v := by unfold eN; rw [if_neg h]
theorem Enc_up {z : Nat → Int32} {v : Nat → Nat} {i t : Nat} (h : Enc z v) (ht : ¬ t = 1000) : Enc (upd z i (nI t)) (updN v i t) := by
  intro j hj
  simp only [upd, updN]
  split
  · exact (eN_n ht).symm
  · exact h j hj
theorem Enc_id {z : Nat → Int32} {v : Nat → Nat} {i : Nat} (h : Enc z v) : Enc (upd z i (z i)) v := by
  rw [upd_self]; exact h
theorem Bd_kN {W C : Int64} {y r : Nat} (hy : y < 36) (i : Nat) (hi : i ≤ 36) : Bd (kN W C ((vR W C y r).1, false) i).1 := kN_keep (st := ((vR W C y r).1, false)) Bd_keep (vR_keep Bd_keep (Bd_0 hy) r) i hi
theorem Bd_sN {W C : Int64} {y r : Nat} (hy : y < 36) {i n : Nat} (hi : i < 36) (hn : n ≤ 4) : Bd (sN W C i (kN W C ((vR W C y r).1, false) i) n).1 := sN_keep Bd_keep hi (Bd_kN hy i (by omega)) n hn
theorem sN_nof {W C : Int64} {i : Nat} {st : (Nat → Nat) × Bool} (h : firmB W (nI i) = false) : ∀ n, sN W C i st n = st
  | 0 => rfl
  | n + 1 => by
    rw [sN, sN_nof h n]
    obtain ⟨v, b⟩ := st
    exact rN_n (fun q => by rw [q.1] at h; cases h)
/-- the class's tables -/
def Kn (z : Nat → Int32) (v : Nat → Nat) : Prop := ∀ i, i < 36 → z i = nI (v i)
theorem Bd_1000 {v : Nat → Nat} (h : Bd v) {i : Nat} (hi : i < 36) : v i ≤ 1000 := by rcases Bd_s h hi with q | q <;> omega
theorem cs_if {C : Int64} {b : Nat} : (if C &&& bitI (nI b) = 0 then (2 : Int32) else 1) = nI (csN C (nI b)) := by
  unfold csN
  cases q : firmB C (nI b) with
  | true => rw [if_neg (fun r => by rw [firm_and0.mp r] at q; cases q)]; rfl
  | false => rw [if_pos (firm_and0.mpr q)]; rfl
theorem cov_eq {W C : Int64} {z : Nat → Int32} {v : Nat → Nat} (h : Kn z v) {i n : Nat} (hi : i < 36) (hn : n < 4) : cov z W C (nbr (nI i) (nI n)) = if ¬ nbr (nI i) (nI n) < 0 ∧ firmB W (nI (nb i n)) = true then nI (v (nb i n) + csN C (nI (nb i n))) else 1000 := by
  unfold cov
  by_cases q : nbr (nI i) (nI n) < 0
  · rw [if_pos q, if_neg (fun r => r.1 q)]
  · obtain ⟨h1, h2⟩ := nb_ok hi hn q
    rw [if_neg q, h2]
    cases hf : firmB W (nI (nb i n)) with
    | false => rw [if_pos rfl, if_neg (fun r => absurd r.2 (by decide))]
    | true =>
      rw [h2] at q
      rw [if_neg (show ¬ true = false by decide), if_pos (show ¬ nI (nb i n) < 0 ∧ true = true from ⟨q, rfl⟩), nI_clamp (by omega), h _ h1, cs_if, nI_add]
theorem rlx_sim {W C : Int64} {z : Nat → Int32} {v : Nat → Nat} {b : Bool} (h : Kn z v) (hB : Bd v) (hNF : NF W v) {i n : Nat} (hi : i < 36) (hn : n < 4) : Kn (rlx W C i n (z, b)).1 (rN W C i n (v, b)).1 ∧ (rlx W C i n (z, b)).2 = (rN W C i n (v, b)).2 := by
  have hvi := Bd_1000 hB hi
  have h1000 : (1000 : Int32) = nI 1000 := rfl
  by_cases q : bt W C i n v
  · obtain ⟨q1, q2, q3⟩ := q
    obtain ⟨hb1, hb2⟩ := nb_ok hi hn q2
    have hfb : firmB W (nI (nb i n)) = true := by
      cases r : firmB W (nI (nb i n)) with
      | true => rfl
      | false => have := hNF _ hb1 r; omega
    rw [rN_y ⟨q1, q2, q3⟩]
    unfold rlx
    dsimp only
    rw [if_neg (show ¬ firmB W (nI i) = false by rw [q1]; decide), cov_eq h hi hn, if_pos (show ¬ nbr (nI i) (nI n) < 0 ∧ firmB W (nI (nb i n)) = true from ⟨q2, hfb⟩), if_neg (fun r => by rw [h i hi] at r; have := nJ_le (by omega) (by omega) r; omega)]
    refine ⟨fun j hj => ?_, rfl⟩
    simp only [upd, updN]
    split
    · rfl
    · exact h j hj
  · rw [rN_n q]
    have key : z i ≤ (if firmB W (nI i) = false then 1000 else cov z W C (nbr (nI i) (nI n))) := by
      rw [h i hi]
      split
      · rw [h1000]; exact nI_le (by omega) (by omega)
      · rename_i hf
        rw [cov_eq h hi hn]
        split
        · rename_i r
          have hf' : firmB W (nI i) = true := by
            cases s : firmB W (nI i) with
            | true => rfl
            | false => exact absurd s hf
          have : ¬ v (nb i n) + csN C (nI (nb i n)) < v i := fun s => q ⟨hf', r.1, s⟩
          have hc := csN_12 C (nI (nb i n))
          have := Bd_1000 hB (nb_ok hi hn r.1).1
          exact nI_le (by omega) (by omega)
        · rw [h1000]; exact nI_le (by omega) (by omega)
    unfold rlx
    dsimp only
    rw [if_pos key]
    exact ⟨h, rfl⟩
theorem sd_sim {W C : Int64} {i : Nat} (hi : i < 36) {z : Nat → Int32} {v : Nat → Nat} {b : Bool} (h : Kn z v) (hB : Bd v) (hNF : NF W v) : ∀ n, n ≤ 4 → Kn (sdF W C i (z, b) n).1 (sN W C i (v, b) n).1 ∧ (sdF W C i (z, b) n).2 = (sN W C i (v, b) n).2
  | 0, _ => ⟨h, rfl⟩
  | n + 1, q => by
    obtain ⟨h1, h2⟩ := sd_sim hi h hB hNF (b := b) (C := C) n (by omega)
    have hB' := sN_keep (W := W) (C := C) (st := (v, b)) Bd_keep hi hB n (by omega)
    have hNF' := sN_keep (W := W) (C := C) (st := (v, b)) NF_keep hi hNF n (by omega)
    rw [sdF, sN]
    have := rlx_sim (b := (sdF W C i (z, b) n).2) h1 hB' hNF' hi (by omega : n < 4) (C := C)
    rw [show ((sdF W C i (z, b) n).1, (sdF W C i (z, b) n).2) = sdF W C i (z, b) n from rfl] at this
    rw [h2] at this
    rw [show ((sN W C i (v, b) n).1, (sN W C i (v, b) n).2) = sN W C i (v, b) n from rfl] at this
    exact this
theorem cl_sim {W C : Int64} {z : Nat → Int32} {v : Nat → Nat} {b : Bool} (h : Kn z v) (hB : Bd v) (hNF : NF W v) : ∀ i, i ≤ 36 → Kn (clF W C (z, b) i).1 (kN W C (v, b) i).1 ∧ (clF W C (z, b) i).2 = (kN W C (v, b) i).2
  | 0, _ => ⟨h, rfl⟩
  | i + 1, q => by
    obtain ⟨h1, h2⟩ := cl_sim h hB hNF (b := b) (C := C) i (by omega)
    have hB' := kN_keep (W := W) (C := C) (st := (v, b)) Bd_keep hB i (by omega)
    have hNF' := kN_keep (W := W) (C := C) (st := (v, b)) NF_keep hNF i (by omega)
    rw [clF, kN]
    have := sd_sim (i := i) (by omega) (b := (clF W C (z, b) i).2) h1 hB' hNF' (C := C) 4 (Nat.le_refl _)
    rw [show ((clF W C (z, b) i).1, (clF W C (z, b) i).2) = clF W C (z, b) i from rfl] at this
    rw [h2] at this
    rw [show ((kN W C (v, b) i).1, (kN W C (v, b) i).2) = kN W C (v, b) i from rfl] at this
    exact this
theorem rd_sim {W C : Int64} {y : Nat} (hy : y < 36) : ∀ (n r : Nat) (z : Nat → Int32), n + r = 36 → Kn z (vR W C y r).1 → Kn (rdS W C n (vR W C y r).2 z) (VN W C y)
  | 0, r, z, hr, h => by
    rw [rdS]
    have e : r = 36 := by omega
    subst e
    exact h
  | n + 1, r, z, hr, h => by
    rw [rdS]
    cases hb : (vR W C y r).2 with
    | false =>
      rw [if_neg (by decide)]
      unfold VN
      rw [← vR_f (by omega) hb]
      exact h
    | true =>
      rw [if_pos rfl]
      have hB := vR_keep (W := W) (C := C) (y := y) Bd_keep (Bd_0 hy) r
      have hNF := vR_keep (W := W) (C := C) (y := y) NF_keep NF_0 r
      obtain ⟨h1, h2⟩ := cl_sim (C := C) (b := false) h hB hNF 36 (Nat.le_refl _)
      rw [h2]
      exact rd_sim hy n (r + 1) _ (by omega) h1
theorem in_sim {W : Int64} {kt : Nat → Int32} {y : Nat} (hy : y < 36) : Kn (inF kt W (nI y)) (vI W y) := by
  intro i hi
  unfold inF vI
  cases q : firmB W (nI y) with
  | false =>
    rw [if_pos rfl, if_neg (fun r => absurd r.2 (by decide))]
    simp only [cpF]; rw [if_pos hi]; rfl
  | true =>
    rw [if_neg (by decide), nI_clamp (by omega)]
    simp only [upd]
    by_cases e : i = y
    · rw [if_pos e, if_pos (show i = y ∧ True from ⟨e, trivial⟩)]; rfl
    · rw [if_neg e, if_neg (fun r => e r.1)]; simp only [cpF]; rw [if_pos hi]; rfl
theorem KF_sim {W C : Int64} {kt : Nat → Int32} {y : Nat} (hy : y < 36) : Kn (rdS W C 36 true (inF kt W (nI y))) (VN W C y) := rd_sim hy 36 0 _ rfl (in_sim hy)
/-! the way itself -/
def okN (v : Nat → Nat) (C : Int64) (a n : Nat) : Bool := !decide (nbr (nI a) (nI n) < 0) && (!decide (v (nb a n) = 1000) && decide (v (nb a n) + csN C (nI (nb a n)) = v a))
def nsN (v : Nat → Nat) (C : Int64) (a : Nat) : Nat → Nat → Nat
  | 0, n => n
  | f + 1, n => if okN v C a n = true then n else nsN v C a f (n + 1)
def spN (v : Nat → Nat) (C : Int64) (y : Nat) : Nat → Nat → Int32
  | 0, a => nI a
  | k + 1, a => if a = y then -4 else spN v C y k (nb a (nsN v C a 4 0))
theorem nsN_at {v : Nat → Nat} {C : Int64} {a : Nat} {n : Nat} (hok : okN v C a n = true) : ∀ f k, k ≤ n → n < k + f → (∀ m, k ≤ m → m < n → okN v C a m = false) → nsN v C a f k = n
  | 0, k, h1, h2, _ => by omega
  | f + 1, k, h1, h2, h3 => by
    rw [nsN]
    by_cases q : k = n
    · rw [q, if_pos hok]
    · rw [if_neg (by rw [h3 k (Nat.le_refl _) (by omega)]; decide)]
      exact nsN_at hok f (k + 1) (by omega) (by omega) (fun m hm1 hm2 => h3 m (by omega) hm2)
theorem VN_facts {W C : Int64} {y : Nat} (hy : y < 36) : Fix W C (VN W C y) ∧ Par W C y (VN W C y) ∧ Bd (VN W C y) ∧ NF W (VN W C y) := by
  unfold VN
  rw [vR_36 hy]
  exact ⟨(vR_fix hy).1, (vR_fix hy).2, vR_keep Bd_keep (Bd_0 hy) 35, vR_keep NF_keep NF_0 35⟩
theorem ok_ex {W C : Int64} {y a : Nat} (hy : y < 36) (ha : a < 36) (hne : ¬ a = y) (hv : ¬ VN W C y a = 1000) : ∃ n, n < 4 ∧ okN (VN W C y) C a n = true := by
  obtain ⟨hF, hP, hB, hN⟩ := VN_facts (W := W) (C := C) hy
  rcases hP a ha with q | ⟨hf, n, hn, hb, hge⟩
  · rw [q] at hv; unfold vI at hv; rw [if_neg (fun r => hne r.1)] at hv; exact absurd rfl hv
  · refine ⟨n, hn, ?_⟩
    have h1 : ¬ VN W C y (nb a n) + csN C (nI (nb a n)) < VN W C y a := fun r => hF a n ha hn ⟨hf, hb, r⟩
    have hc := csN_12 C (nI (nb a n))
    have h2 := Bd_1000 hB ha
    unfold okN
    rw [decide_eq_false hb, decide_eq_false (by omega : ¬ VN W C y (nb a n) = 1000), decide_eq_true (by omega : VN W C y (nb a n) + csN C (nI (nb a n)) = VN W C y a)]
    rfl
theorem okN_d {v : Nat → Nat} {C : Int64} {a n : Nat} (h : okN v C a n = true) : ¬ nbr (nI a) (nI n) < 0 ∧ ¬ v (nb a n) = 1000 ∧ v (nb a n) + csN C (nI (nb a n)) = v a := by
  simp only [okN, Bool.and_eq_true, Bool.not_eq_true', decide_eq_false_iff_not, decide_eq_true_eq] at h
  exact h
theorem VN_0 {W C : Int64} {y a : Nat} (hy : y < 36) (ha : a < 36) (hv : ¬ VN W C y a = 1000) : VN W C y a = 0 ↔ a = y := by
  obtain ⟨hF, hP, hB, hN⟩ := VN_facts (W := W) (C := C) hy
  constructor
  · intro h
    apply Classical.byContradiction
    intro q
    obtain ⟨n, hn, ho⟩ := ok_ex hy ha q hv
    have := (okN_d ho).2.2
    have hc := csN_12 C (nI (nb a n))
    omega
  · intro h
    subst h
    have hf : firmB W (nI a) = true := by
      cases r : firmB W (nI a) with
      | true => rfl
      | false => exact absurd (hN a ha r) hv
    have := vR_anti (W := W) (C := C) (y := a) a 0 36
    have e : (vR W C a 0).1 a = 0 := by show vI W a a = 0; unfold vI; rw [if_pos ⟨rfl, hf⟩]
    rw [e] at this
    unfold VN
    rw [Nat.zero_add] at this
    omega
theorem cov_ok {W C : Int64} {z : Nat → Int32} {v : Nat → Nat} (h : Kn z v) (hB : Bd v) (hNF : NF W v) {a n : Nat} (ha : a < 36) (hn : n < 4) (hv : ¬ v a = 1000) : (cov z W C (nbr (nI a) (nI n)) = z a) ↔ okN v C a n = true := by
  have hva : v a ≤ 70 := (Bd_s hB ha).resolve_left hv
  rw [cov_eq h ha hn, h a ha]
  constructor
  · intro q
    split at q
    · rename_i r
      have hb1 := (nb_ok ha hn r.1).1
      have hb := Bd_1000 hB hb1
      have hc := csN_12 C (nI (nb a n))
      have := nJ_eq (by omega) (by omega) q
      unfold okN
      rw [decide_eq_false r.1, decide_eq_false (by omega : ¬ v (nb a n) = 1000), decide_eq_true this]
      rfl
    · exact absurd (nJ_eq (a := 1000) (by omega) (by omega) q) (by omega)
  · intro q
    obtain ⟨q1, q2, q3⟩ := okN_d q
    have hb1 := (nb_ok ha hn q1).1
    have hf : firmB W (nI (nb a n)) = true := by
      cases r : firmB W (nI (nb a n)) with
      | true => rfl
      | false => exact absurd (hNF _ hb1 r) q2
    rw [if_pos ⟨q1, hf⟩, q3]
theorem ns_sim {W C : Int64} {z : Nat → Int32} {v : Nat → Nat} (h : Kn z v) (hB : Bd v) (hNF : NF W v) {a : Nat} (ha : a < 36) (hv : ¬ v a = 1000) : ∀ f k, k + f = 4 → (∃ n, k ≤ n ∧ n < 4 ∧ okN v C a n = true) → nsS z W C (nI a) f k = nI (nb a (nsN v C a f k)) ∧ nsN v C a f k < 4 ∧ okN v C a (nsN v C a f k) = true
  | 0, k, hk, ⟨n, h1, h2, _⟩ => by omega
  | f + 1, k, hk, ⟨n, h1, h2, h3⟩ => by
    rw [nsS, nsN]
    have e := cov_ok (C := C) h hB hNF ha (show k < 4 by omega) hv
    rw [nI_clamp (by omega)]
    by_cases q : okN v C a k = true
    · rw [if_pos (e.mpr q), if_pos q]
      exact ⟨(nb_ok ha (by omega) (okN_d q).1).2, by omega, q⟩
    · rw [if_neg (fun r => q (e.mp r)), if_neg q]
      refine ns_sim h hB hNF ha hv f (k + 1) (by omega) ⟨n, ?_, h2, h3⟩
      rcases Nat.lt_or_ge k n with r | r
      · exact r
      · have : k = n := by omega
        rw [this] at q; exact absurd h3 q
theorem spF_neg {z : Nat → Int32} {W C : Int64} : ∀ n, spF z W C n (-4) = -4
  | 0 => rfl
  | n + 1 => by rw [spF, if_pos (by decide)]
theorem sp_sim {W C : Int64} {z : Nat → Int32} {y : Nat} (hy : y < 36) (h : Kn z (VN W C y)) : ∀ (k a : Nat), a < 36 → ¬ VN W C y a = 1000 → spF z W C k (nI a) = spN (VN W C y) C y k a
  | 0, a, _, _ => rfl
  | k + 1, a, ha, hv => by
    obtain ⟨hF, hP, hB, hN⟩ := VN_facts (W := W) (C := C) hy
    have hva := (Bd_s hB ha).resolve_left hv
    rw [spF, spN, if_neg (nI_pos (by omega))]
    unfold nxF
    rw [nI_clamp (by omega), h a ha]
    by_cases q : a = y
    · rw [if_pos q, if_pos (by rw [(VN_0 hy ha hv).mpr q]; rfl), spF_neg]
    · have h0 : ¬ VN W C y a = 0 := fun r => q ((VN_0 hy ha hv).mp r)
      have h0' : ¬ nI (VN W C y a) = 0 := fun r => h0 (nJ_eq (b := 0) (by omega) (by omega) r)
      rw [if_neg q, if_neg h0']
      obtain ⟨n, hn, ho⟩ := ok_ex hy ha q hv
      obtain ⟨e1, e2, e3⟩ := ns_sim (C := C) h hB hN ha hv 4 0 rfl ⟨n, Nat.zero_le _, hn, ho⟩
      rw [e1]
      obtain ⟨o1, o2, o3⟩ := okN_d e3
      exact sp_sim hy h k _ (nb_ok ha e2 o1).1 o2
def rtN (x y i : Int32) (v : Nat → Nat) (C : Int64) : Int32 := if (bel x 36 && (bel y 36 && (!decide (i < -1) && decide (i ≤ 34)))) = false then -1 else if v x.toNatClampNeg = 1000 then -4 else if 0 ≤ i then spN v C y.toNatClampNeg (i.toNatClampNeg + 1) x.toNatClampNeg else nI (v x.toNatClampNeg)
theorem rt_eq {x y i : Int32} {W C : Int64} {kt : Nat → Int32} : rtF x y i (rdS W C 36 true (inF kt W y)) W C = rtN x y i (VN W C y.toNatClampNeg) C := by
  unfold rtF rtN
  cases hg : (bel x 36 && (bel y 36 && (!decide (i < -1) && decide (i ≤ 34)))) with
  | false => rw [if_pos rfl, if_pos rfl]
  | true =>
    rw [if_neg (show ¬ true = false by decide), if_neg (show ¬ true = false by decide)]
    simp only [Bool.and_eq_true] at hg
    obtain ⟨a, ha, rfl⟩ := bel_nat (n := 36) (by omega) hg.1
    obtain ⟨b, hb, rfl⟩ := bel_nat (n := 36) (by omega) hg.2.1
    rw [nI_clamp (by omega), nI_clamp (by omega)]
    have hK := KF_sim (W := W) (C := C) (kt := kt) hb
    obtain ⟨hF, hP, hB, hN⟩ := VN_facts (W := W) (C := C) hb
    generalize hz : rdS W C 36 true (inF kt W (nI b)) = z at *
    rw [hK a ha]
    by_cases q : VN W C b a = 1000
    · rw [if_pos q, if_pos (by rw [q]; decide)]
    · have hva := (Bd_s hB ha).resolve_left q
      rw [if_neg q, if_neg (fun r => by have := nJ_le (a := 1000) (by omega) (by omega) r; omega)]
      split
      · exact sp_sim hb hK _ a ha q
      · rfl
