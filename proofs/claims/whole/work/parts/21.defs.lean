theorem ofF_c {x w : Int32} {f : Int64} {t : Nat} {m : Nat → Int32} {z : Int32} {n : Nat} {kd ce ho : Nat → Int32} (h : bel x 36 = true) : ofF x w f t m z n kd ce ho = if w = 0 then bI (firmB f x) else if w = 1 then nI (tiF m x t) else if w = 2 then bI (firmB (wkX z f m t (-1)) x) else if w = 3 then wInF kd ce ho x n else -1 := by
  unfold ofF; rw [h]; exact if_neg (by decide)
theorem ofF_3 {x w : Int32} {f : Int64} {t : Nat} {m : Nat → Int32} {z : Int32} {n : Nat} {kd ce ho sc : Nat → Int32} {s2 : Int64} (hs : SA kd ce ho n s2 sc) (h : bel x 36 = true) (h4 : bel w 4 = true) (h0 : ¬ w = 0) (h1 : ¬ w = 1) (h2 : ¬ w = 2) : (firmB s2 x = true → sc x.toNatClampNeg = ofF x w f t m z n kd ce ho) ∧ (firmB s2 x = false → 0 = ofF x w f t m z n kd ce ho) := by
  have e := SA_at hs (bel_vin (n := 36) (by omega) (by omega) (by omega) h)
  rw [ofF_c h, if_neg h0, if_neg h1, if_neg h2, if_pos (bel4 h4 h0 h1 h2)]
  refine ⟨fun q => e.2 q, fun q => ?_⟩
  rw [e.1] at q
  exact (wInF_no q).symm
theorem pullF_c {x w : Int32} {t : Nat} {m : Nat → Int32} {n : Nat} {kd ce ho sc : Nat → Int32} {s2 : Int64} (hs : SA kd ce ho n s2 sc) (h : bel x 36 = true) (h2 : bel w (nI t) = true) : (firmB s2 x = true → sc x.toNatClampNeg - 3 * aprt x (m w.toNatClampNeg) = pullF x w t m n kd ce ho) ∧ (firmB s2 x = false → -1002 = pullF x w t m n kd ce ho) := by
  have e := SA_at hs (bel_vin (n := 36) (by omega) (by omega) (by omega) h)
  unfold pullF
  rw [h, h2, if_neg (by decide), ← e.1]
  refine ⟨fun q => ?_, fun q => ?_⟩
  · rw [if_neg (by rw [q]; decide), e.2 q]
  · rw [if_pos q]
def HR (ta : Nat → Int32) (n a a2 : Nat) (r : Int32) : Prop := a ≤ a2 ∧ a2 ≤ n ∧ (∀ j, a ≤ j → j < a2 → ta j = 32) ∧ ((a2 = n ∧ r = 0) ∨ (a2 < n ∧ ¬ ta a2 = 32 ∧ r = ta a2))
theorem tk0 {pl : Nat} {st : tpS} (h : pl < 41) : (tkF pl 0 st).1 = false := by
  by_cases q : pl % 7 = 6
  · rw [tk_slash h q]; rfl
  · rw [tk_cell h q]; rfl
theorem mst_lt {ta : Nat → Int32} {n a a2 pl : Nat} {r : Int32} {st : tpS} (h : HR ta n a a2 r) (hp : pl < 41) (q : (tkF pl r st).1 = true) : a2 < n := by
  rcases h.2.2.2 with ⟨-, e⟩ | ⟨e, -⟩
  · rw [e, tk0 hp] at q; cases q
  · exact e
theorem mst_y {ta : Nat → Int32} {n a a2 pl : Nat} {r : Int32} {st st' : tpS} {R : Int32 × tpS} (h : HR ta n a a2 r) (hp : pl < 41) (hs : rdT ta n (n - a) a pl st = R) (q : tkF pl r st = (true, st')) : rdT ta n (n - (a2 + 1)) (a2 + 1) (pl + 1) st' = R := by
  have hlt := mst_lt h hp (by rw [q])
  rcases h.2.2.2 with ⟨e, -⟩ | ⟨-, e1, e2⟩
  · omega
  · rw [← hs, rdT_blank h.2.2.1 h.2.1 h.1, rdT_yes hlt e1 (by rw [← e2, q]), ← e2, q]
theorem mst_n {ta : Nat → Int32} {n a a2 pl : Nat} {r : Int32} {st : tpS} {R : Int32 × tpS} (h : HR ta n a a2 r) (hp : pl < 41) (hs : rdT ta n (n - a) a pl st = R) (q : (tkF pl r st).1 = false) : R.1 = -20 - nI a2 := by
  rw [← hs, rdT_blank h.2.2.1 h.2.1 h.1]
  rcases h.2.2.2 with ⟨e, -⟩ | ⟨e0, e1, e2⟩
  · subst e; rw [rdT_end hp]
  · rw [rdT_no e0 e1 (by rw [← e2]; exact q)]
theorem mend_n {ta : Nat → Int32} {n a a2 : Nat} {r : Int32} {st : tpS} {R : Int32 × tpS} (h : HR ta n a a2 r) (hs : rdT ta n (n - a) a 41 st = R) (q : ¬ r = 0) : R.1 = -20 - nI a2 := by
  rw [← hs, rdT_blank h.2.2.1 h.2.1 h.1]
  rcases h.2.2.2 with ⟨e, e2⟩ | ⟨e0, e1, e2⟩
  · exact absurd e2 q
  · rw [rdT_no e0 e1 tk41]
theorem mend_y {ta : Nat → Int32} {n a a2 : Nat} {r : Int32} {st : tpS} {R : Int32 × tpS} (hta : ∀ j, j < n → ¬ ta j = 0) (h : HR ta n a a2 r) (hs : rdT ta n (n - a) a 41 st = R) (q : r = 0) : R = (nI st.2.2, st) := by
  rw [← hs, rdT_blank h.2.2.1 h.2.1 h.1]
  rcases h.2.2.2 with ⟨e, e2⟩ | ⟨e0, e1, e2⟩
  · subst e; rw [rdT_end2 (by omega)]
  · exact absurd (e2.symm.trans q) (hta _ e0)
theorem neg20' {a : Nat} (h : a ≤ 60) {R : Int32} (e : R = -20 - nI a) : ¬ 0 ≤ R := by
  rw [e]; exact fun q => absurd (neg20 h) (Int32.not_lt.mpr q)
/-! the model's year -/
theorem frM_p {z : Int32} (h : ∃ q, q < 10 ∧ z = nI q) (c : ¬ z ≤ 0) : z - 1 = frX z := by
  obtain ⟨q, hq, rfl⟩ := h
  rw [← frM_eq q hq, if_neg c]
theorem frM_z {z : Int32} (h : ∃ q, q < 10 ∧ z = nI q) (c : z ≤ 0) : 0 = frX z := by
  obtain ⟨q, hq, rfl⟩ := h
  rw [← frM_eq q hq, if_pos c]
theorem gmF_k {kd ce ho : Nat → Int32} {n : Nat} {x : Int32} {i : Nat} (h : seatF ce ho (nI i) n = false) : gmF kd ce ho n x i = gmF kd ce ho n x (i + 1) := by
  rw [gmF, if_pos h]
theorem gmF_l {kd ce ho : Nat → Int32} {n : Nat} {x mo to : Int32} {two : Bool} {i : Nat} (hr : (mo, to, two) = gmF kd ce ho n x i) (h : seatF ce ho (nI i) n = true) (c : plF kd ce ho n (nI i) x ≤ mo) : (mo, to, decide (plF kd ce ho n (nI i) x = mo) || two) = gmF kd ce ho n x (i + 1) := by
  rw [gmF, if_neg (by rw [h]; decide), ← hr, if_pos c]
theorem gmF_g {kd ce ho : Nat → Int32} {n : Nat} {x mo to : Int32} {two : Bool} {i : Nat} (hr : (mo, to, two) = gmF kd ce ho n x i) (h : seatF ce ho (nI i) n = true) (c : ¬ plF kd ce ho n (nI i) x ≤ mo) : (plF kd ce ho n (nI i) x, nI i, false) = gmF kd ce ho n x (i + 1) := by
  rw [gmF, if_neg (by rw [h]; decide), ← hr, if_neg c]
/-- a tuft goes, or stays, as the model finds -/
theorem lay_go {kd ce ho : Nat → Int32} {n : Nat} {z x mo to : Int32} {two : Bool} (hc : ∀ j, j < n → vp_in (ce j) 36) (hr : (mo, to, two) = gmF kd ce ho n x 36) (c1 : ¬ to < 0) (c2 : two = false) (c3 : ¬ to = x) (c4 : z = 0) : ocl x to = mvd kd ce ho n z x ∧ ¬ gl kd ce ho n x = x := by
  rcases gmF_gl (kd := kd) hc x with ⟨-, -, e⟩ | ⟨h, -⟩
  · rw [← hr] at e
    have e : gl kd ce ho n x = to := e
    refine ⟨?_, by rw [e]; exact c3⟩
    rw [mvd_go c4 (by rw [e]; exact c3), e]
  · rw [← hr] at h
    rcases h with h | h
    · exact absurd h c1
    · exact absurd (h.symm.trans c2) (by decide)
theorem lay_st {kd ce ho : Nat → Int32} {n : Nat} {x mo to : Int32} {two : Bool} (hc : ∀ j, j < n → vp_in (ce j) 36) (hr : (mo, to, two) = gmF kd ce ho n x 36) (c : to < 0 ∨ two = true ∨ to = x) : gl kd ce ho n x = x := by
  rcases gmF_gl (kd := kd) hc x with ⟨h1, h2, e⟩ | ⟨-, e⟩
  · rw [← hr] at h1 h2 e
    rcases c with c | c | c
    · exact absurd c h1
    · exact absurd (c.symm.trans h2) (by decide)
    · exact e.trans c
  · exact e
theorem mvC_z {kd ce ho : Nat → Int32} {n : Nat} {z : Int32} {m : Nat → Int32} {t : Nat} (h : ¬ z = 0) : mvC kd ce ho n z m t = mvC kd ce ho n z m (t + 1) := by rw [mvC_fr h, mvC_fr h]
def acP (f : Int64) (ce ho ac : Nat → Int32) : Nat → Int32 := fun j => if 0 < ho j ∧ f &&& bitI (ce j) = 0 then ac j + 1 else ac j
theorem acP_0 {f : Int64} {ce ho ac : Nat → Int32} {k : Nat} (h : ho k ≤ 0 ∨ firmB f (ce k) = true) : ac k + 0 = acP f ce ho ac k := by
  unfold acP
  rw [if_neg (fun q => ?_)]
  · exact Int32.add_zero _
  · rcases h with h | h
    · exact i_npos h q.1
    · rw [firm_and0.mp q.2] at h; cases h
theorem acP_1 {f : Int64} {ce ho ac : Nat → Int32} {k : Nat} (h : ¬ ho k ≤ 0) (h2 : firmB f (ce k) = false) : ac k + 1 = acP f ce ho ac k := by
  unfold acP
  rw [if_pos ⟨i_pos h, firm_and0.mpr h2⟩]
theorem y_lt {y : Int32} (h : y ≤ 9999) (q : ¬ y = 9999) : y < 9999 := i32_lt_of_le_ne h q
