theorem ty_nat {x : Int32} (h1 : ¬ x < 1) (h2 : ¬ 8 < x) : ∃ k, x = nI k ∧ 1 ≤ k ∧ k ≤ 8 := by
  have h0 : ¬ x < 0 := fun q => h1 (Int32.lt_trans q (by decide))
  obtain ⟨k, hk, rfl⟩ := nI_of h0
  exact ⟨k, rfl, nJ_nlt (b := 1) hk (by omega) h1, nJ_nlt (a := 8) (by omega) hk h2⟩
def R_type (ct : Nat → Bool) (ap : Nat → Nat → Int32) (x : Int32) (tn : Nat) (tb : Nat → Int32) (r : Int32) (tn' : Nat) (tb' : Nat → Int32) : Prop := ((x < 1 ∨ 8 < x) ∧ r = -1 ∧ tn' = tn ∧ tb' = tb) ∨ (∃ k, x = nI k ∧ 1 ≤ k ∧ k ≤ 8 ∧ ct k = false ∧ r = -1 ∧ tn' = tn ∧ tb' = tb) ∨ (∃ k, x = nI k ∧ 1 ≤ k ∧ k ≤ 8 ∧ ct k = true ∧ 60 < tn + k ∧ r = -3 ∧ tn' = tn ∧ tb' = tb) ∨ (∃ k, x = nI k ∧ 1 ≤ k ∧ k ≤ 8 ∧ ct k = true ∧ tn + k ≤ 60 ∧ r = nI (tn + k) ∧ tn' = tn + k ∧ tb' = ap k)
theorem neg20 {n : Nat} (h : n ≤ 60) : (-20 - nI n : Int32) < 0 := by
  have : ∀ n, n ≤ 60 → (-20 - nI n : Int32) < 0 := by decide +kernel
  exact this n h
theorem rdT_ok {tb : Nat → Int32} {tn : Nat} (htn : tn ≤ 60) : ∀ (n k pl : Nat) (st : tpS), n + k = tn → ((rdT tb tn n k pl st).1 < 0 ∨ (rdT tb tn n k pl st).1 = nI (rdT tb tn n k pl st).2.2.2)
  | 0, k, pl, st, h => by
    rw [rdT]; split
    · exact Or.inl (neg20 htn)
    · exact Or.inr rfl
  | n + 1, k, pl, st, h => by
    rw [rdT]; split
    · exact rdT_ok htn n (k + 1) pl st (by omega)
    · split
      · exact rdT_ok htn n (k + 1) (pl + 1) _ (by omega)
      · exact Or.inl (neg20 (by omega))
theorem rdT_le {tb : Nat → Int32} {tn : Nat} : ∀ (n k pl : Nat) (st : tpS), st.2.2 ≤ 6 → (rdT tb tn n k pl st).2.2.2 ≤ 6
  | 0, k, pl, st, h => by
    rw [rdT]; split <;> exact h
  | n + 1, k, pl, st, h => by
    rw [rdT]; split
    · exact rdT_le n (k + 1) pl st h
    · split
      · exact rdT_le n (k + 1) (pl + 1) _ (tkF_le h)
      · exact tkF_le h
theorem rdT_n {tb : Nat → Int32} {tn : Nat} {tm : Nat → Int32} (htn : tn ≤ 60) (h : 0 ≤ (rdT tb tn tn 0 0 (0, tm, 0)).1) : (rdT tb tn tn 0 0 (0, tm, 0)).1 = nI (rdT tb tn tn 0 0 (0, tm, 0)).2.2.2 := (rdT_ok htn tn 0 0 _ rfl).resolve_left (Int32.not_lt.mpr h)
theorem rdT_6 {tb : Nat → Int32} {tn : Nat} {tm : Nat → Int32} : (rdT tb tn tn 0 0 (0, tm, 0)).2.2.2 ≤ 6 := rdT_le tn 0 0 _ (Nat.zero_le _)
def R_marsh (res : Int32 × tpS) (f : Int64) (t : Nat) (m : Nat → Int32) (n : Nat) (ho : Nat → Int32) (r : Int32) (f' : Int64) (t' : Nat) (m' ho' : Nat → Int32) : Prop := (¬ 0 ≤ res.1 ∧ r = res.1 ∧ f' = f ∧ t' = t ∧ m' = m ∧ ho' = ho) ∨ (0 ≤ res.1 ∧ r = res.1 ∧ r = nI t' ∧ f' = res.2.1 ∧ t' = res.2.2.2 ∧ (∀ j, j < t' → m' j = res.2.2.1 j) ∧ (∀ j, j < n → ho' j = 0))
theorem rt_nat {x : Int32} (h1 : 0 ≤ x) (h2 : x ≤ 34) : ∃ j, x = nI j ∧ j ≤ 34 := by
  obtain ⟨j, hj, rfl⟩ := nI_of (Int32.not_lt.mpr h1)
  exact ⟨j, rfl, nJ_le (b := 34) hj (by omega) h2⟩
def rtF (x y i : Int32) (K : Nat → Int32) (W C : Int64) : Int32 := if (bel x 36 && (bel y 36 && (!decide (i < -1) && decide (i ≤ 34)))) = false then -1 else if 1000 ≤ K x.toNatClampNeg then -4 else if 0 ≤ i then spF K W C (i.toNatClampNeg + 1) x else K x.toNatClampNeg
/-! only the first of each are asked -/
theorem seatF_congr {ce ce' ho ho' : Nat → Int32} {w : Int32} : ∀ {n : Nat}, (∀ i, i < n → ce i = ce' i ∧ ho i = ho' i) → seatF ce ho w n = seatF ce' ho' w n
  | 0, _ => rfl
  | n + 1, h => by rw [seatF, seatF, seatF_congr (fun i hi => h i (by omega)), (h n (by omega)).1, (h n (by omega)).2]
theorem wInF_congr {kd kd' ce ce' ho ho' : Nat → Int32} {w : Int32} : ∀ {n : Nat}, (∀ i, i < n → kd i = kd' i ∧ ce i = ce' i ∧ ho i = ho' i) → wInF kd ce ho w n = wInF kd' ce' ho' w n
  | 0, _ => rfl
  | n + 1, h => by rw [wInF, wInF, wInF_congr (fun i hi => h i (by omega)), (h n (by omega)).1, (h n (by omega)).2.1, (h n (by omega)).2.2]
theorem strF_congr {kd kd' ce ce' ho ho' : Nat → Int32} : ∀ {n : Nat}, (∀ i, i < n → kd i = kd' i ∧ ce i = ce' i ∧ ho i = ho' i) → strF kd ce ho n = strF kd' ce' ho' n
  | 0, _ => rfl
  | n + 1, h => by rw [strF, strF, strF_congr (fun i hi => h i (by omega)), (h n (by omega)).1, (h n (by omega)).2.1, (h n (by omega)).2.2]
theorem gl_congr {kd kd' ce ce' ho ho' : Nat → Int32} {n : Nat} (h : ∀ i, i < n → kd i = kd' i ∧ ce i = ce' i ∧ ho i = ho' i) (x : Int32) : gl kd ce ho n x = gl kd' ce' ho' n x := by
  have e : ∀ y, isGl kd ce ho n x y = isGl kd' ce' ho' n x y := by
    intro y
    unfold isGl plF
    rw [seatF_congr (fun i hi => (h i hi).2), wInF_congr h]
    have : ∀ y', seatF ce ho y' n = seatF ce' ho' y' n := fun y' => seatF_congr (fun i hi => (h i hi).2)
    have h2 : ∀ y', wInF kd ce ho y' n = wInF kd' ce' ho' y' n := fun y' => wInF_congr h
    simp only [this, h2]
  by_cases q : ∃ y, isGl kd ce ho n x y
  · obtain ⟨y, hy⟩ := q
    rw [gl_of hy, gl_of (e y ▸ hy)]
  · rw [gl_no q, gl_no (fun ⟨y, hy⟩ => q ⟨y, (e y).symm ▸ hy⟩)]
theorem mvd_congr {kd kd' ce ce' ho ho' : Nat → Int32} {n : Nat} (h : ∀ i, i < n → kd i = kd' i ∧ ce i = ce' i ∧ ho i = ho' i) (z x : Int32) : mvd kd ce ho n z x = mvd kd' ce' ho' n z x := by
  unfold mvd; rw [gl_congr h]
theorem thW_congr {kd kd' ce ce' ho ho' : Nat → Int32} {n : Nat} (h : ∀ i, i < n → kd i = kd' i ∧ ce i = ce' i ∧ ho i = ho' i) (z : Int32) (f : Int64) {m m' : Nat → Int32} {t : Nat} (hm : ∀ j, j < t → m j = m' j) : thW kd ce ho n z f m t = thW kd' ce' ho' n z f m' t := by
  unfold thW wkX
  rw [strF_congr h, wkF_congr (fun j hj => by rw [mvd_congr h, hm j hj])]
theorem mvC_congr {kd kd' ce ce' ho ho' : Nat → Int32} {n : Nat} (h : ∀ i, i < n → kd i = kd' i ∧ ce i = ce' i ∧ ho i = ho' i) (z : Int32) {m m' : Nat → Int32} : ∀ {t : Nat}, (∀ j, j < t → m j = m' j) → mvC kd ce ho n z m t = mvC kd' ce' ho' n z m' t
  | 0, _ => rfl
  | t + 1, hm => by rw [mvC, mvC, mvC_congr h z (fun j hj => hm j (by omega)), hm t (by omega), gl_congr h]
theorem upd_upd (f : Nat → Int32) (j : Nat) (x y : Int32) : upd (upd f j x) j y = upd f j y := by
  funext k; simp only [upd]; split <;> rfl
theorem upd_swap (f : Nat → Int32) {i j : Nat} (h : ¬ i = j) (x y : Int32) : upd (upd f i x) j y = upd (upd f j y) i x := by
  funext k; simp only [upd]
  by_cases a : k = i
  · by_cases b : k = j
    · omega
    · simp [a, h]
  · simp [a]
/-- a trial: somebody sits in a cell for some hours -/
noncomputable def TL (p : Nat) (kd ce ho : Nat → Int32) (n : Nat) (z : Int32) (f : Int64) (m : Nat → Int32) (t : Nat) (x y : Int32) (w h : Nat) : Int32 := stX (thW kd (upd ce p (nI w)) (upd ho p (nI h)) n z f m t) x y
theorem TL_of {p n t : Nat} {kd kd0 ce ce0 ho ho0 m : Nat → Int32} {z x y : Int32} {f : Int64} {w h : Nat} {c h' : Int32} (e1 : c = nI w) (e2 : h' = nI h) : stX (thW (cpF kd0 kd n) (upd (cpF ce0 ce n) p c) (upd (cpF ho0 ho n) p h') n z f m t) x y = TL p kd ce ho n z f m t x y w h := by
  subst e1 e2
  unfold TL
  exact congrArg (fun q => stX q x y) (thW_congr (fun i hi => ⟨by simp [cpF, hi], by simp [upd, cpF, hi], by simp [upd, cpF, hi]⟩) z f (fun j _ => rfl))
def lsS (T : Nat → Nat → Int32) : Nat → Nat → Int32
  | 0, _ => -4
  | n + 1, k => if T (k % 36) (k / 36) < 0 then lsS T n (k + 1) else nI k
def lsF (T : Nat → Nat → Int32) : Int32 := if T 0 0 < 0 then lsS T 3564 36 else 0
theorem lsS_y {T : Nat → Nat → Int32} {h w : Nat} (hh : h < 100) (hw : w < 36) (q : ¬ T w h < 0) : lsS T (3600 - (36 * h + w)) (36 * h + w) = nI (h * 36 + w) := by
  rw [show 3600 - (36 * h + w) = (3600 - (36 * h + w) - 1) + 1 by omega, lsS, show (36 * h + w) % 36 = w by omega, show (36 * h + w) / 36 = h by omega, if_neg q, show 36 * h + w = h * 36 + w by omega]
theorem lsS_n {T : Nat → Nat → Int32} {h w : Nat} (hh : h < 100) (hw : w < 36) (q : T w h < 0) : lsS T (3600 - (36 * h + w)) (36 * h + w) = lsS T (3600 - (36 * h + (w + 1))) (36 * h + (w + 1)) := by
  rw [show 3600 - (36 * h + w) = (3600 - (36 * h + (w + 1))) + 1 by omega, lsS, show (36 * h + w) % 36 = w by omega, show (36 * h + w) / 36 = h by omega, if_pos q]
  rfl
noncomputable def leastF (p x y w : Int32) (kd ce ho : Nat → Int32) (n : Nat) (z : Int32) (f : Int64) (m : Nat → Int32) (t : Nat) : Int32 := if (bel p (nI n) && (bel x 36 && (bel y 36 && bel w 2))) = false then -1 else if 0 ≤ lsF (TL p.toNatClampNeg kd ce ho n z f m t x y) then (if w = 0 then lsF (TL p.toNatClampNeg kd ce ho n z f m t x y) / 36 else lsF (TL p.toNatClampNeg kd ce ho n z f m t x y) - lsF (TL p.toNatClampNeg kd ce ho n z f m t x y) / 36 * 36) else -4
/-- two sit -/
noncomputable def TG (p q : Nat) (h1 h2 : Int32) (kd ce ho : Nat → Int32) (n : Nat) (z : Int32) (f : Int64) (m : Nat → Int32) (t : Nat) (x y : Int32) (i j : Nat) : Int32 := stX (thW kd (upd (upd ce p (nI i)) q (nI j)) (upd (upd ho p h1) q h2) n z f m t) x y
theorem TG_of {p q n t : Nat} {kd kd0 ce ce0 ho ho0 m : Nat → Int32} {z x y h1 h2 : Int32} {f : Int64} {i j : Nat} : stX (thW (cpF kd0 kd n) (upd (upd (cpF ce0 ce n) p (nI i)) q (nI j)) (upd (upd (cpF ho0 ho n) p h1) q h2) n z f m t) x y = TG p q h1 h2 kd ce ho n z f m t x y i j := by
  unfold TG
  exact congrArg (fun q => stX q x y) (thW_congr (fun i hi => ⟨by simp [cpF, hi], by simp [upd, cpF, hi], by simp [upd, cpF, hi]⟩) z f (fun j _ => rfl))
def n99 (x : Int32) : Int32 := if 0 ≤ x then x else 99
def gameG (p q h1 h2 x y w : Int32) (n : Nat) : Bool := bel p (nI n) && (bel q (nI n) && (!decide (p = q) && (stay h1 && (stay h2 && (bel x 36 && (bel y 36 && bel w 2))))))
noncomputable def R_game (p q h1 h2 x y w : Int32) (kd ce ho : Nat → Int32) (n : Nat) (z : Int32) (f : Int64) (m : Nat → Int32) (t : Nat) (r : Int32) : Prop := (gameG p q h1 h2 x y w n = false ∧ r = -1) ∨ (gameG p q h1 h2 x y w n = true ∧ ∃ ds df dm : Nat → Int32, (∀ i j, i < 36 → j < 36 → ds (i * 36 + j) = n99 (TG p.toNatClampNeg q.toNatClampNeg h1 h2 kd ce ho n z f m t x y i j)) ∧ r = (if w = 0 then nI (rsC (restB ds (dwF ds df dm 36).1 (dwF ds df dm 36).2) 36) else fsF (restB ds (dwF ds df dm 36).1 (dwF ds df dm 36).2) 1296 0))
/-! sheets -/
theorem rfs_0 {h : Bool} {ln x y w : Int32} {n : Nat} (q : rfs h ln n x y w = 0) : h = true ∧ ln = x ∧ spn y w n = true := by
  unfold rfs at q
  split at q
  · exact absurd q (by decide)
  · split at q
    · split at q
      · exact absurd q (by decide)
      · rename_i a b c
        exact ⟨by simpa using a, b, by simpa using c⟩
    · exact absurd q (by decide)
theorem spn_nat {y : Int32} {w n : Nat} (hn : n ≤ 16) (hw : w < 2 ^ 30) (q : spn y (nI w) n = true) : ∃ i, y = nI i ∧ i + w ≤ n := by
  simp only [spn, Bool.and_eq_true, Bool.not_eq_true', decide_eq_false_iff_not] at q
  obtain ⟨⟨⟨q1, q2⟩, q3⟩, q4⟩ := q
  obtain ⟨i, hi, rfl⟩ := nI_of q1
  have h3 : i ≤ n := nJ_nlt (by omega) hi q3
  rw [pk_sub h3] at q4
  have := nJ_nlt (a := n - i) (b := w) (by omega) (by omega) q4
  exact ⟨i, rfl, by omega⟩
theorem rfs_nat {h : Bool} {ln x y : Int32} {w n : Nat} (hn : n ≤ 16) (hw : w < 2 ^ 30) (q : rfs h ln n x y (nI w) = 0) : ∃ i, y = nI i ∧ i + w ≤ n := spn_nat hn hw (rfs_0 q).2.2
theorem telF_congr {hi : Nat → Int64} {m m' : Nat → Int32} {j : Nat} : ∀ {n : Nat}, (∀ k, k < n → m k = m' k) → telF hi m j n = telF hi m' j n
  | 0, _ => rfl
  | n + 1, h => by rw [telF, telF, telF_congr (fun k hk => h k (by omega)), h n (by omega)]
noncomputable def TS (p : Nat) (h : Int32) (kd ce ho : Nat → Int32) (n : Nat) (z : Int32) (m : Nat → Int32) (t : Nat) (it : Nat → Int64) (i w : Nat) : Bool := telF it (fun j => mvd kd (upd ce p (nI w)) (upd ho p h) n z (m j)) i t
noncomputable def satS (p : Nat) (h : Int32) (kd ce ho : Nat → Int32) (n : Nat) (z : Int32) (m : Nat → Int32) (t : Nat) (it : Nat → Int64) (i : Nat) : Nat → Int64
  | 0 => 0
  | w + 1 => if TS p h kd ce ho n z m t it i w = true then satS p h kd ce ho n z m t it i w ||| bitI (nI w) else satS p h kd ce ho n z m t it i w
noncomputable def satF (p h x l i : Int32) (sh : Bool) (sl : Int32) (sn : Nat) (it : Nat → Int64) (kd ce ho : Nat → Int32) (n : Nat) (z : Int32) (m : Nat → Int32) (t : Nat) : Int64 := if (bel p (nI n) && (stay h && (bel x 4 && bel l 3))) = false then -1 else if rfs sh sl sn l i (nI t) = 0 then satS p.toNatClampNeg h kd ce ho n z m t it i.toNatClampNeg 36 else (rfs sh sl sn l i (nI t)).toInt64
def flF (it : Nat → Int64) (m : Nat → Int32) (i t : Nat) : Nat → Int64 := fun k => if i ≤ k ∧ k < i + t then (m (k - i)).toInt64 else it k
theorem flF_0 (it : Nat → Int64) (m : Nat → Int32) (i : Nat) : it = flF it m i 0 := by
  funext k; simp only [flF]; rw [if_neg (by omega)]
theorem flF_s (it : Nat → Int64) (m : Nat → Int32) (i t : Nat) : vp_updL (flF it m i t) (i + t) (m t).toInt64 = flF it m i (t + 1) := by
  funext k
  simp only [vp_updL, flF]
  by_cases q : k = i + t
  · subst q; simp
  · by_cases r : i ≤ k ∧ k < i + t
    · rw [if_neg q, if_pos r, if_pos (by omega)]
    · rw [if_neg q, if_neg r, if_neg (by omega)]
def R_film (x l i : Int32) (sh : Bool) (sl : Int32) (sn : Nat) (it : Nat → Int64) (t : Nat) (m : Nat → Int32) (r : Int32) (it' : Nat → Int64) : Prop := ((bel x 4 && bel l 3) = false ∧ r = -1 ∧ it' = it) ∨ ((bel x 4 && bel l 3) = true ∧ ¬ rfs sh sl sn l i (nI t) = 0 ∧ r = rfs sh sl sn l i (nI t) ∧ it' = it) ∨ ((bel x 4 && bel l 3) = true ∧ rfs sh sl sn l i (nI t) = 0 ∧ r = nI t ∧ it' = flF it m i.toNatClampNeg t)
def R_sheet (x l y : Int32) (sh : Bool) (sl : Int32) (sn : Nat) (it : Nat → Int64) (r : Int32) (sh' : Bool) (sl' : Int32) (sn' : Nat) (it' : Nat → Int64) : Prop := ((bel x 4 && (bel l 3 && decide (y ≤ 16))) = false ∧ r = -1 ∧ sh' = sh ∧ sl' = sl ∧ sn' = sn ∧ it' = it) ∨ ((bel x 4 && (bel l 3 && decide (y ≤ 16))) = true ∧ ¬ 0 ≤ y ∧ r = -14 ∧ sh' = sh ∧ sl' = sl ∧ sn' = sn ∧ it' = it) ∨ ((bel x 4 && (bel l 3 && decide (y ≤ 16))) = true ∧ 0 ≤ y ∧ r = y ∧ sh' = true ∧ sl' = l ∧ y = nI sn' ∧ sn' ≤ 16 ∧ (∀ j, j < sn' → it' j = 0))
theorem sh_nat {x : Int32} (h1 : 0 ≤ x) (h2 : x ≤ 16) : ∃ j, x = nI j ∧ j ≤ 16 := by
  obtain ⟨j, hj, rfl⟩ := nI_of (Int32.not_lt.mpr h1)
  exact ⟨j, rfl, nJ_le (b := 16) hj (by omega) h2⟩
def R_drop (x : Int32) (sh : Bool) (sn : Nat) (r : Int32) (sh' : Bool) : Prop := (bel x 4 = false ∧ r = -1 ∧ sh' = sh) ∨ (bel x 4 = true ∧ sh = false ∧ r = -11 ∧ sh' = sh) ∨ (bel x 4 = true ∧ sh = true ∧ r = nI sn ∧ sh' = false)
def R_item (x l i : Int32) (v : Int64) (sh : Bool) (sl : Int32) (sn : Nat) (it : Nat → Int64) (r : Int32) (it' : Nat → Int64) : Prop := ((bel x 4 && bel l 3) = false ∧ r = -1 ∧ it' = it) ∨ ((bel x 4 && bel l 3) = true ∧ ¬ rfs sh sl sn l i 1 = 0 ∧ r = rfs sh sl sn l i 1 ∧ it' = it) ∨ ((bel x 4 && bel l 3) = true ∧ rfs sh sl sn l i 1 = 0 ∧ r = 1 ∧ it' = vp_updL it i.toNatClampNeg (cutL sl v))
theorem rfs_vin {h : Bool} {ln x y : Int32} {n : Nat} (hn : n ≤ 16) (q : rfs h ln n x y 1 = 0) : vp_in y 16 := by
  obtain ⟨i, rfl, hi⟩ := rfs_nat (w := 1) hn (by omega) q
  exact vp_in_nI (by omega) (by omega)
def copyR (x y : Int32) (i j k : Int32) (h1 h2 : Bool) (l1 l2 : Int32) (n1 n2 : Nat) : Int32 := if (bel x 4 && bel y 4) = false then -1 else if (h1 && h2) = false then -11 else if ¬ l1 = l2 then -12 else if (spn i k n1 && spn j k n2) = false then -13 else 0
def R_copy (x y i j k : Int32) (h1 h2 : Bool) (l1 l2 : Int32) (n1 n2 : Nat) (it1 it2 : Nat → Int64) (r : Int32) (it2' : Nat → Int64) : Prop := (¬ copyR x y i j k h1 h2 l1 l2 n1 n2 = 0 ∧ r = copyR x y i j k h1 h2 l1 l2 n1 n2 ∧ it2' = it2) ∨ (copyR x y i j k h1 h2 l1 l2 n1 n2 = 0 ∧ r = k ∧ it2' = va_cpy it1 it2 i.toNatClampNeg j.toNatClampNeg k.toNatClampNeg)
theorem rtF_c {x y i : Int32} {K : Nat → Int32} {W C : Int64} (h1 : bel x 36 = true) (h2 : bel y 36 = true) (h3 : ¬ i < -1) (h4 : i ≤ 34) (h5 : (!decide (1000 ≤ K x.toNatClampNeg)) = true) : rtF x y i K W C = if 0 ≤ i then spF K W C (i.toNatClampNeg + 1) x else K x.toNatClampNeg := by
  have e : (bel x 36 && (bel y 36 && (!decide (i < -1) && decide (i ≤ 34)))) = true := by rw [h1, h2, decide_eq_false h3, decide_eq_true h4]; rfl
  have e5 : ¬ 1000 ≤ K x.toNatClampNeg := by
    intro q; rw [decide_eq_true q] at h5; exact absurd h5 (by decide)
  unfold rtF
  rw [e, if_neg (by decide), if_neg e5]
theorem rtF_d {x y i : Int32} {K : Nat → Int32} {W C : Int64} (h1 : bel x 36 = true) (h2 : bel y 36 = true) (h3 : ¬ i < -1) (h4 : i ≤ 34) (h5 : (!decide (1000 ≤ K x.toNatClampNeg)) = false) : -4 = rtF x y i K W C := by
  have e : (bel x 36 && (bel y 36 && (!decide (i < -1) && decide (i ≤ 34)))) = true := by rw [h1, h2, decide_eq_false h3, decide_eq_true h4]; rfl
  have e5 : 1000 ≤ K x.toNatClampNeg := by
    apply Classical.byContradiction
    intro q; rw [decide_eq_false q] at h5; exact absurd h5 (by decide)
  unfold rtF
  rw [e, if_neg (by decide), if_pos e5]
