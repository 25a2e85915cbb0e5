theorem plS_a {z : Int32} {f : Int64} {m : Nat → Int32} {t : Nat} {x y : Int32} {n : Nat} (h : ¬ stX (wkX z f m t (nI n)) x y = -4) : plS z f m t x y n = plS z f m t x y (n + 1) := by
  rw [plS, if_pos (stX_y h)]
theorem plS_b {z : Int32} {f : Int64} {m : Nat → Int32} {t : Nat} {x y : Int32} {n : Nat} (h : stX (wkX z f m t (nI n)) x y = -4) : plS z f m t x y n ||| (1 <<< (nI n &&& 31)) = plS z f m t x y (n + 1) := by
  rw [plS, if_neg (stX_n h)]
/-! images and sheets of the model -/
def cpJ (f a : Nat → Int32) (j n : Nat) : Nat → Int32 := fun k => if j ≤ k ∧ k < j + n then a (k - j) else f k
theorem cpJ_0 (f a : Nat → Int32) (j : Nat) : f = cpJ f a j 0 := by
  funext k; simp only [cpJ]; rw [if_neg (by omega)]
theorem cpJ_s (f a : Nat → Int32) (j n : Nat) : upd (cpJ f a j n) (j + n) (a n) = cpJ f a j (n + 1) := by
  funext k
  simp only [upd, cpJ]
  by_cases q : k = j + n
  · subst q; simp
  · by_cases r : j ≤ k ∧ k < j + n
    · rw [if_neg q, if_pos r, if_pos (by omega)]
    · rw [if_neg q, if_neg r, if_neg (by omega)]
def whM (la l i n sz : Int32) : Int32 := if la < 0 then -11 else if la = l then (if i < 0 then -13 else if sz.toInt64 < i.toInt64 + n.toInt64 then -13 else 0) else -12
theorem wh64 {i w k : Nat} (hi : i < 2 ^ 31) (hw : w < 2 ^ 30) (hk : k ≤ 16) (h : ¬ (nI k).toInt64 < (nI i).toInt64 + (nI w).toInt64) : i + w ≤ k := by
  have e : ∀ n : Nat, n < 2 ^ 31 → (nI n).toInt64.toInt = n := fun n hn => by rw [Int32.toInt_toInt64, nI_toInt hn]
  rw [Int64.lt_iff_toInt_lt, Int64.toInt_add, e i hi, e w (by omega), e k (by omega)] at h
  have : (↑i + ↑w : Int).bmod (2 ^ 64) = ↑i + ↑w := by
    apply Int.bmod_eq_of_le <;> omega
  rw [this] at h
  omega
theorem whM_nat {la l i sz : Int32} {w k : Nat} (hk : k ≤ 16) (hw : w < 2 ^ 30) (e : sz = nI k) (h : 0 ≤ whM la l i (nI w) sz) : ∃ j, i = nI j ∧ j + w ≤ k := by
  subst e
  unfold whM at h
  split at h
  · exact absurd h (by decide)
  · split at h
    · split at h
      · exact absurd h (by decide)
      · rename_i q
        split at h
        · exact absurd h (by decide)
        · rename_i r
          obtain ⟨j, hj, rfl⟩ := nI_of q
          exact ⟨j, rfl, wh64 hj hw hk r⟩
    · exact absurd h (by decide)
theorem cut_cell {l x : Int32} (h : vp_in x 36) : cutL l x.toInt64 = x.toInt64 := by
  obtain ⟨j, hj, rfl⟩ := vin_of h
  unfold cutL
  have a : ∀ j, j < 36 → (nI j).toInt64.toInt32.toInt8.toInt32.toInt64 = (nI j).toInt64 := by decide +kernel
  have b : ∀ j, j < 36 → (nI j).toInt64.toInt32.toInt64 = (nI j).toInt64 := by decide +kernel
  rw [a j hj, b j hj]
  split
  · rfl
  · split <;> rfl
def itM (it : Nat → Int64) (s : Nat) : Nat → Int64 := fun q => it (16 * s + q)
theorem TSm_of {p : Nat} {h : Int32} {kd ce ho : Nat → Int32} {n : Nat} {z : Int32} {m th : Nat → Int32} {t : Nat} {it : Nat → Int64} {i w : Nat} (hm : ∀ j, j < t → th j = mvd kd (upd ce p (nI w)) (upd ho p h) n z (m j)) : telF it th i t = TS p h kd ce ho n z m t it i w := by
  unfold TS
  exact telF_congr hm
noncomputable def satM (p h x l i : Int32) (la sz : Nat → Int32) (it : Nat → Int64) (kd ce ho : Nat → Int32) (n : Nat) (z : Int32) (m : Nat → Int32) (t : Nat) : Int64 := if (bel p (nI n) && (stay h && (bel x 4 && bel l 3))) = false then -1 else if 0 ≤ whM (la x.toNatClampNeg) l i (nI t) (sz x.toNatClampNeg) then satS p.toNatClampNeg h kd ce ho n z m t (itM it x.toNatClampNeg) i.toNatClampNeg 36 else (whM (la x.toNatClampNeg) l i (nI t) (sz x.toNatClampNeg)).toInt64
theorem satM_b {p h x l i : Int32} {la sz : Nat → Int32} {it : Nat → Int64} {kd ce ho : Nat → Int32} {n : Nat} {z : Int32} {m : Nat → Int32} {t : Nat} (q : (bel p (nI n) && (stay h && (bel x 4 && bel l 3))) = false) : -1 = satM p h x l i la sz it kd ce ho n z m t := by
  unfold satM; rw [if_pos q]
theorem satM_c {p h x l i : Int32} {la sz : Nat → Int32} {it : Nat → Int64} {kd ce ho : Nat → Int32} {n : Nat} {z : Int32} {m : Nat → Int32} {t : Nat} (h1 : bel p (nI n) = true) (h2 : stay h = true) (h3 : bel x 4 = true) (h4 : bel l 3 = true) : satM p h x l i la sz it kd ce ho n z m t = if 0 ≤ whM (la x.toNatClampNeg) l i (nI t) (sz x.toNatClampNeg) then satS p.toNatClampNeg h kd ce ho n z m t (itM it x.toNatClampNeg) i.toNatClampNeg 36 else (whM (la x.toNatClampNeg) l i (nI t) (sz x.toNatClampNeg)).toInt64 := by
  unfold satM
  rw [h1, h2, h3, h4]
  exact if_neg (by decide)
def R_filmM (x l i : Int32) (la sz : Nat → Int32) (it : Nat → Int64) (t : Nat) (m : Nat → Int32) (r : Int32) (it' : Nat → Int64) : Prop := ((bel x 4 && bel l 3) = false ∧ r = -1 ∧ it' = it) ∨ ((bel x 4 && bel l 3) = true ∧ ¬ 0 ≤ whM (la x.toNatClampNeg) l i (nI t) (sz x.toNatClampNeg) ∧ r = whM (la x.toNatClampNeg) l i (nI t) (sz x.toNatClampNeg) ∧ it' = it) ∨ ((bel x 4 && bel l 3) = true ∧ 0 ≤ whM (la x.toNatClampNeg) l i (nI t) (sz x.toNatClampNeg) ∧ r = nI t ∧ it' = flF it m (16 * x.toNatClampNeg + i.toNatClampNeg) t)
def zrF (it : Nat → Int64) (a n : Nat) : Nat → Int64 := fun k => if a ≤ k ∧ k < a + n then 0 else it k
theorem zrF_0 (it : Nat → Int64) (a : Nat) : it = zrF it a 0 := by
  funext k; simp only [zrF]; rw [if_neg (by omega)]
theorem zrF_s (it : Nat → Int64) (a n : Nat) : vp_updL (zrF it a n) (a + n) 0 = zrF it a (n + 1) := by
  funext k
  simp only [vp_updL, zrF]
  by_cases q : k = a + n
  · subst q; simp
  · by_cases r : a ≤ k ∧ k < a + n
    · rw [if_neg q, if_pos r, if_pos (by omega)]
    · rw [if_neg q, if_neg r, if_neg (by omega)]
def R_sheetM (x l y : Int32) (la sz : Nat → Int32) (it : Nat → Int64) (r : Int32) (la' sz' : Nat → Int32) (it' : Nat → Int64) : Prop := ((bel x 4 && (bel l 3 && decide (y ≤ 16))) = false ∧ r = -1 ∧ la' = la ∧ sz' = sz ∧ it' = it) ∨ ((bel x 4 && (bel l 3 && decide (y ≤ 16))) = true ∧ ¬ 0 ≤ y ∧ r = -14 ∧ la' = la ∧ sz' = sz ∧ it' = it) ∨ ((bel x 4 && (bel l 3 && decide (y ≤ 16))) = true ∧ 0 ≤ y ∧ r = y ∧ la' = upd la x.toNatClampNeg l ∧ sz' = upd sz x.toNatClampNeg y ∧ it' = zrF it (16 * x.toNatClampNeg) 16)
def R_dropM (x : Int32) (la sz : Nat → Int32) (r : Int32) (la' : Nat → Int32) : Prop := (bel x 4 = false ∧ r = -1 ∧ la' = la) ∨ (bel x 4 = true ∧ ¬ 0 ≤ la x.toNatClampNeg ∧ r = -11 ∧ la' = la) ∨ (bel x 4 = true ∧ 0 ≤ la x.toNatClampNeg ∧ r = sz x.toNatClampNeg ∧ la' = upd la x.toNatClampNeg (-1))
def R_itemM (x l i : Int32) (v : Int64) (la sz : Nat → Int32) (it : Nat → Int64) (r : Int32) (it' : Nat → Int64) : Prop := ((bel x 4 && bel l 3) = false ∧ r = -1 ∧ it' = it) ∨ ((bel x 4 && bel l 3) = true ∧ ¬ 0 ≤ whM (la x.toNatClampNeg) l i 1 (sz x.toNatClampNeg) ∧ r = whM (la x.toNatClampNeg) l i 1 (sz x.toNatClampNeg) ∧ it' = it) ∨ ((bel x 4 && bel l 3) = true ∧ 0 ≤ whM (la x.toNatClampNeg) l i 1 (sz x.toNatClampNeg) ∧ r = 1 ∧ it' = vp_updL it (16 * x.toNatClampNeg + i.toNatClampNeg) (cutL (la x.toNatClampNeg) v))
def copyG (x y i j k : Int32) (la sz : Nat → Int32) : Int32 := if (bel x 4 && bel y 4) = false then -1 else if la x.toNatClampNeg < 0 ∨ la y.toNatClampNeg < 0 then -11 else if ¬ la x.toNatClampNeg = la y.toNatClampNeg then -12 else if k < 0 ∨ whM (la x.toNatClampNeg) (la x.toNatClampNeg) i k (sz x.toNatClampNeg) < 0 ∨ whM (la y.toNatClampNeg) (la y.toNatClampNeg) j k (sz y.toNatClampNeg) < 0 then -13 else 0
def mvF (it : Nat → Int64) (a b n : Nat) : Nat → Int64 := fun k => if a ≤ k ∧ k < a + n then it (b + (k - a)) else it k
def R_copyM (x y i j k : Int32) (la sz : Nat → Int32) (it : Nat → Int64) (r : Int32) (it' : Nat → Int64) : Prop := (¬ copyG x y i j k la sz = 0 ∧ r = copyG x y i j k la sz ∧ it' = it) ∨ (copyG x y i j k la sz = 0 ∧ r = k ∧ it' = mvF it (16 * y.toNatClampNeg + j.toNatClampNeg) (16 * x.toNatClampNeg + i.toNatClampNeg) k.toNatClampNeg)
def wrF (f h : Nat → Int64) (a n : Nat) : Nat → Int64 := fun k => if a ≤ k ∧ k < a + n then h (k - a) else f k
theorem wrF_0 (f h : Nat → Int64) (a : Nat) : f = wrF f h a 0 := by
  funext k; simp only [wrF]; rw [if_neg (by omega)]
theorem wrF_s (f h : Nat → Int64) (a n : Nat) : vp_updL (wrF f h a n) (a + n) (h n) = wrF f h a (n + 1) := by
  funext k
  simp only [vp_updL, wrF]
  by_cases q : k = a + n
  · subst q; simp
  · by_cases r : a ≤ k ∧ k < a + n
    · rw [if_neg q, if_pos r, if_pos (by omega)]
    · rw [if_neg q, if_neg r, if_neg (by omega)]
theorem wrF_mv {it f : Nat → Int64} {a b n : Nat} : wrF it (cpF f (fun q => it (b + q)) n) a n = mvF it a b n := by
  funext k
  simp only [wrF, mvF, cpF]
  by_cases r : a ≤ k ∧ k < a + n
  · rw [if_pos r, if_pos r, if_pos (by omega)]
  · rw [if_neg r, if_neg r]
theorem whM_0 {la l i n sz : Int32} (h : whM la l i n sz < 0) : ¬ 0 ≤ whM la l i n sz := Int32.not_le.mpr h
theorem whM_cases (la l i n sz : Int32) : whM la l i n sz = 0 ∨ whM la l i n sz < 0 := by
  unfold whM
  split
  · exact Or.inr (by decide)
  · split
    · split
      · exact Or.inr (by decide)
      · split
        · exact Or.inr (by decide)
        · exact Or.inl rfl
    · exact Or.inr (by decide)
theorem copyG_0 {x y i j k : Int32} {la sz : Nat → Int32} (a1 : bel x 4 = true) (a2 : bel y 4 = true) (a3 : ¬ la x.toNatClampNeg < 0) (a4 : ¬ la y.toNatClampNeg < 0) (a5 : la x.toNatClampNeg = la y.toNatClampNeg) (a6 : ¬ k < 0) (a7 : ¬ whM (la x.toNatClampNeg) (la x.toNatClampNeg) i k (sz x.toNatClampNeg) < 0) (a8 : ¬ whM (la y.toNatClampNeg) (la y.toNatClampNeg) j k (sz y.toNatClampNeg) < 0) : copyG x y i j k la sz = 0 := by
  unfold copyG
  rw [a1, a2, if_neg (by decide), if_neg (fun q => q.elim a3 a4), if_neg (fun q => q a5), if_neg (fun q => q.elim a6 (fun r => r.elim a7 a8))]
theorem cp_nat {k i j la l2 s1 s2 la2 l3 : Int32} (h0 : ¬ k < 0) (e1 : ∃ a, a ≤ 16 ∧ s1 = nI a) (e2 : ∃ a, a ≤ 16 ∧ s2 = nI a) (w1 : 0 ≤ whM la l2 i k s1) (w2 : 0 ≤ whM la2 l3 j k s2) : ∃ k' i' j' : Nat, k = nI k' ∧ i = nI i' ∧ j = nI j' ∧ i' + k' ≤ 16 ∧ j' + k' ≤ 16 ∧ True := by
  obtain ⟨w, hw, rfl⟩ := nI_of h0
  obtain ⟨a, ha, ea⟩ := e1
  obtain ⟨b, hb, eb⟩ := e2
  have hw30 : w < 2 ^ 30 := by
    subst ea
    unfold whM at w1
    split at w1
    · exact absurd w1 (by decide)
    · split at w1
      · split at w1
        · exact absurd w1 (by decide)
        · rename_i q
          split at w1
          · exact absurd w1 (by decide)
          · rename_i r
            obtain ⟨p, hp, rfl⟩ := nI_of q
            have e : ∀ n : Nat, n < 2 ^ 31 → (nI n).toInt64.toInt = n := fun n hn => by rw [Int32.toInt_toInt64, nI_toInt hn]
            rw [Int64.lt_iff_toInt_lt, Int64.toInt_add, e p hp, e w hw, e a (by omega)] at r
            have : (↑p + ↑w : Int).bmod (2 ^ 64) = ↑p + ↑w := by
              apply Int.bmod_eq_of_le <;> omega
            rw [this] at r
            omega
      · exact absurd w1 (by decide)
  obtain ⟨p, rfl, hp⟩ := whM_nat ha hw30 ea w1
  obtain ⟨q, rfl, hq⟩ := whM_nat hb hw30 eb w2
  exact ⟨w, p, q, rfl, rfl, rfl, by omega, by omega, trivial⟩
