theorem leastF_c {o x y w : Int32} {kd ce ho : Nat → Int32} {n : Nat} {z : Int32} {f : Int64} {m : Nat → Int32} {t : Nat} (h1 : bel o (nI n) = true) (h2 : bel x 36 = true) (h3 : bel y 36 = true) (h4 : bel w 2 = true) : leastF o x y w kd ce ho n z f m t = if 0 ≤ lsF (TL o.toNatClampNeg kd ce ho n z f m t x y) then (if w = 0 then lsF (TL o.toNatClampNeg kd ce ho n z f m t x y) / 36 else lsF (TL o.toNatClampNeg kd ce ho n z f m t x y) - lsF (TL o.toNatClampNeg kd ce ho n z f m t x y) / 36 * 36) else -4 := by
  unfold leastF
  rw [h1, h2, h3, h4]
  exact if_neg (by decide)
theorem leastF_b {o x y w : Int32} {kd ce ho : Nat → Int32} {n : Nat} {z : Int32} {f : Int64} {m : Nat → Int32} {t : Nat} (h : (bel o (nI n) && (bel x 36 && (bel y 36 && bel w 2))) = false) : -1 = leastF o x y w kd ce ho n z f m t := by
  unfold leastF; rw [if_pos h]
theorem g_upd {f b : Nat → Int32} {j k : Nat} (hne : ¬ j = k) {x0 : Int32} (h : ∀ v, upd f k v = upd (upd b j x0) k v) (x v : Int32) : upd (upd f j x) k v = upd (upd b j x) k v := by
  rw [upd_swap f hne, h v, ← upd_swap (upd b j x0) hne, upd_upd]
theorem D_step {D : Nat → Nat → Int32} {z : Nat → Int32} {i j : Nat} {v : Int32} (hj : j < 36) (h : ∀ a b, b < 36 → (a < i ∨ (a = i ∧ b < j)) → z (a * 36 + b) = D a b) (hv : v = D i j) : ∀ a b, b < 36 → (a < i ∨ (a = i ∧ b < j + 1)) → upd z (i * 36 + j) v (a * 36 + b) = D a b := by
  intro a b hb hab
  simp only [upd]
  by_cases q : a * 36 + b = i * 36 + j
  · have ea : a = i := by omega
    have eb : b = j := by omega
    subst ea eb
    rw [if_pos rfl, hv]
  · rw [if_neg q]
    refine h a b hb ?_
    rcases hab with r | ⟨r1, r2⟩
    · exact Or.inl r
    · refine Or.inr ⟨r1, ?_⟩
      subst r1
      omega
theorem TS_of {p n t : Nat} {kd kd0 ce ce0 ho ho0 m nm cc hh : Nat → Int32} {z h : Int32} {it : Nat → Int64} {i w : Nat} (e1 : cc = upd (cpF ce0 ce n) p (nI w)) (e2 : hh = upd (cpF ho0 ho n) p h) (hm : ∀ j, j < t → nm j = mvd (cpF kd0 kd n) cc hh n z (m j)) : telF it nm i t = TS p h kd ce ho n z m t it i w := by
  unfold TS
  refine telF_congr (fun k hk => ?_)
  rw [hm k hk]
  subst e1 e2
  exact mvd_congr (fun i hi => ⟨by simp [cpF, hi], by simp [upd, cpF, hi], by simp [upd, cpF, hi]⟩) _ _
theorem satF_c {o h x l i : Int32} {sh : Bool} {sl : Int32} {sn : Nat} {it : Nat → Int64} {kd ce ho : Nat → Int32} {n : Nat} {z : Int32} {m : Nat → Int32} {t : Nat} (h1 : bel o (nI n) = true) (h2 : stay h = true) (h3 : bel x 4 = true) (h4 : bel l 3 = true) : satF o h x l i sh sl sn it kd ce ho n z m t = if rfs sh sl sn l i (nI t) = 0 then satS o.toNatClampNeg h kd ce ho n z m t it i.toNatClampNeg 36 else (rfs sh sl sn l i (nI t)).toInt64 := by
  unfold satF
  rw [h1, h2, h3, h4]
  exact if_neg (by decide)
theorem satF_b {o h x l i : Int32} {sh : Bool} {sl : Int32} {sn : Nat} {it : Nat → Int64} {kd ce ho : Nat → Int32} {n : Nat} {z : Int32} {m : Nat → Int32} {t : Nat} (q : (bel o (nI n) && (stay h && (bel x 4 && bel l 3))) = false) : -1 = satF o h x l i sh sl sn it kd ce ho n z m t := by
  unfold satF; rw [if_pos q]
theorem satS_y {p : Nat} {h : Int32} {kd ce ho : Nat → Int32} {n : Nat} {z : Int32} {m : Nat → Int32} {t : Nat} {it : Nat → Int64} {i w : Nat} (q : TS p h kd ce ho n z m t it i w = true) : satS p h kd ce ho n z m t it i w ||| bitI (nI w) = satS p h kd ce ho n z m t it i (w + 1) := by
  rw [satS]; exact (if_pos q).symm
theorem satS_n {p : Nat} {h : Int32} {kd ce ho : Nat → Int32} {n : Nat} {z : Int32} {m : Nat → Int32} {t : Nat} {it : Nat → Int64} {i w : Nat} (q : TS p h kd ce ho n z m t it i w = false) : satS p h kd ce ho n z m t it i w = satS p h kd ce ho n z m t it i (w + 1) := by
  rw [satS]; exact (if_neg (by rw [q]; decide)).symm
theorem copyR_0 {x y i j k : Int32} {h1 h2 : Bool} {l1 l2 : Int32} {n1 n2 : Nat} (a1 : bel x 4 = true) (a2 : bel y 4 = true) (a3 : h1 = true) (a4 : h2 = true) (a5 : l1 = l2) (a6 : spn i k n1 = true) (a7 : spn j k n2 = true) : copyR x y i j k h1 h2 l1 l2 n1 n2 = 0 := by
  unfold copyR; rw [a1, a2, a3, a4, a6, a7]; simp [a5]
theorem spn_3 {y k : Int32} {n : Nat} (hn : n ≤ 16) (q : spn y k n = true) : ¬ y < 0 ∧ ¬ k < 0 ∧ y.toNatClampNeg + k.toNatClampNeg ≤ n := by
  have q0 := q
  simp only [spn, Bool.and_eq_true, Bool.not_eq_true', decide_eq_false_iff_not] at q
  obtain ⟨⟨⟨q1, q2⟩, q3⟩, q4⟩ := q
  obtain ⟨w, hw, rfl⟩ := nI_of q2
  obtain ⟨i, hi, rfl⟩ := nI_of q1
  have h3 : i ≤ n := nJ_nlt (by omega) hi q3
  rw [pk_sub h3] at q4
  have := nJ_nlt (a := n - i) (b := w) (by omega) hw q4
  exact ⟨q1, q2, by rw [nI_clamp hi, nI_clamp hw]; omega⟩
