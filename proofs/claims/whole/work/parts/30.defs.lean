theorem ok_more {v : Nat → Nat} {C : Int64} {a n n9 : Nat} (h9 : n9 < 4) (ho : okN v C a n9 = true) (hno : ∀ m, m < n → okN v C a m = false) (hf : okN v C a n = false) : n + 1 < 4 := by
  rcases Nat.lt_trichotomy n9 n with q | q | q
  · rw [hno n9 q] at ho; cases ho
  · subst q; rw [hf] at ho; cases ho
  · omega
theorem okN_of {v : Nat → Nat} {C : Int64} {a n : Nat} (h1 : ¬ nbr (nI a) (nI n) < 0) (h2 : ¬ v (nb a n) = 1000) (h3 : v (nb a n) + csN C (nI (nb a n)) = v a) : okN v C a n = true := by
  unfold okN; rw [decide_eq_false h1, decide_eq_false h2, decide_eq_true h3]; rfl
theorem okN_1 {v : Nat → Nat} {C : Int64} {a n : Nat} (h1 : nbr (nI a) (nI n) < 0) : okN v C a n = false := by
  unfold okN; rw [decide_eq_true h1]; rfl
theorem okN_2 {v : Nat → Nat} {C : Int64} {a n : Nat} (h2 : v (nb a n) = 1000) : okN v C a n = false := by
  unfold okN; rw [decide_eq_true h2]; simp
theorem okN_3 {v : Nat → Nat} {C : Int64} {a n : Nat} (h3 : ¬ v (nb a n) + csN C (nI (nb a n)) = v a) : okN v C a n = false := by
  unfold okN; rw [decide_eq_false h3]; simp
theorem spN_y {v : Nat → Nat} {C : Int64} {y k a : Nat} (h : a = y) : spN v C y (k + 1) a = -4 := by rw [spN, if_pos h]
theorem spN_n {v : Nat → Nat} {C : Int64} {y k a n : Nat} (h : ¬ a = y) (hn : n < 4) (ho : okN v C a n = true) (hno : ∀ m, m < n → okN v C a m = false) : spN v C y (k + 1) a = spN v C y k (nb a n) := by
  rw [spN, if_neg h, nsN_at ho 4 0 (Nat.zero_le _) (by omega) (fun m _ h => hno m h)]
theorem rN_ey {W C : Int64} {i n : Nat} {v : Nat → Nat} {b : Bool} {z : Nat → Int32} (h : Enc z v) (q : bt W C i n v) (ht : ¬ v (nb i n) + csN C (nI (nb i n)) = 1000) : Enc (upd z i (nI (v (nb i n) + csN C (nI (nb i n))))) (rN W C i n (v, b)).1 ∧ true = (rN W C i n (v, b)).2 := by
  rw [rN_y q]; exact ⟨Enc_up h ht, rfl⟩
theorem rN_en {W C : Int64} {i n : Nat} {v : Nat → Nat} {b : Bool} {z : Nat → Int32} (h : Enc z v) (q : ¬ bt W C i n v) : Enc (upd z i (z i)) (rN W C i n (v, b)).1 ∧ b = (rN W C i n (v, b)).2 := by
  rw [rN_n q]; exact ⟨Enc_id h, rfl⟩
theorem rtN_b {x y i : Int32} {v : Nat → Nat} {C : Int64} (h : (bel x 36 && (bel y 36 && (!decide (i < -1) && decide (i ≤ 34)))) = false) : -1 = rtN x y i v C := by
  unfold rtN; rw [if_pos h]
theorem rtN_c {x y i : Int32} {v : Nat → Nat} {C : Int64} (h1 : bel x 36 = true) (h2 : bel y 36 = true) (h3 : (!decide (i < -1) && decide (i ≤ 34)) = true) : rtN x y i v C = if v x.toNatClampNeg = 1000 then -4 else if 0 ≤ i then spN v C y.toNatClampNeg (i.toNatClampNeg + 1) x.toNatClampNeg else nI (v x.toNatClampNeg) := by
  unfold rtN; rw [h1, h2, h3]; exact if_neg (by decide)
theorem rt34 {i : Int32} (h : (!decide (i < -1) && decide (i ≤ 34)) = true) : i ≤ 34 := by
  simp only [Bool.and_eq_true, decide_eq_true_eq] at h
  exact h.2
