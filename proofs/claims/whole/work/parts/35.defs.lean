/-! one side and the other: what each call answers and leaves -/
theorem ti_congr {m m' : Nat → Int32} {x : Int32} : ∀ {t : Nat}, (∀ j, j < t → m j = m' j) → tiF m x t = tiF m' x t
  | 0, _ => rfl
  | t + 1, h => by rw [tiF, tiF, ti_congr (fun j hj => h j (by omega)), h t (by omega)]
theorem ach_congr {a a' : Nat → Int32} : ∀ {n : Nat}, (∀ j, j < n → a j = a' j) → achF a n = achF a' n
  | 0, _ => rfl
  | n + 1, h => by rw [achF, achF, ach_congr (fun j hj => h j (by omega)), h n (by omega)]
theorem wk_congr {z : Int32} {f : Int64} {m m' : Nat → Int32} {t : Nat} {x : Int32} (h : ∀ j, j < t → m j = m' j) : wkX z f m t x = wkX z f m' t x := by
  unfold wkX; rw [wkF_congr h]
theorem nat36 {x : Int32} {n : Nat} (hn : n < 2 ^ 31) (h : bel x (nI n) = true) : x.toNatClampNeg < n := by
  obtain ⟨j, hj, rfl⟩ := bel_nat hn h
  rw [nI_clamp (by omega)]; exact hj
theorem EW.k3 {a b : WS} (E : EW a b) : ∀ i, i < b.n → a.kd i = b.kd i ∧ a.ce i = b.ce i ∧ a.ho i = b.ho i := fun i hi => ⟨(E.ep i hi).1, (E.ep i hi).2.1, (E.ep i hi).2.2.1⟩
theorem wk36 {z : Int32} {f : Int64} {m : Nat → Int32} {x : Int32} (hf : in36 f) : ∀ {t : Nat}, (∀ j, j < t → vp_in (m j) 36) → in36 (wkF f m x t)
  | 0, _ => hf
  | t + 1, h => by
    have ih := wk36 (z := z) (x := x) hf (t := t) (fun j hj => h j (by omega))
    rw [wkF]
    split
    · exact ih
    · obtain ⟨j, hj, e⟩ := vin_of (h t (by omega))
      rw [e]; exact or36 ih (bitI36 j hj)
theorem OKW.w36 {b : WS} (O : OKW b) (x : Int32) : in36 (wkX b.z b.f b.m b.t x) := by
  unfold wkX
  split
  · exact wk36 (z := b.z) O.of O.om
  · unfold in36; decide
theorem EW.W {a b : WS} (E : EW a b) (x : Int32) : wkX a.z a.f a.m a.t x = wkX b.z b.f b.m b.t x := by
  rw [E.ez, E.ef, E.et]; exact wk_congr E.em
theorem EW.C {a b : WS} (E : EW a b) : kcX a.z a.f = kcX b.z b.f := by rw [E.ez, E.ef]
theorem drain_sim {a b : WS} (E : EW a b) (O : OKW b) {x r1 r2 : Int32} {u : Bool} {f1 f2 : Int64} (h1 : R_drain x u a.f r1 f1) (h2 : R_drain x u b.f r2 f2) : r1 = r2 ∧ EW (mkW f1 a.t a.z a.m a.n a.kd a.ce a.ho a.ac a.y) (mkW f2 b.t b.z b.m b.n b.kd b.ce b.ho b.ac b.y) ∧ OKW (mkW f2 b.t b.z b.m b.n b.kd b.ce b.ho b.ac b.y) := by
  rw [E.ef] at h1
  have key : r1 = r2 ∧ f1 = f2 ∧ in36 f2 := by
    rcases h1 with ⟨p1, p2, p3⟩ | ⟨p1, p2, p3⟩
    · rcases h2 with ⟨q1, q2, q3⟩ | ⟨q1, q2, q3⟩
      · exact ⟨p2.trans q2.symm, p3.trans q3.symm, q3 ▸ O.of⟩
      · rw [p1] at q1; cases q1
    · rcases h2 with ⟨q1, q2, q3⟩ | ⟨q1, q2, q3⟩
      · rw [p1] at q1; cases q1
      · refine ⟨p2.trans q2.symm, p3.trans q3.symm, ?_⟩
        rw [q3]
        obtain ⟨j, hj, rfl⟩ := bel_nat (n := 36) (by omega) q1
        unfold drF
        split
        · exact or36 O.of (bitI36 j hj)
        · unfold in36; exact and36 O.of
  obtain ⟨k1, k2, k3⟩ := key
  exact ⟨k1, ⟨k2, E.et, E.ez, E.en, E.ey, E.em, E.ep⟩, ⟨O.ot, O.on, k3, O.oz, O.oy, O.om, O.ok, O.oc, O.oh⟩⟩
theorem tuft_sim {a b : WS} (E : EW a b) (O : OKW b) {x r1 r2 : Int32} {t1 t2 : Nat} {m1 m2 : Nat → Int32} (h1 : R_tuft x a.t a.m r1 t1 m1) (h2 : R_tuft x b.t b.m r2 t2 m2) : r1 = r2 ∧ EW (mkW a.f t1 a.z m1 a.n a.kd a.ce a.ho a.ac a.y) (mkW b.f t2 b.z m2 b.n b.kd b.ce b.ho b.ac b.y) ∧ OKW (mkW b.f t2 b.z m2 b.n b.kd b.ce b.ho b.ac b.y) := by
  rw [E.et] at h1
  have key : r1 = r2 ∧ t1 = t2 ∧ t2 ≤ 6 ∧ (∀ j, j < t2 → m1 j = m2 j) ∧ (∀ j, j < t2 → vp_in (m2 j) 36) := by
    rcases h2 with ⟨q1, q2, q3, q4⟩ | ⟨q1, q2, q3, q4, q5⟩ | ⟨q1, q2, q3, q4, q5⟩
    · rcases h1 with ⟨p1, p2, p3, p4⟩ | ⟨p1, p2, p3, p4, p5⟩ | ⟨p1, p2, p3, p4, p5⟩
      · subst q3 p3 q4 p4; exact ⟨p2.trans q2.symm, rfl, O.ot, E.em, O.om⟩
      · rw [p1] at q1; cases q1
      · rw [p1] at q1; cases q1
    · rcases h1 with ⟨p1, p2, p3, p4⟩ | ⟨p1, p2, p3, p4, p5⟩ | ⟨p1, p2, p3, p4, p5⟩
      · rw [p1] at q1; cases q1
      · subst p4 q4 p5 q5; exact ⟨p3.trans q3.symm, rfl, O.ot, E.em, O.om⟩
      · omega
    · rcases h1 with ⟨p1, p2, p3, p4⟩ | ⟨p1, p2, p3, p4, p5⟩ | ⟨p1, p2, p3, p4, p5⟩
      · rw [p1] at q1; cases q1
      · omega
      · subst p4 q4 p5 q5
        refine ⟨p3.trans q3.symm, rfl, by omega, fun j hj => ?_, fun j hj => ?_⟩
        · simp only [upd]; split
          · rfl
          · exact E.em j (by omega)
        · simp only [upd]; split
          · exact bel_vin (n := 36) (by omega) (by omega) (by omega) q1
          · exact O.om j (by omega)
  obtain ⟨k1, k2, k3, k4, k5⟩ := key
  exact ⟨k1, ⟨E.ef, k2, E.ez, E.en, E.ey, k4, E.ep⟩, ⟨k3, O.on, O.of, O.oz, O.oy, k5, O.ok, O.oc, O.oh⟩⟩
theorem plant_sim {a b : WS} (E : EW a b) (O : OKW b) {x y r1 r2 : Int32} {m1 m2 : Nat → Int32} (h1 : R_plant x y a.t a.m r1 m1) (h2 : R_plant x y b.t b.m r2 m2) : r1 = r2 ∧ EW (mkW a.f a.t a.z m1 a.n a.kd a.ce a.ho a.ac a.y) (mkW b.f b.t b.z m2 b.n b.kd b.ce b.ho b.ac b.y) ∧ OKW (mkW b.f b.t b.z m2 b.n b.kd b.ce b.ho b.ac b.y) := by
  rw [E.et] at h1
  have key : r1 = r2 ∧ (∀ j, j < b.t → m1 j = m2 j) ∧ (∀ j, j < b.t → vp_in (m2 j) 36) := by
    rcases h2 with ⟨q1, q2, q3⟩ | ⟨q1, q2, q3⟩
    · rcases h1 with ⟨p1, p2, p3⟩ | ⟨p1, p2, p3⟩
      · subst q3 p3; exact ⟨p2.trans q2.symm, E.em, O.om⟩
      · rw [p1] at q1; cases q1
    · rcases h1 with ⟨p1, p2, p3⟩ | ⟨p1, p2, p3⟩
      · rw [p1] at q1; cases q1
      · subst q3 p3
        rw [Bool.and_eq_true] at q1
        have ht := O.ot
        have hx := nat36 (n := b.t) (by omega) q1.1
        refine ⟨p2.trans ((E.em _ hx).trans q2.symm), fun j hj => ?_, fun j hj => ?_⟩
        · simp only [upd]; split
          · rfl
          · exact E.em j hj
        · simp only [upd]; split
          · exact bel_vin (n := 36) (by omega) (by omega) (by omega) q1.2
          · exact O.om j hj
  obtain ⟨k1, k2, k3⟩ := key
  exact ⟨k1, ⟨E.ef, E.et, E.ez, E.en, E.ey, k2, E.ep⟩, ⟨O.ot, O.on, O.of, O.oz, O.oy, k3, O.ok, O.oc, O.oh⟩⟩
theorem kind4 {x : Int32} (h : bel x 4 = true) : x = 0 ∨ x = 1 ∨ x = 2 ∨ x = 3 := by
  obtain ⟨j, hj, rfl⟩ := bel_nat (n := 4) (by omega) h
  rcases (show j = 0 ∨ j = 1 ∨ j = 2 ∨ j = 3 by omega) with rfl | rfl | rfl | rfl
  · exact Or.inl rfl
  · exact Or.inr (Or.inl rfl)
  · exact Or.inr (Or.inr (Or.inl rfl))
  · exact Or.inr (Or.inr (Or.inr rfl))
theorem person_sim {a b : WS} (E : EW a b) (O : OKW b) {x r1 r2 : Int32} {n1 n2 : Nat} {k1 c1 h1 a1 k2 c2 h2 a2 : Nat → Int32} (q1 : R_person x a.n a.kd a.ce a.ho a.ac r1 n1 k1 c1 h1 a1) (q2 : R_person x b.n b.kd b.ce b.ho b.ac r2 n2 k2 c2 h2 a2) : r1 = r2 ∧ EW (mkW a.f a.t a.z a.m n1 k1 c1 h1 a1 a.y) (mkW b.f b.t b.z b.m n2 k2 c2 h2 a2 b.y) ∧ OKW (mkW b.f b.t b.z b.m n2 k2 c2 h2 a2 b.y) := by
  rw [E.en] at q1
  rcases q2 with ⟨v1, v2, rfl, rfl, rfl, rfl, rfl⟩ | ⟨v1, v2, v3, rfl, rfl, rfl, rfl, rfl⟩ | ⟨v1, v2, v3, rfl, rfl, rfl, rfl, rfl⟩
  · rcases q1 with ⟨u1, u2, rfl, rfl, rfl, rfl, rfl⟩ | ⟨u1, u2, u3, rfl, rfl, rfl, rfl, rfl⟩ | ⟨u1, u2, u3, rfl, rfl, rfl, rfl, rfl⟩
    · exact ⟨u2.trans v2.symm, ⟨E.ef, E.et, E.ez, rfl, E.ey, E.em, E.ep⟩, O⟩
    · rw [u1] at v1; cases v1
    · rw [u1] at v1; cases v1
  · rcases q1 with ⟨u1, u2, rfl, rfl, rfl, rfl, rfl⟩ | ⟨u1, u2, u3, rfl, rfl, rfl, rfl, rfl⟩ | ⟨u1, u2, u3, rfl, rfl, rfl, rfl, rfl⟩
    · rw [u1] at v1; cases v1
    · exact ⟨u3.trans v3.symm, ⟨E.ef, E.et, E.ez, rfl, E.ey, E.em, E.ep⟩, O⟩
    · omega
  · rcases q1 with ⟨u1, u2, rfl, rfl, rfl, rfl, rfl⟩ | ⟨u1, u2, u3, rfl, rfl, rfl, rfl, rfl⟩ | ⟨u1, u2, u3, rfl, rfl, rfl, rfl, rfl⟩
    · rw [u1] at v1; cases v1
    · omega
    · refine ⟨u3.trans v3.symm, ⟨E.ef, E.et, E.ez, rfl, E.ey, E.em, fun j hj => ?_⟩, ⟨O.ot, ?_, O.of, O.oz, O.oy, O.om, fun j hj => ?_, fun j hj => ?_, fun j hj => ?_⟩⟩
      · have hj : j < b.n + 1 := hj
        show upd a.kd b.n x j = upd b.kd b.n x j ∧ upd a.ce b.n 0 j = upd b.ce b.n 0 j ∧ upd a.ho b.n 0 j = upd b.ho b.n 0 j ∧ upd a.ac b.n 0 j = upd b.ac b.n 0 j
        simp only [upd]
        by_cases q : j = b.n
        · simp [q]
        · simp only [if_neg q]; exact E.ep j (by omega)
      · show b.n + 1 ≤ 6; omega
      · have hj : j < b.n + 1 := hj
        show upd b.kd b.n x j = 0 ∨ upd b.kd b.n x j = 1 ∨ upd b.kd b.n x j = 2 ∨ upd b.kd b.n x j = 3
        simp only [upd]
        by_cases q : j = b.n
        · simp only [if_pos q]; exact kind4 v1
        · simp only [if_neg q]; exact O.ok j (by omega)
      · have hj : j < b.n + 1 := hj
        show vp_in (upd b.ce b.n 0 j) 36
        simp only [upd]
        by_cases q : j = b.n
        · rw [if_pos q]; exact vp_in_nI (n := 0) (by omega) (by omega)
        · rw [if_neg q]; exact O.oc j (by omega)
      · have hj : j < b.n + 1 := hj
        show 0 ≤ upd b.ho b.n 0 j
        simp only [upd]
        by_cases q : j = b.n
        · rw [if_pos q]; decide
        · rw [if_neg q]; exact O.oh j (by omega)
theorem bel_0 {x y : Int32} (h : bel x y = true) : 0 ≤ x := by
  simp only [bel, Bool.and_eq_true, Bool.not_eq_true', decide_eq_false_iff_not] at h
  exact Int32.not_lt.mp h.1
theorem sit_sim {a b : WS} (E : EW a b) (O : OKW b) {x y w r1 r2 : Int32} {c1 h1 c2 h2 : Nat → Int32} (q1 : R_sit x y w a.n a.ce a.ho r1 c1 h1) (q2 : R_sit x y w b.n b.ce b.ho r2 c2 h2) : r1 = r2 ∧ EW (mkW a.f a.t a.z a.m a.n a.kd c1 h1 a.ac a.y) (mkW b.f b.t b.z b.m b.n b.kd c2 h2 b.ac b.y) ∧ OKW (mkW b.f b.t b.z b.m b.n b.kd c2 h2 b.ac b.y) := by
  rw [E.en] at q1
  rcases q2 with ⟨v1, v2, rfl, rfl⟩ | ⟨v1, v2, rfl, rfl⟩
  · rcases q1 with ⟨u1, u2, rfl, rfl⟩ | ⟨u1, u2, rfl, rfl⟩
    · exact ⟨u2.trans v2.symm, ⟨E.ef, E.et, E.ez, E.en, E.ey, E.em, E.ep⟩, O⟩
    · rw [u1] at v1; cases v1
  · rcases q1 with ⟨u1, u2, rfl, rfl⟩ | ⟨u1, u2, rfl, rfl⟩
    · rw [u1] at v1; cases v1
    · rw [Bool.and_eq_true, Bool.and_eq_true] at v1
      have hn := O.on
      have hx := nat36 (n := b.n) (by omega) v1.1
      refine ⟨u2.trans ((E.ep _ hx).2.2.1.trans v2.symm), ⟨E.ef, E.et, E.ez, E.en, E.ey, E.em, fun j hj => ?_⟩, ⟨O.ot, O.on, O.of, O.oz, O.oy, O.om, O.ok, fun j hj => ?_, fun j hj => ?_⟩⟩
      · show a.kd j = b.kd j ∧ upd a.ce x.toNatClampNeg y j = upd b.ce x.toNatClampNeg y j ∧ upd a.ho x.toNatClampNeg w j = upd b.ho x.toNatClampNeg w j ∧ a.ac j = b.ac j
        have e := E.ep j hj
        simp only [upd]
        by_cases q : j = x.toNatClampNeg
        · simp only [if_pos q]; exact ⟨e.1, trivial, trivial, e.2.2.2⟩
        · simp only [if_neg q]; exact e
      · show vp_in (upd b.ce x.toNatClampNeg y j) 36
        simp only [upd]; split
        · exact bel_vin (n := 36) (by omega) (by omega) (by omega) v1.2.1
        · exact O.oc j hj
      · show 0 ≤ upd b.ho x.toNatClampNeg w j
        simp only [upd]; split
        · exact bel_0 v1.2.2
        · exact O.oh j hj
theorem told_sim {a b : WS} (E : EW a b) (O : OKW b) (x w : Int32) : toldF x w a.n a.kd a.ce a.ho a.ac = toldF x w b.n b.kd b.ce b.ho b.ac := by
  unfold toldF
  rw [E.en]
  cases h : bel x (nI b.n) with
  | false => rw [if_pos rfl, if_pos rfl]
  | true =>
    have hn := O.on
    obtain ⟨e1, e2, e3, e4⟩ := E.ep _ (nat36 (n := b.n) (by omega) h)
    rw [e1, e2, e3, e4]
theorem of_sim {a b : WS} (E : EW a b) (x w : Int32) : ofF x w a.f a.t a.m a.z a.n a.kd a.ce a.ho = ofF x w b.f b.t b.m b.z b.n b.kd b.ce b.ho := by
  unfold ofF
  rw [E.W (-1), E.ef, E.et, E.en, ti_congr E.em, wInF_congr E.k3]
theorem frost_sim {a b : WS} (E : EW a b) (O : OKW b) {x r1 r2 z1 z2 : Int32} (q1 : R_frost x a.z r1 z1) (q2 : R_frost x b.z r2 z2) : r1 = r2 ∧ EW (mkW a.f a.t z1 a.m a.n a.kd a.ce a.ho a.ac a.y) (mkW b.f b.t z2 b.m b.n b.kd b.ce b.ho b.ac b.y) ∧ OKW (mkW b.f b.t z2 b.m b.n b.kd b.ce b.ho b.ac b.y) := by
  rw [E.ez] at q1
  rcases q2 with ⟨v1, v2, rfl⟩ | ⟨v1, v2, rfl⟩
  · rcases q1 with ⟨u1, u2, rfl⟩ | ⟨u1, u2, rfl⟩
    · exact ⟨u2.trans v2.symm, ⟨E.ef, E.et, rfl, E.en, E.ey, E.em, E.ep⟩, O⟩
    · rw [u1] at v1; cases v1
  · rcases q1 with ⟨u1, u2, rfl⟩ | ⟨u1, u2, rfl⟩
    · rw [u1] at v1; cases v1
    · refine ⟨u2.trans v2.symm, ⟨E.ef, E.et, rfl, E.en, E.ey, E.em, E.ep⟩, ⟨O.ot, O.on, O.of, ?_, O.oy, O.om, O.ok, O.oc, O.oh⟩⟩
      obtain ⟨j, hj, e⟩ := bel_nat (n := 10) (by omega) v1
      exact ⟨j, hj, e⟩
theorem moss_sim {a b : WS} (E : EW a b) (O : OKW b) (x : Int32) : mossF x a.t a.m = mossF x b.t b.m := by
  unfold mossF
  rw [E.et]
  cases h : bel x (nI b.t) with
  | false => rw [if_pos rfl, if_pos rfl]
  | true =>
    have ht := O.ot
    rw [E.em _ (nat36 (n := b.t) (by omega) h)]
theorem pull_sim {a b : WS} (E : EW a b) (O : OKW b) (x w : Int32) : pullF x w a.t a.m a.n a.kd a.ce a.ho = pullF x w b.t b.m b.n b.kd b.ce b.ho := by
  unfold pullF
  rw [E.et, E.en, seatF_congr (fun i hi => ⟨(E.k3 i hi).2.1, (E.k3 i hi).2.2⟩), wInF_congr E.k3]
  cases h : (bel x 36 && bel w (nI b.t)) with
  | false => rw [if_pos rfl, if_pos rfl]
  | true =>
    rw [Bool.and_eq_true] at h
    have ht := O.ot
    rw [E.em _ (nat36 (n := b.t) (by omega) h.2)]
theorem way_sim {a b : WS} (E : EW a b) (x y : Int32) : wayF x y (wkX a.z a.f a.m a.t (-1)) = wayF x y (wkX b.z b.f b.m b.t (-1)) := by rw [E.W]
theorem route_sim {a b : WS} (E : EW a b) {kt : Nat → Int32} {x y i r1 r2 : Int32} (h1 : r1 = rtF x y i (rdS (wkX a.z a.f a.m a.t (-1)) (kcX a.z a.f) 36 true (inF kt (wkX a.z a.f a.m a.t (-1)) y)) (wkX a.z a.f a.m a.t (-1)) (kcX a.z a.f)) (h2 : r2 = rtN x y i (VN (wkX b.z b.f b.m b.t (-1)) (kcX b.z b.f) y.toNatClampNeg) (kcX b.z b.f)) : r1 = r2 := by
  rw [h1, h2, rt_eq, E.W, E.C]
theorem parts_sim {a b : WS} (E : EW a b) : (ptF (wkX a.z a.f a.m a.t (-1)) 36).2 = (ptF (wkX b.z b.f b.m b.t (-1)) 36).2 := by rw [E.W]
theorem TL_sim {a b : WS} (E : EW a b) (p : Nat) (x y : Int32) : TL p a.kd a.ce a.ho a.n a.z a.f a.m a.t x y = TL p b.kd b.ce b.ho b.n b.z b.f b.m b.t x y := by
  funext w h
  unfold TL
  rw [E.en, E.ez, E.ef, E.et]
  refine congrArg (fun q => stX q x y) (thW_congr (fun i hi => ?_) b.z b.f E.em)
  have e := E.k3 i hi
  refine ⟨e.1, ?_, ?_⟩
  · simp only [upd]; rw [e.2.1]
  · simp only [upd]; rw [e.2.2]
theorem least_sim {a b : WS} (E : EW a b) (o x y w : Int32) : leastF o x y w a.kd a.ce a.ho a.n a.z a.f a.m a.t = leastF o x y w b.kd b.ce b.ho b.n b.z b.f b.m b.t := by
  unfold leastF
  rw [TL_sim E, E.en]
theorem pl_sim {a b : WS} (E : EW a b) (x y : Int32) : ∀ n, plS a.z a.f a.m a.t x y n = plS b.z b.f b.m b.t x y n
  | 0 => rfl
  | n + 1 => by rw [plS, plS, pl_sim E x y n, E.W]
theorem pilots_sim {a b : WS} (E : EW a b) (x y : Int32) : pilotsF x y a.z a.f a.m a.t = pilotsF x y b.z b.f b.m b.t := by
  unfold pilotsF
  rw [E.W, E.et]
  have e := pl_sim E x y b.t
  rw [E.et] at e
  rw [e]
