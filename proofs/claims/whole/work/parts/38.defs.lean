/-! sheets -/
theorem j64 {n : Nat} (hn : n < 2 ^ 31) : (nI n).toInt64.toInt = n := by rw [Int32.toInt_toInt64, nI_toInt hn]
theorem lt64 {n i w : Nat} (hn : n < 2 ^ 31) (hi : i < 2 ^ 31) (hw : w < 2 ^ 31) : ((nI n).toInt64 < (nI i).toInt64 + (nI w).toInt64) ↔ n < i + w := by
  rw [Int64.lt_iff_toInt_lt, Int64.toInt_add, j64 hn, j64 hi, j64 hw]
  have : (↑i + ↑w : Int).bmod (2 ^ 64) = ↑i + ↑w := by
    apply Int.bmod_eq_of_le <;> omega
  rw [this]
  omega
theorem spn_wh {i : Int32} {w n : Nat} (hn : n ≤ 16) (hw : w < 2 ^ 31) : spn i (nI w) n = false ↔ (i < 0 ∨ (nI n).toInt64 < i.toInt64 + (nI w).toInt64) := by
  by_cases h : i < 0
  · constructor
    · exact fun _ => Or.inl h
    · intro _; unfold spn; rw [decide_eq_true h]; rfl
  · obtain ⟨p, hp, rfl⟩ := nI_of h
    rw [lt64 (by omega) hp hw]
    have hw0 : ¬ nI w < 0 := nI_pos hw
    unfold spn
    rw [decide_eq_false h, decide_eq_false hw0]
    by_cases q : n < p
    · rw [decide_eq_true ((nI_ltI (by omega) hp).mpr q)]
      constructor
      · exact fun _ => Or.inr (by omega)
      · exact fun _ => rfl
    · have hq : ¬ nI n < nI p := fun r => q ((nI_ltI (by omega) hp).mp r)
      rw [decide_eq_false hq, pk_sub (by omega)]
      by_cases r : n - p < w
      · rw [decide_eq_true ((nI_ltI (by omega) hw).mpr r)]
        constructor
        · exact fun _ => Or.inr (by omega)
        · exact fun _ => rfl
      · have hr : ¬ nI (n - p) < nI w := fun t => r ((nI_ltI (by omega) hw).mp t)
        rw [decide_eq_false hr]
        constructor
        · exact fun t => absurd t (by decide)
        · intro t
          rcases t with t | t
          · exact absurd t h
          · omega
theorem rf_wh {s : SS} {k : Nat} {la sz : Nat → Int32} {it : Nat → Int64} (H : SH s k la sz it) (l i : Int32) {w : Nat} (hw : w < 2 ^ 31) : rfs s.h s.l s.n l i (nI w) = whM (la k) l i (nI w) (sz k) := by
  obtain ⟨h1, h2, h3, h4, h5⟩ := H
  unfold rfs whM
  cases hh : s.h with
  | false => rw [if_pos rfl, if_pos (h2 hh)]
  | true =>
    obtain ⟨e, p⟩ := h1 hh
    rw [if_neg (by decide), e, if_neg (Int32.not_lt.mpr p), h3]
    by_cases c : s.l = l
    · rw [if_pos c, if_pos c]
      by_cases q : spn i (nI w) s.n = false
      · rw [if_pos q]
        rcases (spn_wh h4 hw).mp q with r | r
        · rw [if_pos r]
        · by_cases t : i < 0
          · rw [if_pos t]
          · rw [if_neg t, if_pos r]
      · rw [if_neg q, if_neg (fun r => q ((spn_wh h4 hw).mpr (Or.inl r))), if_neg (fun r => q ((spn_wh h4 hw).mpr (Or.inr r)))]
    · rw [if_neg c, if_neg c]
abbrev mkS (h : Bool) (l : Int32) (n : Nat) (i : Nat → Int64) : SS := (h, l, n, i)
theorem clx {x : Int32} {k : Nat} (hk : k < 4) (e : x = nI k) : x.toNatClampNeg = k := by rw [e, nI_clamp (by omega)]
/-- what a sheet's row becomes, and the others stay -/
def OT (k : Nat) (la sz : Nat → Int32) (it : Nat → Int64) (la' sz' : Nat → Int32) (it' : Nat → Int64) : Prop := ∀ (j : Nat) (s : SS), j < 4 → ¬ j = k → SH s j la sz it → SH s j la' sz' it'
theorem OT_rfl {k : Nat} {la sz : Nat → Int32} {it : Nat → Int64} : OT k la sz it la sz it := fun _ _ _ _ h => h
theorem sheet_sim {k : Nat} (hk : k < 4) {s : SS} {la sz : Nat → Int32} {it : Nat → Int64} (H : SH s k la sz it) {x l y r1 r2 : Int32} (hx : bel x 4 = true → x = nI k) {h' : Bool} {l' : Int32} {n' : Nat} {i' : Nat → Int64} {la' sz' : Nat → Int32} {it' : Nat → Int64} (q1 : R_sheet x l y s.h s.l s.n s.i r1 h' l' n' i') (q2 : R_sheetM x l y la sz it r2 la' sz' it') : r1 = r2 ∧ SH (mkS h' l' n' i') k la' sz' it' ∧ OT k la sz it la' sz' it' := by
  rcases q2 with ⟨v1, v2, rfl, rfl, rfl⟩ | ⟨v1, v2, v3, rfl, rfl, rfl⟩ | ⟨v1, v2, v3, rfl, rfl, rfl⟩
  · rcases q1 with ⟨u1, u2, rfl, rfl, rfl, rfl⟩ | ⟨u1, u2, u3, rfl, rfl, rfl, rfl⟩ | ⟨u1, u2, u3, rfl, rfl, u4, u5, u6⟩
    · exact ⟨u2.trans v2.symm, H, OT_rfl⟩
    · rw [u1] at v1; cases v1
    · rw [u1] at v1; cases v1
  · rcases q1 with ⟨u1, u2, rfl, rfl, rfl, rfl⟩ | ⟨u1, u2, u3, rfl, rfl, rfl, rfl⟩ | ⟨u1, u2, u3, rfl, rfl, u4, u5, u6⟩
    · rw [u1] at v1; cases v1
    · exact ⟨u3.trans v3.symm, H, OT_rfl⟩
    · exact absurd u2 v2
  · rcases q1 with ⟨u1, u2, rfl, rfl, rfl, rfl⟩ | ⟨u1, u2, u3, rfl, rfl, rfl, rfl⟩ | ⟨u1, u2, u3, rfl, rfl, u4, u5, u6⟩
    · rw [u1] at v1; cases v1
    · exact absurd v2 u2
    · rw [Bool.and_eq_true, Bool.and_eq_true] at v1
      have ex := clx hk (hx v1.1)
      rw [ex]
      refine ⟨u3.trans v3.symm, ⟨fun _ => ⟨?_, bel_0 v1.2.1⟩, fun q => (by cases q), ?_, u5, fun _ j hj => ?_⟩, fun j t hj hne h => ?_⟩
      · simp [upd]; rfl
      · simp only [upd]; rw [if_pos trivial]; exact u4
      · show i' j = zrF it (16 * k) 16 (16 * k + j)
        have hj : j < n' := hj
        rw [u6 j hj]
        simp only [zrF]
        rw [if_pos (by omega)]
      · obtain ⟨a1, a2, a3, a4, a5⟩ := h
        refine ⟨fun q => ?_, fun q => ?_, ?_, a4, fun q i hi => ?_⟩
        · simp only [upd]; rw [if_neg hne]; exact a1 q
        · simp only [upd]; rw [if_neg hne]; exact a2 q
        · simp only [upd]; rw [if_neg hne]; exact a3
        · rw [a5 q i hi]
          simp only [zrF]
          rw [if_neg (by omega)]
theorem drop_sim {k : Nat} (hk : k < 4) {s : SS} {la sz : Nat → Int32} {it : Nat → Int64} (H : SH s k la sz it) {x r1 r2 : Int32} (hx : bel x 4 = true → x = nI k) {h' : Bool} {la' : Nat → Int32} (q1 : R_drop x s.h s.n r1 h') (q2 : R_dropM x la sz r2 la') : r1 = r2 ∧ SH (mkS h' s.l s.n s.i) k la' sz it ∧ OT k la sz it la' sz it := by
  have H0 := H
  obtain ⟨b1, b2, b3, b4, b5⟩ := H
  rcases q2 with ⟨v1, v2, rfl⟩ | ⟨v1, v2, v3, rfl⟩ | ⟨v1, v2, v3, rfl⟩
  · rcases q1 with ⟨u1, u2, rfl⟩ | ⟨u1, u2, u3, rfl⟩ | ⟨u1, u2, u3, rfl⟩
    · exact ⟨u2.trans v2.symm, H0, OT_rfl⟩
    · rw [u1] at v1; cases v1
    · rw [u1] at v1; cases v1
  · rcases q1 with ⟨u1, u2, rfl⟩ | ⟨u1, u2, u3, rfl⟩ | ⟨u1, u2, u3, rfl⟩
    · rw [u1] at v1; cases v1
    · exact ⟨u3.trans v3.symm, H0, OT_rfl⟩
    · rw [clx hk (hx u1), (b1 u2).1] at v2
      exact absurd (b1 u2).2 v2
  · rcases q1 with ⟨u1, u2, rfl⟩ | ⟨u1, u2, u3, rfl⟩ | ⟨u1, u2, u3, rfl⟩
    · rw [u1] at v1; cases v1
    · rw [clx hk (hx u1)] at v2
      exact absurd (b2 u2) (Int32.not_lt.mpr v2)
    · have ex := clx hk (hx u1)
      rw [ex] at v3
      rw [ex]
      refine ⟨u3.trans (b3.symm.trans v3.symm), ⟨fun q => (by cases q), fun _ => ?_, b3, b4, fun q => (by cases q)⟩, fun j t hj hne h => ?_⟩
      · simp only [upd]; rw [if_pos trivial]; decide
      · obtain ⟨a1, a2, a3, a4, a5⟩ := h
        refine ⟨fun q => ?_, fun q => ?_, a3, a4, a5⟩
        · simp only [upd]; rw [if_neg hne]; exact a1 q
        · simp only [upd]; rw [if_neg hne]; exact a2 q
theorem wh_0 {la l i n sz : Int32} (h : 0 ≤ whM la l i n sz) : whM la l i n sz = 0 := by
  rcases whM_cases la l i n sz with q | q
  · exact q
  · exact absurd h (whM_0 q)
theorem film_sim {a b : WS} (E : EW a b) (O : OKW b) {k : Nat} (hk : k < 4) {s : SS} {la sz : Nat → Int32} {it : Nat → Int64} (H : SH s k la sz it) {x l i r1 r2 : Int32} (hx : bel x 4 = true → x = nI k) {i1 i2 : Nat → Int64} (q1 : R_film x l i s.h s.l s.n s.i a.t a.m r1 i1) (q2 : R_filmM x l i la sz it b.t b.m r2 i2) : r1 = r2 ∧ SH (mkS s.h s.l s.n i1) k la sz i2 ∧ OT k la sz it la sz i2 := by
  have H0 := H
  obtain ⟨b1, b2, b3, b4, b5⟩ := H
  have ht := O.ot
  rw [E.et] at q1
  have key : bel x 4 = true → rfs s.h s.l s.n l i (nI b.t) = whM (la x.toNatClampNeg) l i (nI b.t) (sz x.toNatClampNeg) := fun q => by
    rw [clx hk (hx q)]; exact rf_wh H0 l i (by omega)
  rcases q2 with ⟨v1, v2, rfl⟩ | ⟨v1, v2, v3, rfl⟩ | ⟨v1, v2, v3, rfl⟩
  · rcases q1 with ⟨u1, u2, rfl⟩ | ⟨u1, u2, u3, rfl⟩ | ⟨u1, u2, u3, rfl⟩
    · exact ⟨u2.trans v2.symm, H0, OT_rfl⟩
    · rw [u1] at v1; cases v1
    · rw [u1] at v1; cases v1
  · have v0 := v1
    rw [Bool.and_eq_true] at v0
    rcases q1 with ⟨u1, u2, rfl⟩ | ⟨u1, u2, u3, rfl⟩ | ⟨u1, u2, u3, rfl⟩
    · rw [u1] at v1; cases v1
    · exact ⟨u3.trans ((key v0.1).trans v3.symm), H0, OT_rfl⟩
    · rw [← key v0.1, u2] at v2
      exact absurd (by decide) v2
  · have v0 := v1
    rw [Bool.and_eq_true] at v0
    rcases q1 with ⟨u1, u2, rfl⟩ | ⟨u1, u2, u3, rfl⟩ | ⟨u1, u2, u3, rfl⟩
    · rw [u1] at v1; cases v1
    · rw [key v0.1] at u2
      exact absurd (wh_0 v2) u2
    · obtain ⟨p, rfl, hp⟩ := rfs_nat (w := b.t) b4 (by omega) u2
      have hh := (rfs_0 u2).1
      have ex := clx hk (hx v0.1)
      rw [ex, nI_clamp (by omega)]
      refine ⟨u3.trans v3.symm, ⟨b1, b2, b3, b4, fun _ j hj => ?_⟩, fun j t hj hne h => ?_⟩
      · have hj : j < s.n := hj
        show flF s.i a.m p b.t j = flF it b.m (16 * k + p) b.t (16 * k + j)
        simp only [flF]
        by_cases c : p ≤ j ∧ j < p + b.t
        · rw [if_pos c, if_pos (by omega), E.em _ (by omega), show 16 * k + j - (16 * k + p) = j - p by omega]
        · rw [if_neg c, if_neg (by omega)]; exact b5 hh j hj
      · obtain ⟨a1, a2, a3, a4, a5⟩ := h
        refine ⟨a1, a2, a3, a4, fun q i hi => ?_⟩
        rw [a5 q i hi]
        simp only [flF]
        rw [if_neg (by omega)]
theorem item_sim {k : Nat} (hk : k < 4) {s : SS} {la sz : Nat → Int32} {it : Nat → Int64} (H : SH s k la sz it) {x l i r1 r2 : Int32} {v : Int64} (hx : bel x 4 = true → x = nI k) {i1 i2 : Nat → Int64} (q1 : R_item x l i v s.h s.l s.n s.i r1 i1) (q2 : R_itemM x l i v la sz it r2 i2) : r1 = r2 ∧ SH (mkS s.h s.l s.n i1) k la sz i2 ∧ OT k la sz it la sz i2 := by
  have H0 := H
  obtain ⟨b1, b2, b3, b4, b5⟩ := H
  have key : bel x 4 = true → rfs s.h s.l s.n l i 1 = whM (la x.toNatClampNeg) l i 1 (sz x.toNatClampNeg) := fun q => by
    rw [clx hk (hx q)]; exact rf_wh H0 l i (w := 1) (by omega)
  rcases q2 with ⟨v1, v2, rfl⟩ | ⟨v1, v2, v3, rfl⟩ | ⟨v1, v2, v3, rfl⟩
  · rcases q1 with ⟨u1, u2, rfl⟩ | ⟨u1, u2, u3, rfl⟩ | ⟨u1, u2, u3, rfl⟩
    · exact ⟨u2.trans v2.symm, H0, OT_rfl⟩
    · rw [u1] at v1; cases v1
    · rw [u1] at v1; cases v1
  · have v0 := v1
    rw [Bool.and_eq_true] at v0
    rcases q1 with ⟨u1, u2, rfl⟩ | ⟨u1, u2, u3, rfl⟩ | ⟨u1, u2, u3, rfl⟩
    · rw [u1] at v1; cases v1
    · exact ⟨u3.trans ((key v0.1).trans v3.symm), H0, OT_rfl⟩
    · rw [← key v0.1, u2] at v2
      exact absurd (by decide) v2
  · have v0 := v1
    rw [Bool.and_eq_true] at v0
    rcases q1 with ⟨u1, u2, rfl⟩ | ⟨u1, u2, u3, rfl⟩ | ⟨u1, u2, u3, rfl⟩
    · rw [u1] at v1; cases v1
    · rw [key v0.1] at u2
      exact absurd (wh_0 v2) u2
    · obtain ⟨p, rfl, hp⟩ := rfs_nat (w := 1) b4 (by omega) u2
      have hh := (rfs_0 u2).1
      have ex := clx hk (hx v0.1)
      rw [ex, nI_clamp (by omega), (b1 hh).1]
      refine ⟨u3.trans v3.symm, ⟨b1, b2, b3, b4, fun _ j hj => ?_⟩, fun j t hj hne h => ?_⟩
      · have hj : j < s.n := hj
        show vp_updL s.i p (cutL s.l v) j = vp_updL it (16 * k + p) (cutL s.l v) (16 * k + j)
        simp only [vp_updL]
        by_cases c : j = p
        · rw [if_pos c, if_pos (by omega)]
        · rw [if_neg c, if_neg (by omega)]; exact b5 hh j hj
      · obtain ⟨a1, a2, a3, a4, a5⟩ := h
        refine ⟨a1, a2, a3, a4, fun q i hi => ?_⟩
        rw [a5 q i hi]
        simp only [vp_updL]
        rw [if_neg (by omega)]
theorem tel_it {h1 h2 : Nat → Int64} {m : Nat → Int32} {j : Nat} : ∀ {n : Nat}, (∀ q, q < n → h1 (j + q) = h2 (j + q)) → telF h1 m j n = telF h2 m j n
  | 0, _ => rfl
  | n + 1, h => by rw [telF, telF, tel_it (fun q hq => h q (by omega)), h n (by omega)]
theorem TS_sim {a b : WS} (E : EW a b) {i1 i2 : Nat → Int64} {i : Nat} (hi : ∀ q, q < b.t → i1 (i + q) = i2 (i + q)) (p : Nat) (h : Int32) (w : Nat) : TS p h a.kd a.ce a.ho a.n a.z a.m a.t i1 i w = TS p h b.kd b.ce b.ho b.n b.z b.m b.t i2 i w := by
  unfold TS
  rw [E.et, E.en, E.ez, tel_it hi]
  refine telF_congr (fun j hj => ?_)
  rw [E.em j hj]
  refine mvd_congr (fun k hk => ?_) _ _
  have e := E.k3 k hk
  refine ⟨e.1, ?_, ?_⟩
  · simp only [upd]; rw [e.2.1]
  · simp only [upd]; rw [e.2.2]
theorem satS_sim {a b : WS} (E : EW a b) {i1 i2 : Nat → Int64} {i : Nat} (hi : ∀ q, q < b.t → i1 (i + q) = i2 (i + q)) (p : Nat) (h : Int32) : ∀ w, satS p h a.kd a.ce a.ho a.n a.z a.m a.t i1 i w = satS p h b.kd b.ce b.ho b.n b.z b.m b.t i2 i w
  | 0 => rfl
  | w + 1 => by rw [satS, satS, satS_sim E hi p h w, TS_sim E hi]
theorem sat_sim {a b : WS} (E : EW a b) (O : OKW b) {k : Nat} (hk : k < 4) {s : SS} {la sz : Nat → Int32} {it : Nat → Int64} (H : SH s k la sz it) (p h x l i : Int32) (hx : bel x 4 = true → x = nI k) : satF p h x l i s.h s.l s.n s.i a.kd a.ce a.ho a.n a.z a.m a.t = satM p h x l i la sz it b.kd b.ce b.ho b.n b.z b.m b.t := by
  have ht := O.ot
  unfold satF satM
  rw [E.en]
  by_cases c : (bel p (nI b.n) && (stay h && (bel x 4 && bel l 3))) = false
  · rw [if_pos c, if_pos c]
  · rw [if_neg c, if_neg c]
    rw [Bool.not_eq_false, Bool.and_eq_true, Bool.and_eq_true, Bool.and_eq_true] at c
    have ex := clx hk (hx c.2.2.1)
    have key := rf_wh H l i (w := b.t) (by omega)
    rw [E.et, ex, ← key]
    by_cases q : rfs s.h s.l s.n l i (nI b.t) = 0
    · rw [if_pos q, if_pos (by rw [q]; decide)]
      obtain ⟨j, rfl, hj⟩ := rfs_nat (w := b.t) H.2.2.2.1 (by omega) q
      have h16 := H.2.2.2.1
      have e0 := satS_sim E (i1 := s.i) (i2 := itM it k) (i := j) (fun r hr => by
        show s.i (j + r) = it (16 * k + (j + r))
        exact H.2.2.2.2 (rfs_0 q).1 _ (by omega)) p.toNatClampNeg h 36
      rw [E.en, E.et] at e0
      rw [nI_clamp (by omega)]
      exact e0
    · rw [if_neg q, if_neg (fun r => q (by rw [key] at r ⊢; exact wh_0 r))]
theorem copy_eq {k1 k2 : Nat} (hk1 : k1 < 4) (hk2 : k2 < 4) {s1 s2 : SS} {la sz : Nat → Int32} {it : Nat → Int64} (H1 : SH s1 k1 la sz it) (H2 : SH s2 k2 la sz it) {x y : Int32} (hx : bel x 4 = true → x = nI k1) (hy : bel y 4 = true → y = nI k2) (i j k : Int32) : copyR x y i j k s1.h s2.h s1.l s2.l s1.n s2.n = copyG x y i j k la sz := by
  unfold copyR copyG
  by_cases c : (bel x 4 && bel y 4) = false
  · rw [if_pos c, if_pos c]
  · rw [if_neg c, if_neg c]
    rw [Bool.not_eq_false, Bool.and_eq_true] at c
    rw [clx hk1 (hx c.1), clx hk2 (hy c.2)]
    have a0 := H1
    have b0 := H2
    obtain ⟨a1, a2, a3, a4, -⟩ := H1
    obtain ⟨b1, b2, b3, b4, -⟩ := H2
    by_cases q : (s1.h && s2.h) = false
    · rw [if_pos q, if_pos]
      rw [Bool.and_eq_false_iff] at q
      exact q.elim (fun r => Or.inl (a2 r)) (fun r => Or.inr (b2 r))
    · rw [if_neg q]
      rw [Bool.not_eq_false, Bool.and_eq_true] at q
      obtain ⟨e1, p1⟩ := a1 q.1
      obtain ⟨e2, p2⟩ := b1 q.2
      have m1 : ¬ (s1.l < 0 ∨ s2.l < 0) := fun r => r.elim (Int32.not_lt.mpr p1) (Int32.not_lt.mpr p2)
      rw [e1, e2, if_neg m1]
      by_cases t : s1.l = s2.l
      · have t1 : ¬ ¬ s1.l = s2.l := fun r => r t
        rw [if_neg t1, if_neg t1]
        by_cases n0 : k < 0
        · rw [if_pos (Or.inl n0), if_pos]
          have : spn i k s1.n = false := by
            unfold spn; rw [decide_eq_true n0]; simp
          rw [this]; rfl
        · obtain ⟨w, hw, rfl⟩ := nI_of n0
          have w1 : (whM s1.l s1.l i (nI w) (sz k1) < 0) ↔ spn i (nI w) s1.n = false := by
            rw [spn_wh a4 hw, a3]
            unfold whM
            rw [if_neg (Int32.not_lt.mpr p1), if_pos rfl]
            split
            · exact ⟨fun _ => Or.inl (by assumption), fun _ => by decide⟩
            · split
              · exact ⟨fun _ => Or.inr (by assumption), fun _ => by decide⟩
              · exact ⟨fun r => absurd r (by decide), fun r => r.elim (fun r => absurd r (by assumption)) (fun r => absurd r (by assumption))⟩
          have w2 : (whM s2.l s2.l j (nI w) (sz k2) < 0) ↔ spn j (nI w) s2.n = false := by
            rw [spn_wh b4 hw, b3]
            unfold whM
            rw [if_neg (Int32.not_lt.mpr p2), if_pos rfl]
            split
            · exact ⟨fun _ => Or.inl (by assumption), fun _ => by decide⟩
            · split
              · exact ⟨fun _ => Or.inr (by assumption), fun _ => by decide⟩
              · exact ⟨fun r => absurd r (by decide), fun r => r.elim (fun r => absurd r (by assumption)) (fun r => absurd r (by assumption))⟩
          by_cases z : (spn i (nI w) s1.n && spn j (nI w) s2.n) = false
          · rw [if_pos z, if_pos]
            rw [Bool.and_eq_false_iff] at z
            exact Or.inr (z.elim (fun r => Or.inl (w1.mpr r)) (fun r => Or.inr (w2.mpr r)))
          · rw [if_neg z, if_neg]
            rw [Bool.not_eq_false, Bool.and_eq_true] at z
            rintro (r | r | r)
            · exact n0 r
            · rw [w1.mp r] at z; exact absurd z.1 (by decide)
            · rw [w2.mp r] at z; exact absurd z.2 (by decide)
      · rw [if_pos t, if_pos t]
theorem copyR_y {x y i j k : Int32} {h1 h2 : Bool} {l1 l2 : Int32} {n1 n2 : Nat} (q : copyR x y i j k h1 h2 l1 l2 n1 n2 = 0) : bel x 4 = true ∧ bel y 4 = true ∧ h1 = true ∧ h2 = true ∧ spn i k n1 = true ∧ spn j k n2 = true := by
  unfold copyR at q
  split at q
  · exact absurd q (by decide)
  · rename_i c1
    split at q
    · exact absurd q (by decide)
    · rename_i c2
      split at q
      · exact absurd q (by decide)
      · split at q
        · exact absurd q (by decide)
        · rename_i c4
          rw [Bool.not_eq_false, Bool.and_eq_true] at c1 c2 c4
          exact ⟨c1.1, c1.2, c2.1, c2.2, c4.1, c4.2⟩
theorem copy_sim {k1 k2 : Nat} (hk1 : k1 < 4) (hk2 : k2 < 4) {s1 s2 : SS} {la sz : Nat → Int32} {it : Nat → Int64} (H1 : SH s1 k1 la sz it) (H2 : SH s2 k2 la sz it) {x y i j k r1 r2 : Int32} (hx : bel x 4 = true → x = nI k1) (hy : bel y 4 = true → y = nI k2) {i1 i2 : Nat → Int64} (q1 : R_copy x y i j k s1.h s2.h s1.l s2.l s1.n s2.n s1.i s2.i r1 i1) (q2 : R_copyM x y i j k la sz it r2 i2) : r1 = r2 ∧ SH (mkS s2.h s2.l s2.n i1) k2 la sz i2 ∧ OT k2 la sz it la sz i2 := by
  have e := copy_eq hk1 hk2 H1 H2 hx hy i j k
  rcases q1 with ⟨u1, u2, rfl⟩ | ⟨u1, u2, rfl⟩
  · rcases q2 with ⟨v1, v2, rfl⟩ | ⟨v1, v2, rfl⟩
    · exact ⟨u2.trans (e.trans v2.symm), H2, OT_rfl⟩
    · rw [e] at u1; exact absurd v1 u1
  · rcases q2 with ⟨v1, v2, rfl⟩ | ⟨v1, v2, rfl⟩
    · rw [e] at u1; exact absurd u1 v1
    · obtain ⟨c1, c2, c3, c4, c5, c6⟩ := copyR_y u1
      obtain ⟨a1, a2, a3, a4, a5⟩ := H1
      obtain ⟨b1, b2, b3, b4, b5⟩ := H2
      obtain ⟨-, -, d1⟩ := spn_3 a4 c5
      obtain ⟨-, -, d2⟩ := spn_3 b4 c6
      rw [clx hk1 (hx c1), clx hk2 (hy c2)]
      generalize i.toNatClampNeg = i' at *
      generalize j.toNatClampNeg = j' at *
      generalize k.toNatClampNeg = k' at *
      refine ⟨u2.trans v2.symm, ⟨b1, b2, b3, b4, fun _ q hq => ?_⟩, fun q t hq hne h => ?_⟩
      · have hq : q < s2.n := hq
        show va_cpy s1.i s2.i i' j' k' q = mvF it (16 * k2 + j') (16 * k1 + i') k' (16 * k2 + q)
        simp only [va_cpy, mvF]
        by_cases c : j' ≤ q ∧ q < j' + k'
        · rw [if_pos c, if_pos (by omega), a5 c3 _ (by omega), show 16 * k1 + (i' + (q - j')) = 16 * k1 + i' + (16 * k2 + q - (16 * k2 + j')) by omega]
        · rw [if_neg c, if_neg (by omega)]; exact b5 c4 q hq
      · obtain ⟨g1, g2, g3, g4, g5⟩ := h
        refine ⟨g1, g2, g3, g4, fun r p hp => ?_⟩
        rw [g5 r p hp]
        simp only [mvF]
        rw [if_neg (by omega)]
