theorem ocl36 : ∀ i, i < 36 → ∀ j, j < 36 → i = j ∨ (¬ ocl (nI i) (nI j) < 0 ∧ ocl (nI i) (nI j) < 36) := by decide +kernel
theorem gl_36 {kd ce ho : Nat → Int32} {n : Nat} (hc : ∀ j, j < n → vp_in (ce j) 36) {x : Int32} (hx : vp_in x 36) : vp_in (gl kd ce ho n x) 36 := by
  by_cases q : ∃ y, isGl kd ce ho n x y
  · obtain ⟨y, hy⟩ := q
    rw [gl_of hy]
    obtain ⟨i, hi, rfl⟩ := seat_cell hc hy.1
    exact vp_in_nI hi (by omega)
  · rw [gl_no q]; exact hx
theorem mvd_36 {kd ce ho : Nat → Int32} {n : Nat} (hc : ∀ j, j < n → vp_in (ce j) 36) {z x : Int32} (hx : vp_in x 36) : vp_in (mvd kd ce ho n z x) 36 := by
  by_cases h0 : z = 0
  · by_cases hg : gl kd ce ho n x = x
    · rw [mvd_id hg]; exact hx
    · rw [mvd_go h0 hg]
      have h1 := gl_36 (kd := kd) (ho := ho) hc hx
      obtain ⟨i, hi, e⟩ := vin_of hx
      obtain ⟨j, hj, e2⟩ := vin_of h1
      rw [e2] at hg ⊢
      rw [e] at hg ⊢
      rcases ocl36 i hi j hj with q | ⟨q1, q2⟩
      · rw [q] at hg; exact absurd rfl hg
      · exact vin36 q1 q2
  · rw [mvd_fr h0]; exact hx
theorem str36 {kd ce ho : Nat → Int32} : ∀ {n : Nat}, (∀ j, j < n → vp_in (ce j) 36) → in36 (strF kd ce ho n)
  | 0, _ => by show in36 0; unfold in36; decide
  | n + 1, h => by
    have ih := str36 (kd := kd) (ho := ho) (n := n) (fun j hj => h j (by omega))
    rw [strF]
    split
    · obtain ⟨j, hj, e⟩ := vin_of (h n (by omega))
      rw [e]; exact or36 ih (bitI36 j hj)
    · exact ih
theorem fr10 : ∀ q, q < 10 → ∃ p, p < 10 ∧ frX (nI q) = nI p := by
  intro q hq
  have h : ∀ q, q < 10 → frX (nI q) = nI (q - 1) := by decide +kernel
  exact ⟨q - 1, by omega, h q hq⟩
theorem y_suc {y : Int32} (h : y < 9999) : y + 1 ≤ 9999 := by
  rw [Int32.le_iff_toInt_le]
  rw [Int32.lt_iff_toInt_lt] at h
  rw [Int32.toInt_add]
  have e : (9999 : Int32).toInt = 9999 := by decide
  have e1 : (1 : Int32).toInt = 1 := by decide
  rw [e] at h ⊢
  rw [e1]
  have h2 := Int32.le_toInt y
  have : (y.toInt + 1).bmod (2 ^ 32) = y.toInt + 1 := by
    apply Int.bmod_eq_of_le <;> omega
  rw [this]
  omega
theorem year_sim {a b : WS} (E : EW a b) (O : OKW b) {r1 r2 z1 z2 y1 y2 : Int32} {f1 f2 : Int64} {m1 m2 h1 h2 c1 c2 : Nat → Int32} (q1 : R_year a.f a.t a.m a.z a.n a.kd a.ce a.ho a.ac a.y r1 f1 m1 z1 h1 c1 y1) (q2 : R_year b.f b.t b.m b.z b.n b.kd b.ce b.ho b.ac b.y r2 f2 m2 z2 h2 c2 y2) : r1 = r2 ∧ EW (mkW f1 a.t z1 m1 a.n a.kd a.ce h1 c1 y1) (mkW f2 b.t z2 m2 b.n b.kd b.ce h2 c2 y2) ∧ OKW (mkW f2 b.t z2 m2 b.n b.kd b.ce h2 c2 y2) := by
  rcases q2 with ⟨v1, v2, rfl, rfl, rfl, rfl, rfl, rfl⟩ | ⟨v1, v2, v3, v4, v5, v6, v7⟩
  · rcases q1 with ⟨u1, u2, rfl, rfl, rfl, rfl, rfl, rfl⟩ | ⟨u1, u2, u3, u4, u5, u6, u7⟩
    · exact ⟨u2.trans v2.symm, ⟨E.ef, E.et, E.ez, E.en, E.ey, E.em, E.ep⟩, O⟩
    · rw [E.ey] at u1; exact absurd u1 v1
  · rcases q1 with ⟨u1, u2, rfl, rfl, rfl, rfl, rfl, rfl⟩ | ⟨u1, u2, u3, u4, u5, u6, u7⟩
    · rw [E.ey] at u1; exact absurd v1 u1
    · rw [E.et, E.en, E.ez, mvC_congr E.k3 b.z E.em] at u2
      rw [E.ef, E.en, strF_congr E.k3] at u3
      rw [E.ez] at u5
      rw [E.ey] at u7
      refine ⟨u2.trans v2.symm, ⟨u3.trans v3.symm, E.et, u5.trans v5.symm, E.en, u7.trans v7.symm, fun j hj => ?_, fun j hj => ?_⟩, ⟨O.ot, O.on, ?_, ?_, ?_, fun j hj => ?_, O.ok, O.oc, fun j hj => ?_⟩⟩
      · have hj : j < b.t := hj
        show m1 j = m2 j
        rw [u4 j (by rw [E.et]; exact hj), v4 j hj, E.em j hj, E.en, E.ez]
        exact mvd_congr E.k3 _ _
      · have hj : j < b.n := hj
        show a.kd j = b.kd j ∧ a.ce j = b.ce j ∧ h1 j = h2 j ∧ c1 j = c2 j
        obtain ⟨e1, e2, e3, e4⟩ := E.ep j hj
        obtain ⟨g1, g2⟩ := u6 j (by rw [E.en]; exact hj)
        obtain ⟨g3, g4⟩ := v6 j hj
        exact ⟨e1, e2, g1.trans g3.symm, by rw [g2, g4, e2, e3, e4, E.ef]⟩
      · show in36 f2
        rw [v3]; exact or36 O.of (str36 O.oc)
      · obtain ⟨q, hq, e⟩ := O.oz
        show ∃ q, q < 10 ∧ z2 = nI q
        rw [v5, e]; exact fr10 q hq
      · show y2 ≤ 9999
        rw [v7]; exact y_suc v1
      · have hj : j < b.t := hj
        show vp_in (m2 j) 36
        rw [v4 j hj]; exact mvd_36 O.oc (O.om j hj)
      · have hj : j < b.n := hj
        show 0 ≤ h2 j
        rw [(v6 j hj).1]; decide
/-! images -/
abbrev imF (mim mm kd ce ho ac : Nat → Int32) (t n : Nat) (z y : Int32) : Nat → Int32 := upd (upd (upd (upd (cpJ (cpJ (cpJ (cpJ (cpJ mim mm 0 6) kd 6 6) ce 12 6) ho 18 6) ac 24 6) 30 (nI t)) 31 (nI n)) 32 z) 33 y
theorem imF_at {mim mm kd ce ho ac : Nat → Int32} {t n : Nat} {z y : Int32} {j : Nat} (hj : j < 6) : imF mim mm kd ce ho ac t n z y (0 + j) = mm j ∧ imF mim mm kd ce ho ac t n z y (6 + j) = kd j ∧ imF mim mm kd ce ho ac t n z y (12 + j) = ce j ∧ imF mim mm kd ce ho ac t n z y (18 + j) = ho j ∧ imF mim mm kd ce ho ac t n z y (24 + j) = ac j := by
  have e : ∀ i, i < 30 → imF mim mm kd ce ho ac t n z y i = cpJ (cpJ (cpJ (cpJ (cpJ mim mm 0 6) kd 6 6) ce 12 6) ho 18 6) ac 24 6 i := by
    intro i hi
    simp only [imF, upd]
    rw [if_neg (show ¬ i = 33 by omega), if_neg (show ¬ i = 32 by omega), if_neg (show ¬ i = 31 by omega), if_neg (show ¬ i = 30 by omega)]
  have cy : ∀ (f a : Nat → Int32) (o : Nat), cpJ f a o 6 (o + j) = a j := by
    intro f a o
    simp only [cpJ]
    rw [if_pos (by omega), Nat.add_sub_cancel_left]
  have cn : ∀ (f a : Nat → Int32) (o i : Nat), i < o → cpJ f a o 6 i = f i := by
    intro f a o i h
    simp only [cpJ]
    rw [if_neg (by omega)]
  refine ⟨?_, ?_, ?_, ?_, ?_⟩
  · rw [e _ (by omega), cn _ _ _ _ (by omega), cn _ _ _ _ (by omega), cn _ _ _ _ (by omega), cn _ _ _ _ (by omega), cy]
  · rw [e _ (by omega), cn _ _ _ _ (by omega), cn _ _ _ _ (by omega), cn _ _ _ _ (by omega), cy]
  · rw [e _ (by omega), cn _ _ _ _ (by omega), cn _ _ _ _ (by omega), cy]
  · rw [e _ (by omega), cn _ _ _ _ (by omega), cy]
  · rw [e _ (by omega), cy]
theorem image_sim {a b v : WS} (E : EW a b) (O : OKW b) {mim : Nat → Int32} : IM true (mkW a.f a.t a.z (cpF v.m a.m a.t) a.n (cpF v.kd a.kd a.n) (cpF v.ce a.ce a.n) (cpF v.ho a.ho a.n) (cpF v.ac a.ac a.n) a.y) true b.f (imF mim b.m b.kd b.ce b.ho b.ac b.t b.n b.z b.y) := by
  have ht := O.ot
  have hn := O.on
  refine ⟨rfl, fun _ => ⟨b.t, b.n, by simp [imF, upd], by simp [imF, upd], ⟨E.ef, E.et, ?_, E.en, ?_, fun j hj => ?_, fun j hj => ?_⟩, ⟨ht, hn, O.of, ?_, ?_, fun j hj => ?_, fun j hj => ?_, fun j hj => ?_, fun j hj => ?_⟩⟩⟩
  · show a.z = imF mim b.m b.kd b.ce b.ho b.ac b.t b.n b.z b.y 32
    simp [imF, upd]; exact E.ez
  · show a.y = imF mim b.m b.kd b.ce b.ho b.ac b.t b.n b.z b.y 33
    simp [imF, upd]; exact E.ey
  · have hj : j < b.t := hj
    show cpF v.m a.m a.t j = imF mim b.m b.kd b.ce b.ho b.ac b.t b.n b.z b.y (0 + j)
    rw [(imF_at (by omega)).1]
    simp only [cpF]; rw [if_pos (by rw [E.et]; exact hj)]; exact E.em j hj
  · have hj : j < b.n := hj
    obtain ⟨-, e1, e2, e3, e4⟩ := imF_at (mim := mim) (mm := b.m) (kd := b.kd) (ce := b.ce) (ho := b.ho) (ac := b.ac) (t := b.t) (n := b.n) (z := b.z) (y := b.y) (show j < 6 by omega)
    have hc : ∀ (f h : Nat → Int32), cpF f h a.n j = h j := by
      intro f h; simp only [cpF]; rw [if_pos (by rw [E.en]; exact hj)]
    show cpF v.kd a.kd a.n j = imF mim b.m b.kd b.ce b.ho b.ac b.t b.n b.z b.y (6 + j) ∧ cpF v.ce a.ce a.n j = imF mim b.m b.kd b.ce b.ho b.ac b.t b.n b.z b.y (12 + j) ∧ cpF v.ho a.ho a.n j = imF mim b.m b.kd b.ce b.ho b.ac b.t b.n b.z b.y (18 + j) ∧ cpF v.ac a.ac a.n j = imF mim b.m b.kd b.ce b.ho b.ac b.t b.n b.z b.y (24 + j)
    rw [e1, e2, e3, e4, hc, hc, hc, hc]
    exact E.ep j hj
  · show ∃ q, q < 10 ∧ imF mim b.m b.kd b.ce b.ho b.ac b.t b.n b.z b.y 32 = nI q
    simp only [imF, upd]; exact O.oz
  · show imF mim b.m b.kd b.ce b.ho b.ac b.t b.n b.z b.y 33 ≤ 9999
    simp only [imF, upd]; exact O.oy
  · have hj : j < b.t := hj
    show vp_in (imF mim b.m b.kd b.ce b.ho b.ac b.t b.n b.z b.y (0 + j)) 36
    rw [(imF_at (by omega)).1]; exact O.om j hj
  · have hj : j < b.n := hj
    have e := (imF_at (mim := mim) (mm := b.m) (kd := b.kd) (ce := b.ce) (ho := b.ho) (ac := b.ac) (t := b.t) (n := b.n) (z := b.z) (y := b.y) (show j < 6 by omega)).2.1
    show imF mim b.m b.kd b.ce b.ho b.ac b.t b.n b.z b.y (6 + j) = 0 ∨ imF mim b.m b.kd b.ce b.ho b.ac b.t b.n b.z b.y (6 + j) = 1 ∨ imF mim b.m b.kd b.ce b.ho b.ac b.t b.n b.z b.y (6 + j) = 2 ∨ imF mim b.m b.kd b.ce b.ho b.ac b.t b.n b.z b.y (6 + j) = 3
    rw [e]; exact O.ok j hj
  · have hj : j < b.n := hj
    show vp_in (imF mim b.m b.kd b.ce b.ho b.ac b.t b.n b.z b.y (12 + j)) 36
    rw [(imF_at (by omega)).2.2.1]; exact O.oc j hj
  · have hj : j < b.n := hj
    show 0 ≤ imF mim b.m b.kd b.ce b.ho b.ac b.t b.n b.z b.y (18 + j)
    rw [(imF_at (by omega)).2.2.2.1]; exact O.oh j hj
theorem restore_sim {w v : WS} {I : Int64} {im mm kd ce ho ac : Nat → Int32} {t n : Nat} (E : EW v (imW I im t n)) (O : OKW (imW I im t n)) : EW (mkW v.f v.t v.z (cpF w.m v.m v.t) v.n (cpF w.kd v.kd v.n) (cpF w.ce v.ce v.n) (cpF w.ho v.ho v.n) (cpF w.ac v.ac v.n) v.y) (mkW I t (im 32) (cpF mm (fun q => im (0 + q)) 6) n (cpF kd (fun q => im (6 + q)) 6) (cpF ce (fun q => im (12 + q)) 6) (cpF ho (fun q => im (18 + q)) 6) (cpF ac (fun q => im (24 + q)) 6) (im 33)) ∧ OKW (mkW I t (im 32) (cpF mm (fun q => im (0 + q)) 6) n (cpF kd (fun q => im (6 + q)) 6) (cpF ce (fun q => im (12 + q)) 6) (cpF ho (fun q => im (18 + q)) 6) (cpF ac (fun q => im (24 + q)) 6) (im 33)) := by
  have ht : t ≤ 6 := O.ot
  have hn : n ≤ 6 := O.on
  have c6 : ∀ (f h : Nat → Int32) (j : Nat), j < 6 → cpF f h 6 j = h j := by
    intro f h j hj; simp only [cpF]; rw [if_pos hj]
  refine ⟨⟨E.ef, E.et, E.ez, E.en, E.ey, fun j hj => ?_, fun j hj => ?_⟩, ⟨ht, hn, O.of, O.oz, O.oy, fun j hj => ?_, fun j hj => ?_, fun j hj => ?_, fun j hj => ?_⟩⟩
  · have hj : j < t := hj
    show cpF w.m v.m v.t j = cpF mm (fun q => im (0 + q)) 6 j
    rw [c6 _ _ j (by omega)]
    simp only [cpF]; rw [if_pos (by rw [E.et]; exact hj)]; exact E.em j hj
  · have hj : j < n := hj
    have hc : ∀ (f h : Nat → Int32), cpF f h v.n j = h j := by
      intro f h; simp only [cpF]; rw [if_pos (by rw [E.en]; exact hj)]
    show cpF w.kd v.kd v.n j = cpF kd (fun q => im (6 + q)) 6 j ∧ cpF w.ce v.ce v.n j = cpF ce (fun q => im (12 + q)) 6 j ∧ cpF w.ho v.ho v.n j = cpF ho (fun q => im (18 + q)) 6 j ∧ cpF w.ac v.ac v.n j = cpF ac (fun q => im (24 + q)) 6 j
    rw [hc, hc, hc, hc, c6 _ _ j (by omega), c6 _ _ j (by omega), c6 _ _ j (by omega), c6 _ _ j (by omega)]
    exact E.ep j hj
  · have hj : j < t := hj
    show vp_in (cpF mm (fun q => im (0 + q)) 6 j) 36
    rw [c6 _ _ j (by omega)]; exact O.om j hj
  · have hj : j < n := hj
    show cpF kd (fun q => im (6 + q)) 6 j = 0 ∨ cpF kd (fun q => im (6 + q)) 6 j = 1 ∨ cpF kd (fun q => im (6 + q)) 6 j = 2 ∨ cpF kd (fun q => im (6 + q)) 6 j = 3
    rw [c6 _ _ j (by omega)]; exact O.ok j hj
  · have hj : j < n := hj
    show vp_in (cpF ce (fun q => im (12 + q)) 6 j) 36
    rw [c6 _ _ j (by omega)]; exact O.oc j hj
  · have hj : j < n := hj
    show 0 ≤ cpF ho (fun q => im (18 + q)) 6 j
    rw [c6 _ _ j (by omega)]; exact O.oh j hj
/-! the tape -/
theorem sg_bv (X : Int64) : X &&& 255 = Int64.ofBitVec ((X.toBitVec.setWidth 8).setWidth 64) := by
  apply i64_ext
  intro i hi
  have h9 : ∀ i, i < 64 → (255 : Int64).toBitVec.getLsbD i = decide (i < 8) := by decide +kernel
  rw [Int64.toBitVec_and, BitVec.getLsbD_and, h9 i hi]
  show _ = ((X.toBitVec.setWidth 8).setWidth 64).getLsbD i
  rw [BitVec.getLsbD_setWidth, BitVec.getLsbD_setWidth]
  by_cases q : i < 8
  · simp [q, hi]
  · simp [q]
theorem by_bv (X : Int64) : X.toInt32.toInt8 = Int8.ofBitVec (X.toBitVec.setWidth 8) := by
  apply Int8.toBitVec_inj.mp
  show (X.toBitVec.signExtend 32).signExtend 8 = X.toBitVec.setWidth 8
  rw [BitVec.signExtend_eq_setWidth_of_le _ (by omega), BitVec.signExtend_eq_setWidth_of_le _ (by omega)]
  ext i hi
  simp only [BitVec.getElem_setWidth, BitVec.getLsbD_setWidth]
  simp [show i < 32 by omega]
theorem by_ok : ∀ n : Nat, n < 256 → inJ (Int64.ofBitVec ((BitVec.ofNat 8 n).setWidth 64)) 32 126 = true → vp_nar .byte (Int8.ofBitVec (BitVec.ofNat 8 n)).toInt32 = (Int64.ofBitVec ((BitVec.ofNat 8 n).setWidth 64)).toInt32 ∧ ¬ (Int64.ofBitVec ((BitVec.ofNat 8 n).setWidth 64)).toInt32 = 0 := by decide +kernel
theorem by_ok2 (X : Int64) (h : inJ (X &&& 255) 32 126 = true) : vp_nar .byte X.toInt32.toInt8.toInt32 = (X &&& 255).toInt32 ∧ ¬ (X &&& 255).toInt32 = 0 := by
  rw [sg_bv] at h ⊢
  rw [by_bv]
  have e0 : ∀ B : BitVec 8, B = BitVec.ofNat 8 B.toNat := fun B => by simp
  have e := e0 (X.toBitVec.setWidth 8)
  rw [e] at h ⊢
  exact by_ok _ (BitVec.isLt _) h
theorem shc8 : ∀ k, k < 8 → ((nI (8 * k)).toInt64.toUInt64 &&& Int64.toUInt64 63).toNat = 8 * k ∧ (nI (8 * k)).toInt64 &&& 63 = lN (8 * k) ∧ ((lN (8 * k)).toBitVec.smod 64).toNat = 8 * k := by decide +kernel
theorem sg_eq (w : Int64) {k : Nat} (hk : k < 8) : sgn w k = sgM w k := by
  obtain ⟨e1, e2, e3⟩ := shc8 k hk
  unfold sgn sgM
  apply i64_ext
  intro i hi
  have h9 : ∀ i, i < 64 → (255 : Int64).toBitVec.getLsbD i = decide (i < 8) := by decide +kernel
  rw [Int64.toBitVec_and, BitVec.getLsbD_and, Int64.toBitVec_and, BitVec.getLsbD_and, h9 i hi]
  by_cases q : i < 8
  · have a1 : (w.toUInt64 >>> ((nI (8 * k)).toInt64.toUInt64 &&& Int64.toUInt64 63)).toInt64.toBitVec = w.toBitVec >>> (8 * k) := by
      show (w.toUInt64 >>> ((nI (8 * k)).toInt64.toUInt64 &&& Int64.toUInt64 63)).toBitVec = _
      rw [UInt64.toBitVec_shiftRight]
      show w.toBitVec >>> (((nI (8 * k)).toInt64.toUInt64 &&& Int64.toUInt64 63).toBitVec % 64) = _
      rw [BitVec.ushiftRight_eq', BitVec.toNat_umod]
      have : ((nI (8 * k)).toInt64.toUInt64 &&& Int64.toUInt64 63).toBitVec.toNat = 8 * k := e1
      rw [this]
      show w.toBitVec >>> (8 * k % 64) = w.toBitVec >>> (8 * k)
      rw [Nat.mod_eq_of_lt (by omega)]
    have a2 : (w >>> ((nI (8 * k)).toInt64 &&& 63)).toBitVec = w.toBitVec.sshiftRight (8 * k) := by
      rw [e2, Int64.toBitVec_shiftRight, BitVec.sshiftRight_eq', e3]
    rw [a1, a2, BitVec.getLsbD_ushiftRight, BitVec.getLsbD_sshiftRight]
    simp [show ¬ 64 ≤ i by omega, show 8 * k + i < 64 by omega]
  · simp [q]
theorem in_inJ {v : Int64} : (inJ v 32 126 = true) ↔ (¬ v < 32 ∧ ¬ 126 < v) := by
  simp [inJ]
theorem ct_eq (w : Int64) : ∀ k, k ≤ 8 → ctF w k = ctM w k
  | 0, _ => rfl
  | k + 1, h => by
    rw [ctF, ctM, ct_eq w k (by omega), sg_eq w (by omega)]
    congr 1
theorem ct_at {w : Int64} : ∀ {k : Nat}, ctM w k = true → ∀ j, j < k → inJ (sgM w j) 32 126 = true
  | 0, _, _, h => absurd h (Nat.not_lt_zero _)
  | k + 1, h, j, hj => by
    rw [ctM, Bool.and_eq_true] at h
    by_cases q : j = k
    · rw [q]; exact h.2
    · exact ct_at h.1 j (by omega)
theorem ap_rel {w : Int64} : ∀ (j : Nat) (za zb : Nat → Int32) (m : Nat), (∀ q, q < m → za q = zb q ∧ ¬ zb q = 0) → (∀ q, q < j → byt w q = (sgM w q).toInt32 ∧ ¬ (sgM w q).toInt32 = 0) → ∀ q, q < m + j → apF w j za m q = apM w j zb m q ∧ ¬ apM w j zb m q = 0
  | 0, za, zb, m, h1, _, q, hq => h1 q (by omega)
  | j + 1, za, zb, m, h1, h2, q, hq => by
    rw [apF, apM]
    refine ap_rel j _ _ (m + 1) (fun i hi => ?_) (fun i hi => h2 i (by omega)) q (by omega)
    simp only [upd]
    by_cases e : i = m
    · simp only [if_pos e]; exact h2 j (by omega)
    · simp only [if_neg e]; exact h1 i (by omega)
theorem by_at {w : Int64} {k : Nat} (hk : k < 8) (h : inJ (sgM w k) 32 126 = true) : byt w k = (sgM w k).toInt32 ∧ ¬ (sgM w k).toInt32 = 0 := by
  rw [← sg_eq w hk] at h ⊢
  exact by_ok2 _ h
theorem type_sim {w : Int64} {x r1 r2 : Int32} {tn T nt nT : Nat} {tb ta nb nta : Nat → Int32} (h : TP tn tb T ta) (q1 : R_type (ctF w) (fun k => apF w k tb tn) x tn tb r1 nt nb) (q2 : R_type (ctM w) (fun k => apM w k ta T) x T ta r2 nT nta) : r1 = r2 ∧ TP nt nb nT nta := by
  obtain ⟨h1, h2, h3⟩ := h
  subst h1
  have big : ∀ k : Nat, 1 ≤ k → k ≤ 8 → ¬ (nI k < 1 ∨ 8 < nI k) := by
    intro k hk1 hk2 q
    rcases q with q | q
    · have := nJ_lt (b := 1) (by omega) (by omega) q; omega
    · have := nJ_lt (a := 8) (by omega) (by omega) q; omega
  have inj : ∀ j k : Nat, j ≤ 8 → k ≤ 8 → nI j = nI k → j = k := fun j k hj hk e => nJ_eq (by omega) (by omega) e
  rcases q1 with ⟨u1, u2, rfl, rfl⟩ | ⟨k, rfl, u1, u2, u3, u4, rfl, rfl⟩ | ⟨k, rfl, u1, u2, u3, u4, u5, rfl, rfl⟩ | ⟨k, rfl, u1, u2, u3, u4, u5, rfl, rfl⟩
  · rcases q2 with ⟨v1, v2, rfl, rfl⟩ | ⟨j, rfl, v1, v2, v3, v4, rfl, rfl⟩ | ⟨j, rfl, v1, v2, v3, v4, v5, rfl, rfl⟩ | ⟨j, rfl, v1, v2, v3, v4, v5, rfl, rfl⟩
    · exact ⟨u2.trans v2.symm, rfl, h2, h3⟩
    · exact absurd u1 (big j v1 v2)
    · exact absurd u1 (big j v1 v2)
    · exact absurd u1 (big j v1 v2)
  · rcases q2 with ⟨v1, v2, rfl, rfl⟩ | ⟨j, e, v1, v2, v3, v4, rfl, rfl⟩ | ⟨j, e, v1, v2, v3, v4, v5, rfl, rfl⟩ | ⟨j, e, v1, v2, v3, v4, v5, rfl, rfl⟩
    · exact absurd v1 (big k u1 u2)
    · exact ⟨u4.trans v4.symm, rfl, h2, h3⟩
    · have := inj _ _ u2 v2 e; subst this; rw [ct_eq w k u2, v3] at u3; cases u3
    · have := inj _ _ u2 v2 e; subst this; rw [ct_eq w k u2, v3] at u3; cases u3
  · rcases q2 with ⟨v1, v2, rfl, rfl⟩ | ⟨j, e, v1, v2, v3, v4, rfl, rfl⟩ | ⟨j, e, v1, v2, v3, v4, v5, rfl, rfl⟩ | ⟨j, e, v1, v2, v3, v4, v5, rfl, rfl⟩
    · exact absurd v1 (big k u1 u2)
    · have := inj _ _ u2 v2 e; subst this; rw [ct_eq w k u2, v3] at u3; cases u3
    · exact ⟨u5.trans v5.symm, rfl, h2, h3⟩
    · have := inj _ _ u2 v2 e; subst this; omega
  · rcases q2 with ⟨v1, v2, rfl, rfl⟩ | ⟨j, e, v1, v2, v3, v4, rfl, rfl⟩ | ⟨j, e, v1, v2, v3, v4, v5, rfl, rfl⟩ | ⟨j, e, v1, v2, v3, v4, v5, rfl, rfl⟩
    · exact absurd v1 (big k u1 u2)
    · have := inj _ _ u2 v2 e; subst this; rw [ct_eq w k u2, v3] at u3; cases u3
    · have := inj _ _ u2 v2 e; subst this; omega
    · have := inj _ _ u2 v2 e
      subst this
      exact ⟨u5.trans v5.symm, rfl, u4, ap_rel k tb ta tn h3 (fun q hq => by_at (by omega) (ct_at v3 q hq))⟩
/-! reading a marsh -/
def tpE (s s' : tpS) : Prop := s.1 = s'.1 ∧ s.2.2 = s'.2.2 ∧ ∀ j, j < s'.2.2 → s.2.1 j = s'.2.1 j
def tpO (s : tpS) : Prop := in36 s.1 ∧ ∀ j, j < s.2.2 → vp_in (s.2.1 j) 36
theorem tt_rel {x : Int32} {s s' : tpS} (h : tpE s s') (o : tpO s') (hx : vp_in x 36) : (ttF x s).1 = (ttF x s').1 ∧ tpE (ttF x s).2 (ttF x s').2 ∧ tpO (ttF x s').2 := by
  obtain ⟨f, m, n⟩ := s
  obtain ⟨f', m', n'⟩ := s'
  obtain ⟨h1, h2, h3⟩ := h
  dsimp only at h1 h2 h3
  subst h1 h2
  unfold ttF
  dsimp only
  by_cases q : n < 6
  · rw [if_pos q, if_pos q]
    refine ⟨rfl, ⟨rfl, rfl, fun j hj => ?_⟩, o.1, fun j hj => ?_⟩
    · have hj : j < n + 1 := hj
      simp only [upd]
      by_cases e : j = n
      · simp [e]
      · simp only [if_neg e]; exact h3 j (by omega)
    · have hj : j < n + 1 := hj
      simp only [upd]
      by_cases e : j = n
      · rw [if_pos e]; exact hx
      · rw [if_neg e]; exact o.2 j (by show j < n; omega)
  · rw [if_neg q, if_neg q]
    exact ⟨rfl, ⟨rfl, rfl, h3⟩, o⟩
theorem tk_rel {pl : Nat} {y : Int32} {s s' : tpS} (h : tpE s s') (o : tpO s') : (tkF pl y s).1 = (tkF pl y s').1 ∧ tpE (tkF pl y s).2 (tkF pl y s').2 ∧ tpO (tkF pl y s').2 := by
  unfold tkF
  split
  · exact ⟨rfl, h, o⟩
  · split
    · exact ⟨rfl, h, o⟩
    · split
      · split
        · exact ⟨rfl, h, o⟩
        · exact ⟨rfl, h, o⟩
      · have hc : pl / 7 * 6 + pl % 7 < 36 := by omega
        unfold tcF
        split
        · refine ⟨rfl, ⟨by rw [h.1], h.2⟩, ?_, o.2⟩
          exact or36 o.1 (bitI36 _ hc)
        · split
          · exact ⟨rfl, h, o⟩
          · split
            · exact tt_rel h o (vp_in_nI hc (by omega))
            · exact ⟨rfl, h, o⟩
theorem rd_rel {tb ta : Nat → Int32} {T : Nat} (ht : ∀ j, j < T → tb j = ta j) : ∀ (n k pl : Nat) (s s' : tpS), n + k = T → tpE s s' → tpO s' → (rdT tb T n k pl s).1 = (rdT ta T n k pl s').1 ∧ tpE (rdT tb T n k pl s).2 (rdT ta T n k pl s').2 ∧ tpO (rdT ta T n k pl s').2
  | 0, k, pl, s, s', _, h, o => by
    rw [rdT, rdT]
    split
    · exact ⟨rfl, h, o⟩
    · refine ⟨?_, h, o⟩
      rw [h.2.1]
  | n + 1, k, pl, s, s', hk, h, o => by
    rw [rdT, rdT, ht k (by omega)]
    by_cases q : ta k = 32
    · rw [if_pos q, if_pos q]
      exact rd_rel ht n (k + 1) pl s s' (by omega) h o
    · rw [if_neg q, if_neg q]
      obtain ⟨e1, e2, e3⟩ := tk_rel (pl := pl) (y := ta k) h o
      rw [e1]
      by_cases q2 : (tkF pl (ta k) s').1 = true
      · rw [if_pos q2, if_pos q2]
        exact rd_rel ht n (k + 1) (pl + 1) _ _ (by omega) e2 e3
      · rw [if_neg q2, if_neg q2]
        exact ⟨rfl, e2, e3⟩
theorem marsh_sim {a b : WS} (E : EW a b) (O : OKW b) {tn T : Nat} {tb ta tm re : Nat → Int32} (h : TP tn tb T ta) {r1 r2 : Int32} {f1 f2 : Int64} {t1 t2 : Nat} {m1 m2 h1 h2 : Nat → Int32} (q1 : R_marsh (rdT tb tn tn 0 0 (0, tm, 0)) a.f a.t a.m a.n a.ho r1 f1 t1 m1 h1) (q2 : R_marsh (rdT ta T T 0 0 (0, re, 0)) b.f b.t b.m b.n b.ho r2 f2 t2 m2 h2) : r1 = r2 ∧ EW (mkW f1 t1 a.z m1 a.n a.kd a.ce h1 a.ac a.y) (mkW f2 t2 b.z m2 b.n b.kd b.ce h2 b.ac b.y) ∧ OKW (mkW f2 t2 b.z m2 b.n b.kd b.ce h2 b.ac b.y) := by
  obtain ⟨g1, g2, g3⟩ := h
  subst g1
  obtain ⟨e1, e2, e3⟩ := rd_rel (fun j hj => (g3 j hj).1) tn 0 0 (0, tm, 0) (0, re, 0) rfl ⟨rfl, rfl, fun _ h => absurd h (Nat.not_lt_zero _)⟩ ⟨by show in36 0; unfold in36; decide, fun _ h => absurd h (Nat.not_lt_zero _)⟩
  have h6 : (rdT ta tn tn 0 0 (0, re, 0)).2.2.2 ≤ 6 := rdT_6
  generalize rdT tb tn tn 0 0 (0, tm, 0) = X at *
  generalize rdT ta tn tn 0 0 (0, re, 0) = Y at *
  rcases q2 with ⟨v1, v2, rfl, rfl, rfl, rfl⟩ | ⟨v1, v2, v3, rfl, v5, v6, v7⟩
  · rcases q1 with ⟨u1, u2, rfl, rfl, rfl, rfl⟩ | ⟨u1, u2, u3, rfl, u5, u6, u7⟩
    · exact ⟨u2.trans (e1.trans v2.symm), E, O⟩
    · rw [e1] at u1; exact absurd u1 v1
  · rcases q1 with ⟨u1, u2, rfl, rfl, rfl, rfl⟩ | ⟨u1, u2, u3, rfl, u5, u6, u7⟩
    · rw [e1] at u1; exact absurd v1 u1
    · have et : t1 = t2 := u5.trans (e2.2.1.trans v5.symm)
      subst et
      refine ⟨u2.trans (e1.trans v2.symm), ⟨e2.1, rfl, E.ez, E.en, E.ey, fun j hj => ?_, fun j hj => ?_⟩, ⟨?_, O.on, e3.1, O.oz, O.oy, fun j hj => ?_, O.ok, O.oc, fun j hj => ?_⟩⟩
      · have hj : j < t1 := hj
        show m1 j = m2 j
        rw [u6 j hj, v6 j hj]; exact e2.2.2 j (by rw [← v5]; exact hj)
      · have hj : j < b.n := hj
        obtain ⟨p1, p2, p3, p4⟩ := E.ep j hj
        exact ⟨p1, p2, (u7 j (by rw [E.en]; exact hj)).trans (v7 j hj).symm, p4⟩
      · show t1 ≤ 6
        rw [v5]; exact h6
      · have hj : j < t1 := hj
        show vp_in (m2 j) 36
        rw [v6 j hj]; exact e3.2 j (by rw [← v5]; exact hj)
      · have hj : j < b.n := hj
        show 0 ≤ h2 j
        rw [v7 j hj]; decide
