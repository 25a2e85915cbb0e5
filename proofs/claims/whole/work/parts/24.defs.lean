/-! searches of the model -/
theorem stF_rng {w : Int64} {y : Int32} : ∀ (n k : Nat) (z : Int64), stF w y n k z = -4 ∨ ∃ j, j < k + n ∧ stF w y n k z = nI j
  | 0, _, _ => Or.inl rfl
  | n + 1, k, z => by
    rw [stF]
    split
    · split
      · exact Or.inl rfl
      · rcases stF_rng (w := w) (y := y) n (k + 1) (z ||| (bsd z &&& w)) with h | ⟨j, hj, e⟩
        · exact Or.inl h
        · exact Or.inr ⟨j, by omega, e⟩
    · exact Or.inr ⟨k, by omega, rfl⟩
theorem stX_rng (w : Int64) (x y : Int32) : stX w x y = -4 ∨ ∃ j, j < 36 ∧ stX w x y = nI j := by
  unfold stX
  split
  · exact Or.inl rfl
  · rcases stF_rng (w := w) (y := y) 36 0 (bitI x &&& w) with h | ⟨j, hj, e⟩
    · exact Or.inl h
    · exact Or.inr ⟨j, by omega, e⟩
theorem stX_y {w : Int64} {x y : Int32} (h : ¬ stX w x y = -4) : 0 ≤ stX w x y := by
  rcases stX_rng w x y with q | ⟨j, hj, e⟩
  · exact absurd q h
  · rw [e]; exact Int32.not_lt.mp (nI_pos (by omega))
theorem stX_n {w : Int64} {x y : Int32} (h : stX w x y = -4) : ¬ 0 ≤ stX w x y := by rw [h]; decide
theorem stX_neg {w : Int64} {x y : Int32} : stX w x y < 0 ↔ stX w x y = -4 := by
  constructor
  · intro h
    apply Classical.byContradiction
    intro q
    exact absurd (stX_y q) (Int32.not_le.mpr h)
  · intro h; rw [h]; decide
theorem nI_ne4 {k : Nat} (h : k < 2 ^ 31) : ¬ nI k = -4 := fun q => nI_pos h (by rw [q]; decide)
def mSr (T : Nat → Nat → Int32) : Nat → Nat → Int32
  | 0, _ => -4
  | n + 1, k => if 0 < k / 36 ∨ k = 0 then (if T (k % 36) (k / 36) = -4 then mSr T n (k + 1) else nI k) else mSr T n (k + 1)
theorem mS_k {T : Nat → Nat → Int32} {n k : Nat} (h : ¬ (0 < k / 36 ∨ k = 0)) : mSr T (n + 1) k = mSr T n (k + 1) := by rw [mSr, if_neg h]
theorem mS_y {T : Nat → Nat → Int32} {n k : Nat} (h : 0 < k / 36 ∨ k = 0) (q : ¬ T (k % 36) (k / 36) = -4) : mSr T (n + 1) k = nI k := by rw [mSr, if_pos h, if_neg q]
theorem mS_n {T : Nat → Nat → Int32} {n k : Nat} (h : 0 < k / 36 ∨ k = 0) (q : T (k % 36) (k / 36) = -4) : mSr T (n + 1) k = mSr T n (k + 1) := by rw [mSr, if_pos h, if_pos q]
theorem mS_ls {T : Nat → Nat → Int32} (hT : ∀ w h, T w h < 0 ↔ T w h = -4) : ∀ n k, 36 ≤ k → mSr T n k = lsS T n k
  | 0, _, _ => rfl
  | n + 1, k, h => by
    have h0 : 0 < k / 36 ∨ k = 0 := Or.inl (by omega)
    rw [lsS]
    by_cases q : T (k % 36) (k / 36) = -4
    · rw [mS_n h0 q, if_pos ((hT _ _).mpr q), mS_ls hT n (k + 1) (by omega)]
    · rw [mS_y h0 q, if_neg (fun r => q ((hT _ _).mp r))]
theorem mS_36 {T : Nat → Nat → Int32} {m : Nat} : ∀ i, i ≤ 35 → mSr T (m + i) (36 - i) = mSr T m 36
  | 0, _ => rfl
  | i + 1, h => by
    rw [show m + (i + 1) = (m + i) + 1 by omega, mS_k (by omega), show 36 - (i + 1) + 1 = 36 - i by omega, mS_36 i (by omega)]
theorem mS_0 {T : Nat → Nat → Int32} (hT : ∀ w h, T w h < 0 ↔ T w h = -4) : ∀ n, n = 3600 → mSr T n 0 = lsF T := by
  intro n hn
  obtain ⟨m, rfl⟩ : ∃ m, n = m + 35 + 1 := ⟨n - 36, by omega⟩
  have hm : m = 3564 := by omega
  unfold lsF
  by_cases q : T 0 0 = -4
  · rw [mS_n (Or.inr rfl) q, if_pos ((hT _ _).mpr q)]
    have e := mS_36 (T := T) (m := m) 35 (by omega)
    rw [show (0 : Nat) + 1 = 36 - 35 by omega, e, mS_ls hT _ _ (Nat.le_refl _), hm]
  · rw [mS_y (Or.inr rfl) q, if_neg (fun r => q ((hT _ _).mp r))]
    rfl
theorem TL_neg {p : Nat} {kd ce ho : Nat → Int32} {n : Nat} {z : Int32} {f : Int64} {m : Nat → Int32} {t : Nat} {x y : Int32} : ∀ w h, TL p kd ce ho n z f m t x y w h < 0 ↔ TL p kd ce ho n z f m t x y w h = -4 := fun w h => by unfold TL; exact stX_neg
theorem lsS_rng {T : Nat → Nat → Int32} : ∀ n k, n + k ≤ 4000 → lsS T n k = -4 ∨ 0 ≤ lsS T n k
  | 0, _, _ => Or.inl rfl
  | n + 1, k, h => by
    rw [lsS]
    split
    · exact lsS_rng n (k + 1) (by omega)
    · exact Or.inr (Int32.not_lt.mp (nI_pos (by omega)))
theorem lsF_rng {T : Nat → Nat → Int32} : lsF T = -4 ∨ 0 ≤ lsF T := by
  unfold lsF
  split
  · exact lsS_rng _ _ (by omega)
  · exact Or.inr (by decide)
theorem upd_self (f : Nat → Int32) (j : Nat) : upd f j (f j) = f := by
  funext k; simp only [upd]; split
  · rename_i h; rw [h]
  · rfl
theorem upd_back {z b : Nat → Int32} {j : Nat} (h : ∀ v, upd z j v = upd b j v) : upd z j (b j) = b := by rw [h, upd_self]
theorem upd_vin {z : Nat → Int32} {n j : Nat} {v : Int32} (h : ∀ q, q < n → vp_in (z q) 36) (hv : vp_in v 36) : ∀ q, q < n → vp_in (upd z j v q) 36 := by
  intro q hq; simp only [upd]; split
  · exact hv
  · exact h q hq
theorem upd4 {f : Nat → Int32} {j k : Nat} (h : ¬ j = k) (c d a b : Int32) : upd (upd (upd (upd f j c) k d) j a) k b = upd (upd f j a) k b := by
  funext i; simp only [upd]
  by_cases q : i = k
  · simp [q]
  · by_cases r : i = j
    · simp [r, h]
    · simp [q, r]
theorem upd_back2 {z b : Nat → Int32} {j k : Nat} (h : ∀ v w, upd (upd z j v) k w = upd (upd b j v) k w) : upd (upd z j (b j)) k (b k) = b := by rw [h, upd_self, upd_self]
/-! the model's game -/
theorem TG_n99y {p q : Nat} {h1 h2 : Int32} {kd ce ho : Nat → Int32} {n : Nat} {z : Int32} {f : Int64} {m : Nat → Int32} {t : Nat} {x y : Int32} {i j : Nat} (h : ¬ TG p q h1 h2 kd ce ho n z f m t x y i j = -4) : TG p q h1 h2 kd ce ho n z f m t x y i j = n99 (TG p q h1 h2 kd ce ho n z f m t x y i j) := by
  unfold n99
  rw [if_pos]
  unfold TG at h ⊢
  exact stX_y h
theorem TG_n99n {p q : Nat} {h1 h2 : Int32} {kd ce ho : Nat → Int32} {n : Nat} {z : Int32} {f : Int64} {m : Nat → Int32} {t : Nat} {x y : Int32} {i j : Nat} (h : TG p q h1 h2 kd ce ho n z f m t x y i j = -4) : 99 = n99 (TG p q h1 h2 kd ce ho n z f m t x y i j) := by
  unfold n99
  rw [if_neg (by rw [h]; decide)]
def tsL (g : Nat → Int32) (k : Nat) : Nat → Bool
  | 0 => true
  | l + 1 => tsL g k l && (decide (g k ≤ g (36 * l + k % 36)) && decide (g (k / 36 * 36 + l) ≤ g k))
theorem tsL_no {g : Nat → Int32} {k l : Nat} (h : tsL g k l = false) : ∀ n, l ≤ n → tsL g k n = false
  | 0, q => by rw [show l = 0 by omega] at h; exact h
  | n + 1, q => by
    by_cases r : l = n + 1
    · rw [← r]; exact h
    · rw [tsL, tsL_no h n (by omega)]; rfl
def dC (g : Nat → Int32) : Nat → Nat
  | 0 => 0
  | m + 1 => if tsL g (1295 - m) 36 = true then dC g m + 1 else dC g m
def dF (g : Nat → Int32) : Nat → Int32
  | 0 => -4
  | m + 1 => if tsL g (1295 - m) 36 = true then nI (100 * ((1295 - m) / 36) + (1295 - m) % 36) else dF g m
theorem dC_y {g : Nat → Int32} {i : Nat} (hi : i < 1296) (h : tsL g i 36 = true) : dC g (1296 - (i + 1)) + 1 = dC g (1296 - i) := by
  rw [show 1296 - i = (1296 - (i + 1)) + 1 by omega, dC, show 1295 - (1296 - (i + 1)) = i by omega, if_pos h]
theorem dC_n {g : Nat → Int32} {i : Nat} (hi : i < 1296) (h : tsL g i 36 = false) : dC g (1296 - (i + 1)) = dC g (1296 - i) := by
  rw [show 1296 - i = (1296 - (i + 1)) + 1 by omega, dC, show 1295 - (1296 - (i + 1)) = i by omega, if_neg (by rw [h]; decide)]
theorem dF_y {g : Nat → Int32} {i : Nat} (hi : i < 1296) (h : tsL g i 36 = true) : nI (100 * (i / 36) + i % 36) = dF g (1296 - i) := by
  rw [show 1296 - i = (1296 - (i + 1)) + 1 by omega, dF, show 1295 - (1296 - (i + 1)) = i by omega, if_pos h]
theorem dF_n {g : Nat → Int32} {i : Nat} (hi : i < 1296) (h : tsL g i 36 = false) : dF g (1296 - (i + 1)) = dF g (1296 - i) := by
  rw [show 1296 - i = (1296 - (i + 1)) + 1 by omega, dF, show 1295 - (1296 - (i + 1)) = i by omega, if_neg (by rw [h]; decide)]
def R_gameM (p q h1 h2 x y w : Int32) (kd ce ho : Nat → Int32) (n : Nat) (z : Int32) (f : Int64) (m : Nat → Int32) (t : Nat) (r : Int32) : Prop := (gameG p q h1 h2 x y w n = false ∧ r = -1) ∨ (gameG p q h1 h2 x y w n = true ∧ ∃ ga : Nat → Int32, (∀ k, k < 1296 → ga k = n99 (TG p.toNatClampNeg q.toNatClampNeg h1 h2 kd ce ho n z f m t x y (k / 36) (k % 36))) ∧ r = (if w = 0 then nI (dC ga 1296) else dF ga 1296))
theorem ga_step {ga D : Nat → Int32} {k : Nat} {v : Int32} (h : ∀ q, q < k → ga q = D q) (hv : v = D k) : ∀ q, q < k + 1 → upd ga k v q = D q := by
  intro q hq
  simp only [upd]
  by_cases r : q = k
  · rw [if_pos r, hv, r]
  · rw [if_neg r]; exact h q (by omega)
/-! the model's parts -/
theorem low_bit {w : Int64} (h0 : ¬ w = 0) (h36 : in36 w) : ∃ c, c < 36 ∧ w &&& -w = bitI (nI c) ∧ firmB w (nI c) = true ∧ ∀ j, j < c → firmB w (nI j) = false := by
  have hb : ∃ i, i < 36 ∧ w.toBitVec.getLsbD i = true := by
    apply Classical.byContradiction
    intro q
    apply h0
    apply i64_ext
    intro i hi
    have e : w.toBitVec.getLsbD i = false := by
      cases r : w.toBitVec.getLsbD i with
      | false => rfl
      | true =>
        by_cases hi36 : i < 36
        · exact absurd ⟨i, hi36, r⟩ q
        · rw [← h36, Int64.toBitVec_and, BitVec.getLsbD_and] at r
          have : (68719476735 : Int64).toBitVec.getLsbD i = false := by
            have h9 : ∀ i, i < 64 → ¬ i < 36 → (68719476735 : Int64).toBitVec.getLsbD i = false := by decide +kernel
            exact h9 i hi hi36
          rw [this] at r; simp at r
    rw [e]; simp
  have hl : ∀ n, (∃ i, i < n ∧ w.toBitVec.getLsbD i = true) → ∃ c, c < n ∧ w.toBitVec.getLsbD c = true ∧ ∀ j, j < c → w.toBitVec.getLsbD j = false := by
    intro n
    induction n with
    | zero => exact fun ⟨i, h, _⟩ => absurd h (Nat.not_lt_zero _)
    | succ n ih =>
      intro ⟨i, hi, e⟩
      by_cases q : ∃ i, i < n ∧ w.toBitVec.getLsbD i = true
      · obtain ⟨c, hc, r⟩ := ih q
        exact ⟨c, by omega, r⟩
      · refine ⟨i, hi, e, fun j hj => ?_⟩
        cases r : w.toBitVec.getLsbD j with
        | false => rfl
        | true => exact absurd ⟨j, by omega, r⟩ q
  obtain ⟨c, hc, e, hj⟩ := hl 36 hb
  refine ⟨c, hc, ?_, by rw [firmB_bit (by omega)]; exact e, fun j h => by rw [firmB_bit (by omega)]; exact hj j h⟩
  apply i64_ext
  intro i hi
  rw [Int64.toBitVec_and, BitVec.getLsbD_and, Int64.toBitVec_neg, BitVec.getLsbD_neg, bitI_bv c (by omega), BitVec.getLsbD_twoPow]
  by_cases q : c = i
  · subst q
    have : ¬ ∃ j, j < c ∧ w.toBitVec.getLsbD j = true := fun ⟨j, h1, h2⟩ => by rw [hj j h1] at h2; cases h2
    simp [e, this, hi]
  · by_cases r : i < c
    · simp [hj i r, q]
    · have : ∃ j, j < i ∧ w.toBitVec.getLsbD j = true := ⟨c, by omega, e⟩
      simp [this, hi, q]
theorem firm_clear {w : Int64} {n : Nat} (h : firmB w (nI n) = false) : w &&& bitI (nI n) = 0 := firm_and0.mpr h
theorem pt_skip {W : Int64} {i : Nat} {w : Int64} {n : Nat} (h : ptF W i = (w, n)) : ∀ c, i ≤ c → (∀ j, j < c → firmB w (nI j) = false) → ptF W c = (w, n)
  | 0, hc, _ => by rw [show i = 0 by omega] at h; exact h
  | c + 1, hc, hj => by
    by_cases q : i = c + 1
    · rw [← q]; exact h
    · have e := pt_skip h c (by omega) (fun j h => hj j (by omega))
      rw [ptF, e, if_pos (firm_clear (hj c (by omega)))]
theorem mcF_36 {f : Int64} : ∀ n, mcF f n ≤ n
  | 0 => Nat.le_refl _
  | n + 1 => by
    rw [mcF]
    have := mcF_36 (f := f) n
    split <;> omega
theorem mcF_mono {a b : Int64} : ∀ n, (∀ i, i < n → firmB a (nI i) = true → firmB b (nI i) = true) → mcF a n ≤ mcF b n
  | 0, _ => Nat.le_refl _
  | n + 1, h => by
    have ih := mcF_mono n (fun i hi => h i (by omega))
    rw [mcF, mcF]
    by_cases q : firmB a (nI n) = true
    · rw [if_pos q, if_pos (h n (by omega) q)]; omega
    · rw [if_neg q]; split <;> omega
theorem mcF_lt {a b : Int64} {c : Nat} (h1 : firmB b (nI c) = true) (h2 : firmB a (nI c) = false) : ∀ n, c < n → (∀ i, i < n → firmB a (nI i) = true → firmB b (nI i) = true) → mcF a n < mcF b n
  | 0, hc, _ => absurd hc (Nat.not_lt_zero _)
  | n + 1, hc, h => by
    rw [mcF, mcF]
    by_cases q : c = n
    · subst q
      have ih := mcF_mono c (fun i hi => h i (by omega))
      rw [if_neg (by rw [h2]; decide), if_pos h1]; omega
    · have ih := mcF_lt h1 h2 n (by omega) (fun i hi => h i (by omega))
      by_cases q2 : firmB a (nI n) = true
      · rw [if_pos q2, if_pos (h n (by omega) q2)]; omega
      · rw [if_neg q2]; split <;> omega
theorem in36_ext {a b : Int64} (ha : in36 a) (hb : in36 b) (h : ∀ i, i < 36 → firmB a (nI i) = firmB b (nI i)) : a = b := by
  apply i64_ext
  intro i hi
  by_cases q : i < 36
  · have := h i q
    rw [firmB_bit (by omega), firmB_bit (by omega)] at this
    exact this
  · have h9 : ∀ i, i < 64 → ¬ i < 36 → (68719476735 : Int64).toBitVec.getLsbD i = false := by decide +kernel
    rw [← ha, ← hb, Int64.toBitVec_and, Int64.toBitVec_and, BitVec.getLsbD_and, BitVec.getLsbD_and, h9 i hi q]
    simp
theorem jn_in {w z : Int64} (h1 : in36 z) (h2 : z &&& w = z) : ∀ k, in36 (jnF w z k) ∧ jnF w z k &&& w = jnF w z k
  | 0 => ⟨h1, h2⟩
  | k + 1 => by
    obtain ⟨a, b⟩ := jn_in h1 h2 k
    rw [jnF]
    exact ⟨or36 a (by unfold in36; exact and36 (bsd36 _)), sub_step b⟩
theorem jn_spr {w z : Int64} (h1 : in36 z) (h2 : z &&& w = z) (k : Nat) : sprF (jnF w z k) &&& w = jnF w z (k + 1) := by
  obtain ⟨a, b⟩ := jn_in h1 h2 k
  rw [spr_bsd a, sub_and b, jnF]
theorem jn_fix {w z : Int64} {k : Nat} (h : jnF w z (k + 1) = jnF w z k) : ∀ m, k ≤ m → jnF w z m = jnF w z k
  | 0, q => by rw [show k = 0 by omega]
  | m + 1, q => by
    by_cases r : k = m + 1
    · rw [r]
    · have e := jn_fix h m (by omega)
      rw [jnF, e]; rw [jnF] at h; exact h
theorem jn_lt {w z : Int64} (h1 : in36 z) (h2 : z &&& w = z) {k : Nat} (h : ¬ jnF w z (k + 1) = jnF w z k) : mcF (jnF w z k) 36 < mcF (jnF w z (k + 1)) 36 := by
  have hm : ∀ i, i < 36 → firmB (jnF w z k) (nI i) = true → firmB (jnF w z (k + 1)) (nI i) = true := by
    intro i hi q
    rw [jnF, firmB_or (by omega), q]; rfl
  have hx : ∃ c, c < 36 ∧ firmB (jnF w z (k + 1)) (nI c) = true ∧ firmB (jnF w z k) (nI c) = false := by
    apply Classical.byContradiction
    intro q
    apply h
    refine in36_ext (jn_in h1 h2 _).1 (jn_in h1 h2 _).1 (fun i hi => ?_)
    cases r : firmB (jnF w z k) (nI i) with
    | true => exact hm i hi r
    | false =>
      cases r2 : firmB (jnF w z (k + 1)) (nI i) with
      | false => rfl
      | true => exact absurd ⟨i, hi, r2, r⟩ q
  obtain ⟨c, hc, e1, e2⟩ := hx
  exact mcF_lt e1 e2 36 hc hm
theorem bit_sub {w : Int64} {c : Nat} (hc : c < 36) (h : firmB w (nI c) = true) : bitI (nI c) &&& w = bitI (nI c) := by
  apply i64_ext
  intro i hi
  rw [Int64.toBitVec_and, BitVec.getLsbD_and, bitI_bv c (by omega), BitVec.getLsbD_twoPow]
  rw [firmB_bit (by omega)] at h
  by_cases r : c = i
  · subst r; simp [h]
  · simp [r]
theorem bit_mc {c : Nat} (hc : c < 36) : 0 < mcF (bitI (nI c)) 36 := by
  have h : ∀ n, c < n → n ≤ 36 → 0 < mcF (bitI (nI c)) n := by
    intro n
    induction n with
    | zero => exact fun h _ => absurd h (Nat.not_lt_zero _)
    | succ n ih =>
      intro h1 h2
      rw [mcF]
      by_cases q : c = n
      · subst q; rw [if_pos (by rw [firmB_bitI (by omega) (by omega)]; simp)]; omega
      · have := ih (by omega) (by omega)
        split <;> omega
  exact h 36 hc (Nat.le_refl _)
/-- one part of the model's search -/
def JK (w : Int64) (c k : Nat) (a b : Int64) : Prop := a = jnF w (bitI (nI c)) k ∧ ((k = 0 ∧ b = 0) ∨ ∃ k', k = k' + 1 ∧ b = jnF w (bitI (nI c)) k') ∧ k ≤ mcF b 36
theorem mcF_z : ∀ n, n ≤ 36 → mcF 0 n = 0
  | 0, _ => rfl
  | n + 1, h => by rw [mcF, if_neg (by rw [firmB_0 (by omega)]; decide), mcF_z n (by omega)]
theorem JK_0 {w : Int64} {c : Nat} : JK w c 0 (bitI (nI c)) 0 := ⟨rfl, Or.inl ⟨rfl, rfl⟩, Nat.zero_le _⟩
theorem JK_s {w a b : Int64} {c k : Nat} (hc : c < 36) (hf : firmB w (nI c) = true) (h : JK w c k a b) (q : ¬ a = b) : JK w c (k + 1) (sprF a &&& w) a ∧ k < 36 := by
  obtain ⟨h1, h2, h3⟩ := h
  have hk : k < mcF a 36 := by
    rcases h2 with ⟨e1, e2⟩ | ⟨k', e1, e2⟩
    · subst e1; rw [h1]; exact bit_mc hc
    · subst e1
      have := jn_lt (k := k') (bitI36 c hc) (bit_sub hc hf) (by rw [← h1, ← e2]; exact q)
      rw [← e2, ← h1] at this
      omega
  have := mcF_36 (f := a) 36
  exact ⟨⟨by rw [h1, jn_spr (bitI36 c hc) (bit_sub hc hf)], Or.inr ⟨k, rfl, h1⟩, hk⟩, by omega⟩
theorem JK_e {w a b : Int64} {c k : Nat} (hc : c < 36) (h : JK w c k a b) (q : a = b) : a = jnF w (bitI (nI c)) 36 := by
  obtain ⟨h1, h2, h3⟩ := h
  rcases h2 with ⟨e1, e2⟩ | ⟨k', e1, e2⟩
  · subst e1
    exfalso
    have e : bitI (nI c) = 0 := h1.symm.trans (q.trans e2)
    have := bit_mc hc
    rw [e, mcF_z 36 (Nat.le_refl _)] at this
    exact absurd this (Nat.lt_irrefl _)
  · subst e1
    have hk := mcF_36 (f := b) 36
    have e : jnF w (bitI (nI c)) (k' + 1) = jnF w (bitI (nI c)) k' := by rw [← h1, ← e2, q]
    rw [jn_fix e 36 (by omega), h1, e]
/-- the parts so far -/
def PK (W : Int64) (i : Nat) (w : Int64) (n : Nat) : Prop := i ≤ 36 ∧ ptF W i = (w, n) ∧ (∀ j, j < i → firmB w (nI j) = false) ∧ in36 w
theorem PK_0 {W : Int64} (h : in36 W) : PK W 0 W 0 := ⟨by omega, rfl, fun _ h => absurd h (Nat.not_lt_zero _), h⟩
theorem firmB_and {a b : Int64} {j : Nat} (hj : j < 64) : firmB (a &&& b) (nI j) = (firmB a (nI j) && firmB b (nI j)) := by
  rw [firmB_bit hj, firmB_bit hj, firmB_bit hj, Int64.toBitVec_and, BitVec.getLsbD_and]
theorem firmB_not {a : Int64} {j : Nat} (hj : j < 64) : firmB (a ^^^ (-1)) (nI j) = !firmB a (nI j) := by
  rw [firmB_bit hj, firmB_bit hj, Int64.toBitVec_xor, BitVec.getLsbD_xor]
  have h9 : ∀ i, i < 64 → (-1 : Int64).toBitVec.getLsbD i = true := by decide +kernel
  rw [h9 j hj]; simp
theorem jn_base {w z : Int64} {j : Nat} (hj : j < 64) (h : firmB z (nI j) = true) : ∀ k, firmB (jnF w z k) (nI j) = true
  | 0 => h
  | k + 1 => by rw [jnF, firmB_or hj, jn_base hj h k]; rfl
theorem PK_s {W w : Int64} {i c n : Nat} (h : PK W i w n) (hc : c < 36) (hf : firmB w (nI c) = true) (hj : ∀ j, j < c → firmB w (nI j) = false) : PK W (c + 1) (w &&& (jnF w (bitI (nI c)) 36 ^^^ (-1))) (n + 1) ∧ i ≤ c := by
  obtain ⟨h1, h2, h3, h4⟩ := h
  have hic : i ≤ c := Nat.le_of_not_lt (fun q => by rw [h3 c q] at hf; cases hf)
  have e := pt_skip h2 c hic hj
  refine ⟨⟨by omega, ?_, fun j hjc => ?_, ?_⟩, hic⟩
  · rw [ptF, e, if_neg (fun q => by rw [firm_and0.mp q] at hf; cases hf)]
  · rw [firmB_and (by omega)]
    by_cases q : j = c
    · subst q
      rw [firmB_not (by omega), jn_base (by omega) (by rw [firmB_bitI (by omega) (by omega)]; simp)]
      simp
    · rw [hj j (by omega)]; rfl
  · unfold in36; exact and36 h4
theorem PK_e {W w : Int64} {i n : Nat} (h : PK W i w n) (q : w = 0) : n = (ptF W 36).2 := by
  obtain ⟨h1, h2, h3, h4⟩ := h
  rw [pt_skip h2 36 h1 (fun j hj => by rw [q]; exact firmB_0 (by omega))]
theorem i64_neg {w : Int64} : -w = -w := rfl
def csN (C : Int64) (x : Int32) : Nat := if firmB C x = true then 1 else 2
theorem csN_all {x : Int32} (h : vp_in x 36) : firmB 68719476735 x = true := by
  obtain ⟨j, hj, rfl⟩ := vin_of h
  have : ∀ j, j < 36 → firmB 68719476735 (nI j) = true := by decide +kernel
  exact this j hj
