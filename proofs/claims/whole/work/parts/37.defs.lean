/-! the game -/
def mnF (ds : Nat → Int32) (j : Nat) : Nat → Int32
  | 0 => 99
  | n + 1 => imin (mnF ds j n) (ds (n * 36 + j))
def mxF (ds : Nat → Int32) (i : Nat) (v : Int32) : Nat → Int32
  | 0 => v
  | n + 1 => imax (mxF ds i v n) (ds (i * 36 + n))
theorem imin_le {x y : Int32} : imin x y ≤ x ∧ imin x y ≤ y := by
  unfold imin
  by_cases q : y < x
  · rw [if_pos q]; exact ⟨Int32.le_of_lt q, Int32.le_refl _⟩
  · rw [if_neg q]; exact ⟨Int32.le_refl _, Int32.not_lt.mp q⟩
theorem imin_gl {x y v : Int32} (h1 : v ≤ x) (h2 : v ≤ y) : v ≤ imin x y := by
  unfold imin; split <;> assumption
theorem imax_ge {x y : Int32} : x ≤ imax x y ∧ y ≤ imax x y := by
  unfold imax
  by_cases q : x < y
  · rw [if_pos q]; exact ⟨Int32.le_of_lt q, Int32.le_refl _⟩
  · rw [if_neg q]; exact ⟨Int32.le_refl _, Int32.not_lt.mp q⟩
theorem imax_lu {x y v : Int32} (h1 : x ≤ v) (h2 : y ≤ v) : imax x y ≤ v := by
  unfold imax; split <;> assumption
theorem mnF_le {ds : Nat → Int32} {j : Nat} : ∀ {n c : Nat}, c < n → mnF ds j n ≤ ds (c * 36 + j)
  | 0, _, h => absurd h (Nat.not_lt_zero _)
  | n + 1, c, h => by
    rw [mnF]
    by_cases q : c = n
    · rw [q]; exact imin_le.2
    · exact Int32.le_trans imin_le.1 (mnF_le (by omega))
theorem mnF_gl {ds : Nat → Int32} {j : Nat} {v : Int32} (h99 : v ≤ 99) : ∀ {n : Nat}, (∀ c, c < n → v ≤ ds (c * 36 + j)) → v ≤ mnF ds j n
  | 0, _ => h99
  | n + 1, h => by
    rw [mnF]
    exact imin_gl (mnF_gl h99 (fun c hc => h c (by omega))) (h n (by omega))
theorem mxF_ge {ds : Nat → Int32} {i : Nat} {v : Int32} : ∀ {n c : Nat}, c < n → ds (i * 36 + c) ≤ mxF ds i v n
  | 0, _, h => absurd h (Nat.not_lt_zero _)
  | n + 1, c, h => by
    rw [mxF]
    by_cases q : c = n
    · rw [q]; exact imax_ge.2
    · exact Int32.le_trans (mxF_ge (by omega)) imax_ge.1
theorem mxF_lu {ds : Nat → Int32} {i : Nat} {v w : Int32} (h0 : v ≤ w) : ∀ {n : Nat}, (∀ c, c < n → ds (i * 36 + c) ≤ w) → mxF ds i v n ≤ w
  | 0, _ => h0
  | n + 1, h => by
    rw [mxF]
    exact imax_lu (mxF_lu h0 (fun c hc => h c (by omega))) (h n (by omega))
theorem rowF_1 {ds : Nat → Int32} {i : Nat} {st : (Nat → Int32) × (Nat → Int32)} : ∀ (n q : Nat), (rowF ds i st n).1 q = if q < n then imin (st.1 q) (ds (i * 36 + q)) else st.1 q
  | 0, q => by rw [rowF, if_neg (Nat.not_lt_zero _)]
  | n + 1, q => by
    have ih := rowF_1 (ds := ds) (i := i) (st := st) n
    show upd (rowF ds i st n).1 n (imin ((rowF ds i st n).1 n) (ds (i * 36 + n))) q = _
    simp only [upd]
    by_cases r : q = n
    · rw [if_pos r, if_pos (by omega), ih n, if_neg (by omega), r]
    · rw [if_neg r, ih q]
      by_cases t : q < n
      · rw [if_pos t, if_pos (by omega)]
      · rw [if_neg t, if_neg (by omega)]
theorem rowF_2 {ds : Nat → Int32} {i : Nat} {st : (Nat → Int32) × (Nat → Int32)} : ∀ (n q : Nat), (rowF ds i st n).2 q = if q = i then mxF ds i (st.2 i) n else st.2 q
  | 0, q => by
    rw [rowF, mxF]
    split
    · rename_i h; rw [h]
    · rfl
  | n + 1, q => by
    have ih := rowF_2 (ds := ds) (i := i) (st := st) n
    show upd (rowF ds i st n).2 i (imax ((rowF ds i st n).2 i) (ds (i * 36 + n))) q = _
    simp only [upd]
    by_cases r : q = i
    · rw [if_pos r, if_pos r, ih i, if_pos rfl, mxF]
    · rw [if_neg r, if_neg r, ih q, if_neg r]
theorem dwF_1 {ds df dm : Nat → Int32} : ∀ (n q : Nat), q < 36 → (dwF ds df dm n).1 q = mnF ds q n
  | 0, q, h => by
    show cpF df (fun _ => 99) 36 q = 99
    simp only [cpF]; rw [if_pos h]
  | n + 1, q, h => by
    show (rowF ds n (dwF ds df dm n) 36).1 q = _
    rw [rowF_1, if_pos h, dwF_1 n q h, mnF]
theorem dwF_2 {ds df dm : Nat → Int32} : ∀ (n q : Nat), q < 36 → (dwF ds df dm n).2 q = if q < n then mxF ds q 0 36 else 0
  | 0, q, h => by
    show cpF dm (fun _ => 0) 36 q = _
    simp only [cpF]; rw [if_pos h, if_neg (Nat.not_lt_zero _)]
  | n + 1, q, h => by
    show (rowF ds n (dwF ds df dm n) 36).2 q = _
    rw [rowF_2]
    by_cases r : q = n
    · subst r
      rw [if_pos rfl, if_pos (by omega), dwF_2 q q h, if_neg (Nat.lt_irrefl _)]
    · rw [if_neg r, dwF_2 n q h]
      by_cases t : q < n
      · rw [if_pos t, if_pos (by omega)]
      · rw [if_neg t, if_neg (by omega)]
theorem tsL_iff {g : Nat → Int32} {k : Nat} : ∀ l, tsL g k l = true ↔ ∀ c, c < l → g k ≤ g (36 * c + k % 36) ∧ g (k / 36 * 36 + c) ≤ g k
  | 0 => ⟨fun _ c h => absurd h (Nat.not_lt_zero _), fun _ => rfl⟩
  | l + 1 => by
    rw [tsL, Bool.and_eq_true, Bool.and_eq_true, decide_eq_true_eq, decide_eq_true_eq, tsL_iff l]
    constructor
    · intro h c hc
      by_cases q : c = l
      · rw [q]; exact h.2
      · exact h.1 c (by omega)
    · exact fun h => ⟨fun c hc => h c (by omega), h l (by omega)⟩
theorem rest_eq {ds df dm ga : Nat → Int32} (he : ∀ k, k < 1296 → ds k = ga k) (hb : ∀ k, k < 1296 → 0 ≤ ga k ∧ ga k ≤ 99) {k : Nat} (hk : k < 1296) : restB ds (dwF ds df dm 36).1 (dwF ds df dm 36).2 (k / 36) (k % 36) = tsL ga k 36 := by
  have hi : k / 36 < 36 := by omega
  have hj : k % 36 < 36 := by omega
  have ek : k / 36 * 36 + k % 36 = k := by omega
  unfold restB
  rw [dwF_1 36 _ hj, dwF_2 36 _ hi, if_pos hi, ek]
  apply Bool.eq_iff_iff.mpr
  rw [Bool.and_eq_true, decide_eq_true_eq, decide_eq_true_eq, tsL_iff]
  constructor
  · rintro ⟨h1, h2⟩ c hc
    constructor
    · have := mnF_le (ds := ds) (j := k % 36) hc
      rw [← h1, he k hk, he _ (by omega), Nat.mul_comm] at this
      exact this
    · have := mxF_ge (ds := ds) (i := k / 36) (v := 0) hc
      rw [← h2, he k hk, he _ (by omega)] at this
      exact this
  · intro h
    constructor
    · apply Int32.le_antisymm
      · refine mnF_gl (by rw [he k hk]; exact (hb k hk).2) (fun c hc => ?_)
        rw [he k hk, he _ (by omega), Nat.mul_comm c 36]
        exact (h c hc).1
      · have := mnF_le (ds := ds) (j := k % 36) hi
        rw [ek] at this; exact this
    · apply Int32.le_antisymm
      · have := mxF_ge (ds := ds) (i := k / 36) (v := 0) hj
        rw [ek] at this; exact this
      · refine mxF_lu (by rw [he k hk]; exact (hb k hk).1) (fun c hc => ?_)
        rw [he k hk, he _ (by omega)]
        exact (h c hc).2
def cU (P : Nat → Bool) : Nat → Nat
  | 0 => 0
  | n + 1 => if P n = true then cU P n + 1 else cU P n
theorem cU_row {B : Nat → Nat → Bool} {i : Nat} : ∀ j, j ≤ 36 → rsI (B i) j + cU (fun k => B (k / 36) (k % 36)) (36 * i) = cU (fun k => B (k / 36) (k % 36)) (36 * i + j)
  | 0, _ => by rw [rsI, Nat.zero_add]; rfl
  | j + 1, h => by
    have ih := cU_row (B := B) (i := i) j (by omega)
    rw [rsI, show 36 * i + (j + 1) = (36 * i + j) + 1 by omega, cU, show (36 * i + j) / 36 = i by omega, show (36 * i + j) % 36 = j by omega, ← ih]
    split <;> omega
theorem cU_all {B : Nat → Nat → Bool} : ∀ n, rsC B n = cU (fun k => B (k / 36) (k % 36)) (36 * n)
  | 0 => rfl
  | n + 1 => by
    have e := cU_row (B := B) (i := n) 36 (Nat.le_refl _)
    rw [rsC, cU_all n, show 36 * (n + 1) = 36 * n + 36 by omega, ← e]
    omega
theorem dC_cU {g : Nat → Int32} {P : Nat → Bool} (h : ∀ k, k < 1296 → P k = tsL g k 36) : ∀ m, m ≤ 1296 → dC g m + cU P (1296 - m) = cU P 1296
  | 0, _ => by rw [dC, Nat.zero_add]
  | m + 1, hm => by
    have ih := dC_cU h m (by omega)
    rw [show 1296 - m = (1295 - m) + 1 by omega, cU, h _ (by omega)] at ih
    rw [dC, show 1296 - (m + 1) = 1295 - m by omega]
    by_cases q : tsL g (1295 - m) 36 = true
    · rw [if_pos q] at ih ⊢; omega
    · rw [if_neg q] at ih ⊢; exact ih
theorem dF_fs {g : Nat → Int32} {B : Nat → Nat → Bool} (h : ∀ k, k < 1296 → B (k / 36) (k % 36) = tsL g k 36) : ∀ m, m ≤ 1296 → dF g m = fsF B m (1296 - m)
  | 0, _ => rfl
  | m + 1, hm => by
    rw [dF, fsF, show 1296 - (m + 1) = 1295 - m by omega, h _ (by omega), dF_fs h m (by omega), show 1296 - m = 1295 - m + 1 by omega]
theorem n99_rng {w : Int64} {x y : Int32} : 0 ≤ n99 (stX w x y) ∧ n99 (stX w x y) ≤ 99 := by
  rcases stX_rng w x y with q | ⟨j, hj, e⟩
  · rw [q]; decide
  · rw [e]
    unfold n99
    rw [if_pos (Int32.not_lt.mp (nI_pos (by omega)))]
    exact ⟨Int32.not_lt.mp (nI_pos (by omega)), (nI_leI (b := 99) (by omega) (by omega)).mpr (by omega)⟩
theorem TG_sim {a b : WS} (E : EW a b) (p q : Nat) (u v x y : Int32) (i j : Nat) : TG p q u v a.kd a.ce a.ho a.n a.z a.f a.m a.t x y i j = TG p q u v b.kd b.ce b.ho b.n b.z b.f b.m b.t x y i j := by
  unfold TG
  rw [E.en, E.ez, E.ef, E.et]
  refine congrArg (fun q => stX q x y) (thW_congr (fun k hk => ?_) b.z b.f E.em)
  have e := E.k3 k hk
  refine ⟨e.1, ?_, ?_⟩
  · simp only [upd]; rw [e.2.1]
  · simp only [upd]; rw [e.2.2]
theorem game_sim {a b : WS} (E : EW a b) {p q u v x y w r1 r2 : Int32} (h1 : R_game p q u v x y w a.kd a.ce a.ho a.n a.z a.f a.m a.t r1) (h2 : R_gameM p q u v x y w b.kd b.ce b.ho b.n b.z b.f b.m b.t r2) : r1 = r2 := by
  unfold R_game at h1
  unfold R_gameM at h2
  rw [E.en] at h1
  rcases h1 with ⟨g1, e1⟩ | ⟨g1, ds, df, dm, hd, e1⟩
  · rcases h2 with ⟨g2, e2⟩ | ⟨g2, ga, hg, e2⟩
    · exact e1.trans e2.symm
    · rw [g1] at g2; cases g2
  · rcases h2 with ⟨g2, e2⟩ | ⟨g2, ga, hg, e2⟩
    · rw [g1] at g2; cases g2
    · have he : ∀ k, k < 1296 → ds k = ga k := by
        intro k hk
        have e := hd (k / 36) (k % 36) (by omega) (by omega)
        rw [show k / 36 * 36 + k % 36 = k by omega] at e
        have e0 := TG_sim E p.toNatClampNeg q.toNatClampNeg u v x y (k / 36) (k % 36)
        rw [E.en] at e0
        rw [e, hg k hk, e0]
      have hb : ∀ k, k < 1296 → 0 ≤ ga k ∧ ga k ≤ 99 := by
        intro k hk
        rw [hg k hk]
        unfold TG
        exact n99_rng
      have hr : ∀ k, k < 1296 → restB ds (dwF ds df dm 36).1 (dwF ds df dm 36).2 (k / 36) (k % 36) = tsL ga k 36 := fun k hk => rest_eq he hb hk
      rw [e1, e2]
      by_cases c : w = 0
      · rw [if_pos c, if_pos c]
        have e3 := dC_cU (g := ga) (P := fun k => restB ds (dwF ds df dm 36).1 (dwF ds df dm 36).2 (k / 36) (k % 36)) hr 1296 (Nat.le_refl _)
        rw [Nat.sub_self, cU, Nat.add_zero] at e3
        rw [e3, cU_all 36]
      · rw [if_neg c, if_neg c]
        have e3 := dF_fs (g := ga) (B := restB ds (dwF ds df dm 36).1 (dwF ds df dm 36).2) hr 1296 (Nat.le_refl _)
        rw [Nat.sub_self] at e3
        exact e3.symm
