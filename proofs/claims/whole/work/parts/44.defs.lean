/-! how many bits -/
def pop8 (b : Nat) : Nat := b % 2 + b / 2 % 2 + b / 4 % 2 + b / 8 % 2 + b / 16 % 2 + b / 32 % 2 + b / 64 % 2 + b / 128 % 2
def num : List Nat → Nat
  | [] => 0
  | b :: bs => b + 256 * num bs
def msk (k : Nat) : Nat → Nat
  | 0 => 0
  | n + 1 => k + 256 * msk k n
theorem and_split {a c x y : Nat} (ha : a < 256) (hc : c < 256) : (a + 256 * x) &&& (c + 256 * y) = (a &&& c) + 256 * (x &&& y) := by
  have hac : (a &&& c) < 256 := Nat.and_lt_two_pow a (n := 8) hc
  apply Nat.eq_of_testBit_eq
  intro i
  rw [Nat.testBit_and, show a + 256 * x = 2 ^ 8 * x + a by omega, show c + 256 * y = 2 ^ 8 * y + c by omega, show (a &&& c) + 256 * (x &&& y) = 2 ^ 8 * (x &&& y) + (a &&& c) by omega, Nat.testBit_two_pow_mul_add _ (by omega), Nat.testBit_two_pow_mul_add _ (by omega), Nat.testBit_two_pow_mul_add _ (by omega)]
  by_cases q : i < 8
  · simp only [if_pos q]; rw [Nat.testBit_and]
  · simp only [if_neg q]; rw [Nat.testBit_and]
def bp1 (b : Nat) : Nat := b - (b / 2 &&& 85)
def bp2 (b : Nat) : Nat := (b &&& 51) + (b / 4 &&& 51)
theorem b1_ok : ∀ b, b < 256 → ∀ c, c < 2 → (b / 2 + 128 * c) &&& 85 = b / 2 &&& 85 := by decide +kernel
theorem b2_ok : ∀ b, b < 256 → ∀ c, c < 4 → (b / 4 + 64 * c) &&& 51 = b / 4 &&& 51 := by decide +kernel
theorem b3_ok : ∀ b, b < 256 → bp1 b < 256 ∧ (b / 2 &&& 85) ≤ b ∧ bp2 (bp1 b) < 256 ∧ bp2 (bp1 b) % 16 ≤ 4 ∧ pop8 b ≤ 8 := by decide +kernel
theorem b4_ok : ∀ b, b < 256 → ∀ c, c < 5 → bp2 (bp1 b) + bp2 (bp1 b) / 16 + 16 * c < 256 ∧ (bp2 (bp1 b) + bp2 (bp1 b) / 16 + 16 * c) &&& 15 = pop8 b := by decide +kernel
def all256 (bs : List Nat) : Prop := ∀ b ∈ bs, b < 256
theorem st1 : ∀ (bs : List Nat), all256 bs → num bs - (num bs / 2 &&& msk 85 bs.length) = num (bs.map bp1) ∧ (num bs / 2 &&& msk 85 bs.length) ≤ num bs
  | [], _ => ⟨rfl, by simp [num, msk]⟩
  | b :: bs, h => by
    have hb : b < 256 := h b List.mem_cons_self
    obtain ⟨e1, e2⟩ := st1 bs (fun q hq => h q (List.mem_cons_of_mem _ hq))
    obtain ⟨p1, p2, -⟩ := b3_ok b hb
    have e3 : (b + 256 * num bs) / 2 = (b / 2 + 128 * (num bs % 2)) + 256 * (num bs / 2) := by omega
    have hlt : b / 2 + 128 * (num bs % 2) < 256 := by omega
    simp only [num, List.map_cons, List.length_cons, msk]
    rw [e3, and_split hlt (by omega), b1_ok b hb _ (by omega)]
    have eb : bp1 b = b - (b / 2 &&& 85) := rfl
    rw [eb, ← e1]
    constructor
    · omega
    · omega
theorem st2 : ∀ (bs : List Nat), all256 bs → (num bs &&& msk 51 bs.length) + (num bs / 4 &&& msk 51 bs.length) = num (bs.map bp2)
  | [], _ => by simp [num, msk]
  | b :: bs, h => by
    have hb : b < 256 := h b List.mem_cons_self
    have e1 := st2 bs (fun q hq => h q (List.mem_cons_of_mem _ hq))
    have e3 : (b + 256 * num bs) / 4 = (b / 4 + 64 * (num bs % 4)) + 256 * (num bs / 4) := by omega
    have hlt : b / 4 + 64 * (num bs % 4) < 256 := by omega
    simp only [num, List.map_cons, List.length_cons, msk]
    rw [e3, and_split hlt (by omega), and_split hb (by omega), b2_ok b hb _ (by omega), ← e1]
    unfold bp2
    omega
theorem st3 : ∀ (bs : List Nat), all256 bs → (num ((bs.map bp1).map bp2) + num ((bs.map bp1).map bp2) / 16) &&& msk 15 bs.length = num (bs.map pop8) ∧ num ((bs.map bp1).map bp2) % 16 ≤ 4
  | [], _ => by simp [num, msk]
  | b :: bs, h => by
    have hb : b < 256 := h b List.mem_cons_self
    obtain ⟨e1, e2⟩ := st3 bs (fun q hq => h q (List.mem_cons_of_mem _ hq))
    obtain ⟨-, -, p3, p4, -⟩ := b3_ok b hb
    obtain ⟨q1, q2⟩ := b4_ok b hb (num ((bs.map bp1).map bp2) % 16) (by omega)
    simp only [num, List.map_cons, List.length_cons, msk]
    generalize num ((bs.map bp1).map bp2) = y at *
    generalize bp2 (bp1 b) = x at *
    have e3 : x + 256 * y + (x + 256 * y) / 16 = (x + x / 16 + 16 * (y % 16)) + 256 * (y + y / 16) := by omega
    rw [e3, and_split q1 (by omega), q2, e1]
    exact ⟨rfl, by omega⟩
theorem dv {p B X : Nat} (h : p < B) : (p + B * X) / B = X := by
  rw [Nat.add_mul_div_left _ _ (by omega), Nat.div_eq_of_lt h, Nat.zero_add]
theorem dv' {n p B X : Nat} (h : n = p + B * X) (hp : p < B) : n / B = X := by rw [h]; exact dv hp
theorem ln0 (p0 p1 p2 p3 X : Nat) : p0 + 256 * (p1 + 256 * (p2 + 256 * (p3 + 256 * X))) + (p1 + 256 * (p2 + 256 * (p3 + 256 * X))) = (p0 + p1) + 256 * ((p1 + p2) + 256 * ((p2 + p3) + 256 * (p3 + X + 256 * X))) := by omega
theorem ln1 (a b Y : Nat) : a + 256 * (b + 256 * Y) = (a + 256 * b) + 65536 * Y := by omega
theorem ln2 (p0 p1 p2 p3 X : Nat) : (p0 + p1) + 256 * ((p1 + p2) + 256 * ((p2 + p3) + 256 * (p3 + X + 256 * X))) + ((p2 + p3) + 256 * (p3 + X + 256 * X)) = (p0 + p1 + p2 + p3) + 256 * (p1 + p2 + p3 + X) + 65536 * (p2 + p3 + X) + 16777216 * (p3 + X) + 4294967296 * X := by omega
theorem ln3 (q p1 p2 p3 p4 p5 p6 p7 : Nat) : q + 256 * (p1 + p2 + p3 + (p4 + 256 * (p5 + 256 * (p6 + 256 * p7)))) + 65536 * (p2 + p3 + (p4 + 256 * (p5 + 256 * (p6 + 256 * p7)))) + 16777216 * (p3 + (p4 + 256 * (p5 + 256 * (p6 + 256 * p7)))) + 4294967296 * (p4 + 256 * (p5 + 256 * (p6 + 256 * p7))) = (q + 256 * (p1 + p2 + p3 + p4) + 65536 * (p2 + p3 + p4 + p5) + 16777216 * (p3 + p4 + p5 + p6)) + 4294967296 * ((p4 + p5 + p6 + p7) + 256 * (p5 + p6 + p7 + 256 * (p6 + p7 + 256 * p7))) := by omega
theorem ln4 (q r s w Y p4 T : Nat) : q + 256 * r + 65536 * s + 16777216 * w + 4294967296 * Y + (p4 + 256 * T) = (q + p4) + 128 * (2 * r + 512 * s + 131072 * w + 33554432 * Y + 2 * T) := by omega
theorem st4 {c p0 p1 p2 p3 p4 p5 p6 p7 : Nat} (h0 : p0 ≤ 8) (h1 : p1 ≤ 8) (h2 : p2 ≤ 8) (h3 : p3 ≤ 8) (h4 : p4 ≤ 8) (h5 : p5 ≤ 8) (h6 : p6 ≤ 8) (h7 : p7 ≤ 8) (hc : c = num [p0, p1, p2, p3, p4, p5, p6, p7]) {t u v : Nat} (ht : t = c + c / 256) (hu : u = t + t / 65536) (hv : v = u + u / 4294967296) : v % 128 = p0 + p1 + p2 + p3 + p4 + p5 + p6 + p7 := by
  simp only [num, Nat.mul_zero, Nat.add_zero] at hc
  have e1 := dv' hc (by omega)
  rw [e1, hc, ln0] at ht
  have e2 := dv' (ht.trans (ln1 _ _ _)) (by omega)
  rw [e2, ht, ln2, ln3] at hu
  have e3 := dv' hu (by omega)
  rw [e3, hu, ln4] at hv
  rw [hv, Nat.add_mul_mod_self_left, Nat.mod_eq_of_lt (by omega)]
  omega
/-! the same on ints -/
def tN (w : Int64) : Nat := w.toBitVec.toNat
theorem tN_and (a b : Int64) : tN (a &&& b) = tN a &&& tN b := by unfold tN; rw [Int64.toBitVec_and, BitVec.toNat_and]
theorem tN_add {a b : Int64} (h : tN a + tN b < 2 ^ 64) : tN (a + b) = tN a + tN b := by
  unfold tN at *; rw [Int64.toBitVec_add, BitVec.toNat_add, Nat.mod_eq_of_lt h]
theorem tN_sub {a b : Int64} (h : tN b ≤ tN a) : tN (a - b) = tN a - tN b := by
  unfold tN at *
  rw [Int64.toBitVec_sub, BitVec.toNat_sub]
  have := a.toBitVec.isLt
  have := b.toBitVec.isLt
  omega
theorem tN_shr (a : Int64) (s : UInt64) (k : Nat) (hs : s.toNat = k) (hk : k < 64) : tN (a.toUInt64 >>> s).toInt64 = tN a / 2 ^ k := by
  show (a.toUInt64 >>> s).toBitVec.toNat = a.toBitVec.toNat / 2 ^ k
  rw [UInt64.toBitVec_shiftRight]
  show (a.toBitVec >>> (s.toBitVec % 64)).toNat = _
  rw [BitVec.ushiftRight_eq', BitVec.toNat_ushiftRight, BitVec.toNat_umod]
  have e : s.toBitVec.toNat = k := hs
  rw [e]
  show a.toBitVec.toNat >>> (k % 64) = _
  rw [Nat.mod_eq_of_lt hk, Nat.shiftRight_eq_div_pow]
theorem and127 (h : Int64) : h.toInt32 &&& 127 = nI (tN h % 128) := by
  apply Int32.toBitVec_inj.mp
  apply BitVec.eq_of_toNat_eq
  rw [Int32.toBitVec_and, BitVec.toNat_and]
  show (h.toBitVec.signExtend 32).toNat &&& 127 = (BitVec.ofNat 32 (tN h % 128)).toNat
  rw [BitVec.signExtend_eq_setWidth_of_le _ (by omega), BitVec.toNat_setWidth, BitVec.toNat_ofNat]
  have e : ∀ n : Nat, n &&& 127 = n % 128 := fun n => Nat.and_two_pow_sub_one_eq_mod n 7
  rw [e]
  show tN h % 2 ^ 32 % 128 = _
  omega
theorem bits8 (W : Nat) (h : W < 2 ^ 64) : W = num [W % 256, W / 256 % 256, W / 65536 % 256, W / 16777216 % 256, W / 4294967296 % 256, W / 1099511627776 % 256, W / 281474976710656 % 256, W / 72057594037927936 % 256] := by
  simp only [num]; omega
def bA (w : Int64) : Int64 := w - ((w.toUInt64 >>> ((1 : Int32).toInt64.toUInt64 &&& Int64.toUInt64 63)).toInt64 &&& 6148914691236517205)
def bB (a : Int64) : Int64 := (a &&& 3689348814741910323) + ((a.toUInt64 >>> ((2 : Int32).toInt64.toUInt64 &&& Int64.toUInt64 63)).toInt64 &&& 3689348814741910323)
def bC (b : Int64) : Int64 := (b + (b.toUInt64 >>> ((4 : Int32).toInt64.toUInt64 &&& Int64.toUInt64 63)).toInt64) &&& 1085102592571150095
def bD (c : Int64) : Int64 := c + (c.toUInt64 >>> ((8 : Int32).toInt64.toUInt64 &&& Int64.toUInt64 63)).toInt64
def bE (d : Int64) : Int64 := d + (d.toUInt64 >>> ((16 : Int32).toInt64.toUInt64 &&& Int64.toUInt64 63)).toInt64
def bH (e : Int64) : Int64 := e + (e.toUInt64 >>> ((32 : Int32).toInt64.toUInt64 &&& Int64.toUInt64 63)).toInt64
theorem bcF_eq (w : Int64) : bcF w = (bH (bE (bD (bC (bB (bA w)))))).toInt32 &&& 127 := rfl
theorem bc_nat (w : Int64) : bcF w = nI (pop8 (tN w % 256) + pop8 (tN w / 256 % 256) + pop8 (tN w / 65536 % 256) + pop8 (tN w / 16777216 % 256) + pop8 (tN w / 4294967296 % 256) + pop8 (tN w / 1099511627776 % 256) + pop8 (tN w / 281474976710656 % 256) + pop8 (tN w / 72057594037927936 % 256)) := by
  have hw : tN w < 2 ^ 64 := w.toBitVec.isLt
  have hn := bits8 (tN w) hw
  generalize hbs : [tN w % 256, tN w / 256 % 256, tN w / 65536 % 256, tN w / 16777216 % 256, tN w / 4294967296 % 256, tN w / 1099511627776 % 256, tN w / 281474976710656 % 256, tN w / 72057594037927936 % 256] = bs at hn
  have hall : all256 bs := by
    intro b hb
    rw [← hbs] at hb
    simp only [List.mem_cons, List.not_mem_nil, or_false] at hb
    omega
  have hlen : bs.length = 8 := by rw [← hbs]; rfl
  have hall1 : all256 (bs.map bp1) := by
    intro b hb
    obtain ⟨a, ha, rfl⟩ := List.mem_map.mp hb
    exact (b3_ok a (hall a ha)).1
  obtain ⟨s1, s1'⟩ := st1 bs hall
  have s2 := st2 (bs.map bp1) hall1
  obtain ⟨s3, -⟩ := st3 bs hall
  rw [List.length_map] at s2
  rw [hlen] at s1 s1' s2 s3
  rw [← hn] at s1 s1'
  have m1 : tN 6148914691236517205 = msk 85 8 := by decide +kernel
  have m2 : tN 3689348814741910323 = msk 51 8 := by decide +kernel
  have m3 : tN 1085102592571150095 = msk 15 8 := by decide +kernel
  have k2 : msk 51 8 = 3689348814741910323 := by decide +kernel
  have k3 : msk 15 8 = 1085102592571150095 := by decide +kernel
  rw [bcF_eq]
  obtain ⟨a, ha⟩ : ∃ a, a = bA w := ⟨_, rfl⟩
  rw [← ha]
  obtain ⟨b, hb⟩ : ∃ b, b = bB a := ⟨_, rfl⟩
  rw [← hb]
  obtain ⟨c, hc⟩ : ∃ c, c = bC b := ⟨_, rfl⟩
  rw [← hc]
  obtain ⟨d, hd⟩ : ∃ d, d = bD c := ⟨_, rfl⟩
  rw [← hd]
  obtain ⟨e, he⟩ : ∃ e, e = bE d := ⟨_, rfl⟩
  rw [← he]
  obtain ⟨h, hh⟩ : ∃ h, h = bH e := ⟨_, rfl⟩
  rw [← hh]
  have ea : tN a = num (bs.map bp1) := by
    rw [ha]
    show tN (w - ((w.toUInt64 >>> ((1 : Int32).toInt64.toUInt64 &&& Int64.toUInt64 63)).toInt64 &&& 6148914691236517205)) = _
    have e0 : tN ((w.toUInt64 >>> ((1 : Int32).toInt64.toUInt64 &&& Int64.toUInt64 63)).toInt64 &&& 6148914691236517205) = (tN w / 2 &&& msk 85 8) := by
      rw [tN_and, tN_shr w _ 1 (by decide) (by omega), m1]
    rw [tN_sub (by rw [e0]; exact s1'), e0, s1]
  have eb : tN b = num ((bs.map bp1).map bp2) := by
    rw [hb]
    show tN ((a &&& 3689348814741910323) + ((a.toUInt64 >>> ((2 : Int32).toInt64.toUInt64 &&& Int64.toUInt64 63)).toInt64 &&& 3689348814741910323)) = _
    have e1 : tN (a &&& 3689348814741910323) = (num (bs.map bp1) &&& msk 51 8) := by rw [tN_and, ea, m2]
    have e2 : tN ((a.toUInt64 >>> ((2 : Int32).toInt64.toUInt64 &&& Int64.toUInt64 63)).toInt64 &&& 3689348814741910323) = (num (bs.map bp1) / 4 &&& msk 51 8) := by
      rw [tN_and, tN_shr a _ 2 (by decide) (by omega), m2, ea]
    have h1 : (num (bs.map bp1) &&& msk 51 8) ≤ msk 51 8 := Nat.and_le_right
    have h2 : (num (bs.map bp1) / 4 &&& msk 51 8) ≤ msk 51 8 := Nat.and_le_right
    rw [tN_add (by rw [e1, e2]; omega), e1, e2, s2]
  have hb2 : tN b ≤ 2 * 3689348814741910323 := by
    rw [eb, ← s2]
    have h1 : (num (bs.map bp1) &&& msk 51 8) ≤ msk 51 8 := Nat.and_le_right
    have h2 : (num (bs.map bp1) / 4 &&& msk 51 8) ≤ msk 51 8 := Nat.and_le_right
    omega
  have ec : tN c = num (bs.map pop8) := by
    rw [hc]
    show tN ((b + (b.toUInt64 >>> ((4 : Int32).toInt64.toUInt64 &&& Int64.toUInt64 63)).toInt64) &&& 1085102592571150095) = _
    have e1 : tN (b.toUInt64 >>> ((4 : Int32).toInt64.toUInt64 &&& Int64.toUInt64 63)).toInt64 = tN b / 16 := tN_shr b _ 4 (by decide) (by omega)
    rw [tN_and, tN_add (by rw [e1]; omega), e1, m3, eb, s3]
  have hc2 : tN c ≤ 1085102592571150095 := by
    rw [ec, ← s3]
    have : ((num ((bs.map bp1).map bp2) + num ((bs.map bp1).map bp2) / 16) &&& msk 15 8) ≤ msk 15 8 := Nat.and_le_right
    omega
  have ed : tN d = tN c + tN c / 256 := by
    rw [hd]
    show tN (c + (c.toUInt64 >>> ((8 : Int32).toInt64.toUInt64 &&& Int64.toUInt64 63)).toInt64) = _
    have e1 : tN (c.toUInt64 >>> ((8 : Int32).toInt64.toUInt64 &&& Int64.toUInt64 63)).toInt64 = tN c / 256 := tN_shr c _ 8 (by decide) (by omega)
    rw [tN_add (by rw [e1]; omega), e1]
  have ee : tN e = tN d + tN d / 65536 := by
    rw [he]
    show tN (d + (d.toUInt64 >>> ((16 : Int32).toInt64.toUInt64 &&& Int64.toUInt64 63)).toInt64) = _
    have e1 : tN (d.toUInt64 >>> ((16 : Int32).toInt64.toUInt64 &&& Int64.toUInt64 63)).toInt64 = tN d / 65536 := tN_shr d _ 16 (by decide) (by omega)
    rw [tN_add (by rw [e1]; omega), e1]
  have eh : tN h = tN e + tN e / 4294967296 := by
    rw [hh]
    show tN (e + (e.toUInt64 >>> ((32 : Int32).toInt64.toUInt64 &&& Int64.toUInt64 63)).toInt64) = _
    have e1 : tN (e.toUInt64 >>> ((32 : Int32).toInt64.toUInt64 &&& Int64.toUInt64 63)).toInt64 = tN e / 4294967296 := tN_shr e _ 32 (by decide) (by omega)
    rw [tN_add (by rw [e1]; omega), e1]
  rw [and127]
  congr 1
  have p : ∀ x, pop8 (x % 256) ≤ 8 := fun x => (b3_ok (x % 256) (by omega)).2.2.2.2
  exact st4 (c := tN c) (p _) (p _) (p _) (p _) (p _) (p _) (p _) (p _) (by rw [ec, ← hbs]; rfl) ed ee eh
theorem mc_step {f : Int64} {n : Nat} (hn : n < 64) : mcF f (n + 1) = mcF f n + tN f / 2 ^ n % 2 := by
  rw [mcF, firmB_bit hn]
  have e : f.toBitVec.getLsbD n = decide (tN f / 2 ^ n % 2 = 1) := by
    show f.toBitVec.toNat.testBit n = _
    rw [Nat.testBit_eq_decide_div_mod_eq]
    rfl
  rw [e]
  by_cases q : tN f / 2 ^ n % 2 = 1
  · rw [if_pos (decide_eq_true q), q]
  · rw [if_neg (by rw [decide_eq_false q]; decide)]
    omega
theorem tN_36 {f : Int64} (h : in36 f) : tN f < 2 ^ 36 := by
  have e : tN f = tN f &&& 68719476735 := by
    have : tN (f &&& 68719476735) = tN f &&& 68719476735 := tN_and f _
    rw [h] at this; exact this
  rw [e]
  exact Nat.lt_of_le_of_lt Nat.and_le_right (by decide)
theorem bc_mc {f : Int64} (h : in36 f) : bcF f = nI (mcF f 36) := by
  rw [bc_nat]
  have hl := tN_36 h
  congr 1
  have e : mcF f 40 = mcF f 36 := by
    rw [mc_step (by omega), mc_step (by omega), mc_step (by omega), mc_step (by omega)]
    omega
  rw [← e]
  iterate 40 rw [mc_step (by omega)]
  rw [mcF]
  generalize tN f = W at *
  have q1 : pop8 (W / 1099511627776 % 256) = 0 := by rw [show W / 1099511627776 % 256 = 0 by omega]; rfl
  have q2 : pop8 (W / 281474976710656 % 256) = 0 := by rw [show W / 281474976710656 % 256 = 0 by omega]; rfl
  have q3 : pop8 (W / 72057594037927936 % 256) = 0 := by rw [show W / 72057594037927936 % 256 = 0 by omega]; rfl
  have g : ∀ V : Nat, pop8 (V % 256) = V % 2 + V / 2 % 2 + V / 4 % 2 + V / 8 % 2 + V / 16 % 2 + V / 32 % 2 + V / 64 % 2 + V / 128 % 2 := by
    intro V
    unfold pop8
    omega
  rw [q1, q2, q3, g, g, g, g, g]
  simp only [Nat.div_div_eq_div_mul, Nat.reducePow, Nat.reduceMul, Nat.div_one]
  omega
