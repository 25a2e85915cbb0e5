/-! the same on ints -/
def tN (w : Int64) : Nat := w.toBitVec.toNat
theorem tN_and (a b : Int64) : tN (a &&& b) = tN a &&& tN b := by unfold tN; rw [Int64.toBitVec_and, BitVec.toNat_and]
theorem tN_add {a b : Int64} (h : tN a + tN b < 2 ^ 64) : tN (a + b) = tN a + tN b := by
  unfold tN at *; rw [Int64.toBitVec_add, BitVec.toNat_add, Nat.mod_eq_of_lt h]
theorem tN_sub {a b : Int64} (h : tN b ≤ tN a) : tN (a - b) = tN a - tN b := by
  unfold tN at *
  rw [Int64.toBitVec_sub, BitVec.toNat_sub]
  have := a.toBitVec.isLt
  have := b.toBitVec.isLt
  omega
theorem tN_shr (a : Int64) (s : UInt64) (k : Nat) (hs : s.toNat = k) (hk : k < 64) : tN (a.toUInt64 >>> s).toInt64 = tN a / 2 ^ k := by
  show (a.toUInt64 >>> s).toBitVec.toNat = a.toBitVec.toNat / 2 ^ k
  rw [UInt64.toBitVec_shiftRight]
  show (a.toBitVec >>> (s.toBitVec % 64)).toNat = _
  rw [BitVec.ushiftRight_eq', BitVec.toNat_ushiftRight, BitVec.toNat_umod]
  have e : s.toBitVec.toNat = k := hs
  rw [e]
  show a.toBitVec.toNat >>> (k % 64) = _
  rw [Nat.mod_eq_of_lt hk, Nat.shiftRight_eq_div_pow]
theorem and127 (h : Int64) : h.toInt32 &&& 127 = nI (tN h % 128) := by
  apply Int32.toBitVec_inj.mp
  apply BitVec.eq_of_toNat_eq
  rw [Int32.toBitVec_and, BitVec.toNat_and]
  show (h.toBitVec.signExtend 32).toNat &&& 127 = (BitVec.ofNat 32 (tN h % 128)).toNat
  rw [BitVec.signExtend_eq_setWidth_of_le _ (by omega), BitVec.toNat_setWidth, BitVec.toNat_ofNat]
  have e : ∀ n : Nat, n &&& 127 = n % 128 := fun n => Nat.and_two_pow_sub_one_eq_mod n 7
  rw [e]
  show tN h % 2 ^ 32 % 128 = _
  omega
theorem bits8 (W : Nat) (h : W < 2 ^ 64) : W = num [W % 256, W / 256 % 256, W / 65536 % 256, W / 16777216 % 256, W / 4294967296 % 256, W / 1099511627776 % 256, W / 281474976710656 % 256, W / 72057594037927936 % 256] := by
  simp only [num]; omega
def bA (w : Int64) : Int64 := w - ((w.toUInt64 >>> ((1 : Int32).toInt64.toUInt64 &&& Int64.toUInt64 63)).toInt64 &&& 6148914691236517205)
def bB (a : Int64) : Int64 := (a &&& 3689348814741910323) + ((a.toUInt64 >>> ((2 : Int32).toInt64.toUInt64 &&& Int64.toUInt64 63)).toInt64 &&& 3689348814741910323)
def bC (b : Int64) : Int64 := (b + (b.toUInt64 >>> ((4 : Int32).toInt64.toUInt64 &&& Int64.toUInt64 63)).toInt64) &&& 1085102592571150095
def bD (c : Int64) : Int64 := c + (c.toUInt64 >>> ((8 : Int32).toInt64.toUInt64 &&& Int64.toUInt64 63)).toInt64
def bE (d : Int64) : Int64 := d + (d.toUInt64 >>> ((16 : Int32).toInt64.toUInt64 &&& Int64.toUInt64 63)).toInt64
def bH (e : Int64) : Int64 := e + (e.toUInt64 >>> ((32 : Int32).toInt64.toUInt64 &&& Int64.toUInt64 63)).toInt64
theorem bcF_eq (w : Int64) : bcF w = (bH (bE (bD (bC (bB (bA w)))))).toInt32 &&& 127 := rfl
theorem bc_nat (w : Int64) : bcF w = nI (pop8 (tN w % 256) + pop8 (tN w / 256 % 256) + pop8 (tN w / 65536 % 256) + pop8 (tN w / 16777216 % 256) + pop8 (tN w / 4294967296 % 256) + pop8 (tN w / 1099511627776 % 256) + pop8 (tN w / 281474976710656 % 256) + pop8 (tN w / 72057594037927936 % 256)) := by
  have hw : tN w < 2 ^ 64 := w.toBitVec.isLt
  have hn := bits8 (tN w) hw
  generalize hbs : [tN w % 256, tN w / 256 % 256, tN w / 65536 % 256, tN w / 16777216 % 256, tN w / 4294967296 % 256, tN w / 1099511627776 % 256, tN w / 281474976710656 % 256, tN w / 72057594037927936 % 256] = bs at hn
  have hall : all256 bs := by
    intro b hb
    rw [← hbs] at hb
    simp only [List.mem_cons, List.not_mem_nil, or_false] at hb
    omega
  have hlen : bs.length = 8 := by rw [← hbs]; rfl
  have hall1 : all256 (bs.map bp1) := by
    intro b hb
    obtain ⟨a, ha, rfl⟩ := List.mem_map.mp hb
    exact (b3_ok a (hall a ha)).1
  obtain ⟨s1, s1'⟩ := st1 bs hall
  have s2 := st2 (bs.map bp1) hall1
  obtain ⟨s3, -⟩ := st3 bs hall
  rw [List.length_map] at s2
  rw [hlen] at s1 s1' s2 s3
  rw [← hn] at s1 s1'
  have m1 : tN 6148914691236517205 = msk 85 8 := by decide +kernel
  have m2 : tN 3689348814741910323 = msk 51 8 := by decide +kernel
  have m3 : tN 1085102592571150095 = msk 15 8 := by decide +kernel
  have k2 : msk 51 8 = 3689348814741910323 := by decide +kernel
  have k3 : msk 15 8 = 1085102592571150095 := by decide +kernel
  rw [bcF_eq]
  obtain ⟨a, ha⟩ : ∃ a, a = bA w := ⟨_, rfl⟩
  rw [← ha]
  obtain ⟨b, hb⟩ : ∃ b, b = bB a := ⟨_, rfl⟩
  rw [← hb]
  obtain ⟨c, hc⟩ : ∃ c, c = bC b := ⟨_, rfl⟩
  rw [← hc]
  obtain ⟨d, hd⟩ : ∃ d, d = bD c := ⟨_, rfl⟩
  rw [← hd]
  obtain ⟨e, he⟩ : ∃ e, e = bE d := ⟨_, rfl⟩
  rw [← he]
  obtain ⟨h, hh⟩ : ∃ h, h = bH e := ⟨_, rfl⟩
  rw [← hh]
  have ea : tN a = num (bs.map bp1) := by
    rw [ha]
    show tN (w - ((w.toUInt64 >>> ((1 : Int32).toInt64.toUInt64 &&& Int64.toUInt64 63)).toInt64 &&& 6148914691236517205)) = _
    have e0 : tN ((w.toUInt64 >>> ((1 : Int32).toInt64.toUInt64 &&& Int64.toUInt64 63)).toInt64 &&& 6148914691236517205) = (tN w / 2 &&& msk 85 8) := by
      rw [tN_and, tN_shr w _ 1 (by decide) (by omega), m1]
    rw [tN_sub (by rw [e0]; exact s1'), e0, s1]
  have eb : tN b = num ((bs.map bp1).map bp2) := by
    rw [hb]
    show tN ((a &&& 3689348814741910323) + ((a.toUInt64 >>> ((2 : Int32).toInt64.toUInt64 &&& Int64.toUInt64 63)).toInt64 &&& 3689348814741910323)) = _
    have e1 : tN (a &&& 3689348814741910323) = (num (bs.map bp1) &&& msk 51 8) := by rw [tN_and, ea, m2]
    have e2 : tN ((a.toUInt64 >>> ((2 : Int32).toInt64.toUInt64 &&& Int64.toUInt64 63)).toInt64 &&& 3689348814741910323) = (num (bs.map bp1) / 4 &&& msk 51 8) := by
      rw [tN_and, tN_shr a _ 2 (by decide) (by omega), m2, ea]
    have h1 : (num (bs.map bp1) &&& msk 51 8) ≤ msk 51 8 := Nat.and_le_right
    have h2 : (num (bs.map bp1) / 4 &&& msk 51 8) ≤ msk 51 8 := Nat.and_le_right
    rw [tN_add (by rw [e1, e2]; omega), e1, e2, s2]
  have hb2 : tN b ≤ 2 * 3689348814741910323 := by
    rw [eb, ← s2]
    have h1 : (num (bs.map bp1) &&& msk 51 8) ≤ msk 51 8 := Nat.and_le_right
    have h2 : (num (bs.map bp1) / 4 &&& msk 51 8) ≤ msk 51 8 := Nat.and_le_right
    omega
  have ec : tN c = num (bs.map pop8) := by
    rw [hc]
    show tN ((b + (b.toUInt64 >>> ((4 : Int32).toInt64.toUInt64 &&& Int64.toUInt64 63)).toInt64) &&& 1085102592571150095) = _
    have e1 : tN (b.toUInt64 >>> ((4 : Int32).toInt64.toUInt64 &&& Int64.toUInt64 63)).toInt64 = tN b / 16 := tN_shr b _ 4 (by decide) (by omega)
    rw [tN_and, tN_add (by rw [e1]; omega), e1, m3, eb, s3]
  have hc2 : tN c ≤ 1085102592571150095 := by
    rw [ec, ← s3]
    have : ((num ((bs.map bp1).map bp2) + num ((bs.map bp1).map bp2) / 16) &&& msk 15 8) ≤ msk 15 8 := Nat.and_le_right
    omega
  have ed : tN d = tN c + tN c / 256 := by
    rw [hd]
    show tN (c + (c.toUInt64 >>> ((8 : Int32).toInt64.toUInt64 &&& Int64.toUInt64 63)).toInt64) = _
    have e1 : tN (c.toUInt64 >>> ((8 : Int32).toInt64.toUInt64 &&& Int64.toUInt64 63)).toInt64 = tN c / 256 := tN_shr c _ 8 (by decide) (by omega)
    rw [tN_add (by rw [e1]; omega), e1]
  have ee : tN e = tN d + tN d / 65536 := by
    rw [he]
    show tN (d + (d.toUInt64 >>> ((16 : Int32).toInt64.toUInt64 &&& Int64.toUInt64 63)).toInt64) = _
    have e1 : tN (d.toUInt64 >>> ((16 : Int32).toInt64.toUInt64 &&& Int64.toUInt64 63)).toInt64 = tN d / 65536 := tN_shr d _ 16 (by decide) (by omega)
    rw [tN_add (by rw [e1]; omega), e1]
  have eh : tN h = tN e + tN e / 4294967296 := by
    rw [hh]
    show tN (e + (e.toUInt64 >>> ((32 : Int32).toInt64.toUInt64 &&& Int64.toUInt64 63)).toInt64) = _
    have e1 : tN (e.toUInt64 >>> ((32 : Int32).toInt64.toUInt64 &&& Int64.toUInt64 63)).toInt64 = tN e / 4294967296 := tN_shr e _ 32 (by decide) (by omega)
    rw [tN_add (by rw [e1]; omega), e1]
  rw [and127]
  congr 1
  have p : ∀ x, pop8 (x % 256) ≤ 8 := fun x => (b3_ok (x % 256) (by omega)).2.2.2.2
  exact st4 (c := tN c) (p _) (p _) (p _) (p _) (p _) (p _) (p _) (p _) (by rw [ec, ← hbs]; rfl) ed ee eh
