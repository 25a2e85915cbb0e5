theorem mc_step {f : Int64} {n : Nat} (hn : n < 64) : mcF f (n + 1) = mcF f n + tN f / 2 ^ n % 2 := by
  rw [mcF, firmB_bit hn]
  have e : f.toBitVec.getLsbD n = decide (tN f / 2 ^ n % 2 = 1) := by
    show f.toBitVec.toNat.testBit n = _
    rw [Nat.testBit_eq_decide_div_mod_eq]
    rfl
  rw [e]
  by_cases q : tN f / 2 ^ n % 2 = 1
  · rw [if_pos (decide_eq_true q), q]
  · rw [if_neg (by rw [decide_eq_false q]; decide)]
    omega
theorem tN_36 {f : Int64} (h : in36 f) : tN f < 2 ^ 36 := by
  have e : tN f = tN f &&& 68719476735 := by
    have : tN (f &&& 68719476735) = tN f &&& 68719476735 := tN_and f _
    rw [h] at this; exact this
  rw [e]
  exact Nat.lt_of_le_of_lt Nat.and_le_right (by decide)
def pN (W : Nat) : Nat → Nat
  | 0 => 0
  | n + 1 => pN W n + W / 2 ^ n % 2
theorem mc_pN {f : Int64} : ∀ n, n ≤ 64 → mcF f n = pN (tN f) n
  | 0, _ => rfl
  | n + 1, h => by rw [mc_step (by omega), mc_pN n (by omega), pN]
theorem pN_add (W a : Nat) : ∀ n, pN W (a + n) = pN W a + pN (W / 2 ^ a) n
  | 0 => rfl
  | n + 1 => by
    show pN W (a + n) + W / 2 ^ (a + n) % 2 = pN W a + (pN (W / 2 ^ a) n + W / 2 ^ a / 2 ^ n % 2)
    rw [pN_add W a n, Nat.div_div_eq_div_mul, ← Nat.pow_add, Nat.add_assoc]
theorem pN_0 : ∀ n, pN 0 n = 0
  | 0 => rfl
  | n + 1 => by rw [pN, pN_0 n, Nat.zero_div]
theorem pN_8 (V : Nat) : pop8 (V % 256) = pN V 8 := by
  show pop8 (V % 256) = 0 + V / 1 % 2 + V / 2 % 2 + V / 4 % 2 + V / 8 % 2 + V / 16 % 2 + V / 32 % 2 + V / 64 % 2 + V / 128 % 2
  unfold pop8
  omega
theorem bc_mc {f : Int64} (h : in36 f) : bcF f = nI (mcF f 36) := by
  rw [bc_nat]
  have hl := tN_36 h
  congr 1
  rw [mc_pN 36 (by omega)]
  generalize tN f = W at *
  have e36 : pN W 40 = pN W 36 := by
    have e := pN_add W 36 4
    rw [Nat.div_eq_of_lt hl, pN_0] at e
    exact e
  have s1 : pN W 40 = pN W 8 + pN (W / 256) 32 := pN_add W 8 32
  have s2 : pN (W / 256) 32 = pN (W / 256) 8 + pN (W / 256 / 256) 24 := pN_add (W / 256) 8 24
  have s3 : pN (W / 65536) 24 = pN (W / 65536) 8 + pN (W / 65536 / 256) 16 := pN_add (W / 65536) 8 16
  have s4 : pN (W / 16777216) 16 = pN (W / 16777216) 8 + pN (W / 16777216 / 256) 8 := pN_add (W / 16777216) 8 8
  have d2 : W / 256 / 256 = W / 65536 := by rw [Nat.div_div_eq_div_mul]
  have d3 : W / 65536 / 256 = W / 16777216 := by rw [Nat.div_div_eq_div_mul]
  have d4 : W / 16777216 / 256 = W / 4294967296 := by rw [Nat.div_div_eq_div_mul]
  rw [d2] at s2
  rw [d3] at s3
  rw [d4] at s4
  have q1 : pop8 (W / 1099511627776 % 256) = 0 := by rw [show W / 1099511627776 = 0 from Nat.div_eq_of_lt (by omega)]; rfl
  have q2 : pop8 (W / 281474976710656 % 256) = 0 := by rw [show W / 281474976710656 = 0 from Nat.div_eq_of_lt (by omega)]; rfl
  have q3 : pop8 (W / 72057594037927936 % 256) = 0 := by rw [show W / 72057594037927936 = 0 from Nat.div_eq_of_lt (by omega)]; rfl
  rw [q1, q2, q3, pN_8, pN_8, pN_8, pN_8, pN_8, ← e36, s1, s2, s3, s4]
  clear s1 s2 s3 s4 d2 d3 d4 e36 q1 q2 q3 hl h
  omega
