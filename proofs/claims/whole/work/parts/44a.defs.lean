/-! how many bits -/
def pop8 (b : Nat) : Nat := b % 2 + b / 2 % 2 + b / 4 % 2 + b / 8 % 2 + b / 16 % 2 + b / 32 % 2 + b / 64 % 2 + b / 128 % 2
def num : List Nat → Nat
  | [] => 0
  | b :: bs => b + 256 * num bs
def msk (k : Nat) : Nat → Nat
  | 0 => 0
  | n + 1 => k + 256 * msk k n
theorem and_split {a c x y : Nat} (ha : a < 256) (hc : c < 256) : (a + 256 * x) &&& (c + 256 * y) = (a &&& c) + 256 * (x &&& y) := by
  have hac : (a &&& c) < 256 := Nat.and_lt_two_pow a (n := 8) hc
  apply Nat.eq_of_testBit_eq
  intro i
  rw [Nat.testBit_and, show a + 256 * x = 2 ^ 8 * x + a by omega, show c + 256 * y = 2 ^ 8 * y + c by omega, show (a &&& c) + 256 * (x &&& y) = 2 ^ 8 * (x &&& y) + (a &&& c) by omega, Nat.testBit_two_pow_mul_add _ (by omega), Nat.testBit_two_pow_mul_add _ (by omega), Nat.testBit_two_pow_mul_add _ (by omega)]
  by_cases q : i < 8
  · simp only [if_pos q]; rw [Nat.testBit_and]
  · simp only [if_neg q]; rw [Nat.testBit_and]
def bp1 (b : Nat) : Nat := b - (b / 2 &&& 85)
def bp2 (b : Nat) : Nat := (b &&& 51) + (b / 4 &&& 51)
theorem b1_ok : ∀ b, b < 256 → ∀ c, c < 2 → (b / 2 + 128 * c) &&& 85 = b / 2 &&& 85 := by decide +kernel
theorem b2_ok : ∀ b, b < 256 → ∀ c, c < 4 → (b / 4 + 64 * c) &&& 51 = b / 4 &&& 51 := by decide +kernel
theorem b3_ok : ∀ b, b < 256 → bp1 b < 256 ∧ (b / 2 &&& 85) ≤ b ∧ bp2 (bp1 b) < 256 ∧ bp2 (bp1 b) % 16 ≤ 4 ∧ pop8 b ≤ 8 := by decide +kernel
theorem b4_ok : ∀ b, b < 256 → ∀ c, c < 5 → bp2 (bp1 b) + bp2 (bp1 b) / 16 + 16 * c < 256 ∧ (bp2 (bp1 b) + bp2 (bp1 b) / 16 + 16 * c) &&& 15 = pop8 b := by decide +kernel
def all256 (bs : List Nat) : Prop := ∀ b ∈ bs, b < 256
theorem st1 : ∀ (bs : List Nat), all256 bs → num bs - (num bs / 2 &&& msk 85 bs.length) = num (bs.map bp1) ∧ (num bs / 2 &&& msk 85 bs.length) ≤ num bs
  | [], _ => ⟨rfl, by simp [num, msk]⟩
  | b :: bs, h => by
    have hb : b < 256 := h b List.mem_cons_self
    obtain ⟨e1, e2⟩ := st1 bs (fun q hq => h q (List.mem_cons_of_mem _ hq))
    obtain ⟨p1, p2, -⟩ := b3_ok b hb
    have e3 : (b + 256 * num bs) / 2 = (b / 2 + 128 * (num bs % 2)) + 256 * (num bs / 2) := by omega
    have hlt : b / 2 + 128 * (num bs % 2) < 256 := by omega
    simp only [num, List.map_cons, List.length_cons, msk]
    rw [e3, and_split hlt (by omega), b1_ok b hb _ (by omega)]
    have eb : bp1 b = b - (b / 2 &&& 85) := rfl
    rw [eb, ← e1]
    constructor
    · omega
    · omega
theorem st2 : ∀ (bs : List Nat), all256 bs → (num bs &&& msk 51 bs.length) + (num bs / 4 &&& msk 51 bs.length) = num (bs.map bp2)
  | [], _ => by simp [num, msk]
  | b :: bs, h => by
    have hb : b < 256 := h b List.mem_cons_self
    have e1 := st2 bs (fun q hq => h q (List.mem_cons_of_mem _ hq))
    have e3 : (b + 256 * num bs) / 4 = (b / 4 + 64 * (num bs % 4)) + 256 * (num bs / 4) := by omega
    have hlt : b / 4 + 64 * (num bs % 4) < 256 := by omega
    simp only [num, List.map_cons, List.length_cons, msk]
    rw [e3, and_split hlt (by omega), and_split hb (by omega), b2_ok b hb _ (by omega), ← e1]
    unfold bp2
    omega
theorem st3 : ∀ (bs : List Nat), all256 bs → (num ((bs.map bp1).map bp2) + num ((bs.map bp1).map bp2) / 16) &&& msk 15 bs.length = num (bs.map pop8) ∧ num ((bs.map bp1).map bp2) % 16 ≤ 4
  | [], _ => by simp [num, msk]
  | b :: bs, h => by
    have hb : b < 256 := h b List.mem_cons_self
    obtain ⟨e1, e2⟩ := st3 bs (fun q hq => h q (List.mem_cons_of_mem _ hq))
    obtain ⟨-, -, p3, p4, -⟩ := b3_ok b hb
    obtain ⟨q1, q2⟩ := b4_ok b hb (num ((bs.map bp1).map bp2) % 16) (by omega)
    simp only [num, List.map_cons, List.length_cons, msk]
    generalize num ((bs.map bp1).map bp2) = y at *
    generalize bp2 (bp1 b) = x at *
    have e3 : x + 256 * y + (x + 256 * y) / 16 = (x + x / 16 + 16 * (y % 16)) + 256 * (y + y / 16) := by omega
    rw [e3, and_split q1 (by omega), q2, e1]
    exact ⟨rfl, by omega⟩
theorem dv {p B X : Nat} (h : p < B) : (p + B * X) / B = X := by
  rw [Nat.add_mul_div_left _ _ (by omega), Nat.div_eq_of_lt h, Nat.zero_add]
theorem dv' {n p B X : Nat} (h : n = p + B * X) (hp : p < B) : n / B = X := by rw [h]; exact dv hp
theorem ln0 (p0 p1 p2 p3 X : Nat) : p0 + 256 * (p1 + 256 * (p2 + 256 * (p3 + 256 * X))) + (p1 + 256 * (p2 + 256 * (p3 + 256 * X))) = (p0 + p1) + 256 * ((p1 + p2) + 256 * ((p2 + p3) + 256 * (p3 + X + 256 * X))) := by omega
theorem ln1 (a b Y : Nat) : a + 256 * (b + 256 * Y) = (a + 256 * b) + 65536 * Y := by omega
theorem ln2 (p0 p1 p2 p3 X : Nat) : (p0 + p1) + 256 * ((p1 + p2) + 256 * ((p2 + p3) + 256 * (p3 + X + 256 * X))) + ((p2 + p3) + 256 * (p3 + X + 256 * X)) = (p0 + p1 + p2 + p3) + 256 * (p1 + p2 + p3 + X) + 65536 * (p2 + p3 + X) + 16777216 * (p3 + X) + 4294967296 * X := by omega
theorem ln3 (q p1 p2 p3 p4 p5 p6 p7 : Nat) : q + 256 * (p1 + p2 + p3 + (p4 + 256 * (p5 + 256 * (p6 + 256 * p7)))) + 65536 * (p2 + p3 + (p4 + 256 * (p5 + 256 * (p6 + 256 * p7)))) + 16777216 * (p3 + (p4 + 256 * (p5 + 256 * (p6 + 256 * p7)))) + 4294967296 * (p4 + 256 * (p5 + 256 * (p6 + 256 * p7))) = (q + 256 * (p1 + p2 + p3 + p4) + 65536 * (p2 + p3 + p4 + p5) + 16777216 * (p3 + p4 + p5 + p6)) + 4294967296 * ((p4 + p5 + p6 + p7) + 256 * (p5 + p6 + p7 + 256 * (p6 + p7 + 256 * p7))) := by omega
theorem ln4 (q r s w Y p4 T : Nat) : q + 256 * r + 65536 * s + 16777216 * w + 4294967296 * Y + (p4 + 256 * T) = (q + p4) + 128 * (2 * r + 512 * s + 131072 * w + 33554432 * Y + 2 * T) := by omega
theorem st4 {c p0 p1 p2 p3 p4 p5 p6 p7 : Nat} (h0 : p0 ≤ 8) (h1 : p1 ≤ 8) (h2 : p2 ≤ 8) (h3 : p3 ≤ 8) (h4 : p4 ≤ 8) (h5 : p5 ≤ 8) (h6 : p6 ≤ 8) (h7 : p7 ≤ 8) (hc : c = num [p0, p1, p2, p3, p4, p5, p6, p7]) {t u v : Nat} (ht : t = c + c / 256) (hu : u = t + t / 65536) (hv : v = u + u / 4294967296) : v % 128 = p0 + p1 + p2 + p3 + p4 + p5 + p6 + p7 := by
  simp only [num, Nat.mul_zero, Nat.add_zero] at hc
  have fin : ∀ A : Nat, ((p0 + p1 + p2 + p3) + (p4 + p5 + p6 + p7) + 128 * A) % 128 = p0 + p1 + p2 + p3 + p4 + p5 + p6 + p7 := by
    clear hc ht hu hv
    intro A
    omega
  have e1 := dv' hc (by clear hc ht hu hv; omega)
  rw [e1, hc, ln0] at ht
  have e2 := dv' (ht.trans (ln1 _ _ _)) (by clear e1 hc ht hu hv; omega)
  rw [e2, ht, ln2, ln3] at hu
  have e3 := dv' hu (by clear e1 e2 hc ht hu hv; omega)
  rw [e3, hu, ln4] at hv
  rw [hv]
  exact fin _
