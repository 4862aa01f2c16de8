/-! how many bits a number has -/
def zpb (x : Nat) : Nat → Nat
  | 0 => 0
  | n + 1 => zpb x n + x / 2 ^ n % 2
theorem zpb_zc (x n : Nat) : zc (fun i => x.testBit i = true) n = zpb x n := by
  induction n with
  | zero => rfl
  | succ n ih =>
    have h2 := Nat.mod_lt (x / 2 ^ n) (show 0 < 2 by decide)
    by_cases h : x.testBit n = true
    · rw [zc_t (P := fun i => x.testBit i = true) h, ih]
      have h1 := Nat.testBit_eq_decide_div_mod_eq (x := x) (i := n)
      rw [h] at h1
      have h3 : x / 2 ^ n % 2 = 1 := by simpa using h1.symm
      simp only [zpb]; omega
    · rw [zc_f (P := fun i => x.testBit i = true) h, ih]
      have h3 : x / 2 ^ n % 2 = 0 := q_tb.mpr (by cases z : x.testBit n with | true => exact absurd z h | false => rfl)
      simp only [zpb]; omega
theorem zpb_add (x a b : Nat) : zpb x (a + b) = zpb x a + zpb (x / 2 ^ a) b := by
  induction b with
  | zero => rfl
  | succ b ih =>
    show zpb x (a + b) + x / 2 ^ (a + b) % 2 = zpb x a + (zpb (x / 2 ^ a) b + x / 2 ^ a / 2 ^ b % 2)
    rw [ih, Nat.div_div_eq_div_mul, ← Nat.pow_add]; omega
theorem zpb_mod (x y n : Nat) : zpb (x + 2 ^ n * y) n = zpb x n := by
  have : ∀ k, k ≤ n → zpb (x + 2 ^ n * y) k = zpb x k := by
    intro k
    induction k with
    | zero => intro _; rfl
    | succ k ih =>
      intro hk
      simp only [zpb]
      rw [ih (by omega)]
      have e : 2 ^ n = 2 ^ k * (2 * 2 ^ (n - k - 1)) := by rw [← Nat.pow_succ', ← Nat.pow_add]; congr 1; omega
      rw [e, Nat.mul_assoc, Nat.add_mul_div_left _ _ (Nat.pow_pos (by decide)), Nat.mul_assoc, Nat.add_mul_mod_self_left]
  exact this n (Nat.le_refl n)
theorem zand8 {u v c d : Nat} (hu : u < 256) (hc : c < 256) : (u + 256 * v) &&& (c + 256 * d) = (u &&& c) + 256 * (v &&& d) := by
  have e : ∀ p q : Nat, p < 256 → p + 256 * q = 2 ^ 8 * q ||| p := fun p q hp => by rw [← Nat.two_pow_add_eq_or_of_lt (i := 8) (by omega)]; omega
  have h8 : (u &&& c) < 256 := Nat.lt_of_le_of_lt Nat.and_le_left hu
  rw [e u v hu, e c d hc, e _ _ h8]
  apply Nat.eq_of_testBit_eq
  intro i
  simp only [Nat.testBit_and, Nat.testBit_or, Nat.testBit_two_pow_mul]
  by_cases hi : 8 ≤ i
  · have t1 : u.testBit i = false := Nat.testBit_lt_two_pow (Nat.lt_of_lt_of_le hu (Nat.pow_le_pow_right (n := 2) (by decide) hi))
    have t2 : c.testBit i = false := Nat.testBit_lt_two_pow (Nat.lt_of_lt_of_le hc (Nat.pow_le_pow_right (n := 2) (by decide) hi))
    simp [hi, t1, t2]
  · simp [hi]
def zf1 (x : Nat) : Nat := x - (x / 2 &&& 85)
def zf2 (x : Nat) : Nat := (x &&& 51) + (x / 4 &&& 51)
def zf3 (x : Nat) : Nat := (x + x / 16) &&& 15
theorem zb_1 : ∀ x, x < 256 → ∀ t, t < 2 → ((x / 2 + 128 * t) &&& 85) = (x / 2 &&& 85) ∧ (x / 2 &&& 85) ≤ x ∧ zf1 x < 256 := by decide +kernel
theorem zb_2 : ∀ x, x < 256 → ∀ t, t < 4 → ((x / 4 + 64 * t) &&& 51) = (x / 4 &&& 51) := by decide +kernel
theorem zb_3 : ∀ x, x < 256 → zf2 (zf1 x) < 256 ∧ zf2 (zf1 x) / 16 ≤ 4 ∧ zf2 (zf1 x) % 16 ≤ 4 ∧ zf3 (zf2 (zf1 x)) = zpb x 8 ∧ zpb x 8 ≤ 8 ∧ zf3 (zf2 (zf1 x)) < 256 := by decide +kernel
theorem zb_4 : ∀ y, y < 256 → y / 16 ≤ 4 → y % 16 ≤ 4 → ∀ t, t < 5 → ((y + y / 16 + 16 * t) &&& 15) = zf3 y ∧ y + y / 16 + 16 * t < 256 := by decide +kernel
/-- a byte more in front: the first two steps -/
theorem zs_1 {x T r M : Nat} (hx : x < 256) (h : T / 2 &&& M ≤ T) (hr : T - (T / 2 &&& M) = r) : (x + 256 * T) / 2 &&& (85 + 256 * M) ≤ x + 256 * T ∧ x + 256 * T - ((x + 256 * T) / 2 &&& (85 + 256 * M)) = zf1 x + 256 * r := by
  have e : (x + 256 * T) / 2 = (x / 2 + 128 * (T % 2)) + 256 * (T / 2) := by omega
  have h1 := zb_1 x hx (T % 2) (Nat.mod_lt _ (by decide))
  have h0 := Nat.mod_lt T (show 0 < 2 by decide)
  rw [e, zand8 (by omega) (by decide), h1.1]
  unfold zf1
  omega
theorem zs_2 {y U r M : Nat} (hy : y < 256) (hr : (U &&& M) + (U / 4 &&& M) = r) : (y + 256 * U &&& (51 + 256 * M)) + ((y + 256 * U) / 4 &&& (51 + 256 * M)) = zf2 y + 256 * r := by
  have e : (y + 256 * U) / 4 = (y / 4 + 64 * (U % 4)) + 256 * (U / 4) := by omega
  have h0 := Nat.mod_lt U (show 0 < 4 by decide)
  rw [e, zand8 hy (by decide), zand8 (by omega) (by decide), zb_2 y hy (U % 4) (Nat.mod_lt _ (by decide))]
  unfold zf2
  omega
theorem zs_3 {y U r M : Nat} (hy : y < 256) (h1 : y / 16 ≤ 4) (h2 : y % 16 ≤ 4) (hU : U % 16 ≤ 4) (hr : (U + U / 16) &&& M = r) : (y + 256 * U + (y + 256 * U) / 16) &&& (15 + 256 * M) = zf3 y + 256 * r := by
  have e : y + 256 * U + (y + 256 * U) / 16 = (y + y / 16 + 16 * (U % 16)) + 256 * (U + U / 16) := by omega
  have h4 := zb_4 y hy h1 h2 (U % 16) (by omega)
  rw [e, zand8 h4.2 (by decide), h4.1]
  omega
theorem zpb_5 {x0 x1 x2 x3 x4 : Nat} (h0 : x0 < 256) (h1 : x1 < 256) (h2 : x2 < 256) (h3 : x3 < 256) (h4 : x4 < 256) : zpb (x0 + 256 * (x1 + 256 * (x2 + 256 * (x3 + 256 * x4)))) 40 = zpb x0 8 + (zpb x1 8 + (zpb x2 8 + (zpb x3 8 + zpb x4 8))) := by
  have st : ∀ (x T k : Nat), x < 256 → zpb (x + 256 * T) (8 + k) = zpb x 8 + zpb T k := by
    intro x T k hx
    rw [zpb_add, show (256 : Nat) = 2 ^ 8 from rfl, zpb_mod]
    congr 2
    omega
  rw [show (40 : Nat) = 8 + 32 from rfl, st _ _ _ h0, show (32 : Nat) = 8 + 24 from rfl, st _ _ _ h1, show (24 : Nat) = 8 + 16 from rfl, st _ _ _ h2, show (16 : Nat) = 8 + 8 from rfl, st _ _ _ h3]
/-- the whole of Long.bitCount on numbers -/
theorem zbc {S a b c : Nat} (hS : S < 2 ^ 40) (ha : S - (S / 2 &&& 6148914691236517205) = a) (hb : (a &&& 3689348814741910323) + (a / 4 &&& 3689348814741910323) = b) (hc : (b + b / 16) &&& 1085102592571150095 = c) :
    (S / 2 &&& 6148914691236517205) ≤ S ∧ a < 2 ^ 40 ∧ b < 2 ^ 40 ∧ c < 2 ^ 40 ∧ ((c + c / 256) + (c + c / 256) / 65536 + ((c + c / 256) + (c + c / 256) / 65536) / 4294967296) % 128 = zpb S 40 := by
  obtain ⟨x0, x1, x2, x3, x4, h0, h1, h2, h3, h4, rfl⟩ : ∃ x0 x1 x2 x3 x4 : Nat, x0 < 256 ∧ x1 < 256 ∧ x2 < 256 ∧ x3 < 256 ∧ x4 < 256 ∧ S = x0 + 256 * (x1 + 256 * (x2 + 256 * (x3 + 256 * x4))) :=
    ⟨S % 256, S / 256 % 256, S / 65536 % 256, S / 16777216 % 256, S / 4294967296, by omega, by omega, by omega, by omega, by omega, by omega⟩
  have g0 := zb_3 x0 h0
  have g1 := zb_3 x1 h1
  have g2 := zb_3 x2 h2
  have g3 := zb_3 x3 h3
  have g4 := zb_3 x4 h4
  have k0 := (zb_1 x0 h0 0 (by decide)).2.2
  have k1 := (zb_1 x1 h1 0 (by decide)).2.2
  have k2 := (zb_1 x2 h2 0 (by decide)).2.2
  have k3 := (zb_1 x3 h3 0 (by decide)).2.2
  have k4 := (zb_1 x4 h4 0 (by decide)).2.2
  have m1 : (6148914691236517205 : Nat) = 85 + 256 * (85 + 256 * (85 + 256 * (85 + 256 * (85 + 256 * 5592405)))) := by decide
  have m2 : (3689348814741910323 : Nat) = 51 + 256 * (51 + 256 * (51 + 256 * (51 + 256 * (51 + 256 * 3355443)))) := by decide
  have m3 : (1085102592571150095 : Nat) = 15 + 256 * (15 + 256 * (15 + 256 * (15 + 256 * (15 + 256 * 986895)))) := by decide
  have a5 : (0 : Nat) / 2 &&& 5592405 ≤ 0 ∧ (0 : Nat) - ((0 : Nat) / 2 &&& 5592405) = 0 := by decide
  have a4 := zs_1 h4 a5.1 a5.2
  have a3 := zs_1 h3 a4.1 a4.2
  have a2 := zs_1 h2 a3.1 a3.2
  have a1 := zs_1 h1 a2.1 a2.2
  have a0 := zs_1 h0 a1.1 a1.2
  simp only [Nat.mul_zero, Nat.add_zero] at a0 a1 a2 a3 a4
  rw [← m1] at a0
  rw [a0.2] at ha
  subst ha
  have b5 : ((0 : Nat) &&& 3355443) + ((0 : Nat) / 4 &&& 3355443) = 0 := by decide
  have b4 := zs_2 k4 b5
  have b3 := zs_2 k3 b4
  have b2 := zs_2 k2 b3
  have b1 := zs_2 k1 b2
  have b0 := zs_2 k0 b1
  simp only [Nat.mul_zero, Nat.add_zero] at b0 b1 b2 b3 b4
  rw [← m2] at b0
  rw [b0] at hb
  subst hb
  have c5 : ((0 : Nat) + 0 / 16) &&& 986895 = 0 := by decide
  have c4 := zs_3 g4.1 g4.2.1 g4.2.2.1 (by decide) c5
  have c3 := zs_3 g3.1 g3.2.1 g3.2.2.1 (by omega) c4
  have c2 := zs_3 g2.1 g2.2.1 g2.2.2.1 (by omega) c3
  have c1 := zs_3 g1.1 g1.2.1 g1.2.2.1 (by omega) c2
  have c0 := zs_3 g0.1 g0.2.1 g0.2.2.1 (by omega) c1
  simp only [Nat.mul_zero, Nat.add_zero] at c0 c1 c2 c3 c4
  rw [← m3] at c0
  rw [c0] at hc
  subst hc
  rw [zpb_5 h0 h1 h2 h3 h4]
  obtain ⟨-, -, -, e0, f0, -⟩ := g0
  obtain ⟨-, -, -, e1, f1, -⟩ := g1
  obtain ⟨-, -, -, e2, f2, -⟩ := g2
  obtain ⟨-, -, -, e3, f3, -⟩ := g3
  obtain ⟨-, -, -, e4, f4, -⟩ := g4
  rw [e0, e1, e2, e3, e4]
  generalize zpb x0 8 = p0 at *
  generalize zpb x1 8 = p1 at *
  generalize zpb x2 8 = p2 at *
  generalize zpb x3 8 = p3 at *
  generalize zpb x4 8 = p4 at *
  refine ⟨a0.1, ?_, ?_, ?_, ?_⟩
  · omega
  · have := zb_3 x0 h0; have := zb_3 x1 h1; have := zb_3 x2 h2; have := zb_3 x3 h3; have := zb_3 x4 h4
    omega
  · omega
  · have q1 : (p0 + 256 * (p1 + 256 * (p2 + 256 * (p3 + 256 * p4)))) / 256 = p1 + 256 * (p2 + 256 * (p3 + 256 * p4)) := by omega
    rw [q1]
    have q2 : p0 + 256 * (p1 + 256 * (p2 + 256 * (p3 + 256 * p4))) + (p1 + 256 * (p2 + 256 * (p3 + 256 * p4))) = (p0 + p1) + 256 * ((p1 + p2) + 256 * ((p2 + p3) + 256 * ((p3 + p4) + 256 * p4))) := by omega
    rw [q2]
    have q3 : ((p0 + p1) + 256 * ((p1 + p2) + 256 * ((p2 + p3) + 256 * ((p3 + p4) + 256 * p4)))) / 65536 = (p2 + p3) + 256 * ((p3 + p4) + 256 * p4) := by omega
    rw [q3]
    have q4 : (p0 + p1) + 256 * ((p1 + p2) + 256 * ((p2 + p3) + 256 * ((p3 + p4) + 256 * p4))) + ((p2 + p3) + 256 * ((p3 + p4) + 256 * p4)) = (p0 + p1 + p2 + p3) + 256 * ((p1 + p2 + p3 + p4) + 256 * ((p2 + p3 + p4) + 256 * ((p3 + p4) + 256 * p4))) := by omega
    rw [q4]
    have q5 : ((p0 + p1 + p2 + p3) + 256 * ((p1 + p2 + p3 + p4) + 256 * ((p2 + p3 + p4) + 256 * ((p3 + p4) + 256 * p4)))) / 4294967296 = p4 := by omega
    rw [q5]
    have q6 : (p0 + p1 + p2 + p3) + 256 * ((p1 + p2 + p3 + p4) + 256 * ((p2 + p3 + p4) + 256 * ((p3 + p4) + 256 * p4))) + p4 = (p0 + p1 + p2 + p3 + p4) + 128 * (2 * ((p1 + p2 + p3 + p4) + 256 * ((p2 + p3 + p4) + 256 * ((p3 + p4) + 256 * p4)))) := by omega
    rw [q6, Nat.add_mul_mod_self_left, Nat.mod_eq_of_lt (by omega)]
    omega
