def zpq (p : Nat → Bool) : Nat → Nat
  | 0 => 0
  | n + 1 => zpq p n + (if p n then 1 else 0)
theorem zpq_a {p : Nat → Bool} {a : Nat} : ∀ b : Nat, zpq p (a + b) = zpq p a + zpq (fun j => p (a + j)) b := by
  intro b
  induction b with
  | zero => rfl
  | succ b ih =>
    show zpq p (a + b) + (if p (a + b) then 1 else 0) = zpq p a + (zpq (fun j => p (a + j)) b + (if p (a + b) then 1 else 0))
    rw [ih, Nat.add_assoc]
theorem zpq_c {p q : Nat → Bool} : ∀ n : Nat, (∀ j : Nat, j < n → p j = q j) → zpq p n = zpq q n := by
  intro n
  induction n with
  | zero => intro _; rfl
  | succ n ih =>
    intro h
    show zpq p n + (if p n then 1 else 0) = zpq q n + (if q n then 1 else 0)
    rw [ih (fun j hj => h j (by omega)), h n (by omega)]
theorem zpq_le {p : Nat → Bool} : ∀ n : Nat, zpq p n ≤ n := by
  intro n
  induction n with
  | zero => exact Nat.le_refl _
  | succ n ih =>
    show zpq p n + (if p n then 1 else 0) ≤ n + 1
    split <;> omega
theorem zand_sp {k a b c d : Nat} (ha : a < 2 ^ k) (hc : c < 2 ^ k) : (a + 2 ^ k * b) &&& (c + 2 ^ k * d) = (a &&& c) + 2 ^ k * (b &&& d) := by
  have h1 : (a + 2 ^ k * b) % 2 ^ k = a := by rw [Nat.add_mul_mod_self_left, Nat.mod_eq_of_lt ha]
  have h2 : (c + 2 ^ k * d) % 2 ^ k = c := by rw [Nat.add_mul_mod_self_left, Nat.mod_eq_of_lt hc]
  have h3 : (a + 2 ^ k * b) / 2 ^ k = b := by rw [Nat.add_mul_div_left _ _ (Nat.two_pow_pos k), Nat.div_eq_of_lt ha, Nat.zero_add]
  have h4 : (c + 2 ^ k * d) / 2 ^ k = d := by rw [Nat.add_mul_div_left _ _ (Nat.two_pow_pos k), Nat.div_eq_of_lt hc, Nat.zero_add]
  have h5 := Nat.mod_add_div ((a + 2 ^ k * b) &&& (c + 2 ^ k * d)) (2 ^ k)
  rw [Nat.and_mod_two_pow, Nat.and_div_two_pow, h1, h2, h3, h4] at h5
  exact h5.symm
theorem zand_s8 {a b c d : Nat} (ha : a < 256) (hc : c < 256) : (a + 256 * b) &&& (c + 256 * d) = (a &&& c) + 256 * (b &&& d) := zand_sp (k := 8) ha hc
theorem zand_4 {m a0 a1 a2 a3 x k : Nat} (h0 : a0 < 256) (h1 : a1 < 256) (h2 : a2 < 256) (hm : m < 256) (ex : x = a0 + 256 * (a1 + 256 * (a2 + 256 * a3))) (ek : k = m + 256 * (m + 256 * (m + 256 * m))) : x &&& k = (a0 &&& m) + 256 * ((a1 &&& m) + 256 * ((a2 &&& m) + 256 * (a3 &&& m))) := by
  rw [ex, ek, zand_s8 h0 hm, zand_s8 h1 hm, zand_s8 h2 hm]
theorem zand_7 {b c : Nat} (hb : b < 256) : (b / 2 + 128 * c) &&& 85 = b / 2 &&& 85 := by
  have h := zand_sp (k := 7) (a := b / 2) (b := c) (c := 85) (d := 0) (show b / 2 < 128 by omega) (by decide)
  rw [Nat.mul_zero, Nat.and_zero, Nat.mul_zero, Nat.add_zero, Nat.add_zero] at h
  exact h
theorem zand_6 {b c : Nat} (hb : b < 256) : (b / 4 + 64 * c) &&& 51 = b / 4 &&& 51 := by
  have h := zand_sp (k := 6) (a := b / 4) (b := c) (c := 51) (d := 0) (show b / 4 < 64 by omega) (by decide)
  rw [Nat.mul_zero, Nat.and_zero, Nat.mul_zero, Nat.add_zero, Nat.add_zero] at h
  exact h
def zbyt (b : Nat) : Nat := ((b - (b / 2 &&& 85)) &&& 51) + ((b - (b / 2 &&& 85)) / 4 &&& 51)
theorem zbyt_k : ∀ b : Nat, b < 256 → zbyt b ≤ 68 ∧ zbyt b % 16 ≤ 4 ∧ (zbyt b + zbyt b / 16) % 16 = zpq (fun j => b.testBit j) 8 := by decide +kernel
theorem zbA {N n3 n7 b0 b1 b2 b3 : Nat} (l0 : b0 < 256) (l1 : b1 < 256) (l2 : b2 < 256) (l3 : b3 < 256) (ex : N = b0 + 256 * (b1 + 256 * (b2 + 256 * b3))) (e3 : n3 = N / 2) (e7 : n7 = n3 &&& 1431655765) : n7 = (b0 / 2 &&& 85) + 256 * ((b1 / 2 &&& 85) + 256 * ((b2 / 2 &&& 85) + 256 * (b3 / 2 &&& 85))) := by
  have e : n3 = (b0 / 2 + 128 * (b1 % 2)) + 256 * ((b1 / 2 + 128 * (b2 % 2)) + 256 * ((b2 / 2 + 128 * (b3 % 2)) + 256 * (b3 / 2))) := by omega
  have q := zand_4 (m := 85) (k := 1431655765) (by omega) (by omega) (by omega) (by decide) e (by decide)
  rw [← e7, zand_7 l0, zand_7 l1, zand_7 l2] at q
  exact q
theorem zbB {n8 n17 n21 b0 b1 b2 b3 : Nat} (l0 : b0 < 256) (l1 : b1 < 256) (l2 : b2 < 256) (l3 : b3 < 256) (ex : n8 = b0 + 256 * (b1 + 256 * (b2 + 256 * b3))) (e17 : n17 = n8 / 4) (e21 : n21 = n17 &&& 858993459) : n21 = (b0 / 4 &&& 51) + 256 * ((b1 / 4 &&& 51) + 256 * ((b2 / 4 &&& 51) + 256 * (b3 / 4 &&& 51))) := by
  have e : n17 = (b0 / 4 + 64 * (b1 % 4)) + 256 * ((b1 / 4 + 64 * (b2 % 4)) + 256 * ((b2 / 4 + 64 * (b3 % 4)) + 256 * (b3 / 4))) := by omega
  have q := zand_4 (m := 51) (k := 858993459) (by omega) (by omega) (by omega) (by decide) e (by decide)
  rw [← e21, zand_6 l0, zand_6 l1, zand_6 l2] at q
  exact q
theorem zbC {n22 n28 n32 v0 v1 v2 v3 : Nat} (l0 : v0 ≤ 68) (l1 : v1 ≤ 68) (l2 : v2 ≤ 68) (l3 : v3 ≤ 68) (k1 : v1 % 16 ≤ 4) (k2 : v2 % 16 ≤ 4) (k3 : v3 % 16 ≤ 4) (ex : n22 = v0 + 256 * (v1 + 256 * (v2 + 256 * v3))) (e28 : n28 = n22 + n22 / 16) (e32 : n32 = n28 &&& 252645135) : n32 = (v0 + v0 / 16) % 16 + 256 * ((v1 + v1 / 16) % 16 + 256 * ((v2 + v2 / 16) % 16 + 256 * ((v3 + v3 / 16) % 16))) := by
  have e : n28 = (v0 + v0 / 16 + 16 * (v1 % 16)) + 256 * ((v1 + v1 / 16 + 16 * (v2 % 16)) + 256 * ((v2 + v2 / 16 + 16 * (v3 % 16)) + 256 * (v3 + v3 / 16))) := by omega
  have q := zand_4 (m := 15) (k := 252645135) (by omega) (by omega) (by omega) (by decide) e (by decide)
  have f15 : ∀ x : Nat, x &&& 15 = x % 16 := fun x => Nat.and_two_pow_sub_one_eq_mod x 4
  rw [← e32, f15, f15, f15, f15] at q
  have g : ∀ a b : Nat, (a + 16 * b) % 16 = a % 16 := fun a b => Nat.add_mul_mod_self_left a 16 b
  rw [g, g, g] at q
  exact q
theorem zbD {n32 n39 n46 n51 w0 w1 w2 w3 : Nat} (l0 : w0 ≤ 8) (l1 : w1 ≤ 8) (l2 : w2 ≤ 8) (l3 : w3 ≤ 8) (ex : n32 = w0 + 256 * (w1 + 256 * (w2 + 256 * w3))) (e39 : n39 = n32 + n32 / 256) (e46 : n46 = n39 + n39 / 65536) (e51 : n51 = n46 &&& 63) : n51 = w0 + w1 + w2 + w3 := by
  have f63 : n46 &&& 63 = n46 % 64 := Nat.and_two_pow_sub_one_eq_mod n46 6
  rw [f63] at e51
  have a1 : n32 / 256 = w1 + 256 * (w2 + 256 * w3) := by omega
  have a2 : n39 = (w0 + w1) + 256 * ((w1 + w2) + 256 * ((w2 + w3) + 256 * w3)) := by omega
  have a3 : n39 / 65536 = (w2 + w3) + 256 * w3 := by omega
  omega
theorem zbE {N b0 b1 b2 b3 : Nat} (h0 : b0 = N % 256) (h1 : b1 = N / 256 % 256) (h2 : b2 = N / 65536 % 256) (h3 : b3 = N / 16777216) : zpq (fun j => N.testBit j) 32 = zpq (fun j => b0.testBit j) 8 + zpq (fun j => b1.testBit j) 8 + zpq (fun j => b2.testBit j) 8 + zpq (fun j => b3.testBit j) 8 := by
  have s1 := zpq_a (p := fun j => N.testBit j) (a := 8) 24
  have s2 := zpq_a (p := fun j => N.testBit (8 + j)) (a := 8) 16
  have s3 := zpq_a (p := fun j => N.testBit (8 + (8 + j))) (a := 8) 8
  have t0 : zpq (fun j => N.testBit j) 8 = zpq (fun j => b0.testBit j) 8 := by
    refine zpq_c 8 (fun j hj => ?_)
    show N.testBit j = b0.testBit j
    rw [h0, show (256 : Nat) = 2 ^ 8 from rfl, Nat.testBit_mod_two_pow, decide_eq_true hj, Bool.true_and]
  have t1 : zpq (fun j => N.testBit (8 + j)) 8 = zpq (fun j => b1.testBit j) 8 := by
    refine zpq_c 8 (fun j hj => ?_)
    show N.testBit (8 + j) = b1.testBit j
    rw [h1, show (256 : Nat) = 2 ^ 8 from rfl, Nat.testBit_mod_two_pow, decide_eq_true hj, Bool.true_and, Nat.testBit_div_two_pow, Nat.add_comm]
  have t2 : zpq (fun j => N.testBit (8 + (8 + j))) 8 = zpq (fun j => b2.testBit j) 8 := by
    refine zpq_c 8 (fun j hj => ?_)
    show N.testBit (8 + (8 + j)) = b2.testBit j
    rw [h2, show (256 : Nat) = 2 ^ 8 from rfl, show (65536 : Nat) = 2 ^ 16 from rfl, Nat.testBit_mod_two_pow, decide_eq_true hj, Bool.true_and, Nat.testBit_div_two_pow, show 8 + (8 + j) = j + 16 from by omega]
  have t3 : zpq (fun j => N.testBit (8 + (8 + (8 + j)))) 8 = zpq (fun j => b3.testBit j) 8 := by
    refine zpq_c 8 (fun j hj => ?_)
    show N.testBit (8 + (8 + (8 + j))) = b3.testBit j
    rw [h3, show (16777216 : Nat) = 2 ^ 24 from rfl, Nat.testBit_div_two_pow, show 8 + (8 + (8 + j)) = j + 24 from by omega]
  show zpq (fun j => N.testBit j) (8 + 24) = _
  rw [s1, t0]
  show zpq (fun j => b0.testBit j) 8 + zpq (fun j => N.testBit (8 + j)) (8 + 16) = _
  rw [s2, t1]
  show zpq (fun j => b0.testBit j) 8 + (zpq (fun j => b1.testBit j) 8 + zpq (fun j => N.testBit (8 + (8 + j))) (8 + 8)) = _
  rw [s3, t2, t3]
  omega
theorem zbF {N n7 b0 b1 b2 b3 c0 c1 c2 c3 : Nat} (ex : N = b0 + 256 * (b1 + 256 * (b2 + 256 * b3))) (e7 : n7 = c0 + 256 * (c1 + 256 * (c2 + 256 * c3))) (u0 : c0 ≤ b0) (u1 : c1 ≤ b1) (u2 : c2 ≤ b2) (u3 : c3 ≤ b3) : n7 ≤ N ∧ N - n7 = (b0 - c0) + 256 * ((b1 - c1) + 256 * ((b2 - c2) + 256 * (b3 - c3))) := by
  omega
theorem zbnN {N n3 n7 n8 n14 n17 n21 n22 n27 n28 n32 n38 n39 n45 n46 n51 : Nat} (hN : N < 4294967296) (e3 : n3 = N / 2) (e7 : n7 = n3 &&& 1431655765) (e8 : zW (n7 ≤ N → n8 = N - n7)) (e14 : n14 = n8 &&& 858993459) (e17 : n17 = n8 / 4) (e21 : n21 = n17 &&& 858993459) (e22 : zW (n14 + n21 < 4294967296 → n22 = n14 + n21)) (e27 : n27 = n22 / 16) (e28 : zW (n22 + n27 < 4294967296 → n28 = n22 + n27)) (e32 : n32 = n28 &&& 252645135) (e38 : n38 = n32 / 256) (e39 : zW (n32 + n38 < 4294967296 → n39 = n32 + n38)) (e45 : n45 = n39 / 65536) (e46 : zW (n39 + n45 < 4294967296 → n46 = n39 + n45)) (e51 : n51 = n46 &&& 63) : n51 = zpq (fun j => N.testBit j) 32 := by
  obtain ⟨b0, h0⟩ : ∃ b, b = N % 256 := ⟨_, rfl⟩
  obtain ⟨b1, h1⟩ : ∃ b, b = N / 256 % 256 := ⟨_, rfl⟩
  obtain ⟨b2, h2⟩ : ∃ b, b = N / 65536 % 256 := ⟨_, rfl⟩
  obtain ⟨b3, h3⟩ : ∃ b, b = N / 16777216 := ⟨_, rfl⟩
  have l0 : b0 < 256 := by omega
  have l1 : b1 < 256 := by omega
  have l2 : b2 < 256 := by omega
  have l3 : b3 < 256 := by omega
  have ex : N = b0 + 256 * (b1 + 256 * (b2 + 256 * b3)) := by omega
  rw [zbE h0 h1 h2 h3]
  have q7 := zbA l0 l1 l2 l3 ex e3 e7
  clear h0 h1 h2 h3 e3 e7 hN
  have u0 : b0 / 2 &&& 85 ≤ b0 := Nat.le_trans Nat.and_le_left (Nat.div_le_self _ _)
  have u1 : b1 / 2 &&& 85 ≤ b1 := Nat.le_trans Nat.and_le_left (Nat.div_le_self _ _)
  have u2 : b2 / 2 &&& 85 ≤ b2 := Nat.le_trans Nat.and_le_left (Nat.div_le_self _ _)
  have u3 : b3 / 2 &&& 85 ≤ b3 := Nat.le_trans Nat.and_le_left (Nat.div_le_self _ _)
  obtain ⟨f1, f2⟩ := zbF ex q7 u0 u1 u2 u3
  have e8' : n8 = N - n7 := e8 f1
  rw [f2] at e8'
  clear f1 f2 q7 ex e8
  have z0 := zbyt_k b0 l0
  have z1 := zbyt_k b1 l1
  have z2 := zbyt_k b2 l2
  have z3 := zbyt_k b3 l3
  have p0 := zpq_le (p := fun j => b0.testBit j) 8
  have p1 := zpq_le (p := fun j => b1.testBit j) 8
  have p2 := zpq_le (p := fun j => b2.testBit j) 8
  have p3 := zpq_le (p := fun j => b3.testBit j) 8
  generalize zpq (fun j => b0.testBit j) 8 = w0 at z0 p0 ⊢
  generalize zpq (fun j => b1.testBit j) 8 = w1 at z1 p1 ⊢
  generalize zpq (fun j => b2.testBit j) 8 = w2 at z2 p2 ⊢
  generalize zpq (fun j => b3.testBit j) 8 = w3 at z3 p3 ⊢
  have d0 : zbyt b0 = ((b0 - (b0 / 2 &&& 85)) &&& 51) + ((b0 - (b0 / 2 &&& 85)) / 4 &&& 51) := rfl
  have d1 : zbyt b1 = ((b1 - (b1 / 2 &&& 85)) &&& 51) + ((b1 - (b1 / 2 &&& 85)) / 4 &&& 51) := rfl
  have d2 : zbyt b2 = ((b2 - (b2 / 2 &&& 85)) &&& 51) + ((b2 - (b2 / 2 &&& 85)) / 4 &&& 51) := rfl
  have d3 : zbyt b3 = ((b3 - (b3 / 2 &&& 85)) &&& 51) + ((b3 - (b3 / 2 &&& 85)) / 4 &&& 51) := rfl
  have m0 : b0 - (b0 / 2 &&& 85) < 256 := Nat.lt_of_le_of_lt (Nat.sub_le _ _) l0
  have m1 : b1 - (b1 / 2 &&& 85) < 256 := Nat.lt_of_le_of_lt (Nat.sub_le _ _) l1
  have m2 : b2 - (b2 / 2 &&& 85) < 256 := Nat.lt_of_le_of_lt (Nat.sub_le _ _) l2
  have m3 : b3 - (b3 / 2 &&& 85) < 256 := Nat.lt_of_le_of_lt (Nat.sub_le _ _) l3
  generalize b0 - (b0 / 2 &&& 85) = y0 at d0 m0 e8'
  generalize b1 - (b1 / 2 &&& 85) = y1 at d1 m1 e8'
  generalize b2 - (b2 / 2 &&& 85) = y2 at d2 m2 e8'
  generalize b3 - (b3 / 2 &&& 85) = y3 at d3 m3 e8'
  have q14 := zand_4 (m := 51) (k := 858993459) m0 m1 m2 (by decide) e8' (by decide)
  have q21 := zbB m0 m1 m2 m3 e8' e17 e21
  rw [← e14] at q14
  generalize zbyt b0 = v0 at z0 d0
  generalize zbyt b1 = v1 at z1 d1
  generalize zbyt b2 = v2 at z2 d2
  generalize zbyt b3 = v3 at z3 d3
  have ev : n14 + n21 = v0 + 256 * (v1 + 256 * (v2 + 256 * v3)) := by
    rw [d0, d1, d2, d3, q14, q21]
    clear q14 q21 d0 d1 d2 d3 e8' m0 m1 m2 m3 u0 u1 u2 u3 l0 l1 l2 l3 z0 z1 z2 z3 p0 p1 p2 p3
    omega
  clear q14 q21 d0 d1 d2 d3 e8' m0 m1 m2 m3 u0 u1 u2 u3 l0 l1 l2 l3 e14 e17 e21
  have z00 := z0.1
  have z10 := z1.1
  have z20 := z2.1
  have z30 := z3.1
  have e22' : n22 = n14 + n21 := e22 (by rw [ev]; clear ev; omega)
  rw [ev] at e22'
  clear ev e22
  have e28' : n28 = n22 + n27 := e28 (by rw [e27, e22']; clear e22' e28; omega)
  rw [e27] at e28'
  have q32 := zbC z00 z10 z20 z30 z1.2.1 z2.2.1 z3.2.1 e22' e28' e32
  rw [z0.2.2, z1.2.2, z2.2.2, z3.2.2] at q32
  clear e28 e28' e22' z0 z1 z2 z3 z00 z10 z20 z30 e27 e32
  have e39' : n39 = n32 + n38 := e39 (by rw [e38, q32]; clear e39; omega)
  rw [e38] at e39'
  have e46' : n46 = n39 + n45 := e46 (by rw [e45, e39', q32]; clear e46 e39 e39'; omega)
  rw [e45] at e46'
  exact zbD p0 p1 p2 p3 q32 e39' e46' e51
def zbcx (x : Int32) : Nat := zpq (fun j => x.toBitVec.getLsbD j) 32
theorem zBct {x z3 z7 z8 z14 z17 z21 z22 z27 z28 z32 z38 z39 z45 z46 z51 : Int32} (e3 : z3 = (x.toUInt32 >>> ((1 : Int32).toUInt32 &&& Int32.toUInt32 31)).toInt32) (e7 : z7 = z3 &&& 1431655765) (e8 : z8 = x - z7) (e14 : z14 = z8 &&& 858993459) (e17 : z17 = (z8.toUInt32 >>> ((2 : Int32).toUInt32 &&& Int32.toUInt32 31)).toInt32) (e21 : z21 = z17 &&& 858993459) (e22 : z22 = z14 + z21) (e27 : z27 = (z22.toUInt32 >>> ((4 : Int32).toUInt32 &&& Int32.toUInt32 31)).toInt32) (e28 : z28 = z22 + z27) (e32 : z32 = z28 &&& 252645135) (e38 : z38 = (z32.toUInt32 >>> ((8 : Int32).toUInt32 &&& Int32.toUInt32 31)).toInt32) (e39 : z39 = z32 + z38) (e45 : z45 = (z39.toUInt32 >>> ((16 : Int32).toUInt32 &&& Int32.toUInt32 31)).toInt32) (e46 : z46 = z39 + z45) (e51 : z51 = z46 &&& 63) : z51.toInt = (zbcx x : Int) := by
  have hA : ∀ {a b c : Int32}, c = a &&& b → c.toBitVec.toNat = a.toBitVec.toNat &&& b.toBitVec.toNat := fun e => by rw [e]; rfl
  have hP : ∀ {a b c : Int32}, c = a + b → a.toBitVec.toNat + b.toBitVec.toNat < 4294967296 → c.toBitVec.toNat = a.toBitVec.toNat + b.toBitVec.toNat := fun {a b c} e h => by
    rw [e]
    show (a.toBitVec + b.toBitVec).toNat = _
    rw [BitVec.toNat_add, Nat.mod_eq_of_lt (by omega)]
  have hM : ∀ {a b c : Int32}, c = a - b → b.toBitVec.toNat ≤ a.toBitVec.toNat → c.toBitVec.toNat = a.toBitVec.toNat - b.toBitVec.toNat := fun {a b c} e h => by
    rw [e]
    show (a.toBitVec - b.toBitVec).toNat = _
    have q := a.toBitVec.isLt
    rw [BitVec.toNat_sub]
    omega
  have p3 := pk_ushr x 1 1 (by decide)
  have p17 := pk_ushr z8 2 2 (by decide)
  have p27 := pk_ushr z22 4 4 (by decide)
  have p38 := pk_ushr z32 8 8 (by decide)
  have p45 := pk_ushr z39 16 16 (by decide)
  rw [← e3] at p3
  rw [← e17] at p17
  rw [← e27] at p27
  rw [← e38] at p38
  rw [← e45] at p45
  have k := zbnN (N := x.toBitVec.toNat) (x.toBitVec.isLt) p3 (hA e7) (hM e8) (hA e14) p17 (hA e21) (hP e22) p27 (hP e28) (hA e32) p38 (hP e39) p45 (hP e46) (hA e51)
  have k2 : zpq (fun j => x.toBitVec.toNat.testBit j) 32 = zbcx x := rfl
  rw [k2] at k
  have k3 : zbcx x ≤ 32 := zpq_le 32
  rw [ztoi z51, k, if_pos (by omega)]
def zwq (row : Nat → Int32) : Nat → Nat
  | 0 => 0
  | n + 1 => zwq row n + (if zpb row n then (if n < 512 then 3 else 1) else 0)
theorem zwq_p {row : Nat → Int32} : ∀ n : Nat, 0 < zwq row n ↔ ∃ q : Nat, q < n ∧ zpb row q = true := by
  intro n
  induction n with
  | zero => exact ⟨fun h => absurd h (Nat.lt_irrefl 0), fun ⟨q, h, _⟩ => absurd h (Nat.not_lt_zero q)⟩
  | succ n ih =>
    show 0 < zwq row n + (if zpb row n then (if n < 512 then 3 else 1) else 0) ↔ _
    by_cases c : zpb row n = true
    · rw [if_pos c]
      exact ⟨fun _ => ⟨n, by omega, c⟩, fun _ => by split <;> omega⟩
    · rw [if_neg c, Nat.add_zero, ih]
      constructor
      · rintro ⟨q, h1, h2⟩
        exact ⟨q, by omega, h2⟩
      · rintro ⟨q, h1, h2⟩
        have h3 : q ≠ n := fun e => c (e ▸ h2)
        exact ⟨q, by omega, h2⟩
theorem zwq_w {row : Nat → Int32} {i c : Nat} (hc : c = if i < 16 then 3 else 1) : ∀ n : Nat, n ≤ 32 → zwq row (32 * i + n) = zwq row (32 * i) + zpq (fun j => (row i).toBitVec.getLsbD j) n * c := by
  intro n
  induction n with
  | zero => intro _; show zwq row (32 * i) = zwq row (32 * i) + 0 * c; omega
  | succ n ih =>
    intro hn
    show zwq row (32 * i + n) + (if zpb row (32 * i + n) then (if 32 * i + n < 512 then 3 else 1) else 0) = zwq row (32 * i) + (zpq (fun j => (row i).toBitVec.getLsbD j) n + (if (row i).toBitVec.getLsbD n then 1 else 0)) * c
    have e1 : zpb row (32 * i + n) = (row i).toBitVec.getLsbD n := by
      unfold zpb
      rw [show (32 * i + n) / 32 = i from by omega, show (32 * i + n) % 32 = n from by omega]
    have e2 : (if 32 * i + n < 512 then 3 else 1) = c := by
      rw [hc]
      by_cases d : i < 16
      · rw [if_pos d, if_pos (by omega)]
      · rw [if_neg d, if_neg (by omega)]
    rw [ih (by omega), e1, e2, Nat.add_mul, Nat.add_assoc]
    by_cases d : (row i).toBitVec.getLsbD n = true
    · rw [if_pos d, if_pos d, Nat.one_mul]
    · rw [if_neg d, if_neg d, Nat.zero_mul]
def zWo (row : Nat → Int32) (w i : Int) : Prop := w = (zwq row (32 * i.toNat) : Int)
theorem zWo_0 {row : Nat → Int32} {w i : Int} (hw : w = 0) (hi : i = 0) : zWo row w i := by subst hw; subst hi; rfl
theorem zWo_s {row : Nat → Int32} {w w' b c i' : Int} {I X : Int32} (h : zWo row w I.toInt) (i0 : 0 ≤ I.toInt) (eX : X = row I.toNatClampNeg) (hb : b = (zbcx X : Int)) (hc : (I.toInt < 16 ∧ c = 3) ∨ (16 ≤ I.toInt ∧ c = 1)) (hw : w' = w + b * c) (hi : i' = I.toInt + 1) : zWo row w' i' := by
  have e1 : I.toNatClampNeg = I.toInt.toNat := rfl
  have k := zwq_w (row := row) (i := I.toInt.toNat) (c := if I.toInt.toNat < 16 then 3 else 1) rfl 32 (Nat.le_refl _)
  have e2 : zpq (fun j => (row I.toInt.toNat).toBitVec.getLsbD j) 32 = zbcx X := by rw [eX, e1]; rfl
  unfold zWo at h ⊢
  rw [show 32 * i'.toNat = 32 * I.toInt.toNat + 32 from by omega, k, e2, hw, h, hb]
  rcases hc with ⟨c1, c2⟩ | ⟨c1, c2⟩
  · rw [if_pos (by omega), c2]; omega
  · rw [if_neg (by omega), c2]; omega
theorem zWo_e {row : Nat → Int32} {w i : Int} (h : zWo row w i) (h1 : 26 ≤ i) (h2 : i ≤ 26) : w = (zwq row 832 : Int) := by
  have e : i = 26 := by omega
  subst e
  exact h
def zPrw (kk : ClassId) (rf : Nat → Option Nat) (pl : va_W) (i : Nat) (row : Nat → Int32) : Prop := ∃ a b : Nat, rf i = some a ∧ ((a, zPo b) : Nat × va_E) ∈ pl ∧ ((b, zPa kk row) : Nat × va_E) ∈ pl
def zRkp (hp : Nat) (pl pl1 : va_W) : Prop := ∀ e ∈ pl, (∃ v : Nat → Int32, e.2 = zRc hp v) → e ∈ pl1
def zPe (pl0 pl : va_W) : Prop := pl.Perm pl0
def zAnr (kk : ClassId) (rf : Nat → Option Nat) (pl : va_W) (x y n : Int) : Prop := 0 ≤ x ∧ y < 40 ∧ ∃ R S : Nat → Int32, zPrw kk rf pl x.toNat R ∧ zPrw kk rf pl y.toNat S ∧ ∃ p q : Nat, p < 832 ∧ q < 832 ∧ zpb R p = true ∧ zpb S q = true ∧ znr n p q
theorem zPo_i {b b' : Nat} (h : zPo b = zPo b') : b = b' := by
  have h1 : (5, mX5 b) = ((5, mX5 b') : Nat × List Value) := Sum.inr.inj h
  have h2 : mX5 b = mX5 b' := (Prod.mk.inj h1).2
  have h3 : (mX5 b)[0]? = (mX5 b')[0]? := by rw [h2]
  have h4 : (some (Value.ref b) : Option Value) = some (Value.ref b') := h3
  exact Value.ref.inj (Option.some.inj h4)
theorem zPa_i {kk : ClassId} {f f' : Nat → Int32} (h : zPa kk f = zPa kk f') : f = f' := by
  have h1 := Sum.inl.inj h
  have h2 := (Prod.mk.inj (Prod.mk.inj h1).2).2
  exact Sum.inl.inj h2
section ZPR
variable {hp i j a b : Nat} {kk : ClassId} {rf : Nat → Option Nat} {pl pl0 pl1 p q X : va_W} {A : Nat → Prop} {f f' row row' : Nat → Int32} {x y : Nat × va_E}
theorem zPe_rf : zPe pl pl := List.Perm.refl _
theorem zPe_perm (h : zPe pl0 pl) (hm : pl1.Perm pl) : zPe pl0 pl1 := hm.trans h
theorem zPe_putP (h : zPe pl0 pl) (e : pl.Perm (x :: y :: p)) : zPe pl0 (x :: y :: p) := e.symm.trans h
theorem zPe_tr (h : zPe pl0 pl) (h2 : zPe pl pl1) : zPe pl0 pl1 := h2.trans h
theorem zRkp_rf : zRkp hp pl pl := fun _ h _ => h
theorem zRkp_tr (h : zRkp hp pl0 pl) (h2 : zRkp hp pl pl1) : zRkp hp pl0 pl1 := fun e he hv => h2 e (h e he hv) hv
theorem zRkp_pe (h : zPe pl0 pl) : zRkp hp pl0 pl := fun e he _ => h.mem_iff.mpr he
theorem zRkp_putP (e : pl.Perm ((a, zPo b) :: (b, zPa kk f) :: p)) (ep : pl1 = (a, zPo b) :: (b, zPa kk f') :: p) : zRkp hp pl pl1 := fun z hz ⟨v, hv⟩ => by
  rw [ep]
  rcases List.mem_cons.mp (e.mem_iff.mp hz) with h4 | h4
  · subst h4
    have h5 : (5, mX5 b) = ((8, mX8 hp v) : Nat × List Value) := Sum.inr.inj hv
    have h6 : (5 : Nat) = 8 := (Prod.mk.inj h5).1
    omega
  · rcases List.mem_cons.mp h4 with h5 | h5
    · subst h5
      cases hv
    · exact List.mem_cons_of_mem _ (List.mem_cons_of_mem _ h5)
theorem zPrw_self (h : rf i = some a) (ep : pl1 = (a, zPo b) :: (b, zPa kk f) :: p) : zPrw kk rf pl1 i f := ⟨a, b, h, by rw [ep]; exact List.mem_cons_self, by rw [ep]; exact List.mem_cons_of_mem _ List.mem_cons_self⟩
theorem zPrw_pe (h : zPe pl0 pl) : zPrw kk rf pl i row ↔ zPrw kk rf pl0 i row := ⟨fun ⟨a, b, h1, h2, h3⟩ => ⟨a, b, h1, h.mem_iff.mp h2, h.mem_iff.mp h3⟩, fun ⟨a, b, h1, h2, h3⟩ => ⟨a, b, h1, h.mem_iff.mpr h2, h.mem_iff.mpr h3⟩⟩
theorem zPrw_kp (hk : zKp hp pl pl1) (h : zPrw kk rf pl i row) : zPrw kk rf pl1 i row := by
  obtain ⟨a, b, h1, h2, h3⟩ := h
  refine ⟨a, b, h1, hk _ h2 (fun ⟨v, hv⟩ => ?_), hk _ h3 (fun ⟨v, hv⟩ => ?_)⟩
  · have h5 : (5, mX5 b) = ((8, mX8 hp v) : Nat × List Value) := Sum.inr.inj hv
    have h6 : (5 : Nat) = 8 := (Prod.mk.inj h5).1
    omega
  · cases hv
theorem zPrw_u (hD : va_D A (X ++ pl)) (h : zPrw kk rf pl i row) (h2 : zPrw kk rf pl i row') : row = row' := by
  obtain ⟨a1, b1, x1, x2, x3⟩ := h
  obtain ⟨a2, b2, y1, y2, y3⟩ := h2
  have e1 : a1 = a2 := Option.some.inj (x1.symm.trans y1)
  subst e1
  have e2 := zPo_i (zD_u hD x2 y2)
  subst e2
  exact zPa_i (zD_u hD x3 y3)
theorem zPrw_o (hz : ∀ j, j < 40 → j ≠ i → ∀ a', rf j = some a' → ∃ (b' : Nat) (f' : Nat → Int32) (p' : va_W), p.Perm ((a', zPo b') :: (b', zPa kk f') :: p')) (e : pl.Perm ((a, zPo b) :: (b, zPa kk f) :: p)) (hD : va_D A (X ++ pl)) (ep : pl1 = (a, zPo b) :: (b, zPa kk f') :: p) (hj : j < 40) (hn : j ≠ i) (h : zPrw kk rf pl j row) : zPrw kk rf pl1 j row := by
  obtain ⟨a', b', h1, h2, h3⟩ := h
  obtain ⟨b2, f2, p2, h4⟩ := hz j hj hn a' h1
  have m1 : ((a', zPo b2) : Nat × va_E) ∈ p := h4.mem_iff.mpr List.mem_cons_self
  have m2 : ((b2, zPa kk f2) : Nat × va_E) ∈ p := h4.mem_iff.mpr (List.mem_cons_of_mem _ List.mem_cons_self)
  have s : ∀ z : Nat × va_E, z ∈ p → z ∈ pl := fun z hz => e.mem_iff.mpr (List.mem_cons_of_mem _ (List.mem_cons_of_mem _ hz))
  have e1 := zPo_i (zD_u hD h2 (s _ m1))
  subst e1
  have e2 := zPa_i (zD_u hD h3 (s _ m2))
  subst e2
  rw [ep]
  exact ⟨a', _, h1, List.mem_cons_of_mem _ (List.mem_cons_of_mem _ m1), List.mem_cons_of_mem _ (List.mem_cons_of_mem _ m2)⟩
def zMp (hp : Nat) (kk : ClassId) (rf : Nat → Option Nat) (pl0 pl : va_W) (std sn kd lo hi ph sd : Nat → Int32) (pw cnt : Int) (a : Nat) (idx wl : Int) (m0 m w0 w h0 h : Nat → Int32) : Prop :=
  ((rf a = none ∨ wl ≤ idx) ∧ pl = pl0) ∨ (zRkp hp pl0 pl ∧ (∀ (j : Nat) (row : Nat → Int32), j < 40 → j ≠ a → zPrw kk rf pl0 j row → zPrw kk rf pl j row) ∧ ∃ row : Nat → Int32, zPrw kk rf pl a row ∧ zGh std sn kd lo hi ph sd pw cnt a row ∧ (∃ W : Int32, W.toInt = (zwq row 832 : Int) ∧ w = upd w0 idx.toNat W) ∧ (∃ b : Int32, m = upd m0 a b ∧ ((b.toInt = 1 ∧ 0 < zwq row 832) ∨ (b.toInt = 0 ∧ zwq row 832 = 0))) ∧ ∃ N : Int32, h = upd h0 a N ∧ (0 ≤ (h0 a).toInt → (h0 a).toInt < 1000 → N.toInt = (h0 a).toInt + (if 0 < zwq row 832 then 1 else 0)))
variable {std sn kd lo hi ph sd m0 m w0 w h0 h : Nat → Int32} {pw cnt idx wl : Int}
theorem zMp_n (hh : rf a = none ∨ wl ≤ idx) : zMp hp kk rf pl pl std sn kd lo hi ph sd pw cnt a idx wl m0 m0 w0 w0 h0 h0 := Or.inl ⟨hh, rfl⟩
theorem zMp_i {ad : Nat} {I W b N O : Int32} (hz : ∀ j, j < 40 → j ≠ a → ∀ a', rf j = some a' → ∃ (b' : Nat) (f' : Nat → Int32) (p' : va_W), p.Perm ((a', zPo b') :: (b', zPa kk f') :: p')) (e : pl.Perm ((ad, zPo i) :: (i, zPa kk f) :: p)) (hD : va_D A (X ++ pl)) (ep : pl1 = (ad, zPo i) :: (i, zPa kk f') :: p) (hr : rf a = some ad) (hg : zGh std sn kd lo hi ph sd pw cnt a f') (hI : I.toInt = idx) (hW : W.toInt = (zwq f' 832 : Int)) (ew : w = upd w0 I.toNatClampNeg W) (em : m = upd m0 a b) (hb : (b.toInt = 1 ∧ 0 < W.toInt) ∨ (b.toInt = 0 ∧ W.toInt ≤ 0)) (eh : h = upd h0 a N) (eO : O = h0 a) (hN : 0 ≤ O.toInt → O.toInt < 1000 → N.toInt = O.toInt + b.toInt) : zMp hp kk rf pl pl1 std sn kd lo hi ph sd pw cnt a idx wl m0 m w0 w h0 h := by
  refine Or.inr ⟨zRkp_putP e ep, fun j row hj hn hq => zPrw_o hz e hD ep hj hn hq, f', zPrw_self hr ep, hg, ⟨W, hW, ?_⟩, ⟨b, em, ?_⟩, N, eh, fun q1 q2 => ?_⟩
  · rw [ew, ← hI]; rfl
  · rcases hb with ⟨b1, b2⟩ | ⟨b1, b2⟩
    · exact Or.inl ⟨b1, by omega⟩
    · exact Or.inr ⟨b1, by omega⟩
  · rw [← eO] at q1 q2 ⊢
    rw [hN q1 q2]
    rcases hb with ⟨b1, b2⟩ | ⟨b1, b2⟩
    · rw [if_pos (by omega), b1]
    · rw [if_neg (by omega), b1]
theorem zAnr_n {x y n r : Int} (h : r = 0) (hn : ¬ zAnr kk rf pl x y n) : r = 1 ↔ zAnr kk rf pl x y n := ⟨fun q => by omega, fun q => absurd q hn⟩
theorem zAnr_1 {x y n r : Int} (h : r = 0) (hx : x < 0 ∨ 40 ≤ y) : r = 1 ↔ zAnr kk rf pl x y n := zAnr_n h (fun q => by have q1 := q.1; have q2 := q.2.1; omega)
theorem zAnr_2 {x y n r : Int} {I : Int32} (h : r = 0) (hx : rf I.toNatClampNeg = none) (hI : I.toInt = x ∨ I.toInt = y) : r = 1 ↔ zAnr kk rf pl x y n := zAnr_n h (fun ⟨_, _, R, S, h1, h2, _⟩ => by
  have e1 : I.toNatClampNeg = I.toInt.toNat := rfl
  rw [e1] at hx
  rcases hI with hI | hI
  · rw [hI] at hx
    obtain ⟨a, b, h3, _⟩ := h1
    rw [hx] at h3
    cases h3
  · rw [hI] at hx
    obtain ⟨a, b, h3, _⟩ := h2
    rw [hx] at h3
    cases h3)
theorem zAnr_i {x y n r : Int} {I J : Int32} {a1 b1 a2 b2 : Nat} {f1 f2 : Nat → Int32} {p1 p2 : va_W} (hD : va_D A (X ++ pl)) (e1 : pl.Perm ((a1, zPo b1) :: (b1, zPa kk f1) :: p1)) (e2 : p1.Perm ((a2, zPo b2) :: (b2, zPa kk f2) :: p2)) (r1 : rf I.toNatClampNeg = some a1) (r2 : rf J.toNatClampNeg = some a2) (hI : I.toInt = x) (hJ : J.toInt = y) (x0 : 0 ≤ x) (y1 : y < 40) (hn : zNr f1 f2 n r) (n0 : 0 ≤ n) (n1 : n ≤ 1000) : r = 1 ↔ zAnr kk rf pl x y n := by
  have eI : I.toNatClampNeg = x.toNat := by rw [← hI]; rfl
  have eJ : J.toNatClampNeg = y.toNat := by rw [← hJ]; rfl
  rw [eI] at r1
  rw [eJ] at r2
  have g1 : zPrw kk rf pl x.toNat f1 := ⟨a1, b1, r1, e1.mem_iff.mpr List.mem_cons_self, e1.mem_iff.mpr (List.mem_cons_of_mem _ List.mem_cons_self)⟩
  have s : ∀ z : Nat × va_E, z ∈ p1 → z ∈ pl := fun z hz => e1.mem_iff.mpr (List.mem_cons_of_mem _ (List.mem_cons_of_mem _ hz))
  have g2 : zPrw kk rf pl y.toNat f2 := ⟨a2, b2, r2, s _ (e2.mem_iff.mpr List.mem_cons_self), s _ (e2.mem_iff.mpr (List.mem_cons_of_mem _ List.mem_cons_self))⟩
  rcases hn n0 n1 with ⟨h1, p, q, h2, h3, h4, h5, h6⟩ | ⟨h1, h2⟩
  · exact ⟨fun _ => ⟨x0, y1, f1, f2, g1, g2, p, q, h2, h3, h4, h5, h6⟩, fun _ => h1⟩
  · refine ⟨fun q => by omega, fun ⟨_, _, R, S, k1, k2, p, q, k3, k4, k5, k6, k7⟩ => ?_⟩
    rw [zPrw_u hD k1 g1] at k5
    rw [zPrw_u hD k2 g2] at k6
    exact absurd k7 (h2 p q k3 k4 k5 k6)
theorem zAnr_pe {x y n : Int} (h : zPe pl0 pl) : zAnr kk rf pl x y n ↔ zAnr kk rf pl0 x y n := by
  unfold zAnr
  constructor
  · rintro ⟨h1, h2, R, S, h3, h4, h5⟩
    exact ⟨h1, h2, R, S, (zPrw_pe h).mp h3, (zPrw_pe h).mp h4, h5⟩
  · rintro ⟨h1, h2, R, S, h3, h4, h5⟩
    exact ⟨h1, h2, R, S, (zPrw_pe h).mpr h3, (zPrw_pe h).mpr h4, h5⟩
end ZPR
def zjd (w : Int) (a b : Prop) : Prop := (w = 8 ∧ a ∧ b) ∨ (w = 9 ∧ (a ∨ b)) ∨ (w ≠ 8 ∧ w ≠ 9 ∧ a ∧ ¬ b)
def zwst (lv : Int → Prop) (nv : Int → Int → Prop) (w x : Int) (z : (Nat → Prop) × Int × Int) : (Nat → Prop) × Int × Int :=
  if w ≤ 4 ∧ z.2.1 < 40 ∧ x < 40 then (fun j : Nat => if (j : Int) = z.2.1 then lv x else z.1 j, z.2.1 + 1, x)
  else if w = 10 ∧ 0 < z.2.1 then (fun j : Nat => if (j : Int) = z.2.1 - 1 then ¬ z.1 j else z.1 j, z.2.1, z.2.2)
  else if w = 5 ∧ 1 < z.2.1 then (fun j : Nat => if (j : Int) = z.2.1 - 2 then nv z.2.2 x else z.1 j, z.2.1 - 1, z.2.2)
  else if 8 ≤ w ∧ 1 < z.2.1 then (fun j : Nat => if (j : Int) = z.2.1 - 2 then zjd w (z.1 j) (z.1 (j + 1)) else z.1 j, z.2.1 - 1, z.2.2)
  else z
def zwk (cd : Nat → Int32) (lv : Int → Prop) (nv : Int → Int → Prop) : Nat → (Nat → Prop) × Int × Int
  | 0 => (fun _ => False, 0, -1)
  | i + 1 => zwst lv nv ((cd i).toInt / 1000) ((cd i).toInt % 1000) (zwk cd lv nv i)
def zNvv (kk : ClassId) (rf : Nat → Option Nat) (pl : va_W) : Int → Int → Prop := fun l x => zAnr kk rf pl (l - 1) l x
def zLvv (m : Nat → Int32) : Int → Prop := fun x => (vp_nar .boolean (m x.toNat)).toInt ≠ 0
def zWki (cd m st : Nat → Int32) (nv : Int → Int → Prop) (h l i : Int) : Prop := 0 ≤ i ∧ (zwk cd (zLvv m) nv i.toNat).2.1 = h ∧ (zwk cd (zLvv m) nv i.toNat).2.2 = l ∧ ∀ j : Nat, (j : Int) < h → ((st j).toInt ≠ 0 ↔ (zwk cd (zLvv m) nv i.toNat).1 j)
def zWkj (cd m st : Nat → Int32) (nv : Int → Int → Prop) (h l i w x : Int) : Prop := zWki cd m st nv h l i ∧ w = (cd i.toNat).toInt / 1000 ∧ x = (cd i.toNat).toInt % 1000
def zWke (cd m : Nat → Int32) (nv : Int → Int → Prop) (n : Int) : Prop := (zwk cd (zLvv m) nv n.toNat).2.1 = 1 ∧ (zwk cd (zLvv m) nv n.toNat).1 0
section ZWK
variable {cd m st st' : Nat → Int32} {lv : Int → Prop} {nv : Int → Int → Prop} {h l i w x h' l' i' : Int} {z : (Nat → Prop) × Int × Int}
theorem zwst_1 (h1 : w ≤ 4 ∧ z.2.1 < 40 ∧ x < 40) : zwst lv nv w x z = (fun j : Nat => if (j : Int) = z.2.1 then lv x else z.1 j, z.2.1 + 1, x) := if_pos h1
theorem zwst_2 (h1 : ¬ (w ≤ 4 ∧ z.2.1 < 40 ∧ x < 40)) (h2 : w = 10 ∧ 0 < z.2.1) : zwst lv nv w x z = (fun j : Nat => if (j : Int) = z.2.1 - 1 then ¬ z.1 j else z.1 j, z.2.1, z.2.2) := by
  unfold zwst
  rw [if_neg h1, if_pos h2]
theorem zwst_3 (h1 : ¬ (w ≤ 4 ∧ z.2.1 < 40 ∧ x < 40)) (h2 : ¬ (w = 10 ∧ 0 < z.2.1)) (h3 : w = 5 ∧ 1 < z.2.1) : zwst lv nv w x z = (fun j : Nat => if (j : Int) = z.2.1 - 2 then nv z.2.2 x else z.1 j, z.2.1 - 1, z.2.2) := by
  unfold zwst
  rw [if_neg h1, if_neg h2, if_pos h3]
theorem zwst_4 (h1 : ¬ (w ≤ 4 ∧ z.2.1 < 40 ∧ x < 40)) (h2 : ¬ (w = 10 ∧ 0 < z.2.1)) (h3 : ¬ (w = 5 ∧ 1 < z.2.1)) (h4 : 8 ≤ w ∧ 1 < z.2.1) : zwst lv nv w x z = (fun j : Nat => if (j : Int) = z.2.1 - 2 then zjd w (z.1 j) (z.1 (j + 1)) else z.1 j, z.2.1 - 1, z.2.2) := by
  unfold zwst
  rw [if_neg h1, if_neg h2, if_neg h3, if_pos h4]
theorem zwst_5 (h1 : ¬ (w ≤ 4 ∧ z.2.1 < 40 ∧ x < 40)) (h2 : ¬ (w = 10 ∧ 0 < z.2.1)) (h3 : ¬ (w = 5 ∧ 1 < z.2.1)) (h4 : ¬ (8 ≤ w ∧ 1 < z.2.1)) : zwst lv nv w x z = z := by
  unfold zwst
  rw [if_neg h1, if_neg h2, if_neg h3, if_neg h4]
theorem zWki_0 (h0 : h = 0) (h1 : l = -1) (h2 : i = 0) : zWki cd m st nv h l i := by
  subst h0; subst h1; subst h2
  exact ⟨by decide, rfl, rfl, fun j hj => by omega⟩
theorem zWkj_i {r1 r2 : Int} {I : Int32} (g : zWki cd m st nv h l I.toInt) (hn : I.toInt < h') (h1 : 0 ≤ I.toInt ∧ I.toInt < h' → r1 = (cd I.toNatClampNeg).toInt) (h2 : 0 ≤ I.toInt ∧ I.toInt < h' → r2 = (cd I.toNatClampNeg).toInt) (hw : w = r1 / 1000) (hx : x = r2 % 1000) : zWkj cd m st nv h l I.toInt w x := by
  have e := g.1
  refine ⟨g, ?_, ?_⟩
  · rw [hw, h1 ⟨e, hn⟩]; rfl
  · rw [hx, h2 ⟨e, hn⟩]; rfl
theorem zWkj_s (hi0 : 0 ≤ i) (ew : w = (cd i.toNat).toInt / 1000) (ex : x = (cd i.toNat).toInt % 1000) (hi : i' = i + 1) : zwk cd lv nv i'.toNat = zwst lv nv w x (zwk cd lv nv i.toNat) := by
  rw [show i'.toNat = i.toNat + 1 from by omega, ew, ex]
  rfl
theorem zcln {H : Int32} {j : Nat} {a : Int} (hH : H.toInt = a) (h0 : 0 ≤ a) : j = H.toNatClampNeg ↔ (j : Int) = a := by
  have q : H.toNatClampNeg = H.toInt.toNat := rfl
  omega
theorem zWki_l {H X B : Int32} (g : zWkj cd m st nv H.toInt l i w X.toInt) (hw : w ≤ 4) (h0 : 0 ≤ H.toInt) (hh : H.toInt < 40) (hx : X.toInt < 40) (eB : B = m X.toNatClampNeg) (est : st' = upd st H.toNatClampNeg (vp_nar .boolean B)) (eh : h' = H.toInt + 1) (el : l' = X.toInt) (hi : i' = i + 1) : zWki cd m st' nv h' l' i' := by
  obtain ⟨⟨g0, g1, g2, g3⟩, ew, ex⟩ := g
  have e := zWkj_s (lv := zLvv m) (nv := nv) g0 ew ex hi
  unfold zWki
  rw [e]
  generalize zwk cd (zLvv m) nv i.toNat = Z at g1 g2 g3 ⊢
  rw [zwst_1 ⟨hw, by omega, hx⟩]
  refine ⟨by omega, by show Z.2.1 + 1 = h'; omega, el.symm, fun j hj => ?_⟩
  show (st' j).toInt ≠ 0 ↔ (if (j : Int) = Z.2.1 then zLvv m X.toInt else Z.1 j)
  by_cases c : (j : Int) = Z.2.1
  · rw [if_pos c, est, (zcln (j := j) (H := H) rfl h0).mpr (by omega), pk_us, eB]
    exact Iff.rfl
  · rw [if_neg c, est, pk_un (fun q => c (by have q1 := (zcln (H := H) rfl h0).mp q; omega))]
    exact g3 j (by omega)
theorem zWki_n {I J B v : Int32} (g : zWkj cd m st nv h l i w x) (hw : w = 10) (h0 : 0 < h) (hI : I.toInt = h - 1) (hJ : J.toInt = h - 1) (eB : B = st J.toNatClampNeg) (hv : (B.toInt = 0 ∧ v.toInt = 1) ∨ (B.toInt ≠ 0 ∧ v.toInt = 0)) (est : st' = upd st I.toNatClampNeg v) (eh : h' = h) (hi : i' = i + 1) : zWki cd m st' nv h' l i' := by
  obtain ⟨⟨g0, g1, g2, g3⟩, ew, ex⟩ := g
  have e := zWkj_s (lv := zLvv m) (nv := nv) g0 ew ex hi
  unfold zWki
  rw [e]
  generalize zwk cd (zLvv m) nv i.toNat = Z at g1 g2 g3 ⊢
  rw [zwst_2 (fun q => by have q1 := q.1; omega) ⟨hw, by omega⟩]
  refine ⟨by omega, by show Z.2.1 = h'; omega, g2, fun j hj => ?_⟩
  show (st' j).toInt ≠ 0 ↔ (if (j : Int) = Z.2.1 - 1 then ¬ Z.1 j else Z.1 j)
  by_cases c : (j : Int) = Z.2.1 - 1
  · have k1 := g3 j (by omega)
    have k2 : B = st j := by rw [eB, (zcln (H := J) hJ (by omega)).mpr (show (j : Int) = h - 1 by omega)]
    rw [if_pos c, est, (zcln (j := j) (H := I) hI (by omega)).mpr (by omega), pk_us, ← (zcln (j := j) (H := I) hI (by omega)).mpr (by omega)]
    rw [← k2] at k1
    rw [← k1]
    omega
  · rw [if_neg c, est, pk_un (fun q => c (by have q1 := (zcln hI (by omega)).mp q; omega))]
    exact g3 j (by omega)
theorem zWki_2 {I v : Int32} {P : Prop} (hw : ¬ (w ≤ 4 ∧ h < 40 ∧ x < 40)) (h1 : 1 < h) (g : zWkj cd m st nv h l i w x) (hI : I.toInt = h - 2) (est : st' = upd st I.toNatClampNeg v) (eh : h' = h - 1) (hi : i' = i + 1) (hz : zwst (zLvv m) nv w x (zwk cd (zLvv m) nv i.toNat) = (fun j : Nat => if (j : Int) = (zwk cd (zLvv m) nv i.toNat).2.1 - 2 then P else (zwk cd (zLvv m) nv i.toNat).1 j, (zwk cd (zLvv m) nv i.toNat).2.1 - 1, (zwk cd (zLvv m) nv i.toNat).2.2)) (hv : v.toInt ≠ 0 ↔ P) : zWki cd m st' nv h' l i' := by
  obtain ⟨⟨g0, g1, g2, g3⟩, ew, ex⟩ := g
  have e := zWkj_s (lv := zLvv m) (nv := nv) g0 ew ex hi
  unfold zWki
  rw [e, hz]
  clear e hz
  generalize zwk cd (zLvv m) nv i.toNat = Z at g1 g2 g3 ⊢
  refine ⟨by omega, by show Z.2.1 - 1 = h'; omega, g2, fun j hj => ?_⟩
  show (st' j).toInt ≠ 0 ↔ (if (j : Int) = Z.2.1 - 2 then P else Z.1 j)
  by_cases c : (j : Int) = Z.2.1 - 2
  · rw [if_pos c, est, (zcln (j := j) (H := I) hI (by omega)).mpr (by omega), pk_us]
    exact hv
  · rw [if_neg c, est, pk_un (fun q => c (by have q1 := (zcln hI (by omega)).mp q; omega))]
    exact g3 j (by omega)
theorem znar {r : Int32} (h0 : 0 ≤ r.toInt) (h1 : r.toInt ≤ 1) : (vp_nar .boolean r).toInt = r.toInt := by
  have : r.toInt = 0 ∨ r.toInt = 1 := by omega
  rcases this with c | c
  · have e : r = 0 := zeqi.mpr (c.trans (by decide))
    rw [e]; decide
  · have e : r = 1 := zeqi.mpr (c.trans (by decide))
    rw [e]; decide
theorem zWki_r {I r : Int32} {kk : ClassId} {rf : Nat → Option Nat} {pl0 pl : va_W} {a b n : Int} (g : zWkj cd m st (zNvv kk rf pl0) h l i w x) (hw : w = 5) (h1 : 1 < h) (hI : I.toInt = h - 2) (hp : zPe pl0 pl) (hr : 0 ≤ n → (r.toInt = 1 ↔ zAnr kk rf pl a b n)) (x0 : 0 ≤ n) (ha : a = l - 1) (hb : b = l) (hn : n = x) (r0 : 0 ≤ r.toInt) (r1 : r.toInt ≤ 1) (est : st' = upd st I.toNatClampNeg (vp_nar .boolean r)) (eh : h' = h - 1) (hi : i' = i + 1) : zWki cd m st' (zNvv kk rf pl0) h' l i' := by
  have g' := g
  obtain ⟨⟨g0, g1, g2, g3⟩, ew, ex⟩ := g'
  refine zWki_2 (P := zNvv kk rf pl0 (zwk cd (zLvv m) (zNvv kk rf pl0) i.toNat).2.2 x) (fun q => by have q1 := q.1; omega) h1 g hI est eh hi (zwst_3 (fun q => by have q1 := q.1; omega) (fun q => by have q1 := q.1; omega) ⟨hw, by omega⟩) ?_
  rw [g2, znar r0 r1]
  unfold zNvv
  rw [← ha, ← hn, ← zAnr_pe hp]
  have hr' := hr x0
  rw [hb] at hr'
  rw [← hr']
  omega
theorem zWki_j {I J L r A B : Int32} (g : zWkj cd m st nv h l i w x) (h2 : w ≠ 10 ∨ h ≤ 0) (hw : 8 ≤ w) (h1 : 1 < h) (hI : I.toInt = h - 2) (hJ : J.toInt = h - 2) (hL : L.toInt = h - 1) (eA : A = st J.toNatClampNeg) (eB : B = st L.toNatClampNeg) (hr : r.toInt = 1 ↔ zjd w (A.toInt ≠ 0) (B.toInt ≠ 0)) (r0 : 0 ≤ r.toInt) (r1 : r.toInt ≤ 1) (est : st' = upd st I.toNatClampNeg (vp_nar .boolean r)) (eh : h' = h - 1) (hi : i' = i + 1) : zWki cd m st' nv h' l i' := by
  have g' := g
  obtain ⟨⟨g0, g1, g2, g3⟩, ew, ex⟩ := g'
  have k1 := g3 (h - 2).toNat (by omega)
  have k2 := g3 ((h - 2).toNat + 1) (by omega)
  have eA' : A = st (h - 2).toNat := by rw [eA, ← (zcln (H := J) hJ (by omega)).mpr (show (((h - 2).toNat : Nat) : Int) = h - 2 by omega)]
  have eB' : B = st ((h - 2).toNat + 1) := by rw [eB, ← (zcln (H := L) hL (by omega)).mpr (show (((h - 2).toNat + 1 : Nat) : Int) = h - 1 by omega)]
  rw [← eA'] at k1
  rw [← eB'] at k2
  refine zWki_2 (P := r.toInt = 1) (fun q => by have q1 := q.1; omega) h1 g hI est eh hi ?_ (by rw [znar r0 r1]; omega)
  rw [zwst_4 (fun q => by have q1 := q.1; omega) (fun q => by have q1 := q.1; have q2 := q.2; omega) (fun q => by have q1 := q.1; omega) ⟨hw, by omega⟩]
  congr 1
  funext j
  by_cases c : (j : Int) = (zwk cd (zLvv m) nv i.toNat).2.1 - 2
  · rw [if_pos c, if_pos c]
    have ej : j = (h - 2).toNat := by omega
    rw [ej]
    rw [propext k1, propext k2] at hr
    exact (propext hr).symm
  · rw [if_neg c, if_neg c]
theorem zWki_k (g : zWkj cd m st nv h l i w x) (h1 : 4 < w ∨ 40 ≤ h ∨ 40 ≤ x) (h2 : w ≠ 10 ∨ h ≤ 0) (h3 : w ≠ 5 ∨ h ≤ 1) (h4 : w < 8 ∨ h ≤ 1) (hi : i' = i + 1) : zWki cd m st nv h l i' := by
  obtain ⟨⟨g0, g1, g2, g3⟩, ew, ex⟩ := g
  have e := zWkj_s (lv := zLvv m) (nv := nv) g0 ew ex hi
  unfold zWki
  rw [e, zwst_5 (fun q => by have q1 := q.1; have q2 := q.2.1; have q3 := q.2.2; omega) (fun q => by have q1 := q.1; have q2 := q.2; omega) (fun q => by have q1 := q.1; have q2 := q.2; omega) (fun q => by have q1 := q.1; have q2 := q.2; omega)]
  exact ⟨by omega, g1, g2, g3⟩
theorem zWke_i {n r : Int} {Z : Int32} (g : zWki cd m st nv h l i) (h1 : n ≤ i) (h2 : i ≤ n) (eZ : Z = st 0) (hr : (h = 1 ∧ Z.toInt ≠ 0 ∧ r = 1) ∨ (h = 1 ∧ Z.toInt = 0 ∧ r = 0)) : r = 1 ↔ zWke cd m nv n := by
  have e : i = n := by omega
  subst e
  obtain ⟨g0, g1, g2, g3⟩ := g
  unfold zWke
  rw [g1]
  rcases hr with ⟨a, b, c⟩ | ⟨a, b, c⟩
  · have k := g3 0 (by omega)
    rw [← k, ← eZ]
    exact ⟨fun _ => ⟨a, b⟩, fun _ => c⟩
  · have k := g3 0 (by omega)
    rw [← k, ← eZ]
    exact ⟨fun q => by omega, fun q => absurd b q.2⟩
theorem zWke_n {n r : Int} (g : zWki cd m st nv h l i) (h1 : n ≤ i) (h2 : i ≤ n) (hh : h ≠ 1) (hr : r = 0) : r = 1 ↔ zWke cd m nv n := by
  have e : i = n := by omega
  subst e
  obtain ⟨g0, g1, g2, g3⟩ := g
  unfold zWke
  rw [g1]
  exact ⟨fun q => by omega, fun q => absurd q.1 hh⟩
end ZWK
def zMk (mr : Nat → Int32) (n d : Int) : Int := if 0 ≤ d ∧ d < n then (mr d.toNat).toInt else 0
def zMvc (kk : ClassId) (rf : Nat → Option Nat) (pl : va_W) (std sn kd lo hi ph sd : Nat → Int32) (pw cnt : Int) (m : Nat → Int32) (mk : Int) (a : Nat) : Prop := ((kd a).toInt = 4 ∧ (((m a).toInt = 1 ∧ (lo a).toInt ≤ mk ∧ mk ≤ (hi a).toInt) ∨ ((m a).toInt = 0 ∧ ¬ ((lo a).toInt ≤ mk ∧ mk ≤ (hi a).toInt)))) ∨ ((kd a).toInt ≠ 4 ∧ ∃ row : Nat → Int32, zPrw kk rf pl a row ∧ zGh std sn kd lo hi ph sd pw cnt a row ∧ (((m a).toInt = 1 ∧ 0 < zwq row 832) ∨ ((m a).toInt = 0 ∧ zwq row 832 = 0)))
def zMlv (hp : Nat) (kk : ClassId) (rf : Nat → Option Nat) (pl0 pl : va_W) (std sn kd lo hi ph sd : Nat → Int32) (pw cnt wl lv mk : Int) (m : Nat → Int32) (L : Int) : Prop := (∀ a : Nat, (a : Int) < lv → rf a ≠ none) → 120 * lv ≤ wl → zRkp hp pl0 pl ∧ ∀ a : Nat, (a : Int) < L → zMvc kk rf pl std sn kd lo hi ph sd pw cnt m mk a
section ZML
variable {hp : Nat} {kk : ClassId} {rf : Nat → Option Nat} {pl0 pl pl1 : va_W} {std sn kd lo hi ph sd m m' w0 w h0 h : Nat → Int32} {pw cnt wl lv mk L L' : Int}
theorem zMk_y {mr : Nat → Int32} {n : Int} {X z : Int32} (x0 : 0 ≤ X.toInt) (x1 : X.toInt < n) (e : z = mr X.toNatClampNeg) : z.toInt = zMk mr n X.toInt := by
  unfold zMk
  rw [if_pos ⟨x0, x1⟩, e]
  rfl
theorem zMk_n {mr : Nat → Int32} {n d r : Int} (hn : d < 0 ∨ n ≤ d) (e : r = 0) : r = zMk mr n d := by
  unfold zMk
  rw [if_neg (by omega), e]
theorem zMlv_0 (hL : L = 0) : zMlv hp kk rf pl pl std sn kd lo hi ph sd pw cnt wl lv mk m L := fun _ _ => ⟨zRkp_rf, fun a ha => by omega⟩
theorem zMlv_m {A b : Int32} {k r1 : Int} (g : zMlv hp kk rf pl0 pl std sn kd lo hi ph sd pw cnt wl lv mk m A.toInt) (a0 : 0 ≤ A.toInt) (hk : k = (kd A.toNatClampNeg).toInt) (k4 : k = 4) (h1 : r1 = (lo A.toNatClampNeg).toInt) (hb : (b.toInt = 1 ∧ r1 ≤ mk ∧ mk ≤ (hi A.toNatClampNeg).toInt) ∨ (b.toInt = 0 ∧ (mk < r1 ∨ (hi A.toNatClampNeg).toInt < mk))) (em : m' = upd m A.toNatClampNeg b) (hL : L' = A.toInt + 1) : zMlv hp kk rf pl0 pl std sn kd lo hi ph sd pw cnt wl lv mk m' L' := fun p1 p2 => by
  obtain ⟨g1, g2⟩ := g p1 p2
  refine ⟨g1, fun a ha => ?_⟩
  have e1 : A.toNatClampNeg = A.toInt.toNat := rfl
  by_cases c : a = A.toNatClampNeg
  · subst c
    refine Or.inl ⟨by omega, ?_⟩
    rw [em, pk_us]
    rcases hb with ⟨b1, b2, b3⟩ | ⟨b1, b2⟩
    · exact Or.inl ⟨b1, by omega, b3⟩
    · exact Or.inr ⟨b1, by omega⟩
  · have q := g2 a (by omega)
    unfold zMvc
    rw [em, pk_un c]
    exact q
theorem zMlv_p {A : Int32} {k idx : Int} (g : zMlv hp kk rf pl0 pl std sn kd lo hi ph sd pw cnt wl lv mk m A.toInt) (a0 : 0 ≤ A.toInt) (a1 : A.toInt < lv) (a2 : lv ≤ 40) (hk : k = (kd A.toNatClampNeg).toInt) (k4 : k ≠ 4) (hq : zMp hp kk rf pl pl1 std sn kd lo hi ph sd pw cnt A.toNatClampNeg idx wl m m' w0 w h0 h) (hx : 120 * lv ≤ wl → idx < wl) (hL : L' = A.toInt + 1) : zMlv hp kk rf pl0 pl1 std sn kd lo hi ph sd pw cnt wl lv mk m' L' := fun p1 p2 => by
  obtain ⟨g1, g2⟩ := g p1 p2
  have e1 : A.toNatClampNeg = A.toInt.toNat := rfl
  rcases hq with ⟨q1 | q1, _⟩ | ⟨q1, q2, row, q3, q4, q5, ⟨b, q6, q7⟩, q8⟩
  · exact absurd q1 (p1 _ (by omega))
  · have := hx p2; omega
  · refine ⟨zRkp_tr g1 q1, fun a ha => ?_⟩
    by_cases c : a = A.toNatClampNeg
    · subst c
      refine Or.inr ⟨by omega, row, q3, q4, ?_⟩
      rw [q6, pk_us]
      exact q7
    · have q := g2 a (by omega)
      unfold zMvc at q ⊢
      rw [q6, pk_un c]
      rcases q with q | ⟨r1, row', r2, r3, r4⟩
      · exact Or.inl q
      · exact Or.inr ⟨r1, row', q2 a row' (by omega) c r2, r3, r4⟩
theorem zMlv_e (g : zMlv hp kk rf pl0 pl std sn kd lo hi ph sd pw cnt wl lv mk m L) (e : lv ≤ L) : zMlv hp kk rf pl0 pl std sn kd lo hi ph sd pw cnt wl lv mk m lv := fun p1 p2 => ⟨(g p1 p2).1, fun a ha => (g p1 p2).2 a (by omega)⟩
theorem zMlv_k {mk' : Int} (g : zMlv hp kk rf pl0 pl std sn kd lo hi ph sd pw cnt wl lv mk m L) (e : mk' = mk) : zMlv hp kk rf pl0 pl std sn kd lo hi ph sd pw cnt wl lv mk' m L := by rw [e]; exact g
end ZML
def zT9 (t : Nat → Int) : Prop := ∀ p : Nat, p < 512 → t p ≠ 0 → p < 300
def zLph (s : Nat → Int64) (n : Int) (ph : Nat → Int32) (pw : Int) (t : Nat → Int) (lo hi : Int) (q : Nat) : Prop := (∃ y : Int, lo ≤ y ∧ y < hi ∧ zPw ph pw y ≠ -2) ∧ ∀ y : Int, lo ≤ y → y < hi → zPw ph pw y ≠ -2 → 0 ≤ zPw ph pw y ∧ zPw ph pw y < n ∧ (q < 512 → (q : Int) + (y - lo) < 512) ∧ t (q + (y - lo).toNat) = (s (zPw ph pw y).toNat).toInt
def zLcc (s : Nat → Int64) (n : Int) (kd lo hi ph sd : Nat → Int32) (pw : Int) (t : Nat → Int) (a q : Nat) : Prop := (q < 512 → (sd a &&& 1).toInt ≠ 0) ∧ (512 ≤ q → (sd a &&& 2).toInt ≠ 0) ∧ (((kd a).toInt = 3 ∧ zLph s n ph pw t (lo a).toInt (hi a).toInt q) ∨ ((kd a).toInt ≠ 3 ∧ (kd a).toInt ≠ 4 ∧ ∃ r : Nat, (lo a).toInt ≤ (r : Int) ∧ (r : Int) < (hi a).toInt ∧ (r : Int) < n ∧ t q = (s r).toInt))
def zQw (n : Int) (kd lo hi ph : Nat → Int32) (pw L : Int) : Prop := ∀ a : Nat, (a : Int) < L → (kd a).toInt = 3 → 0 ≤ (lo a).toInt ∧ (hi a).toInt ≤ 160 ∧ ∀ y : Int, (lo a).toInt ≤ y → y < (hi a).toInt → zPw ph pw y = -2 ∨ zPw ph pw y = -3 ∨ (0 ≤ zPw ph pw y ∧ zPw ph pw y < n)
def zPgS (std sn rk : Nat → Int32) (cnt op n : Int) (s : Nat → Int64) (t : Nat → Int) (Q : Int → Prop) : Prop := zSdp std sn rk cnt (fun p a => (a : Int) < op ∧ t p = zWdr s rk a) ∧ (∀ a : Nat, (a : Int) < op → 0 ≤ (rk a).toInt ∧ (rk a).toInt < n) ∧ (∀ w : Nat, (w : Int) < n → Q (w : Int) → ∃ a : Nat, (a : Int) < op ∧ (rk a).toInt = (w : Int)) ∧ zSrt s n ∧ (∀ r : Nat, (r : Int) < n → (s r).toInt ≠ 0) ∧ (∀ p : Nat, t p ≠ 0 → p < 832) ∧ zT9 t
section ZGL
variable {std sn rk kd lo hi ph sd row row0 : Nat → Int32} {cnt op n pw L l u : Int} {s : Nat → Int64} {t : Nat → Int} {a : Nat} {Q : Int → Prop}
theorem zSw_1 (h : zPgS std sn rk cnt op n s t Q) {p : Nat} (hp : p < 832) (h0 : 0 ≤ (std p).toInt) : ∃ r : Nat, (std p).toInt = (r : Int) ∧ (r : Int) < n ∧ t p = (s r).toInt := by
  obtain ⟨h1, h2, h3, h4, h5, h6, h7⟩ := h
  rcases h1.2.1 p hp with ⟨c, _⟩ | ⟨b, ⟨m1, m2⟩, m3, m4⟩
  · omega
  · have k := h2 b m1
    refine ⟨(rk b).toInt.toNat, ?_, by omega, m2⟩
    rw [m3]; omega
theorem zSw_2 (h : zPgS std sn rk cnt op n s t Q) {p r : Nat} (hp : p < 832) (hr : (r : Int) < n) (hQ : Q (r : Int)) (e : t p = (s r).toInt) : (std p).toInt = (r : Int) := by
  obtain ⟨h1, h2, h3, h4, h5, h6, h7⟩ := h
  obtain ⟨b, b1, b2⟩ := h3 r hr hQ
  rcases h1.2.1 p hp with ⟨_, c⟩ | ⟨d, ⟨m1, m2⟩, m3, m4⟩
  · refine (c b ⟨b1, ?_⟩).elim
    show t p = (s (rk b).toInt.toNat).toInt
    rw [e, show (rk b).toInt.toNat = r from by omega]
  · rw [m3]
    have k := h2 d m1
    by_cases g : (rk d).toInt.toNat = r
    · omega
    · have x := zSrt_ne h4 (a := (rk d).toInt.toNat) (b := r) (by omega) hr g
      have y : (s (rk d).toInt.toNat).toInt = (s r).toInt := m2.symm.trans e
      exact absurd y x
theorem zSw_w {p : Nat} (hp : p < 832) : zWa std (p : Int) = (std p).toInt := by
  unfold zWa
  rw [if_pos ⟨by omega, by omega⟩]
  rfl
theorem zGl_w (h : zPgS std sn rk cnt op n s t Q) (hz : ∀ q : Nat, q < 832 → zpb row0 q = false) (g : zGW std sn row0 row l u cnt) (hQ : ∀ r : Nat, l ≤ (r : Int) → (r : Int) < u → Q (r : Int)) (q : Nat) (hq : q < 832) : zpb row q = true ↔ ∃ r : Nat, l ≤ (r : Int) ∧ (r : Int) < u ∧ (r : Int) < n ∧ t q = (s r).toInt := by
  have e := g q hq
  have w := zSw_w (std := std) hq
  constructor
  · intro c0
    rcases e.mp c0 with c | ⟨c, c1, c2, c3, c4⟩
    · rw [hz q hq] at c
      cases c
    · have k := h.1.2.2.1 c c1
      have k3 := k.2.2
      rw [show (sn c).toInt.toNat = q from by omega] at k3
      obtain ⟨r, r1, r2, r3⟩ := zSw_1 h hq k3
      exact ⟨r, by omega, by omega, r2, r3⟩
  · rintro ⟨r, r1, r2, r3, r4⟩
    have k := zSw_2 h hq r3 (hQ r r1 r2) r4
    obtain ⟨c, c1, c2⟩ := h.1.2.2.2 q hq (by omega)
    exact e.mpr (Or.inr ⟨c, c1, c2, by omega, by omega⟩)
theorem zGl_p (h : zPgS std sn rk cnt op n s t Q) (hz : ∀ q : Nat, q < 832 → zpb row0 q = false) (g : zGPe std sn ph row0 row pw l u cnt) (l0 : 0 ≤ l) (u1 : u ≤ 160) (hv : ∀ y : Int, l ≤ y → y < u → zPw ph pw y = -2 ∨ zPw ph pw y = -3 ∨ (0 ≤ zPw ph pw y ∧ zPw ph pw y < n)) (hQ : ∀ y : Int, l ≤ y → y < u → Q (zPw ph pw y)) (q : Nat) (hq : q < 832) : zpb row q = true ↔ zLph s n ph pw t l u q := by
  have st1 : ∀ p : Nat, p < 832 → -1 ≤ (std p).toInt := fun p hp => by
    rcases h.1.2.1 p hp with ⟨c, _⟩ | ⟨b, _, m3, m4⟩
    · omega
    · rw [m3]; omega
  rcases g l0 u1 with ⟨su, ⟨s1, s2⟩, s3, s4, s5⟩ | ⟨s1, s2⟩
  · have e := s5 q hq
    constructor
    · intro c0
      rcases e.mp c0 with c | ⟨c, c1, c2, c3, c4⟩
      · rw [hz q hq] at c
        cases c
      · have k := h.1.2.2.1 c c1
        refine ⟨⟨su, s1, s3, s4⟩, fun y y1 y2 y3 => ?_⟩
        have m := c4 y y1 y2 y3
        have v := hv y y1 y2
        by_cases d : (q : Int) + y - l < 832
        · have w := zSw_w (std := std) (p := ((q : Int) + y - l).toNat) (by omega)
          rw [show ((((q : Int) + y - l).toNat : Nat) : Int) = (q : Int) + y - l from by omega] at w
          have b := st1 ((q : Int) + y - l).toNat (by omega)
          rw [w] at m
          have nn : 0 ≤ zPw ph pw y := by omega
          obtain ⟨r, r1, r2, r3⟩ := zSw_1 h (p := ((q : Int) + y - l).toNat) (by omega) (by omega)
          have er : (zPw ph pw y).toNat = r := by omega
          refine ⟨nn, by omega, fun q5 => ?_, ?_⟩
          · obtain ⟨r', _, r2', r3'⟩ := zSw_1 h (p := (sn c).toInt.toNat) (by omega) k.2.2
            have z := h.2.2.2.2.2.2 (sn c).toInt.toNat (by omega) (by rw [r3']; exact h.2.2.2.2.1 r' r2')
            omega
          · rw [er, ← r3, show q + (y - l).toNat = ((q : Int) + y - l).toNat from by omega]
        · have w : zWa std ((q : Int) + y - l) = -1 := by
            unfold zWa
            rw [if_neg (by omega)]
          omega
    · rintro ⟨_, c⟩
      obtain ⟨k1, k2, k3, k4⟩ := c su s1 s3 s4
      have nz : t (q + (su - l).toNat) ≠ 0 := by rw [k4]; exact h.2.2.2.2.1 _ (by omega)
      have p8 := h.2.2.2.2.2.1 _ nz
      have x := zSw_2 h p8 (r := (zPw ph pw su).toNat) (by omega) (by rw [show (((zPw ph pw su).toNat : Nat) : Int) = zPw ph pw su from by omega]; exact hQ su s1 s3) k4
      obtain ⟨b, b1, b2⟩ := h.1.2.2.2 _ p8 (by omega)
      refine e.mpr (Or.inr ⟨b, b1, show (q : Int) = (sn b).toInt - (su - l) from by omega, ?_, fun y y1 y2 y3 => ?_⟩)
      · by_cases d : q < 512
        · exact Or.inl ⟨by have := k3 d; omega, by omega⟩
        · exact Or.inr ⟨by omega, by omega⟩
      · obtain ⟨j1, j2, j3, j4⟩ := c y y1 y2 y3
        have nz2 : t (q + (y - l).toNat) ≠ 0 := by rw [j4]; exact h.2.2.2.2.1 _ (by omega)
        have p82 := h.2.2.2.2.2.1 _ nz2
        have x2 := zSw_2 h p82 (r := (zPw ph pw y).toNat) (by omega) (by rw [show (((zPw ph pw y).toNat : Nat) : Int) = zPw ph pw y from by omega]; exact hQ y y1 y2) j4
        have w := zSw_w (std := std) p82
        rw [show ((q + (y - l).toNat : Nat) : Int) = (q : Int) + y - l from by omega] at w
        rw [w]
        omega
  · constructor
    · intro c
      rw [s2, hz q hq] at c
      cases c
    · rintro ⟨⟨y, y1, y2, y3⟩, _⟩
      exact absurd (s1 y y1 y2) y3
theorem zGl (h : zPgS std sn rk cnt op n s t (zQa kd lo hi ph pw L)) (hq : zQw n kd lo hi ph pw L) (ha : (a : Int) < L) (k4 : (kd a).toInt ≠ 4) (g : zGh std sn kd lo hi ph sd pw cnt a row) : ∀ q : Nat, q < 832 → (zpb row q = true ↔ zLcc s n kd lo hi ph sd pw t a q) := fun q hq8 => by
  obtain ⟨row1, ⟨row0, hz, g1⟩, g2⟩ := g
  rw [g2 q hq8]
  unfold zLcc
  rcases g1 with ⟨k3, g3⟩ | ⟨k3, _⟩ | ⟨k3, _, g3⟩
  · have w := hq a ha k3
    have e := zGl_p h hz g3 w.1 w.2.1 w.2.2 (fun y y1 y2 => ⟨a, ha, k4, y, y1, y2, y2, zQi_p k3 rfl⟩) q hq8
    constructor
    · rintro ⟨c1, c2, c3⟩
      exact ⟨c2, c3, Or.inl ⟨k3, e.mp c1⟩⟩
    · rintro ⟨c1, c2, c3 | c3⟩
      · exact ⟨e.mpr c3.2, c1, c2⟩
      · exact absurd k3 c3.1
  · exact absurd k3 k4
  · have e := zGl_w h hz g3 (fun r r1 r2 => ⟨a, ha, k4, (r : Int), r1, r2, r2, zQi_i k3 rfl⟩) q hq8
    constructor
    · rintro ⟨c1, c2, c3⟩
      exact ⟨c2, c3, Or.inr ⟨k3, k4, e.mp c1⟩⟩
    · rintro ⟨c1, c2, c3 | c3⟩
      · exact absurd c3.1 k3
      · exact ⟨e.mpr c3.2.2, c1, c2⟩
end ZGL
def zlf (cd : Nat → Int32) (i : Nat) : Int := (zwk cd (fun _ => True) (fun _ _ => True) i).2.2
def zQcd (cd : Nat → Int32) (len : Int) (kd : Nat → Int32) (L : Int) : Prop := L ≤ 40 ∧ ∀ i : Nat, (i : Int) < len → ((cd i).toInt / 1000 ≤ 4 → 0 ≤ (cd i).toInt % 1000 ∧ (cd i).toInt % 1000 < L) ∧ ((cd i).toInt / 1000 = 5 → 1 ≤ zlf cd i ∧ zlf cd i < L ∧ (kd (zlf cd i).toNat).toInt ≠ 4 ∧ (kd (zlf cd i - 1).toNat).toInt ≠ 4)
def zLvc (s : Nat → Int64) (n : Int) (kd lo hi ph sd : Nat → Int32) (pw : Int) (t : Nat → Int) (mk : Int) : Int → Prop := fun x => ((kd x.toNat).toInt = 4 ∧ (lo x.toNat).toInt ≤ mk ∧ mk ≤ (hi x.toNat).toInt) ∨ ((kd x.toNat).toInt ≠ 4 ∧ ∃ q : Nat, q < 832 ∧ zLcc s n kd lo hi ph sd pw t x.toNat q)
def zNv (s : Nat → Int64) (n : Int) (kd lo hi ph sd : Nat → Int32) (pw : Int) (t : Nat → Int) : Int → Int → Prop := fun l x => ∃ p q : Nat, p < 832 ∧ q < 832 ∧ zLcc s n kd lo hi ph sd pw t (l - 1).toNat p ∧ zLcc s n kd lo hi ph sd pw t l.toNat q ∧ znr x p q
def zMtc (s : Nat → Int64) (n : Int) (kd lo hi ph sd : Nat → Int32) (pw : Int) (cd : Nat → Int32) (len : Int) (t : Nat → Int) (mk : Int) : Prop := (zwk cd (zLvc s n kd lo hi ph sd pw t mk) (zNv s n kd lo hi ph sd pw t) len.toNat).2.1 = 1 ∧ (zwk cd (zLvc s n kd lo hi ph sd pw t mk) (zNv s n kd lo hi ph sd pw t) len.toNat).1 0
section ZMT
variable {cd : Nat → Int32} {lv lv' : Int → Prop} {nv nv' : Int → Int → Prop} {w x : Int} {z z' : (Nat → Prop) × Int × Int}
theorem zwst_e (e : z.2 = z'.2) : (zwst lv nv w x z).2 = (zwst lv' nv' w x z').2 := by
  by_cases c1 : w ≤ 4 ∧ z.2.1 < 40 ∧ x < 40
  · rw [zwst_1 c1, zwst_1 (by rw [← e]; exact c1)]
    show (z.2.1 + 1, x) = (z'.2.1 + 1, x)
    rw [e]
  have d1 : ¬ (w ≤ 4 ∧ z'.2.1 < 40 ∧ x < 40) := by rw [← e]; exact c1
  by_cases c2 : w = 10 ∧ 0 < z.2.1
  · rw [zwst_2 c1 c2, zwst_2 d1 (by rw [← e]; exact c2)]
    exact e
  have d2 : ¬ (w = 10 ∧ 0 < z'.2.1) := by rw [← e]; exact c2
  by_cases c3 : w = 5 ∧ 1 < z.2.1
  · rw [zwst_3 c1 c2 c3, zwst_3 d1 d2 (by rw [← e]; exact c3)]
    show (z.2.1 - 1, z.2.2) = (z'.2.1 - 1, z'.2.2)
    rw [e]
  have d3 : ¬ (w = 5 ∧ 1 < z'.2.1) := by rw [← e]; exact c3
  by_cases c4 : 8 ≤ w ∧ 1 < z.2.1
  · rw [zwst_4 c1 c2 c3 c4, zwst_4 d1 d2 d3 (by rw [← e]; exact c4)]
    show (z.2.1 - 1, z.2.2) = (z'.2.1 - 1, z'.2.2)
    rw [e]
  rw [zwst_5 c1 c2 c3 c4, zwst_5 d1 d2 d3 (by rw [← e]; exact c4)]
  exact e
theorem zwk_e : ∀ i : Nat, (zwk cd lv nv i).2 = (zwk cd lv' nv' i).2 := by
  intro i
  induction i with
  | zero => rfl
  | succ i ih => exact zwst_e ih
theorem zwst_c (h1 : w ≤ 4 → (lv x ↔ lv' x)) (h2 : w = 5 → (nv z.2.2 x ↔ nv' z.2.2 x)) : zwst lv nv w x z = zwst lv' nv' w x z := by
  by_cases c1 : w ≤ 4 ∧ z.2.1 < 40 ∧ x < 40
  · rw [zwst_1 c1, zwst_1 c1, propext (h1 c1.1)]
  by_cases c2 : w = 10 ∧ 0 < z.2.1
  · rw [zwst_2 c1 c2, zwst_2 c1 c2]
  by_cases c3 : w = 5 ∧ 1 < z.2.1
  · rw [zwst_3 c1 c2 c3, zwst_3 c1 c2 c3, propext (h2 c3.1)]
  by_cases c4 : 8 ≤ w ∧ 1 < z.2.1
  · rw [zwst_4 c1 c2 c3 c4, zwst_4 c1 c2 c3 c4]
  rw [zwst_5 c1 c2 c3 c4, zwst_5 c1 c2 c3 c4]
theorem zwk_c : ∀ N : Nat, (∀ i : Nat, i < N → (cd i).toInt / 1000 ≤ 4 → (lv ((cd i).toInt % 1000) ↔ lv' ((cd i).toInt % 1000))) → (∀ i : Nat, i < N → (cd i).toInt / 1000 = 5 → (nv (zlf cd i) ((cd i).toInt % 1000) ↔ nv' (zlf cd i) ((cd i).toInt % 1000))) → zwk cd lv nv N = zwk cd lv' nv' N := by
  intro N
  induction N with
  | zero => intro _ _; rfl
  | succ N ih =>
    intro h1 h2
    show zwst lv nv ((cd N).toInt / 1000) ((cd N).toInt % 1000) (zwk cd lv nv N) = zwst lv' nv' ((cd N).toInt / 1000) ((cd N).toInt % 1000) (zwk cd lv' nv' N)
    rw [ih (fun i hi => h1 i (by omega)) (fun i hi => h2 i (by omega))]
    refine zwst_c (h1 N (by omega)) (fun q => ?_)
    have e : (zwk cd lv' nv' N).2.2 = zlf cd N := congrArg Prod.snd (zwk_e N)
    rw [e]
    exact h2 N (by omega) q
end ZMT
section ZMU
variable {kk : ClassId} {rf : Nat → Option Nat} {pl X : va_W} {A : Nat → Prop} {std sn rk kd lo hi ph sd m cd : Nat → Int32} {cnt op n pw L len mk : Int} {s : Nat → Int64} {t : Nat → Int}
theorem zMvc_l (hm : ∀ a : Nat, (a : Int) < L → zMvc kk rf pl std sn kd lo hi ph sd pw cnt m mk a) (hS : zPgS std sn rk cnt op n s t (zQa kd lo hi ph pw L)) (hq : zQw n kd lo hi ph pw L) {x : Int} (x0 : 0 ≤ x) (x1 : x < L) : zLvv m x ↔ zLvc s n kd lo hi ph sd pw t mk x := by
  unfold zLvv zLvc
  rcases hm x.toNat (by omega) with ⟨k, v⟩ | ⟨k, row, g1, g2, v⟩
  · rcases v with ⟨v1, v2, v3⟩ | ⟨v1, v2⟩
    · rw [znar (by omega) (by omega)]
      exact ⟨fun _ => Or.inl ⟨k, v2, v3⟩, fun _ => by omega⟩
    · rw [znar (by omega) (by omega)]
      exact ⟨fun c => by omega, fun c => by
        rcases c with c | c
        · exact absurd c.2 v2
        · exact absurd k c.1⟩
  · have e := zGl hS hq (show ((x.toNat : Nat) : Int) < L by omega) k g2
    have p := zwq_p (row := row) 832
    have e2 : (∃ q : Nat, q < 832 ∧ zpb row q = true) ↔ ∃ q : Nat, q < 832 ∧ zLcc s n kd lo hi ph sd pw t x.toNat q := ⟨fun ⟨q, q1, q2⟩ => ⟨q, q1, (e q q1).mp q2⟩, fun ⟨q, q1, q2⟩ => ⟨q, q1, (e q q1).mpr q2⟩⟩
    rcases v with ⟨v1, v2⟩ | ⟨v1, v2⟩
    · rw [znar (by omega) (by omega)]
      exact ⟨fun _ => Or.inr ⟨k, e2.mp (p.mp v2)⟩, fun _ => by omega⟩
    · rw [znar (by omega) (by omega)]
      exact ⟨fun c => by omega, fun c => by
        rcases c with c | c
        · exact absurd c.1 k
        · have := p.mpr (e2.mpr c.2)
          omega⟩
theorem zMvc_n (hD : va_D A (X ++ pl)) (hm : ∀ a : Nat, (a : Int) < L → zMvc kk rf pl std sn kd lo hi ph sd pw cnt m mk a) (hS : zPgS std sn rk cnt op n s t (zQa kd lo hi ph pw L)) (hq : zQw n kd lo hi ph pw L) (hL : L ≤ 40) {y x : Int} (y0 : 1 ≤ y) (y1 : y < L) (k1 : (kd y.toNat).toInt ≠ 4) (k2 : (kd (y - 1).toNat).toInt ≠ 4) : zNvv kk rf pl y x ↔ zNv s n kd lo hi ph sd pw t y x := by
  rcases hm y.toNat (by omega) with ⟨k, _⟩ | ⟨_, r1, g1, g2, _⟩
  · exact absurd k k1
  rcases hm (y - 1).toNat (by omega) with ⟨k, _⟩ | ⟨_, r2, f1, f2, _⟩
  · exact absurd k k2
  have e1 := zGl hS hq (show ((y.toNat : Nat) : Int) < L by omega) k1 g2
  have e2 := zGl hS hq (show (((y - 1).toNat : Nat) : Int) < L by omega) k2 f2
  unfold zNvv zNv zAnr
  constructor
  · rintro ⟨_, _, R, S, h1, h2, p, q, h3, h4, h5, h6, h7⟩
    rw [zPrw_u hD h1 f1] at h5
    rw [zPrw_u hD h2 g1] at h6
    exact ⟨p, q, h3, h4, (e2 p h3).mp h5, (e1 q h4).mp h6, h7⟩
  · rintro ⟨p, q, h3, h4, h5, h6, h7⟩
    exact ⟨by omega, by omega, r2, r1, f1, g1, p, q, h3, h4, (e2 p h3).mpr h5, (e1 q h4).mpr h6, h7⟩
theorem zMtc_i (hD : va_D A (X ++ pl)) (hm : ∀ a : Nat, (a : Int) < L → zMvc kk rf pl std sn kd lo hi ph sd pw cnt m mk a) (hS : zPgS std sn rk cnt op n s t (zQa kd lo hi ph pw L)) (hq : zQw n kd lo hi ph pw L) (hc : zQcd cd len kd L) : zWke cd m (zNvv kk rf pl) len ↔ zMtc s n kd lo hi ph sd pw cd len t mk := by
  have e := zwk_c (cd := cd) (lv := zLvv m) (lv' := zLvc s n kd lo hi ph sd pw t mk) (nv := zNvv kk rf pl) (nv' := zNv s n kd lo hi ph sd pw t) len.toNat (fun i hi w => by
    have c := (hc.2 i (by omega)).1 w
    exact zMvc_l hm hS hq c.1 c.2) (fun i hi w => by
    obtain ⟨c1, c2, c3, c4⟩ := (hc.2 i (by omega)).2 w
    exact zMvc_n hD hm hS hq hc.1 c1 c2 c3 c4)
  unfold zWke zMtc
  rw [e]
end ZMU
def zPnn (rf : Nat → Option Nat) (L : Int) : Prop := ∀ a : Nat, (a : Int) < L → rf a ≠ none
section ZPN
variable {rf rf' : Nat → Option Nat} {L L' : Int}
theorem zPnn_0 (h : L ≤ 0) : zPnn rf L := fun a ha => by omega
theorem zPnn_k {I : Int32} (g : zPnn rf I.toInt) (i0 : 0 ≤ I.toInt) (hn : rf I.toNatClampNeg ≠ none) (e : L' = I.toInt + 1) : zPnn rf L' := fun a ha => by
  have e1 : I.toNatClampNeg = I.toInt.toNat := rfl
  by_cases c : a = I.toNatClampNeg
  · rw [c]; exact hn
  · exact g a (by omega)
theorem zPnn_s {I : Int32} {ad : Nat} (g : zPnn rf I.toInt) (i0 : 0 ≤ I.toInt) (er : rf' = va_up rf I.toNatClampNeg (some ad)) (e : L' = I.toInt + 1) : zPnn rf' L' := fun a ha => by
  have e1 : I.toNatClampNeg = I.toInt.toNat := rfl
  by_cases c : a = I.toNatClampNeg
  · rw [er, c, va_up_self]
    exact fun q => by cases q
  · rw [er, va_up_ne _ _ c]
    exact g a (by omega)
theorem zPnn_e (g : zPnn rf L) (e : L' ≤ L) : zPnn rf L' := fun a ha => g a (by omega)
end ZPN
section ZOA
variable {hp : Nat} {rf0 rf : Nat → Option Nat} {pl pl1 : va_W} {s : Nat → Int64} {i fr ro cs nx fc lc bt h l rk0 wn0 rk wn kd lo hi ph : Nat → Int32} {n ch ru ab tk op0 op pw L : Int} {B : Nat → List Bool} {T : Nat → Nat → Int} {D : Nat} {F : Nat → Nat} {x y : Nat × va_E}
theorem zPlr_r (g : zPlr hp rf pl op s rk fc nx B T D F) (hk : zRkp hp pl pl1) : zPlr hp rf pl1 op s rk fc nx B T D F := fun a ha => by
  obtain ⟨ad, v, h1, h2, h3⟩ := g a ha
  exact ⟨ad, v, h1, hk _ h2 ⟨v, rfl⟩, h3⟩
theorem zOpA_newP (g : zOpA hp rf0 s i fr n ro cs nx fc lc bt ch ru ab tk h l rk0 wn0 op0 rf pl rk wn op kd lo hi ph pw L) : zOpA hp rf0 s i fr n ro cs nx fc lc bt ch ru ab tk h l rk0 wn0 op0 rf (x :: y :: pl) rk wn op kd lo hi ph pw L := fun T V D h1 h2 => by
  obtain ⟨⟨g1, g2, g3, g4, g5, g6⟩, g7⟩ := g T V D h1 h2
  exact ⟨⟨g1, g2, g3, g4, g5, zPlr_r g6 (fun e he _ => List.mem_cons_of_mem _ (List.mem_cons_of_mem _ he))⟩, g7⟩
end ZOA
def zKpt (n0 : Nat → Int32) (f0 : Int) (d : Int32) (n : Nat → Int32) (f : Int) : Prop := f0 < 120 → n = upd n0 f0.toNat d ∧ f = f0 + 1
theorem zKpt_y {n0 n : Nat → Int32} {f0 f : Int} {d F : Int32} (en : n = upd n0 F.toNatClampNeg d) (hF : F.toInt = f0) (ef : f = f0 + 1) : zKpt n0 f0 d n f := fun _ => ⟨by rw [en, ← hF]; rfl, ef⟩
theorem zKpt_n {n0 n : Nat → Int32} {f0 f : Int} {d : Int32} (h : 120 ≤ f0) : zKpt n0 f0 d n f := fun q => by omega
def zHrr (nums : Nat → Int32) (Q : Nat → Prop) : Nat → Int → Prop
  | 0, f => f = 0
  | k + 1, f => (Q k ∧ 1 ≤ f ∧ (nums (f - 1).toNat).toInt = (k : Int) ∧ zHrr nums Q k (f - 1)) ∨ (¬ Q k ∧ zHrr nums Q k f)
section ZHR
variable {nums nums' : Nat → Int32} {Q Q' : Nat → Prop}
theorem zHrr_b : ∀ {k : Nat} {f : Int}, zHrr nums Q k f → 0 ≤ f ∧ f ≤ (k : Int) := by
  intro k
  induction k with
  | zero => intro f h; have h' : f = 0 := h; omega
  | succ k ih =>
    intro f h
    rcases h with ⟨_, h1, _, h2⟩ | ⟨_, h2⟩
    · have := ih h2; omega
    · have := ih h2; omega
theorem zHrr_c : ∀ {k : Nat} {f : Int}, zHrr nums Q k f → (∀ j : Nat, (j : Int) < f → nums' j = nums j) → zHrr nums' Q k f := by
  intro k
  induction k with
  | zero => intro f h _; exact h
  | succ k ih =>
    intro f h hn
    rcases h with ⟨q, h1, h3, h2⟩ | ⟨q, h2⟩
    · exact Or.inl ⟨q, h1, by rw [hn _ (by omega)]; exact h3, ih h2 (fun j hj => hn j (by omega))⟩
    · exact Or.inr ⟨q, ih h2 hn⟩
theorem zHrr_q : ∀ {k : Nat} {f : Int}, zHrr nums Q k f → (∀ d : Nat, d < k → (Q d ↔ Q' d)) → zHrr nums Q' k f := by
  intro k
  induction k with
  | zero => intro f h _; exact h
  | succ k ih =>
    intro f h hq
    rcases h with ⟨q, h1, h3, h2⟩ | ⟨q, h2⟩
    · exact Or.inl ⟨(hq k (by omega)).mp q, h1, h3, ih h2 (fun d hd => hq d (by omega))⟩
    · exact Or.inr ⟨fun c => q ((hq k (by omega)).mpr c), ih h2 (fun d hd => hq d (by omega))⟩
theorem zHrr_u : ∀ {k : Nat} {f f' : Int}, zHrr nums Q k f → zHrr nums' Q k f' → f = f' ∧ ∀ j : Nat, (j : Int) < f → (nums j).toInt = (nums' j).toInt := by
  intro k
  induction k with
  | zero => intro f f' h h'; have h1 : f = 0 := h; have h2 : f' = 0 := h'; exact ⟨by omega, fun j hj => by omega⟩
  | succ k ih =>
    intro f f' h h'
    rcases h with ⟨q, h1, h3, h2⟩ | ⟨q, h2⟩
    · rcases h' with ⟨q', g1, g3, g2⟩ | ⟨q', g2⟩
      · obtain ⟨e1, e2⟩ := ih h2 g2
        have e : f = f' := by omega
        subst e
        refine ⟨rfl, fun j hj => ?_⟩
        by_cases c : (j : Int) < f - 1
        · exact e2 j c
        · rw [show j = (f - 1).toNat from by omega, h3, g3]
      · exact absurd q q'
    · rcases h' with ⟨q', g1, g3, g2⟩ | ⟨q', g2⟩
      · exact absurd q' q
      · exact ih h2 g2
theorem zHrr_y {k : Nat} {f f' : Int} {d : Int32} (h : zHrr nums Q k f) (q : Q k) (en : nums' = upd nums f.toNat d) (ef : f' = f + 1) (hd : d.toInt = (k : Int)) : zHrr nums' Q (k + 1) f' := by
  have b := zHrr_b h
  subst ef
  refine Or.inl ⟨q, by omega, ?_, ?_⟩
  · rw [en, show (f + 1 - 1).toNat = f.toNat from by omega, pk_us]; exact hd
  · rw [show f + 1 - 1 = f from by omega]
    exact zHrr_c h (fun j hj => by rw [en, pk_un (by omega)])
end ZHR
def zPst (rf : Nat → Option Nat) (n : Int) (rk wn : Nat → Int32) (op : Int) (Q : Int → Prop) : Prop := zIj rf ∧ op = (zct wn 400 : Int) ∧ (∀ a : Nat, (a : Int) < op → 0 ≤ (rk a).toInt ∧ (rk a).toInt < n) ∧ (∀ a b : Nat, (a : Int) < op → (b : Int) < op → (rk a).toInt = (rk b).toInt → a = b) ∧ (∀ w : Nat, w < 400 → ((wn w).toInt ≠ 0 ↔ ∃ a : Nat, (a : Int) < op ∧ (rk a).toInt = (w : Int))) ∧ zOpW wn n Q
theorem zPst_O {rf : Nat → Option Nat} {n : Int} {rk wn : Nat → Int32} {op : Int} {Q : Int → Prop} (h : zPst rf n rk wn op Q) : zPgO rf rk wn op := by
  obtain ⟨h1, h2, h3, h4, h5, h6⟩ := h
  have l := zct_l (f := wn) 400
  exact ⟨h1, by omega, by omega, fun w hw a => (h5 w hw).mp a⟩
def zFpre (rf0 : Nat → Option Nat) (s : Nat → Int64) (i fr : Nat → Int32) (n : Int) (ro cs nx fc lc bt : Nat → Int32) (ch ru ab tk : Int) (h l : Nat → Int32) (rk0 wn0 : Nat → Int32) (op0 : Int) (std0 sn0 : Nat → Int32) (cnt0 : Int) (kd lo hi ph : Nat → Int32) (pw L : Int) (cd : Nat → Int32) (len D : Int) (T : Nat → Nat → Int) (V : List Int) : Prop := zKl s i fr n ro cs nx fc lc bt ch ru ab tk h l D T V ∧ zPgO rf0 rk0 wn0 op0 ∧ (∃ (rk1 : Nat → Int32) (M1 : Nat → Nat → Prop), zSdp std0 sn0 rk1 cnt0 M1) ∧ (∀ x : Nat, (x : Int) < D → zT8 (T x) ∧ zT9 (T x)) ∧ zQw n kd lo hi ph pw L ∧ zQcd cd len kd L
def zFic (hp : Nat) (rf0 : Nat → Option Nat) (s : Nat → Int64) (i fr : Nat → Int32) (n : Int) (ro cs nx fc lc bt : Nat → Int32) (ch ru ab tk : Int) (h l : Nat → Int32) (rk0 wn0 : Nat → Int32) (op0 : Int) (std0 sn0 : Nat → Int32) (cnt0 : Int) (rf : Nat → Option Nat) (pl : va_W) (rk wn : Nat → Int32) (op : Int) (std sn : Nat → Int32) (cnt : Int) (kd lo hi ph sd : Nat → Int32) (pw L : Int) (cd : Nat → Int32) (len : Int) (on mr : Nat → Int32) (D : Int) (nums : Nat → Int32) (fd k : Int) : Prop := ∀ (T : Nat → Nat → Int) (V : List Int), zFpre rf0 s i fr n ro cs nx fc lc bt ch ru ab tk h l rk0 wn0 op0 std0 sn0 cnt0 kd lo hi ph pw L cd len D T V → zPst rf n rk wn op (zQa kd lo hi ph pw L) ∧ zPlr hp rf pl op s rk fc nx (zBv T V D.toNat) T D.toNat (fun _ => k.toNat) ∧ (∃ (rk1 : Nat → Int32) (M1 : Nat → Nat → Prop), zSdp std sn rk1 cnt M1) ∧ zHrr nums (fun d => (on d).toInt ≠ 0 ∧ zMtc s n kd lo hi ph sd pw cd len (T d) (mr d).toInt) k.toNat fd
section ZFI
variable {hp : Nat} {rf0 rf rfP : Nat → Option Nat} {pl pl1 pl2 pl3 X : va_W} {A : Nat → Prop} {s : Nat → Int64} {i fr ro cs nx fc lc bt h l rk0 wn0 std0 sn0 rk wn std sn std1 sn1 kd lo hi ph sd cd on mr nums nums' m : Nat → Int32} {n ch ru ab tk op0 cnt0 op cnt cnt1 pw L len D fd fd' k k' wl r mk : Int} {kk : ClassId}
theorem zFic_0 (g : zOpA hp rf0 s i fr n ro cs nx fc lc bt ch ru ab tk h l rk0 wn0 op0 rf pl rk wn op kd lo hi ph pw L) (hf : fd = 0) (hk : k = 0) : zFic hp rf0 s i fr n ro cs nx fc lc bt ch ru ab tk h l rk0 wn0 op0 std0 sn0 cnt0 rf pl rk wn op std0 sn0 cnt0 kd lo hi ph sd pw L cd len on mr D nums fd k := fun T V ⟨p1, p2, p3, p4, p5, p6⟩ => by
  obtain ⟨⟨o1, o2, o3, o4, o5, o6⟩, ow⟩ := g T V D p1 p2
  subst hk
  exact ⟨⟨o1, o2, o3, o4, o5, ow⟩, o6, p3, hf⟩
theorem zPg_m {B : Nat → List Bool} {bl ck wh ins nu pc pl pa : Int} {T : Nat → Nat → Int} {w : Int} {D d d' : Nat} (g : zPg fc nx B bl ck wh ins nu pc pl pa T w D d 0) (hd : d ≤ d') : zPg fc nx B bl ck wh ins nu pc pl pa T w D d' 0 := by
  rcases g with ⟨e, e1, e2, e3⟩ | ⟨x, x1, x2, x3⟩ | ⟨x1, x2⟩
  · exact Or.inl ⟨e, e1, by omega, e3⟩
  · by_cases c : d' ≤ x
    · exact Or.inr (Or.inl ⟨x, c, fun y y1 y2 => x2 y (by omega) y2, x3⟩)
    · exact Or.inl ⟨x + 1, zRp_A x3, by have := x3.1; omega, by omega⟩
  · exact Or.inr (Or.inr ⟨x1, fun y y1 y2 => x2 y (by omega) y2⟩)
theorem zPlr_m {B : Nat → List Bool} {T : Nat → Nat → Int} {D : Nat} {F F' : Nat → Nat} (g : zPlr hp rf pl op s rk fc nx B T D F) (hF : ∀ a : Nat, (a : Int) < op → F a ≤ F' a) : zPlr hp rf pl op s rk fc nx B T D F' := fun a ha => by
  obtain ⟨ad, v, h1, h2, h3⟩ := g a ha
  exact ⟨ad, v, h1, h2, zPg_m h3 (hF a ha)⟩
theorem zFic_o {K : Int32} (g : zFic hp rf0 s i fr n ro cs nx fc lc bt ch ru ab tk h l rk0 wn0 op0 std0 sn0 cnt0 rf pl rk wn op std sn cnt kd lo hi ph sd pw L cd len on mr D nums fd K.toInt) (k0 : 0 ≤ K.toInt) (k1 : K.toInt < D) (hr : zIo on D K r) (r0 : r = 0) (hk : k' = K.toInt + 1) : zFic hp rf0 s i fr n ro cs nx fc lc bt ch ru ab tk h l rk0 wn0 op0 std0 sn0 cnt0 rf pl rk wn op std sn cnt kd lo hi ph sd pw L cd len on mr D nums fd k' := fun T V p => by
  obtain ⟨g1, g2, g3, g4⟩ := g T V p
  have e : k'.toNat = K.toInt.toNat + 1 := by omega
  have z := zIo_0 hr r0 k0 k1
  refine ⟨g1, zPlr_m g2 (fun a ha => by omega), g3, ?_⟩
  rw [e]
  exact Or.inr ⟨fun q => q.1 z, g4⟩
theorem zFic_d {K : Int32} (g : zFic hp rf0 s i fr n ro cs nx fc lc bt ch ru ab tk h l rk0 wn0 op0 std0 sn0 cnt0 rf pl rk wn op std sn cnt kd lo hi ph sd pw L cd len on mr D nums fd K.toInt) (k0 : 0 ≤ K.toInt) (k1 : K.toInt < D) (D1 : D ≤ 120) (hr : zIo on D K r) (r1 : r ≠ 0) (hT : zTu hp rf pl pl1 s i fr n ro cs nx fc lc bt ch ru ab tk h l rk op std sn cnt std1 sn1 cnt1 K.toInt op) (hM : zMlv hp kk rfP pl1 pl2 std1 sn1 kd lo hi ph sd pw cnt1 wl L (zMk mr D K.toInt) m L) (hn : zPnn rfP L) (hwl : 120 * L ≤ wl) (hD : va_D A (X ++ pl2)) {r2 : Int} (hW : r2 = 1 ↔ zWke cd m (zNvv kk rfP pl2) len) (pe : zPe pl2 pl3) (hE : (r2 ≠ 0 ∧ zKpt nums fd K nums' fd') ∨ (r2 = 0 ∧ nums' = nums ∧ fd' = fd)) (h2 : 0 ≤ r2 ∧ r2 ≤ 1) (hk : k' = K.toInt + 1) : zFic hp rf0 s i fr n ro cs nx fc lc bt ch ru ab tk h l rk0 wn0 op0 std0 sn0 cnt0 rf pl3 rk wn op std1 sn1 cnt1 kd lo hi ph sd pw L cd len on mr D nums' fd' k' := fun T V p => by
  obtain ⟨⟨o1, o2, o3, o4, o5, ow⟩, c2, ⟨rk1, M1, c3⟩, c4⟩ := g T V p
  obtain ⟨p1, p2, p3, p4, p5, p6⟩ := p
  have l400 := zct_l (f := wn) 400
  have t8 := p4 K.toInt.toNat (by omega)
  obtain ⟨t1, t2, t3⟩ := hT T V D rk1 M1 ⟨p1, o1, by omega, by omega, o3, o4, k0, k1, t8.1⟩ c3 c2
  obtain ⟨m1, m2⟩ := hM hn hwl
  have hv := p1.1
  have hS : zPgS std1 sn1 rk cnt1 op n s (T K.toInt.toNat) (zQa kd lo hi ph pw L) := ⟨t2, o3, fun w w1 w2 => (o5 w (by have := hv.2.2.1; omega)).mp ((ow w (by have := hv.2.2.1; omega)).mpr ⟨w1, w2⟩), hv.1, fun r hr => p1.2.1 _ ((zVo_m hv).mpr ⟨r, hr, rfl⟩), t8.1.1, t8.2⟩
  have e := zMtc_i hD m2 hS p5 p6
  have em : zMk mr D K.toInt = (mr K.toInt.toNat).toInt := if_pos ⟨k0, k1⟩
  rw [em] at e
  have ek : k'.toNat = K.toInt.toNat + 1 := by omega
  have on1 : (on K.toInt.toNat).toInt ≠ 0 := zIo_1 hr r1
  refine ⟨⟨o1, o2, o3, o4, o5, ow⟩, zPlr_r (zPlr_F t1 (fun a ha => ?_)) (zRkp_tr m1 (zRkp_pe pe)), ⟨rk, _, t2⟩, ?_⟩
  · show k'.toNat = if (a : Int) < op then K.toInt.toNat + 1 else K.toInt.toNat
    rw [if_pos ha, ek]
  · rw [ek]
    have b := zHrr_b c4
    rcases hE with ⟨q1, q2⟩ | ⟨q1, q2, q3⟩
    · obtain ⟨a1, a2⟩ := q2 (by omega)
      exact zHrr_y c4 ⟨on1, e.mp (hW.mp (by omega))⟩ a1 a2 (by omega)
    · rw [q2, q3]
      exact Or.inr ⟨fun q => by have := hW.mpr (e.mpr q.2); omega, c4⟩
theorem zFic_e (g : zFic hp rf0 s i fr n ro cs nx fc lc bt ch ru ab tk h l rk0 wn0 op0 std0 sn0 cnt0 rf pl rk wn op std sn cnt kd lo hi ph sd pw L cd len on mr D nums fd k) (hx : (0 < len ∧ k = D) ∨ (len ≤ 0 ∧ k = 0)) : zFic hp rf0 s i fr n ro cs nx fc lc bt ch ru ab tk h l rk0 wn0 op0 std0 sn0 cnt0 rf pl rk wn op std sn cnt kd lo hi ph sd pw L cd len on mr D nums fd (if 0 < len then D else 0) := by
  rcases hx with ⟨h1, h2⟩ | ⟨h1, h2⟩
  · rw [if_pos h1]; rw [h2] at g; exact g
  · rw [if_neg (by omega)]; rw [h2] at g; exact g
end ZFI
def zMq (A5 A43 A44 A45 A61 A62 : Nat → Int32) (d p : Int) : Int → Prop := fun l => zMt A5 A43 A44 A45 A61 A62 l d p = 1
def zSae (wh lf nm : Nat → Int32) (M : Int → Prop) (p N : Int) (S : Nat → Prop) : Prop := ∀ a : Nat, (a : Int) < N → ((wh a).toInt = 6 → (S a ↔ p < 512 ∧ S (lf a).toInt.toNat)) ∧ ((wh a).toInt = 7 → (S a ↔ 512 ≤ p ∧ S (lf a).toInt.toNat)) ∧ ((wh a).toInt = 1 ∨ (wh a).toInt = 2 ∨ (wh a).toInt = 3 → (S a ↔ M (nm a).toInt))
def zSaR (A5 A43 A44 A45 A61 A62 wh lf nm : Nat → Int32) (N d p : Int) (a : Nat) (r : Int) : Prop := ∀ S : Nat → Prop, zSae wh lf nm (zMq A5 A43 A44 A45 A61 A62 d p) p N S → (r = 1 ↔ S a)
def zSok (A5 A43 A44 A45 A61 A62 wh lf nm : Nat → Int32) (N d : Int) (S : Nat → Nat → Prop) : Prop := ∀ p : Nat, p < 1024 → zSae wh lf nm (zMq A5 A43 A44 A45 A61 A62 d (p : Int)) (p : Int) N (S p)
def zHpv (S : Nat → Nat → Prop) (tt bd : Int) (a : Nat) : Prop := ∃ p : Nat, ((p : Int) < tt ∨ (512 ≤ p ∧ (p : Int) < 512 + bd)) ∧ S p a
def zHpR (A5 A43 A44 A45 A61 A62 wh lf nm : Nat → Int32) (N d tt bd : Int) (a : Nat) (r : Int) : Prop := ∀ S : Nat → Nat → Prop, zSok A5 A43 A44 A45 A61 A62 wh lf nm N d S → (r = 1 ↔ zHpv S tt bd a)
def zHpI (A5 A43 A44 A45 A61 A62 wh lf nm : Nat → Int32) (N d lo hi : Int) (a : Nat) : Prop := ∀ S : Nat → Nat → Prop, zSok A5 A43 A44 A45 A61 A62 wh lf nm N d S → ∀ p : Nat, lo ≤ (p : Int) → (p : Int) < hi → ¬ S p a
def zNev (S : Nat → Nat → Prop) (a b : Nat) (n fs un : Int) : Prop := ∃ p q : Nat, fs ≤ (p : Int) ∧ (p : Int) < un ∧ fs ≤ (q : Int) ∧ (q : Int) < un ∧ S p a ∧ S q b ∧ (p : Int) - (q : Int) ≤ n ∧ (q : Int) - (p : Int) ≤ n
def zLst (S : Nat → Nat → Prop) (a : Nat) (fs x p : Int) : Prop := (x = -1000 ∧ ∀ q : Nat, fs ≤ (q : Int) → (q : Int) < p → ¬ S q a) ∨ (fs ≤ x ∧ x < p ∧ S x.toNat a ∧ ∀ q : Nat, x < (q : Int) → (q : Int) < p → ¬ S q a)
def zNeR (A5 A43 A44 A45 A61 A62 wh lf nm : Nat → Int32) (N d : Int) (a b : Nat) (n fs un r : Int) : Prop := ∀ S : Nat → Nat → Prop, zSok A5 A43 A44 A45 A61 A62 wh lf nm N d S → (r = 1 ↔ zNev S a b n fs un)
def zNeI (A5 A43 A44 A45 A61 A62 wh lf nm : Nat → Int32) (N d : Int) (a b : Nat) (n fs x px y py p : Int) : Prop := ∀ S : Nat → Nat → Prop, zSok A5 A43 A44 A45 A61 A62 wh lf nm N d S → zLst S a fs x px ∧ zLst S b fs y py ∧ ¬ zNev S a b n fs p
def zVe (wh lf rt nm lfr lto : Nat → Int32) (S : Nat → Nat → Prop) (tt bd mk N : Int) (V : Nat → Prop) : Prop := ∀ a : Nat, (a : Int) < N →
  ((wh a).toInt = 4 → (V a ↔ (lfr (nm a).toInt.toNat).toInt ≤ mk ∧ mk ≤ (lto (nm a).toInt.toNat).toInt)) ∧
  ((wh a).toInt = 5 → (V a ↔ zNev S (lf a).toInt.toNat (rt a).toInt.toNat (nm a).toInt 0 tt ∨ zNev S (lf a).toInt.toNat (rt a).toInt.toNat (nm a).toInt 512 (512 + bd))) ∧
  ((wh a).toInt = 8 → (V a ↔ V (lf a).toInt.toNat ∧ V (rt a).toInt.toNat)) ∧
  ((wh a).toInt = 9 → (V a ↔ V (lf a).toInt.toNat ∨ V (rt a).toInt.toNat)) ∧
  ((wh a).toInt = 10 → (V a ↔ ¬ V (lf a).toInt.toNat)) ∧
  ((wh a).toInt = 11 → (V a ↔ V (lf a).toInt.toNat ∧ ¬ V (rt a).toInt.toNat)) ∧
  ((wh a).toInt = 1 ∨ (wh a).toInt = 2 ∨ (wh a).toInt = 3 ∨ (wh a).toInt = 6 ∨ (wh a).toInt = 7 → (V a ↔ zHpv S tt bd a))
def zImR (A5 A43 A44 A45 A61 A62 wh lf nm rt lto : Nat → Int32) (N d tt bd mk : Int) (a : Nat) (r : Int) : Prop := ∀ (S : Nat → Nat → Prop) (V : Nat → Prop), zSok A5 A43 A44 A45 A61 A62 wh lf nm N d S → zVe wh lf rt nm A44 lto S tt bd mk N V → (r = 1 ↔ V a)
theorem zabsi {x z : Int32} (e : z = if 0 ≤ x then x else 0 - x) (h1 : -2147483647 ≤ x.toInt) (h2 : x.toInt ≤ 2147483647) : (0 ≤ x.toInt ∧ z.toInt = x.toInt) ∨ (x.toInt < 0 ∧ z.toInt = -x.toInt) := by
  by_cases c : (0 : Int32) ≤ x
  · rw [if_pos c] at e
    have c2 := Int32.le_iff_toInt_le.mp c
    rw [show (0 : Int32).toInt = 0 from by decide] at c2
    exact Or.inl ⟨c2, by rw [e]⟩
  · rw [if_neg c] at e
    have c2 : ¬ (0 : Int32).toInt ≤ x.toInt := fun q => c (Int32.le_iff_toInt_le.mpr q)
    rw [show (0 : Int32).toInt = 0 from by decide] at c2
    have q := zsub (show (0 : Int32).toInt = 0 from by decide) rfl e (by omega) (by omega)
    exact Or.inr ⟨by omega, by omega⟩
section ZSA
variable {A5 A43 A44 A45 A61 A62 wh lf nm rt lto : Nat → Int32} {N d p tt bd mk n fs un r r1 r2 x y px py x' y' lo hi hi' : Int} {a b : Nat} {A W X Y : Int32}
theorem zSaR_x (eW : W = wh A.toNatClampNeg) (hN : A.toInt < N) (h0 : 0 ≤ A.toInt) (hw : (W.toInt = 6 ∧ 512 ≤ p) ∨ (W.toInt = 7 ∧ p < 512)) (hr : r = 0) : zSaR A5 A43 A44 A45 A61 A62 wh lf nm N d p A.toNatClampNeg r := fun S hS => by
  have e : A.toNatClampNeg = A.toInt.toNat := rfl
  obtain ⟨h6, h7, _⟩ := hS A.toNatClampNeg (by omega)
  rw [← eW] at h6 h7
  refine ⟨fun q => by omega, fun q => ?_⟩
  rcases hw with ⟨w1, w2⟩ | ⟨w1, w2⟩
  · have := ((h6 w1).mp q).1; omega
  · have := ((h7 w1).mp q).1; omega
theorem zSaR_r (eW : W = wh A.toNatClampNeg) (hN : A.toInt < N) (h0 : 0 ≤ A.toInt) (hw : (W.toInt = 6 ∧ p < 512) ∨ (W.toInt = 7 ∧ 512 ≤ p)) (eX : X = lf A.toNatClampNeg) (hi : zSaR A5 A43 A44 A45 A61 A62 wh lf nm N d p X.toNatClampNeg r1) (hr : (r1 = 1 ∧ r = 1) ∨ (r1 ≠ 1 ∧ r = 0)) : zSaR A5 A43 A44 A45 A61 A62 wh lf nm N d p A.toNatClampNeg r := fun S hS => by
  have e : A.toNatClampNeg = A.toInt.toNat := rfl
  have eX' : X.toNatClampNeg = (lf A.toNatClampNeg).toInt.toNat := by rw [eX]; rfl
  have k := hi S hS
  rw [eX'] at k
  obtain ⟨h6, h7, _⟩ := hS A.toNatClampNeg (by omega)
  rw [← eW] at h6 h7
  have z : S A.toNatClampNeg ↔ S (lf A.toNatClampNeg).toInt.toNat := by
    rcases hw with ⟨w1, w2⟩ | ⟨w1, w2⟩
    · exact (h6 w1).trans ⟨fun c => c.2, fun c => ⟨w2, c⟩⟩
    · exact (h7 w1).trans ⟨fun c => c.2, fun c => ⟨w2, c⟩⟩
  rw [z, ← k]
  omega
theorem zSaR_m (eW : W = wh A.toNatClampNeg) (hN : A.toInt < N) (h0 : 0 ≤ A.toInt) (hw : W.toInt = 1 ∨ W.toInt = 2 ∨ W.toInt = 3) (eX : X = nm A.toNatClampNeg) (hr : r = zMt A5 A43 A44 A45 A61 A62 X.toInt d p) : zSaR A5 A43 A44 A45 A61 A62 wh lf nm N d p A.toNatClampNeg r := fun S hS => by
  have e : A.toNatClampNeg = A.toInt.toNat := rfl
  obtain ⟨_, _, h3⟩ := hS A.toNatClampNeg (by omega)
  rw [← eW] at h3
  rw [h3 hw, ← eX, hr]
  exact Iff.rfl
theorem zHpI_0 (h : hi ≤ lo) : zHpI A5 A43 A44 A45 A61 A62 wh lf nm N d lo hi a := fun S hS p h1 h2 => by omega
theorem zHpI_m (g : zHpI A5 A43 A44 A45 A61 A62 wh lf nm N d lo hi a) (e : hi' ≤ hi) : zHpI A5 A43 A44 A45 A61 A62 wh lf nm N d lo hi' a := fun S hS p h1 h2 => g S hS p h1 (by omega)
theorem zHpI_s {P : Int32} (g : zHpI A5 A43 A44 A45 A61 A62 wh lf nm N d lo P.toInt a) (h0 : 0 ≤ P.toInt) (h1 : P.toInt < 1024) (hr : zSaR A5 A43 A44 A45 A61 A62 wh lf nm N d P.toInt a r1) (hn : r1 ≠ 1) (e : hi' = P.toInt + 1) : zHpI A5 A43 A44 A45 A61 A62 wh lf nm N d lo hi' a := fun S hS p h2 h3 => by
  by_cases c : (p : Int) < P.toInt
  · exact g S hS p h2 c
  · have e1 : P.toInt = (p : Int) := by omega
    rw [e1] at hr
    exact fun q => hn ((hr (S p) (hS p (by omega))).mpr q)
theorem zHpR_y {P : Int32} (h0 : 0 ≤ P.toInt) (h1 : P.toInt < 1024) (hp : P.toInt < tt ∨ (512 ≤ P.toInt ∧ P.toInt < 512 + bd)) (hr : zSaR A5 A43 A44 A45 A61 A62 wh lf nm N d P.toInt a r1) (hn : r1 = 1) (e : r = 1) : zHpR A5 A43 A44 A45 A61 A62 wh lf nm N d tt bd a r := fun S hS => by
  have e1 : P.toInt = ((P.toInt.toNat : Nat) : Int) := by omega
  rw [e1] at hr
  exact ⟨fun _ => ⟨P.toInt.toNat, by omega, (hr (S P.toInt.toNat) (hS _ (by omega))).mp hn⟩, fun _ => e⟩
theorem zHpR_n (g1 : zHpI A5 A43 A44 A45 A61 A62 wh lf nm N d 0 x a) (g2 : zHpI A5 A43 A44 A45 A61 A62 wh lf nm N d 512 y a) (h1 : tt ≤ x) (h2 : 512 + bd ≤ y) (e : r = 0) : zHpR A5 A43 A44 A45 A61 A62 wh lf nm N d tt bd a r := fun S hS => by
  refine ⟨fun q => by omega, fun ⟨p, q1, q2⟩ => ?_⟩
  rcases q1 with q1 | ⟨q1, q3⟩
  · exact absurd q2 (g1 S hS p (by omega) (by omega))
  · exact absurd q2 (g2 S hS p (by omega) (by omega))
theorem zLst_0 {S : Nat → Nat → Prop} (h : x = -1000) (h2 : p ≤ fs) : zLst S a fs x p := Or.inl ⟨h, fun q h3 h4 => by omega⟩
theorem zLst_y {S : Nat → Nat → Prop} {P : Int32} (hf : fs ≤ P.toInt) (h : S P.toInt.toNat a) (e : px = P.toInt + 1) : zLst S a fs P.toInt px := Or.inr ⟨hf, by omega, h, fun q h3 h4 => by omega⟩
theorem zLst_n {S : Nat → Nat → Prop} {P : Int32} (g : zLst S a fs x P.toInt) (p0 : 0 ≤ P.toInt) (h : ¬ S P.toInt.toNat a) (e : px = P.toInt + 1) : zLst S a fs x px := by
  have k : ∀ q : Nat, ¬ (q : Int) < P.toInt → (q : Int) < px → ¬ S q a := fun q h1 h2 => by rw [show q = P.toInt.toNat from by omega]; exact h
  rcases g with ⟨g1, g2⟩ | ⟨g1, g2, g3, g4⟩
  · refine Or.inl ⟨g1, fun q h1 h2 => ?_⟩
    by_cases c : (q : Int) < P.toInt
    · exact g2 q h1 c
    · exact k q c h2
  · refine Or.inr ⟨g1, by omega, g3, fun q h1 h2 => ?_⟩
    by_cases c : (q : Int) < P.toInt
    · exact g4 q h1 c
    · exact k q c h2
theorem zNeI_0 (h1 : x = -1000) (h2 : y = -1000) (h3 : p = fs) (h4 : px = fs) (h5 : py = fs) : zNeI A5 A43 A44 A45 A61 A62 wh lf nm N d a b n fs x px y py p := fun S _ => ⟨zLst_0 h1 (by omega), zLst_0 h2 (by omega), fun ⟨p', q', a1, a2, _⟩ => by omega⟩
theorem zNeI_a {P : Int32} (g : zNeI A5 A43 A44 A45 A61 A62 wh lf nm N d a b n fs x P.toInt y py p) (p0 : 0 ≤ P.toInt) (p1 : P.toInt < 1024) (hf : fs ≤ P.toInt) (hr : zSaR A5 A43 A44 A45 A61 A62 wh lf nm N d P.toInt a r1) (hx : (r1 = 1 ∧ x' = P.toInt) ∨ (r1 ≠ 1 ∧ x' = x)) (e : px = P.toInt + 1) : zNeI A5 A43 A44 A45 A61 A62 wh lf nm N d a b n fs x' px y py p := fun S hS => by
  obtain ⟨g1, g2, g3⟩ := g S hS
  have e1 : P.toInt = ((P.toInt.toNat : Nat) : Int) := by omega
  rw [e1] at hr
  have k := hr (S P.toInt.toNat) (hS _ (by omega))
  refine ⟨?_, g2, g3⟩
  rcases hx with ⟨h1, h2⟩ | ⟨h1, h2⟩
  · rw [h2]; exact zLst_y hf (k.mp h1) e
  · rw [h2]; exact zLst_n g1 p0 (fun q => h1 (k.mpr q)) e
theorem zNeI_b {P : Int32} (g : zNeI A5 A43 A44 A45 A61 A62 wh lf nm N d a b n fs x px y P.toInt p) (p0 : 0 ≤ P.toInt) (p1 : P.toInt < 1024) (hf : fs ≤ P.toInt) (hr : zSaR A5 A43 A44 A45 A61 A62 wh lf nm N d P.toInt b r1) (hx : (r1 = 1 ∧ y' = P.toInt) ∨ (r1 ≠ 1 ∧ y' = y)) (e : py = P.toInt + 1) : zNeI A5 A43 A44 A45 A61 A62 wh lf nm N d a b n fs x px y' py p := fun S hS => by
  obtain ⟨g1, g2, g3⟩ := g S hS
  have e1 : P.toInt = ((P.toInt.toNat : Nat) : Int) := by omega
  rw [e1] at hr
  have k := hr (S P.toInt.toNat) (hS _ (by omega))
  refine ⟨g1, ?_, g3⟩
  rcases hx with ⟨h1, h2⟩ | ⟨h1, h2⟩
  · rw [h2]; exact zLst_y hf (k.mp h1) e
  · rw [h2]; exact zLst_n g2 p0 (fun q => h1 (k.mpr q)) e
theorem zNeI_s {p' : Int} (g : zNeI A5 A43 A44 A45 A61 A62 wh lf nm N d a b n fs x px y py p) (ex : px = p + 1) (ey : py = p + 1) (f0 : 0 ≤ fs) (hx : x < fs ∨ y < fs ∨ (x ≠ p ∧ y ≠ p) ∨ n < x - y ∨ n < y - x) (e : p' = p + 1) : zNeI A5 A43 A44 A45 A61 A62 wh lf nm N d a b n fs x p' y p' p' := fun S hS => by
  obtain ⟨g1, g2, g3⟩ := g S hS
  rw [show px = p' from by omega] at g1
  rw [show py = p' from by omega] at g2
  refine ⟨g1, g2, fun ⟨u, v, h1, h2, h3, h4, h5, h6, h7, h8⟩ => ?_⟩
  have gu : fs ≤ x ∧ (u : Int) ≤ x ∧ x < p' := by
    rcases g1 with ⟨_, c⟩ | ⟨c1, c2, c3, c4⟩
    · exact absurd h5 (c u h1 h2)
    · refine ⟨c1, ?_, c2⟩
      rcases Int.lt_or_le x (u : Int) with c | c
      · exact absurd h5 (c4 u c h2)
      · exact c
  have gv : fs ≤ y ∧ (v : Int) ≤ y ∧ y < p' := by
    rcases g2 with ⟨_, c⟩ | ⟨c1, c2, c3, c4⟩
    · exact absurd h6 (c v h3 h4)
    · refine ⟨c1, ?_, c2⟩
      rcases Int.lt_or_le y (v : Int) with c | c
      · exact absurd h6 (c4 v c h4)
      · exact c
  by_cases c : (u : Int) < p ∧ (v : Int) < p
  · exact g3 ⟨u, v, h1, c.1, h3, c.2, h5, h6, h7, h8⟩
  · omega
theorem zNeR_y (g : zNeI A5 A43 A44 A45 A61 A62 wh lf nm N d a b n fs x px y py p) (ex : px ≤ un) (ey : py ≤ un) (f0 : 0 ≤ fs) (h1 : fs ≤ x) (h2 : fs ≤ y) (h3 : x - y ≤ n) (h4 : y - x ≤ n) (e : r = 1) : zNeR A5 A43 A44 A45 A61 A62 wh lf nm N d a b n fs un r := fun S hS => by
  obtain ⟨g1, g2, g3⟩ := g S hS
  refine ⟨fun _ => ?_, fun _ => e⟩
  rcases g1 with ⟨c, _⟩ | ⟨c1, c2, c3, c4⟩
  · omega
  rcases g2 with ⟨d, _⟩ | ⟨d1, d2, d3, d4⟩
  · omega
  exact ⟨x.toNat, y.toNat, by omega, by omega, by omega, by omega, c3, d3, by omega, by omega⟩
theorem zNeR_n (g : zNeI A5 A43 A44 A45 A61 A62 wh lf nm N d a b n fs x px y py p) (h : un ≤ p) (e : r = 0) : zNeR A5 A43 A44 A45 A61 A62 wh lf nm N d a b n fs un r := fun S hS => by
  obtain ⟨g1, g2, g3⟩ := g S hS
  exact ⟨fun q => by omega, fun ⟨u, v, h1, h2, h3, h4, h5⟩ => absurd ⟨u, v, h1, by omega, h3, by omega, h5⟩ g3⟩
variable {S : Nat → Nat → Prop} {V : Nat → Prop}
theorem zVe_g (hV : zVe wh lf rt nm A44 lto S tt bd mk N V) (eW : W = wh A.toNatClampNeg) (hN : A.toInt < N) (h0 : 0 ≤ A.toInt) :
  (W.toInt = 4 → (V A.toNatClampNeg ↔ (A44 (nm A.toNatClampNeg).toInt.toNat).toInt ≤ mk ∧ mk ≤ (lto (nm A.toNatClampNeg).toInt.toNat).toInt)) ∧
  (W.toInt = 5 → (V A.toNatClampNeg ↔ zNev S (lf A.toNatClampNeg).toInt.toNat (rt A.toNatClampNeg).toInt.toNat (nm A.toNatClampNeg).toInt 0 tt ∨ zNev S (lf A.toNatClampNeg).toInt.toNat (rt A.toNatClampNeg).toInt.toNat (nm A.toNatClampNeg).toInt 512 (512 + bd))) ∧
  (W.toInt = 8 → (V A.toNatClampNeg ↔ V (lf A.toNatClampNeg).toInt.toNat ∧ V (rt A.toNatClampNeg).toInt.toNat)) ∧
  (W.toInt = 9 → (V A.toNatClampNeg ↔ V (lf A.toNatClampNeg).toInt.toNat ∨ V (rt A.toNatClampNeg).toInt.toNat)) ∧
  (W.toInt = 10 → (V A.toNatClampNeg ↔ ¬ V (lf A.toNatClampNeg).toInt.toNat)) ∧
  (W.toInt = 11 → (V A.toNatClampNeg ↔ V (lf A.toNatClampNeg).toInt.toNat ∧ ¬ V (rt A.toNatClampNeg).toInt.toNat)) ∧
  (W.toInt = 1 ∨ W.toInt = 2 ∨ W.toInt = 3 ∨ W.toInt = 6 ∨ W.toInt = 7 → (V A.toNatClampNeg ↔ zHpv S tt bd A.toNatClampNeg)) := by
  have e : A.toNatClampNeg = A.toInt.toNat := rfl
  rw [eW]
  exact hV A.toNatClampNeg (by omega)
theorem zImR_4 {Z1 F : Int32} (eW : W = wh A.toNatClampNeg) (hN : A.toInt < N) (h0 : 0 ≤ A.toInt) (hw : W.toInt = 4) (e1 : Z1 = nm A.toNatClampNeg) (e3 : F = A44 Z1.toNatClampNeg) (hc : (F.toInt ≤ mk ∧ mk ≤ (lto (nm A.toNatClampNeg).toInt.toNat).toInt ∧ r = 1) ∨ ((mk < F.toInt ∨ (lto (nm A.toNatClampNeg).toInt.toNat).toInt < mk) ∧ r = 0)) : zImR A5 A43 A44 A45 A61 A62 wh lf nm rt lto N d tt bd mk A.toNatClampNeg r := fun S V hS hV => by
  have k := (zVe_g hV eW hN h0).1 hw
  have eF : (A44 (nm A.toNatClampNeg).toInt.toNat).toInt = F.toInt := by rw [e3, e1]; rfl
  rw [eF] at k
  rw [k]
  omega
theorem zImR_5 {L R : Int32} (eW : W = wh A.toNatClampNeg) (hN : A.toInt < N) (h0 : 0 ≤ A.toInt) (hw : W.toInt = 5) (eL : L = lf A.toNatClampNeg) (eR : R = rt A.toNatClampNeg) (eX : X = nm A.toNatClampNeg) (h1 : zNeR A5 A43 A44 A45 A61 A62 wh lf nm N d L.toNatClampNeg R.toNatClampNeg X.toInt x y r1) (ex : x = 0) (ey : y = tt) (hc : r1 = 1 ∧ r = 1) : zImR A5 A43 A44 A45 A61 A62 wh lf nm rt lto N d tt bd mk A.toNatClampNeg r := fun S V hS hV => by
  have k := (zVe_g hV eW hN h0).2.1 hw
  have q := (h1 S hS).mp hc.1
  rw [eL, eR, eX, ex, ey] at q
  exact ⟨fun _ => k.mpr (Or.inl q), fun _ => hc.2⟩
theorem zImR_5b {L R L2 R2 X2 : Int32} {x0 y0 : Int} (eW : W = wh A.toNatClampNeg) (hN : A.toInt < N) (h0 : 0 ≤ A.toInt) (hw : W.toInt = 5) (eL : L = lf A.toNatClampNeg) (eR : R = rt A.toNatClampNeg) (eX : X = nm A.toNatClampNeg) (h1 : zNeR A5 A43 A44 A45 A61 A62 wh lf nm N d L.toNatClampNeg R.toNatClampNeg X.toInt x y r1) (ex : x = 0) (ey : y = tt) (n1 : r1 ≠ 1) (eL2 : L2 = lf A.toNatClampNeg) (eR2 : R2 = rt A.toNatClampNeg) (eX2 : X2 = nm A.toNatClampNeg) (h2 : zNeR A5 A43 A44 A45 A61 A62 wh lf nm N d L2.toNatClampNeg R2.toNatClampNeg X2.toInt x0 y0 r2) (ex0 : x0 = 512) (ey0 : y0 = 512 + bd) (hc : (r2 = 1 ∧ r = 1) ∨ (r2 ≠ 1 ∧ r = 0)) : zImR A5 A43 A44 A45 A61 A62 wh lf nm rt lto N d tt bd mk A.toNatClampNeg r := fun S V hS hV => by
  have k := (zVe_g hV eW hN h0).2.1 hw
  have q1 := h1 S hS
  have q2 := h2 S hS
  rw [eL, eR, eX, ex, ey] at q1
  rw [eL2, eR2, eX2, ex0, ey0] at q2
  rcases hc with ⟨c1, c2⟩ | ⟨c1, c2⟩
  · exact ⟨fun _ => k.mpr (Or.inr (q2.mp c1)), fun _ => c2⟩
  · refine ⟨fun c => by omega, fun c => ?_⟩
    rcases k.mp c with c | c
    · exact absurd (q1.mpr c) n1
    · exact absurd (q2.mpr c) c1
theorem zImR_h (eW : W = wh A.toNatClampNeg) (hN : A.toInt < N) (h0 : 0 ≤ A.toInt) (hw : W.toInt = 1 ∨ W.toInt = 2 ∨ W.toInt = 3 ∨ W.toInt = 6 ∨ W.toInt = 7) (h1 : zHpR A5 A43 A44 A45 A61 A62 wh lf nm N d tt bd A.toNatClampNeg r) : zImR A5 A43 A44 A45 A61 A62 wh lf nm rt lto N d tt bd mk A.toNatClampNeg r := fun S V hS hV => by
  have k := (zVe_g hV eW hN h0).2.2.2.2.2.2 hw
  rw [k]
  exact h1 S hS
theorem zImR_1 {L : Int32} (eW : W = wh A.toNatClampNeg) (hN : A.toInt < N) (h0 : 0 ≤ A.toInt) (eL : L = lf A.toNatClampNeg) (h1 : zImR A5 A43 A44 A45 A61 A62 wh lf nm rt lto N d tt bd mk L.toNatClampNeg r1) (hc : (W.toInt = 8 ∧ r1 ≠ 1 ∧ r = 0) ∨ (W.toInt = 9 ∧ r1 = 1 ∧ r = 1) ∨ (W.toInt = 10 ∧ r1 = 1 ∧ r = 0) ∨ (W.toInt = 10 ∧ r1 ≠ 1 ∧ r = 1) ∨ (W.toInt = 11 ∧ r1 ≠ 1 ∧ r = 0)) : zImR A5 A43 A44 A45 A61 A62 wh lf nm rt lto N d tt bd mk A.toNatClampNeg r := fun S V hS hV => by
  obtain ⟨_, _, k8, k9, k10, k11, _⟩ := zVe_g hV eW hN h0
  have q := h1 S V hS hV
  have eL' : L.toNatClampNeg = (lf A.toNatClampNeg).toInt.toNat := by rw [eL]; rfl
  rw [eL'] at q
  rcases hc with ⟨c1, c2, c3⟩ | ⟨c1, c2, c3⟩ | ⟨c1, c2, c3⟩ | ⟨c1, c2, c3⟩ | ⟨c1, c2, c3⟩
  · exact ⟨fun c => by omega, fun c => absurd (q.mpr ((k8 c1).mp c).1) c2⟩
  · exact ⟨fun c => (k9 c1).mpr (Or.inl (q.mp c2)), fun c => c3⟩
  · exact ⟨fun c => by omega, fun c => absurd (q.mp c2) ((k10 c1).mp c)⟩
  · exact ⟨fun c => (k10 c1).mpr (fun o => c2 (q.mpr o)), fun c => c3⟩
  · exact ⟨fun c => by omega, fun c => absurd (q.mpr ((k11 c1).mp c).1) c2⟩
theorem zImR_2 {L R : Int32} (eW : W = wh A.toNatClampNeg) (hN : A.toInt < N) (h0 : 0 ≤ A.toInt) (eL : L = lf A.toNatClampNeg) (h1 : zImR A5 A43 A44 A45 A61 A62 wh lf nm rt lto N d tt bd mk L.toNatClampNeg r1) (eR : R = rt A.toNatClampNeg) (h2 : zImR A5 A43 A44 A45 A61 A62 wh lf nm rt lto N d tt bd mk R.toNatClampNeg r2) (hc : (W.toInt = 8 ∧ r1 = 1 ∧ ((r2 = 1 ∧ r = 1) ∨ (r2 ≠ 1 ∧ r = 0))) ∨ (W.toInt = 9 ∧ r1 ≠ 1 ∧ ((r2 = 1 ∧ r = 1) ∨ (r2 ≠ 1 ∧ r = 0))) ∨ (W.toInt = 11 ∧ r1 = 1 ∧ ((r2 = 1 ∧ r = 0) ∨ (r2 ≠ 1 ∧ r = 1)))) : zImR A5 A43 A44 A45 A61 A62 wh lf nm rt lto N d tt bd mk A.toNatClampNeg r := fun S V hS hV => by
  obtain ⟨_, _, k8, k9, k10, k11, _⟩ := zVe_g hV eW hN h0
  have q := h1 S V hS hV
  have q2 := h2 S V hS hV
  have eL' : L.toNatClampNeg = (lf A.toNatClampNeg).toInt.toNat := by rw [eL]; rfl
  have eR' : R.toNatClampNeg = (rt A.toNatClampNeg).toInt.toNat := by rw [eR]; rfl
  rw [eL'] at q
  rw [eR'] at q2
  rcases hc with ⟨c1, c2, c3⟩ | ⟨c1, c2, c3⟩ | ⟨c1, c2, c3⟩
  · rw [k8 c1]
    rcases c3 with ⟨c3, c4⟩ | ⟨c3, c4⟩
    · exact ⟨fun _ => ⟨q.mp c2, q2.mp c3⟩, fun _ => c4⟩
    · exact ⟨fun c => by omega, fun c => absurd (q2.mpr c.2) c3⟩
  · rw [k9 c1]
    rcases c3 with ⟨c3, c4⟩ | ⟨c3, c4⟩
    · exact ⟨fun _ => Or.inr (q2.mp c3), fun _ => c4⟩
    · exact ⟨fun c => by omega, fun c => by
        rcases c with c | c
        · exact absurd (q.mpr c) c2
        · exact absurd (q2.mpr c) c3⟩
  · rw [k11 c1]
    rcases c3 with ⟨c3, c4⟩ | ⟨c3, c4⟩
    · exact ⟨fun c => by omega, fun c => absurd (q2.mp c3) c.2⟩
    · exact ⟨fun _ => ⟨q.mp c2, fun o => c3 (q2.mpr o)⟩, fun _ => c4⟩
end ZSA
def zFrI (A5 A43 A44 A45 A61 A62 wh lf nm rt lto : Nat → Int32) (N : Int) (on tt bd mk : Nat → Int32) (D : Int) (root : Nat) (hits : Nat → Int32) (fd k : Int) : Prop := ∀ (S : Nat → Nat → Nat → Prop) (V : Nat → Nat → Prop), (∀ d : Nat, (d : Int) < D → zSok A5 A43 A44 A45 A61 A62 wh lf nm N (d : Int) (S d) ∧ zVe wh lf rt nm A44 lto (S d) (tt d).toInt (bd d).toInt (mk d).toInt N (V d)) → zHrr hits (fun d => (on d).toInt ≠ 0 ∧ V d root) k.toNat fd
section ZFR
variable {A5 A43 A44 A45 A61 A62 wh lf nm rt lto on tt bd mk hits hits' : Nat → Int32} {N D fd fd' k k' r : Int} {root : Nat} {K Z : Int32}
theorem zFrI_0 (hf : fd = 0) (hk : k = 0) : zFrI A5 A43 A44 A45 A61 A62 wh lf nm rt lto N on tt bd mk D root hits fd k := fun S V _ => by
  subst hk
  exact hf
theorem zFrI_o (g : zFrI A5 A43 A44 A45 A61 A62 wh lf nm rt lto N on tt bd mk D root hits fd K.toInt) (k0 : 0 ≤ K.toInt) (eZ : Z = on K.toNatClampNeg) (hz : Z.toInt = 0) (hk : k' = K.toInt + 1) : zFrI A5 A43 A44 A45 A61 A62 wh lf nm rt lto N on tt bd mk D root hits fd k' := fun S V h => by
  have g4 := g S V h
  have e : k'.toNat = K.toInt.toNat + 1 := by omega
  have z : (on K.toInt.toNat).toInt = 0 := by rw [← hz, eZ]; rfl
  rw [e]
  exact Or.inr ⟨fun q => q.1 z, g4⟩
theorem zFrI_d (g : zFrI A5 A43 A44 A45 A61 A62 wh lf nm rt lto N on tt bd mk D root hits fd K.toInt) (k0 : 0 ≤ K.toInt) (k1 : K.toInt < D) (D1 : D ≤ 120) (eZ : Z = on K.toNatClampNeg) (hz : Z.toInt ≠ 0) (hr : zImR A5 A43 A44 A45 A61 A62 wh lf nm rt lto N K.toInt (tt K.toNatClampNeg).toInt (bd K.toNatClampNeg).toInt (mk K.toNatClampNeg).toInt root r) (hE : (r = 1 ∧ zKpt hits fd K hits' fd') ∨ (r ≠ 1 ∧ hits' = hits ∧ fd' = fd)) (hk : k' = K.toInt + 1) : zFrI A5 A43 A44 A45 A61 A62 wh lf nm rt lto N on tt bd mk D root hits' fd' k' := fun S V h => by
  have g4 := g S V h
  have e : k'.toNat = K.toInt.toNat + 1 := by omega
  have eK : K.toNatClampNeg = K.toInt.toNat := rfl
  have z : (on K.toInt.toNat).toInt ≠ 0 := by rw [← eK, ← eZ]; exact hz
  obtain ⟨h1, h2⟩ := h K.toInt.toNat (by omega)
  rw [show ((K.toInt.toNat : Nat) : Int) = K.toInt from by omega] at h1
  have q := hr (S K.toInt.toNat) (V K.toInt.toNat) h1 h2
  have b := zHrr_b g4
  rw [e]
  rcases hE with ⟨q1, q2⟩ | ⟨q1, q2, q3⟩
  · obtain ⟨a1, a2⟩ := q2 (by omega)
    exact zHrr_y g4 ⟨z, q.mp q1⟩ a1 a2 (by omega)
  · rw [q2, q3]
    exact Or.inr ⟨fun c => q1 (q.mpr c.2), g4⟩
theorem zFrI_e (g : zFrI A5 A43 A44 A45 A61 A62 wh lf nm rt lto N on tt bd mk D root hits fd k) (h1 : k ≤ D) (h2 : D ≤ k) : zFrI A5 A43 A44 A45 A61 A62 wh lf nm rt lto N on tt bd mk D root hits fd D := by
  have e : k = D := by omega
  rw [e] at g
  exact g
theorem zFrI_c {root' : Nat} (g : zFrI A5 A43 A44 A45 A61 A62 wh lf nm rt lto N on tt bd mk D root hits fd k) (e : root' = root) : zFrI A5 A43 A44 A45 A61 A62 wh lf nm rt lto N on tt bd mk D root' hits fd k := by rw [e]; exact g
end ZFR
