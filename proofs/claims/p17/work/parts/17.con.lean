def zqBk (b : Int) : Prop := b = 32 ∨ b = 10
def zBq (f : Nat → Int32) (p q : Int) : Prop := ∀ j : Nat, p ≤ (j : Int) → (j : Int) < q → zqBk (f j).toInt
def zBl (f : Nat → Int32) (n p q : Int) : Prop := p ≤ q ∧ zBq f p q ∧ (q < n → ¬ zqBk (f q.toNat).toInt) ∧ (q ≤ n ∨ q = p)
def zqRe (f : Nat → Int32) (n p q : Int) : Prop := p ≤ q ∧ zAt f p q ∧ (q < n → ¬ zTok (f q.toNat).toInt) ∧ (q ≤ n ∨ q = p)
def zqTy (f : Nat → Int32) (n : Int) : Prop := ∀ j : Nat, (j : Int) < n → -128 ≤ (f j).toInt ∧ (f j).toInt ≤ 127
theorem zBq_0 {f : Nat → Int32} {p q : Int} (h : q ≤ p) : zBq f p q := fun j a b => by omega
theorem zBq_s {f : Nat → Int32} {p c : Int} {k z : Int32} (h : zBq f p k.toInt) (e : z = f k.toNatClampNeg) (hz : zqBk z.toInt) (h0 : 0 ≤ k.toInt) (hc : c = k.toInt + 1) : zBq f p c := fun j q1 q2 => by
  by_cases d : (j : Int) < k.toInt
  · exact h j q1 d
  · have q : j = k.toNatClampNeg := by have q : k.toNatClampNeg = k.toInt.toNat := rfl; omega
    rw [q, ← e]; exact hz
theorem zBl_i {f : Nat → Int32} {n p : Int} {k : Int32} (h : zBq f p k.toInt) (h1 : p ≤ k.toInt) (h2 : k.toInt ≤ n ∨ k.toInt = p) (h3 : k.toInt < n → ¬ zqBk (f k.toNatClampNeg).toInt) : zBl f n p k.toInt := ⟨h1, h, h3, h2⟩
theorem zBk_n {f : Nat → Int32} {k z y : Int32} (e : z = f k.toNatClampNeg) (e2 : y = f k.toNatClampNeg) (h : z.toInt ≠ 32) (h2 : y.toInt ≠ 10) : ¬ zqBk (f k.toNatClampNeg).toInt := fun q => by
  unfold zqBk at q
  rw [← e] at q
  rw [e, ← e2] at q h
  omega
theorem zBl_u {f : Nat → Int32} {n p q r : Int} (hp : 0 ≤ p) (h : zBl f n p q) (h' : zBl f n p r) : q = r := by
  obtain ⟨a1, a2, a3, a4⟩ := h
  obtain ⟨b1, b2, b3, b4⟩ := h'
  rcases Int.lt_trichotomy q r with c | c | c
  · exact absurd (b2 q.toNat (by omega) (by omega)) (a3 (by omega))
  · exact c
  · exact absurd (a2 r.toNat (by omega) (by omega)) (b3 (by omega))
theorem zRe_u {f : Nat → Int32} {n p q r : Int} (hp : 0 ≤ p) (h : zqRe f n p q) (h' : zqRe f n p r) : q = r := by
  obtain ⟨a1, a2, a3, a4⟩ := h
  obtain ⟨b1, b2, b3, b4⟩ := h'
  rcases Int.lt_trichotomy q r with c | c | c
  · exact absurd (b2 q.toNat (by omega) (by omega)) (a3 (by omega))
  · exact c
  · exact absurd (a2 r.toNat (by omega) (by omega)) (b3 (by omega))
theorem zAt_e {f : Nat → Int32} {n p i j : Int} (h : zAt f p i) (h1 : zIn f n i) (e : j = i + 1) : zAt f p j := fun k q1 q2 => by
  by_cases d : (k : Int) < i
  · exact h k q1 d
  · have q := h1.2.2; rw [show i.toNat = k from by omega] at q; exact q
def zCsT : List (List Int) := [[105, 101, 115], [105, 110, 103], [101, 100], [115], [115, 115], [117, 115], [105, 115], [111, 114], [97, 110, 100], [110, 111, 116], [110, 101, 97, 114], [116, 105, 116, 108, 101], [98, 111, 100, 121]]
def zqCs (s : Nat) (k : Int) : Int := (zCsT.getD s []).getD k.toNat 0
theorem zcs9 {s : Nat} {x z8 z12 z13 : Int32} (hs : s < 13) (e8 : z8 = (zSbyt.getD s []).getD x.toNatClampNeg 0) (e12 : z12 = z8 &&& 255) (e13 : z13 = (z12.toUInt32 % 65536).toInt32) (h1 : x.toNatClampNeg < 5) : z13.toInt = zqCs s x.toInt := by
  have key : ∀ s, s < 13 → ∀ n, n < 5 → ((((zSbyt.getD s []).getD n 0) &&& 255).toUInt32 % 65536).toInt32.toInt = (zCsT.getD s []).getD n 0 := by decide +kernel
  rw [e13, e12, e8]
  exact key s hs x.toNatClampNeg h1
def zSq (f : Nat → Int32) (p : Int) (s : Nat) (k : Int) : Prop := ∀ j : Nat, (j : Int) < k → (f (p.toNat + j) ||| 32).toInt = zqCs s j
def zSpl (f : Nat → Int32) (p e : Int) (s : Nat) (l : Int) : Prop := e - p = l ∧ zSq f p s l
theorem zSq_0 {f : Nat → Int32} {p k : Int} {s : Nat} (h : k ≤ 0) : zSq f p s k := fun j hj => by omega
theorem zSq_s {f : Nat → Int32} {p c : Int} {s : Nat} {k i z y : Int32} (h : zSq f p s k.toInt) (e : z = f i.toNatClampNeg) (ey : y = z ||| 32) (hi : i.toInt = p + k.toInt) (hp : 0 ≤ p) (hk : 0 ≤ k.toInt) (hy : y.toInt = zqCs s k.toInt) (hc : c = k.toInt + 1) : zSq f p s c := fun j hj => by
  by_cases d : (j : Int) < k.toInt
  · exact h j d
  · have q : i.toNatClampNeg = p.toNat + j := by have q : i.toNatClampNeg = i.toInt.toNat := rfl; omega
    rw [← q, ← e, ← ey, hy, show (j : Int) = k.toInt from by omega]
theorem zSpl_n {f : Nat → Int32} {p b l : Int} {s : Nat} {k i z y : Int32} (e : z = f i.toNatClampNeg) (ey : y = z ||| 32) (hi : i.toInt = p + k.toInt) (hp : 0 ≤ p) (hk : 0 ≤ k.toInt) (hl : k.toInt < l) (hy : y.toInt ≠ zqCs s k.toInt) : ¬ zSpl f p b s l := fun q => by
  have q1 := q.2 k.toNatClampNeg (by have q : k.toNatClampNeg = k.toInt.toNat := rfl; omega)
  have q2 : i.toNatClampNeg = p.toNat + k.toNatClampNeg := by have q : i.toNatClampNeg = i.toInt.toNat := rfl; have q' : k.toNatClampNeg = k.toInt.toNat := rfl; omega
  rw [← q2, ← e, ← ey, show ((k.toNatClampNeg : Nat) : Int) = k.toInt from zclamp hk] at q1
  exact hy q1
def zqCo (f : Nat → Int32) (n c : Int) : Prop := c < n ∧ (f c.toNat).toInt = 58
theorem zand256 (b : Int32) : (b &&& 255).toInt = b.toInt % 256 := by
  have h2 : (b &&& 255).toBitVec.toNat = b.toBitVec.toNat &&& 255 := rfl
  have h3 : b.toBitVec.toNat &&& 255 = b.toBitVec.toNat % 256 := Nat.and_two_pow_sub_one_eq_mod b.toBitVec.toNat 8
  have h4 := ztoi (b &&& 255)
  have h5 := ztoi b
  have h6 : b.toBitVec.toNat % 256 < 256 := Nat.mod_lt _ (by decide)
  rw [h2, h3] at h4
  rw [if_pos (by omega)] at h4
  rw [h4, h5]
  split <;> omega
theorem zqCo_i {f : Nat → Int32} {n r : Int} {c : Int32} {Z : Prop} (hb : zqTy f n) (h : 0 ≤ c.toInt ∧ c.toInt < n → r = (f c.toNatClampNeg &&& 255).toInt) (h1 : r ≠ -1 → 0 ≤ c.toInt ∧ c.toInt < n ∧ Z) (hr : r = 58) : zqCo f n c.toInt := by
  have q := h1 (by omega)
  have q2 := h ⟨q.1, q.2.1⟩
  have q3 : c.toNatClampNeg = c.toInt.toNat := rfl
  have q4 := hb c.toNatClampNeg (by omega)
  rw [zand256] at q2
  exact ⟨q.2.1, show (f c.toNatClampNeg).toInt = 58 by omega⟩
theorem zqCo_n {f : Nat → Int32} {n r : Int} {c : Int32} (hb : zqTy f n) (h : 0 ≤ c.toInt ∧ c.toInt < n → r = (f c.toNatClampNeg &&& 255).toInt) (h0 : 0 ≤ c.toInt) (hr : r ≠ 58) : ¬ zqCo f n c.toInt := fun y => by
  have q2 := h ⟨h0, y.1⟩
  rw [zand256] at q2
  have q3 : (f c.toNatClampNeg).toInt = 58 := y.2
  omega
def zFc (f : Nat → Int32) (n e : Int) : Prop := ∃ c, zBl f n e c ∧ zqCo f n c
def zKw (f : Nat → Int32) (n p e k b : Int) : Prop :=
  (zSpl f p e 7 2 ∧ k = 258 ∧ b = e) ∨ (¬ zSpl f p e 7 2 ∧ (
  (zSpl f p e 8 3 ∧ k = 259 ∧ b = e) ∨ (¬ zSpl f p e 8 3 ∧ (
  (zSpl f p e 9 3 ∧ k = 260 ∧ b = e) ∨ (¬ zSpl f p e 9 3 ∧ (
  (zSpl f p e 10 4 ∧ k = 261 ∧ b = e) ∨ (¬ zSpl f p e 10 4 ∧ (
  (∃ c, zBl f n e c ∧ zqCo f n c ∧ b = c + 1 ∧ ((zSpl f p e 11 5 ∧ k = 262) ∨ (¬ zSpl f p e 11 5 ∧ zSpl f p e 12 4 ∧ k = 263))) ∨
  (¬ ((zSpl f p e 11 5 ∨ zSpl f p e 12 4) ∧ zFc f n e) ∧ k = 257 ∧ b = e)))))))))
def zDd (f : Nat → Int32) (n p : Int) : Prop := (f p.toNat).toInt = 46 ∧ p + 1 < n ∧ (f (p + 1).toNat).toInt = 46
def zLk (f : Nat → Int32) (n p k b : Int) : Prop :=
  (n ≤ p ∧ k = 256 ∧ b = p + 1) ∨ (p < n ∧ zTok (f p.toNat).toInt ∧ ∃ e, zqRe f n p e ∧ zKw f n p e k b)
  ∨ (p < n ∧ ¬ zTok (f p.toNat).toInt ∧ zDd f n p ∧ k = 264 ∧ b = p + 2)
  ∨ (p < n ∧ ¬ zTok (f p.toNat).toInt ∧ ¬ zDd f n p ∧ k = (f p.toNat).toInt % 256 ∧ b = p + 1)
theorem zKw_u {f : Nat → Int32} {n p e k b k' b' : Int} (he : 0 ≤ e) (h : zKw f n p e k b) (h' : zKw f n p e k' b') : k = k' ∧ b = b' := by
  rcases h with h | ⟨g, h⟩ <;> rcases h' with h' | ⟨g', h'⟩
  · exact ⟨by rw [h.2.1, h'.2.1], by rw [h.2.2, h'.2.2]⟩
  · exact absurd h.1 g'
  · exact absurd h'.1 g
  rcases h with h | ⟨g, h⟩ <;> rcases h' with h' | ⟨g', h'⟩
  · exact ⟨by rw [h.2.1, h'.2.1], by rw [h.2.2, h'.2.2]⟩
  · exact absurd h.1 g'
  · exact absurd h'.1 g
  rcases h with h | ⟨g, h⟩ <;> rcases h' with h' | ⟨g', h'⟩
  · exact ⟨by rw [h.2.1, h'.2.1], by rw [h.2.2, h'.2.2]⟩
  · exact absurd h.1 g'
  · exact absurd h'.1 g
  rcases h with h | ⟨g, h⟩ <;> rcases h' with h' | ⟨g', h'⟩
  · exact ⟨by rw [h.2.1, h'.2.1], by rw [h.2.2, h'.2.2]⟩
  · exact absurd h.1 g'
  · exact absurd h'.1 g
  rcases h with ⟨c, a1, a2, a3, a4⟩ | ⟨a1, a2, a3⟩ <;> rcases h' with ⟨c', b1, b2, b3, b4⟩ | ⟨b1, b2, b3⟩
  · have q := zBl_u he a1 b1
    refine ⟨?_, by rw [a3, b3, q]⟩
    rcases a4 with a4 | a4 <;> rcases b4 with b4 | b4
    · rw [a4.2, b4.2]
    · exact absurd a4.1 b4.1
    · exact absurd b4.1 a4.1
    · rw [a4.2.2, b4.2.2]
  · refine absurd ⟨?_, c, a1, a2⟩ b1
    rcases a4 with a4 | a4
    · exact Or.inl a4.1
    · exact Or.inr a4.2.1
  · refine absurd ⟨?_, c', b1, b2⟩ a1
    rcases b4 with b4 | b4
    · exact Or.inl b4.1
    · exact Or.inr b4.2.1
  · exact ⟨by rw [a2, b2], by rw [a3, b3]⟩
theorem zLk_u {f : Nat → Int32} {n p k b k' b' : Int} (hp : 0 ≤ p) (h : zLk f n p k b) (h' : zLk f n p k' b') : k = k' ∧ b = b' := by
  rcases h with h | ⟨h1, h2, e, h3, h4⟩ | h | h <;> rcases h' with h' | ⟨g1, g2, e', g3, g4⟩ | h' | h'
  · exact ⟨by rw [h.2.1, h'.2.1], by rw [h.2.2, h'.2.2]⟩
  · omega
  · omega
  · omega
  · omega
  · have q := zRe_u hp h3 g3
    subst q
    exact zKw_u (by have q1 := h3.1; omega) h4 g4
  · exact absurd h2 h'.2.1
  · exact absurd h2 h'.2.1
  · omega
  · exact absurd g2 h.2.1
  · exact ⟨by rw [h.2.2.2.1, h'.2.2.2.1], by rw [h.2.2.2.2, h'.2.2.2.2]⟩
  · exact absurd h.2.2.1 h'.2.2.1
  · omega
  · exact absurd g2 h.2.1
  · exact absurd h'.2.2.1 h.2.2.1
  · exact ⟨by rw [h.2.2.2.1, h'.2.2.2.1], by rw [h.2.2.2.2, h'.2.2.2.2]⟩
theorem zFc_n {f : Nat → Int32} {n e c : Int} (h : zBl f n e c) (hc : ¬ zqCo f n c) (he : 0 ≤ e) : ¬ zFc f n e := fun ⟨d, q1, q2⟩ => by
  rw [zBl_u he q1 h] at q2
  exact hc q2
section ZAt
variable {f : Nat → Int32} {n r v : Int} {c : Int32}
theorem zat_n (h : 0 ≤ c.toInt ∧ c.toInt < n → r = (f c.toNatClampNeg &&& 255).toInt) (hr : r = -1) (h0 : 0 ≤ c.toInt) : n ≤ c.toInt := by
  by_cases d : c.toInt < n
  · have q := h ⟨h0, d⟩
    rw [zand256] at q
    omega
  · omega
theorem zat_m (h : 0 ≤ c.toInt ∧ c.toInt < n → r = (f c.toNatClampNeg &&& 255).toInt) (h0 : 0 ≤ c.toInt) (h1 : c.toInt < n) : r = (f c.toInt.toNat).toInt % 256 := by
  have q := h ⟨h0, h1⟩
  rw [zand256] at q
  exact q
theorem zat_v (hb : zqTy f n) (h : 0 ≤ c.toInt ∧ c.toInt < n → r = (f c.toNatClampNeg &&& 255).toInt) (h0 : 0 ≤ c.toInt) (h1 : c.toInt < n) (hr : r = v) (h2 : 0 ≤ v) (h3 : v ≤ 127) : (f c.toInt.toNat).toInt = v := by
  have q := zat_m h h0 h1
  have q2 := hb c.toInt.toNat (by omega)
  omega
theorem zDd_y {d : Int32} {rd : Int} (hb : zqTy f n) (h : 0 ≤ c.toInt ∧ c.toInt < n → r = (f c.toNatClampNeg &&& 255).toInt) (g : 0 ≤ d.toInt ∧ d.toInt < n → rd = (f d.toNatClampNeg &&& 255).toInt) (h0 : 0 ≤ c.toInt) (h1 : c.toInt < n) (e : d.toInt = c.toInt + 1) (hd : d.toInt < n) (hr : r = 46) (hr2 : rd = 46) : zDd f n c.toInt :=
  ⟨zat_v hb h h0 h1 hr (by omega) (by omega), by omega, by rw [← e]; exact zat_v hb g (by omega) hd hr2 (by omega) (by omega)⟩
theorem zDd_a (h : 0 ≤ c.toInt ∧ c.toInt < n → r = (f c.toNatClampNeg &&& 255).toInt) (h0 : 0 ≤ c.toInt) (h1 : c.toInt < n) (hr : r ≠ 46) : ¬ zDd f n c.toInt := fun q => by
  have q1 := zat_m h h0 h1
  have q2 := q.1
  omega
theorem zDd_b {d : Int32} {rd : Int} (g : 0 ≤ d.toInt ∧ d.toInt < n → rd = (f d.toNatClampNeg &&& 255).toInt) (h0 : 0 ≤ c.toInt) (e : d.toInt = c.toInt + 1) (hr : rd ≠ 46) : ¬ zDd f n c.toInt := fun q => by
  have q1 := zat_m g (by omega) (by have q2 := q.2.1; omega)
  have q2 := q.2.2
  rw [e] at q1
  omega
end ZAt
theorem zgu {f : Nat → Int32} {n c r : Int} {i : Int32} (e : r = (f i.toNatClampNeg).toInt) (h : i.toInt = n) (hc : r = c) : (f n.toNat).toInt = c := by
  have q : i.toNatClampNeg = n.toNat := by have q : i.toNatClampNeg = i.toInt.toNat := rfl; omega
  rw [← q, ← e]; exact hc
def zMl (f : Nat → Int32) (n p h b : Int) : Prop :=
  (n ≤ p ∧ h = 0) ∨ (p < n ∧ zTok (f p.toNat).toInt ∧ h = 1 ∧ zqRe f n p b)
  ∨ (p < n ∧ ¬ zTok (f p.toNat).toInt ∧ zDd f n p ∧ h = 3 ∧ b = p + 2)
  ∨ (p < n ∧ ¬ zTok (f p.toNat).toInt ∧ ¬ zDd f n p ∧ h = 2 ∧ b = p + 1)
theorem zBq_t {f : Nat → Int32} {p i j : Int} (h : zBq f p i) (hz : zqBk (f i.toNat).toInt) (h0 : 0 ≤ i) (hj : j = i + 1) : zBq f p j := fun k q1 q2 => by
  by_cases d : (k : Int) < i
  · exact h k q1 d
  · rw [show k = i.toNat from by omega]; exact hz
def zSpm (f : Nat → Int32) (p e : Int) (s : Nat) (l : Int) : Prop := e - p = l ∧ ∀ j : Nat, (j : Int) < l → zSml (f (p.toNat + j)).toInt = zqCs s j
theorem zor32 {b : Int32} (h : zTok b.toInt) : (b ||| 32).toInt = zSml b.toInt := by
  have key : ∀ m : Nat, m < 128 → ((48 ≤ m ∧ m ≤ 57) ∨ (97 ≤ m ∧ m ≤ 122) ∨ (65 ≤ m ∧ m ≤ 90)) → ((Int32.ofNat m) ||| 32).toInt = if 65 ≤ m ∧ m ≤ 90 then (m : Int) + 32 else (m : Int) := by decide +kernel
  have h0 : 0 ≤ b.toInt ∧ b.toInt ≤ 122 := by unfold zTok at h; omega
  have e : b = Int32.ofNat b.toInt.toNat := by
    apply zeqi.mpr
    rw [show (Int32.ofNat b.toInt.toNat).toInt = (b.toInt.toNat : Int) from Int32.toInt_ofNat_of_lt (by omega)]
    omega
  have k := key b.toInt.toNat (by omega) (by unfold zTok at h; omega)
  rw [← e] at k
  rw [k]
  unfold zSml
  split <;> split <;> omega
theorem zSpl_m {f : Nat → Int32} {p e l : Int} {s : Nat} (ha : zAt f p e) (h0 : 0 ≤ p) : zSpl f p e s l ↔ zSpm f p e s l := by
  constructor
  · intro h
    refine ⟨h.1, fun j hj => ?_⟩
    have q := h.2 j hj
    rw [zor32 (ha _ (by omega) (by have q1 := h.1; omega))] at q
    exact q
  · intro h
    refine ⟨h.1, fun j hj => ?_⟩
    have q := h.2 j hj
    rw [zor32 (ha _ (by omega) (by have q1 := h.1; omega))]
    exact q
def zSg (f : Nat → Int32) (p h c : Int) : Prop := h = 2 ∧ (f p.toNat).toInt = c
def zSs (f : Nat → Int32) (p : Int) : Int := zSml (f p.toNat).toInt
theorem zss {f : Nat → Int32} {p a r : Int} {i z : Int32} (e : z = f i.toNatClampNeg) (hr : r = zSml z.toInt) (hi : i.toInt = p) (ha : r = a) : zSs f p = a := by
  subst hi
  show zSml (f i.toNatClampNeg).toInt = a
  rw [← e, ← hr, ha]
def zMr (f : Nat → Int32) (p q h a b c d g : Int) : Prop := h = 1 ∧ ∃ k : Int, ((g ≠ 0 ∧ k = 5) ∨ (g = 0 ∧ d ≠ 0 ∧ k = 4) ∨ (g = 0 ∧ d = 0 ∧ c ≠ 0 ∧ k = 3) ∨ (g = 0 ∧ d = 0 ∧ c = 0 ∧ k = 2)) ∧ q - p = k ∧ zSs f p = a ∧ zSs f (p + 1) = b ∧ (k < 3 ∨ zSs f (p + 2) = c) ∧ (k < 4 ∨ zSs f (p + 3) = d) ∧ (k < 5 ∨ zSs f (p + 4) = g)
section ZMr
variable {f : Nat → Int32} {p q h a b c d g r : Int} {i z : Int32}
theorem zMr_h (e : h ≠ 1) : ¬ zMr f p q h a b c d g := fun y => e y.1
theorem zMr_k (e : ∀ k : Int, ((g ≠ 0 ∧ k = 5) ∨ (g = 0 ∧ d ≠ 0 ∧ k = 4) ∨ (g = 0 ∧ d = 0 ∧ c ≠ 0 ∧ k = 3) ∨ (g = 0 ∧ d = 0 ∧ c = 0 ∧ k = 2)) → q - p ≠ k) : ¬ zMr f p q h a b c d g := fun ⟨_, k, y1, y2, _⟩ => e k y1 y2
theorem zMr_0 (e : z = f i.toNatClampNeg) (hr : r = zSml z.toInt) (hi : i.toInt = p) (ha : r ≠ a) : ¬ zMr f p q h a b c d g := fun ⟨_, k, y1, y2, y3, _⟩ => ha ((zss e hr hi rfl).symm.trans y3)
theorem zMr_1 (e : z = f i.toNatClampNeg) (hr : r = zSml z.toInt) (hi : i.toInt = p + 1) (ha : r ≠ b) : ¬ zMr f p q h a b c d g := fun ⟨_, k, y1, y2, y3, y4, _⟩ => ha ((zss e hr hi rfl).symm.trans y4)
theorem zMr_2 (e : z = f i.toNatClampNeg) (hr : r = zSml z.toInt) (hi : i.toInt = p + 2) (hk : g ≠ 0 ∨ d ≠ 0 ∨ c ≠ 0) (ha : r ≠ c) : ¬ zMr f p q h a b c d g := fun ⟨_, k, y1, y2, y3, y4, y5, _⟩ => ha ((zss e hr hi rfl).symm.trans (y5.resolve_left (by omega)))
theorem zMr_3 (e : z = f i.toNatClampNeg) (hr : r = zSml z.toInt) (hi : i.toInt = p + 3) (hk : g ≠ 0 ∨ d ≠ 0) (ha : r ≠ d) : ¬ zMr f p q h a b c d g := fun ⟨_, k, y1, y2, y3, y4, y5, y6, _⟩ => ha ((zss e hr hi rfl).symm.trans (y6.resolve_left (by omega)))
theorem zMr_4 (e : z = f i.toNatClampNeg) (hr : r = zSml z.toInt) (hi : i.toInt = p + 4) (hk : g ≠ 0) (ha : r ≠ g) : ¬ zMr f p q h a b c d g := fun ⟨_, k, y1, y2, y3, y4, y5, y6, y7⟩ => ha ((zss e hr hi rfl).symm.trans (y7.resolve_left (by omega)))
end ZMr
section ZSw
variable {f : Nat → Int32} {p q h : Int}
theorem zSs_j (h0 : 0 ≤ p) (j : Nat) : zSml (f (p.toNat + j)).toInt = zSs f (p + j) := by
  unfold zSs
  rw [show (p + (j : Int)).toNat = p.toNat + j from by omega]
theorem zMr_or (h0 : 0 ≤ p) : zMr f p q h 111 114 0 0 0 ↔ h = 1 ∧ zSpm f p q 7 2 := by
  constructor
  · rintro ⟨e, k, y1, y2, y3, y4, y5, y6, y7⟩
    refine ⟨e, by omega, fun j hj => ?_⟩
    rw [zSs_j h0]
    match j, hj with
    | 0, _ => rw [show p + ((0 : Nat) : Int) = p from by omega, y3]; decide
    | 1, _ => exact y4.trans (by decide)
    | j + 2, hj => omega
  · rintro ⟨e, y1, y2⟩
    have a0 := y2 0 (by omega)
    have a1 := y2 1 (by omega)
    rw [zSs_j h0] at a0 a1
    rw [show p + ((0 : Nat) : Int) = p from by omega] at a0
    exact ⟨e, 2, by omega, y1, a0.trans (by decide), a1.trans (by decide), by omega, by omega, by omega⟩
theorem zMr_3l {a b c : Int} {s : Nat} (h0 : 0 ≤ p) (e0 : zqCs s 0 = a) (e1 : zqCs s 1 = b) (e2 : zqCs s 2 = c) (hc : c ≠ 0) : zMr f p q h a b c 0 0 ↔ h = 1 ∧ zSpm f p q s 3 := by
  constructor
  · rintro ⟨e, k, y1, y2, y3, y4, y5, y6, y7⟩
    have y5 := y5.resolve_left (by omega)
    refine ⟨e, by omega, fun j hj => ?_⟩
    rw [zSs_j h0]
    match j, hj with
    | 0, _ => rw [show p + ((0 : Nat) : Int) = p from by omega, y3]; exact e0.symm
    | 1, _ => exact y4.trans e1.symm
    | 2, _ => exact y5.trans e2.symm
    | j + 3, hj => omega
  · rintro ⟨e, y1, y2⟩
    have a0 := y2 0 (by omega)
    have a1 := y2 1 (by omega)
    have a2 := y2 2 (by omega)
    rw [zSs_j h0] at a0 a1 a2
    rw [show p + ((0 : Nat) : Int) = p from by omega] at a0
    exact ⟨e, 3, by omega, y1, a0.trans e0, a1.trans e1, Or.inr (a2.trans e2), by omega, by omega⟩
theorem zMr_4l {a b c d : Int} {s : Nat} (h0 : 0 ≤ p) (e0 : zqCs s 0 = a) (e1 : zqCs s 1 = b) (e2 : zqCs s 2 = c) (e3 : zqCs s 3 = d) (hd : d ≠ 0) : zMr f p q h a b c d 0 ↔ h = 1 ∧ zSpm f p q s 4 := by
  constructor
  · rintro ⟨e, k, y1, y2, y3, y4, y5, y6, y7⟩
    have y5 := y5.resolve_left (by omega)
    have y6 := y6.resolve_left (by omega)
    refine ⟨e, by omega, fun j hj => ?_⟩
    rw [zSs_j h0]
    match j, hj with
    | 0, _ => rw [show p + ((0 : Nat) : Int) = p from by omega, y3]; exact e0.symm
    | 1, _ => exact y4.trans e1.symm
    | 2, _ => exact y5.trans e2.symm
    | 3, _ => exact y6.trans e3.symm
    | j + 4, hj => omega
  · rintro ⟨e, y1, y2⟩
    have a0 := y2 0 (by omega)
    have a1 := y2 1 (by omega)
    have a2 := y2 2 (by omega)
    have a3 := y2 3 (by omega)
    rw [zSs_j h0] at a0 a1 a2 a3
    rw [show p + ((0 : Nat) : Int) = p from by omega] at a0
    exact ⟨e, 4, by omega, y1, a0.trans e0, a1.trans e1, Or.inr (a2.trans e2), Or.inr (a3.trans e3), by omega⟩
theorem zMr_ti (h0 : 0 ≤ p) : zMr f p q h 116 105 116 108 101 ↔ h = 1 ∧ zSpm f p q 11 5 := by
  constructor
  · rintro ⟨e, k, y1, y2, y3, y4, y5, y6, y7⟩
    have y5 := y5.resolve_left (by omega)
    have y6 := y6.resolve_left (by omega)
    have y7 := y7.resolve_left (by omega)
    refine ⟨e, by omega, fun j hj => ?_⟩
    rw [zSs_j h0]
    match j, hj with
    | 0, _ => rw [show p + ((0 : Nat) : Int) = p from by omega, y3]; decide
    | 1, _ => exact y4.trans (by decide)
    | 2, _ => exact y5.trans (by decide)
    | 3, _ => exact y6.trans (by decide)
    | 4, _ => exact y7.trans (by decide)
    | j + 5, hj => omega
  · rintro ⟨e, y1, y2⟩
    have a0 := y2 0 (by omega)
    have a1 := y2 1 (by omega)
    have a2 := y2 2 (by omega)
    have a3 := y2 3 (by omega)
    have a4 := y2 4 (by omega)
    rw [zSs_j h0] at a0 a1 a2 a3 a4
    rw [show p + ((0 : Nat) : Int) = p from by omega] at a0
    exact ⟨e, 5, by omega, y1, a0.trans (by decide), a1.trans (by decide), Or.inr (a2.trans (by decide)), Or.inr (a3.trans (by decide)), Or.inr (a4.trans (by decide))⟩
end ZSw
theorem zqfl {x y z w v : Int32} (e1 : z = 1000 * x) (e2 : w = z + y) (e3 : v = w + 1) (h1 : 1 ≤ x.toInt) (h2 : x.toInt ≤ 4) (h3 : 0 ≤ y.toInt) (h4 : y.toInt ≤ 700) : v.toInt ≠ 0 := by
  have b1 := zmul (by decide : (1000 : Int32).toInt = 1000) rfl e1 (by omega) (by omega)
  have b2 := zadd rfl rfl e2 (by omega) (by omega)
  have b3 := zadd rfl (by decide : (1 : Int32).toInt = 1) e3 (by omega) (by omega)
  omega
def zSa (f : Nat → Int32) (n i r : Int) : Prop := (0 ≤ i ∧ i < n → r = (f i.toNat).toInt) ∧ (i < 0 ∨ n ≤ i → r = -1)
theorem zSa_y {f : Nat → Int32} {n : Int} {i r : Int32} (e : r = f i.toNatClampNeg) (h0 : 0 ≤ i.toInt) (h : i.toInt < n) : zSa f n i.toInt r.toInt := ⟨fun _ => by rw [e]; rfl, fun q => by omega⟩
theorem zSa_n {f : Nat → Int32} {n i r : Int} (e : r = -1) (h : i < 0 ∨ n ≤ i) : zSa f n i r := ⟨fun q => by omega, fun _ => e⟩
abbrev zqRs : Type := Option (Int × Int × Int × List Int × Bool)
abbrev zRl_ : Type := Int → Int → Int → List Int → zqRs → Prop
abbrev zBu : Type := Int × (Int → zRl_)
def zBx (k : Nat) (B : zBu) : zBu := (if k % 2 = 1 then 0 else B.1, B.2)
def zDet (B : zRl_) : Prop := ∀ a lv qt L r r', B a lv qt L r → B a lv qt L r' → 0 ≤ a → r = r'
def zDeu (B : zBu) : Prop := ∀ u : Int, zDet (B.2 u)
def zSc (f : Nat → Int32) (n c v : Int) : Prop := c < n ∧ (f c.toNat).toInt = v
def zlc (k lv a sd : Int) : Int := 1000 * k + lv + 1000000 * a + 1000000000 * sd
def zlb (k x : Int) (L : List Int) : Int := 1000 * k + x + 1000000 * (L.length : Int)
def zsd (M : List Int) : Int := (if 7000 ∈ M then 0 else 1) + (if 6000 ∈ M then 0 else 2)
def zTkn (f : Nat → Int32) (n sd : Int) : zRl_ := fun a lv qt L r =>
  (40 ≤ lv ∧ r = none) ∨ (lv < 40 ∧ ∃ e c, zqRe f n a e ∧ zBl f n e c ∧ (
    (zSc f n c 42 ∧ ∃ d, zBl f n (c + 1) d ∧ r = some (d, lv + 1, qt, L ++ [zlc 2 lv a sd], true)) ∨
    (¬ zSc f n c 42 ∧ r = some (c, lv + 1, qt, L ++ [zlc 1 lv a sd], true))))
theorem zTkn_d {f : Nat → Int32} {n sd : Int} : zDet (zTkn f n sd) := fun a lv qt L r r' h h' ha => by
  rcases h with h | ⟨h0, e, c, h1, h2, h3⟩ <;> rcases h' with g | ⟨g0, e', c', g1, g2, g3⟩
  · rw [h.2, g.2]
  · omega
  · omega
  · have q1 := zRe_u ha h1 g1
    subst q1
    have he := h1.1
    have q2 := zBl_u (by omega) h2 g2
    subst q2
    have hc := h2.1
    rcases h3 with ⟨a1, d, a2, a3⟩ | ⟨a1, a2⟩ <;> rcases g3 with ⟨b1, d', b2, b3⟩ | ⟨b1, b2⟩
    · rw [a3, b3, zBl_u (by omega) a2 b2]
    · exact absurd a1 b1
    · exact absurd b1 a1
    · rw [a2, b2]
def zqts (f : Nat → Int32) (p : Int) : Nat → Int
  | 0 => 0
  | k + 1 => zqts f p k + (if ((48 ≤ (f (p + k).toNat).toInt ∧ (f (p + k).toNat).toInt ≤ 57) ∨ (97 ≤ (f (p + k).toNat).toInt ∧ (f (p + k).toNat).toInt ≤ 122) ∨ (65 ≤ (f (p + k).toNat).toInt ∧ (f (p + k).toNat).toInt ≤ 90)) ∧ (k = 0 ∨ ¬ ((48 ≤ (f (p + k - 1).toNat).toInt ∧ (f (p + k - 1).toNat).toInt ≤ 57) ∨ (97 ≤ (f (p + k - 1).toNat).toInt ∧ (f (p + k - 1).toNat).toInt ≤ 122) ∨ (65 ≤ (f (p + k - 1).toNat).toInt ∧ (f (p + k - 1).toNat).toInt ≤ 90))) then 1 else 0)
def zQc (f : Nat → Int32) (n p c : Int) : Prop := p ≤ c ∧ c < n ∧ (f c.toNat).toInt = 34 ∧ ∀ j : Nat, p ≤ (j : Int) → (j : Int) < c → (f j).toInt ≠ 34
def zPhr (f : Nat → Int32) (n sd : Int) : zRl_ := fun a lv qt L r =>
  (40 ≤ lv ∧ r = none) ∨ (lv < 40 ∧ (
    (∃ c, zQc f n (a + 1) c ∧ (zqts f (a + 1) (c - (a + 1)).toNat = 0 ∨ 160 < qt + zqts f (a + 1) (c - (a + 1)).toNat) ∧ r = none) ∨
    (∃ c d, zQc f n (a + 1) c ∧ ¬ (zqts f (a + 1) (c - (a + 1)).toNat = 0 ∨ 160 < qt + zqts f (a + 1) (c - (a + 1)).toNat) ∧ zBl f n (c + 1) d ∧ r = some (d, lv + 1, qt + zqts f (a + 1) (c - (a + 1)).toNat, L ++ [zlc 3 lv a sd], true)) ∨
    ((∀ c, ¬ zQc f n (a + 1) c) ∧ r = none)))
theorem zQc_u {f : Nat → Int32} {n p c d : Int} (hp : 0 ≤ p) (h : zQc f n p c) (h' : zQc f n p d) : c = d := by
  obtain ⟨a1, a2, a3, a4⟩ := h
  obtain ⟨b1, b2, b3, b4⟩ := h'
  rcases Int.lt_trichotomy c d with q | q | q
  · exact absurd a3 (b4 c.toNat (by omega) (by omega))
  · exact q
  · exact absurd b3 (a4 d.toNat (by omega) (by omega))
theorem zPhr_d {f : Nat → Int32} {n sd : Int} : zDet (zPhr f n sd) := fun a lv qt L r r' h h' ha => by
  rcases h with h | ⟨h0, h⟩ <;> rcases h' with g | ⟨g0, g⟩
  · rw [h.2, g.2]
  · omega
  · omega
  rcases h with ⟨c, h1, h2, h3⟩ | ⟨c, d, h1, h2, h3, h4⟩ | ⟨h1, h2⟩ <;> rcases g with ⟨c', g1, g2, g3⟩ | ⟨c', d', g1, g2, g3, g4⟩ | ⟨g1, g2⟩
  · rw [h3, g3]
  · have q := zQc_u (by omega) h1 g1
    subst q
    exact absurd h2 g2
  · exact absurd h1 (g1 c)
  · have q := zQc_u (by omega) h1 g1
    subst q
    exact absurd g2 h2
  · have q := zQc_u (by omega) h1 g1
    subst q
    have hc := h1.1
    rw [h4, g4, zBl_u (by omega) h3 g3]
  · exact absurd h1 (g1 c)
  · exact absurd g1 (h1 c')
  · exact absurd g1 (h1 c')
  · rw [h2, g2]
def zDgs (f : Nat → Int32) (q e m : Int) : Prop := q < e ∧ e - q ≤ m ∧ ∀ j : Nat, q ≤ (j : Int) → (j : Int) < e → 48 ≤ (f j).toInt ∧ (f j).toInt ≤ 57
def zvl (f : Nat → Int32) (q : Int) : Nat → Int
  | 0 => 0
  | k + 1 => 10 * zvl f q k + (f (q.toNat + k)).toInt - 48
def zIni (f : Nat → Int32) (n p : Int) (r : Option (Int × Int)) : Prop := ∃ q e, ((zSc f n p 45 ∧ q = p + 1) ∨ (¬ zSc f n p 45 ∧ q = p)) ∧ zqRe f n q e ∧
  ((zDgs f q e 9 ∧ ∃ d, zBl f n e d ∧ ((zSc f n p 45 ∧ r = some (- zvl f q (e - q).toNat, d)) ∨ (¬ zSc f n p 45 ∧ r = some (zvl f q (e - q).toNat, d)))) ∨ (¬ zDgs f q e 9 ∧ r = none))
theorem zIni_u {f : Nat → Int32} {n p : Int} {r r' : Option (Int × Int)} (hp : 0 ≤ p) (h : zIni f n p r) (h' : zIni f n p r') : r = r' := by
  obtain ⟨q, e, h1, h2, h3⟩ := h
  obtain ⟨q', e', g1, g2, g3⟩ := h'
  have hq : q = q' ∧ 0 ≤ q := by
    rcases h1 with h1 | h1 <;> rcases g1 with g1 | g1
    · exact ⟨by rw [h1.2, g1.2], by omega⟩
    · exact absurd h1.1 g1.1
    · exact absurd g1.1 h1.1
    · exact ⟨by rw [h1.2, g1.2], by omega⟩
  obtain ⟨hq, h0⟩ := hq
  subst hq
  have q1 := zRe_u h0 h2 g2
  subst q1
  have he := h2.1
  rcases h3 with ⟨h3, d, h4, h5⟩ | ⟨h3, h4⟩ <;> rcases g3 with ⟨g3, d', g4, g5⟩ | ⟨g3, g4⟩
  · have q2 := zBl_u (by omega) h4 g4
    subst q2
    rcases h5 with h5 | h5 <;> rcases g5 with g5 | g5
    · rw [h5.2, g5.2]
    · exact absurd h5.1 g5.1
    · exact absurd g5.1 h5.1
    · rw [h5.2, g5.2]
  · exact absurd h3 g3
  · exact absurd g3 h3
  · rw [h4, g4]
theorem zIni_p {f : Nat → Int32} {n p v q : Int} (hp : 0 ≤ p) (h : zIni f n p (some (v, q))) : p ≤ q := by
  obtain ⟨x, e, h1, h2, h3⟩ := h
  have a1 := h2.1
  have hx : p ≤ x := by rcases h1 with h1 | h1 <;> omega
  rcases h3 with ⟨h3, d, h4, h5⟩ | ⟨h3, h4⟩
  · have a2 := h4.1
    rcases h5 with ⟨_, h5⟩ | ⟨_, h5⟩ <;> (cases h5; omega)
  · cases h4
def zMrk (f : Nat → Int32) (n : Int) : zRl_ := fun a lv qt L r =>
  (40 ≤ lv ∧ r = none) ∨ (lv < 40 ∧ ∃ p x, zBl f n (a + 1) p ∧ zIni f n p x ∧ ((x = none ∧ r = none) ∨ ∃ v q, x = some (v, q) ∧ (
    (¬ (q < n ∧ zDd f n q) ∧ r = none) ∨ ((q < n ∧ zDd f n q) ∧ ∃ p2 y, zBl f n (q + 2) p2 ∧ zIni f n p2 y ∧ ((y = none ∧ r = none) ∨ ∃ w q2, y = some (w, q2) ∧ (
      (¬ (v ≤ w ∧ zSc f n q2 93) ∧ r = none) ∨ ((v ≤ w ∧ zSc f n q2 93) ∧ ∃ d, zBl f n (q2 + 1) d ∧ r = some (d, lv + 1, qt, L ++ [zlc 4 lv a 0], false))))))))
theorem zMrk_d {f : Nat → Int32} {n : Int} : zDet (zMrk f n) := fun a lv qt L r r' h h' ha => by
  rcases h with h | ⟨h0, p, x, h1, h2, h3⟩ <;> rcases h' with g | ⟨g0, p', x', g1, g2, g3⟩
  · rw [h.2, g.2]
  · omega
  · omega
  have q1 := zBl_u (by omega) h1 g1
  subst q1
  have hp := h1.1
  have q2 := zIni_u (by omega) h2 g2
  subst q2
  rcases h3 with h3 | ⟨v, q, hx, h3⟩ <;> rcases g3 with g3 | ⟨v', q', gx, g3⟩
  · rw [h3.2, g3.2]
  · rw [h3.1] at gx; cases gx
  · rw [g3.1] at hx; cases hx
  rw [hx] at gx
  cases gx
  have hq := zIni_p (by omega) (hx ▸ h2)
  rcases h3 with h3 | ⟨h3, p2, y, h4, h5, h6⟩ <;> rcases g3 with g3 | ⟨g3, p2', y', g4, g5, g6⟩
  · rw [h3.2, g3.2]
  · exact absurd g3 h3.1
  · exact absurd h3 g3.1
  have q3 := zBl_u (by omega) h4 g4
  subst q3
  have hp2 := h4.1
  have q4 := zIni_u (by omega) h5 g5
  subst q4
  rcases h6 with h6 | ⟨w, q2, hy, h6⟩ <;> rcases g6 with g6 | ⟨w', q2', gy, g6⟩
  · rw [h6.2, g6.2]
  · rw [h6.1] at gy; cases gy
  · rw [g6.1] at hy; cases hy
  rw [hy] at gy
  cases gy
  have hq2 := zIni_p (by omega) (hy ▸ h5)
  rcases h6 with h6 | ⟨h6, d, h7, h8⟩ <;> rcases g6 with g6 | ⟨g6, d', g7, g8⟩
  · rw [h6.2, g6.2]
  · exact absurd g6 h6.1
  · exact absurd h6 g6.1
  · rw [h8, g8, zBl_u (by omega) h7 g7]
def zMon (B : zRl_) : Prop := ∀ a lv qt L q lv' qt' L' pl, B a lv qt L (some (q, lv', qt', L', pl)) → 0 ≤ a → a ≤ q
def zMou (B : zBu) : Prop := ∀ u : Int, zMon (B.2 u)
theorem zTkn_m {f : Nat → Int32} {n sd : Int} : zMon (zTkn f n sd) := fun a lv qt L q lv' qt' L' pl h ha => by
  rcases h with h | ⟨h0, e, c, h1, h2, h3⟩
  · cases h.2
  · have a1 := h1.1
    have a2 := h2.1
    rcases h3 with ⟨b1, d, b2, b3⟩ | ⟨b1, b2⟩
    · have a3 := b2.1; cases b3; omega
    · cases b2; omega
theorem zPhr_m {f : Nat → Int32} {n sd : Int} : zMon (zPhr f n sd) := fun a lv qt L q lv' qt' L' pl h ha => by
  rcases h with h | ⟨h0, h⟩
  · cases h.2
  · rcases h with ⟨c, h1, h2, h3⟩ | ⟨c, d, h1, h2, h3, h4⟩ | ⟨h1, h2⟩
    · cases h3
    · have a1 := h1.1; have a2 := h3.1; cases h4; omega
    · cases h2
theorem zMrk_m {f : Nat → Int32} {n : Int} : zMon (zMrk f n) := fun a lv qt L q lv' qt' L' pl h ha => by
  rcases h with h | ⟨h0, p, x, h1, h2, h3⟩
  · cases h.2
  have a1 := h1.1
  rcases h3 with h3 | ⟨v, q0, hx, h3⟩
  · cases h3.2
  have a2 := zIni_p (by omega) (hx ▸ h2)
  rcases h3 with h3 | ⟨h3, p2, y, h4, h5, h6⟩
  · cases h3.2
  have a3 := h4.1
  rcases h6 with h6 | ⟨w, q2, hy, h6⟩
  · cases h6.2
  have a4 := zIni_p (by omega) (hy ▸ h5)
  rcases h6 with h6 | ⟨h6, d, h7, h8⟩
  · cases h6.2
  have a5 := h7.1
  cases h8
  omega
def zBar (f : Nat → Int32) (n sd : Int) (ok : Prop) (B : zRl_) : zRl_ := fun a lv qt L r =>
  (zSc f n a 40 ∧ ((¬ ok ∧ r = none) ∨ (ok ∧ ∃ p x, zBl f n (a + 1) p ∧ B p lv qt L x ∧ ((x = none ∧ r = none) ∨ ∃ q lv' qt' L' pl, x = some (q, lv', qt', L', pl) ∧ (
    (¬ zSc f n q 41 ∧ r = none) ∨ (zSc f n q 41 ∧ ∃ d, zBl f n (q + 1) d ∧ r = some (d, lv', qt', L', false))))))) ∨
  (¬ zSc f n a 40 ∧ ((zSc f n a 91 ∧ zMrk f n a lv qt L r) ∨ (¬ zSc f n a 91 ∧ ((zSc f n a 34 ∧ zPhr f n sd a lv qt L r) ∨ (¬ zSc f n a 34 ∧ (
    ((∃ b, zLk f n a 257 b) ∧ zTkn f n sd a lv qt L r) ∨ (¬ (∃ b, zLk f n a 257 b) ∧ r = none)))))))
theorem zBar_d {f : Nat → Int32} {n sd : Int} {ok : Prop} {B : zRl_} (hB : zDet B) (hM : zMon B) : zDet (zBar f n sd ok B) := fun a lv qt L r r' h h' ha => by
  rcases h with ⟨hs, h⟩ | ⟨hs, h⟩ <;> rcases h' with ⟨gs, g⟩ | ⟨gs, g⟩
  · rcases h with h | ⟨h0, p, x, h1, h2, h3⟩ <;> rcases g with g | ⟨g0, p', x', g1, g2, g3⟩
    · rw [h.2, g.2]
    · exact absurd g0 h.1
    · exact absurd h0 g.1
    have q1 := zBl_u (by omega) h1 g1
    subst q1
    have hp := h1.1
    have q2 := hB _ _ _ _ _ _ h2 g2 (by omega)
    subst q2
    rcases h3 with h3 | ⟨q, l, t, K, pl, hx, h3⟩ <;> rcases g3 with g3 | ⟨q', l', t', K', pl', gx, g3⟩
    · rw [h3.2, g3.2]
    · rw [h3.1] at gx; cases gx
    · rw [g3.1] at hx; cases hx
    rw [hx] at gx
    cases gx
    have hq := hM _ _ _ _ _ _ _ _ _ (hx ▸ h2) (by omega)
    rcases h3 with h3 | ⟨h3, d, h4, h5⟩ <;> rcases g3 with g3 | ⟨g3, d', g4, g5⟩
    · rw [h3.2, g3.2]
    · exact absurd g3 h3.1
    · exact absurd h3 g3.1
    · rw [h5, g5, zBl_u (by omega) h4 g4]
  · exact absurd hs gs
  · exact absurd gs hs
  rcases h with ⟨h1, h⟩ | ⟨h1, h⟩ <;> rcases g with ⟨g1, g⟩ | ⟨g1, g⟩
  · exact zMrk_d _ _ _ _ _ _ h g ha
  · exact absurd h1 g1
  · exact absurd g1 h1
  rcases h with ⟨h2, h⟩ | ⟨h2, h⟩ <;> rcases g with ⟨g2, g⟩ | ⟨g2, g⟩
  · exact zPhr_d _ _ _ _ _ _ h g ha
  · exact absurd h2 g2
  · exact absurd g2 h2
  rcases h with ⟨h3, h⟩ | ⟨h3, h⟩ <;> rcases g with ⟨g3, g⟩ | ⟨g3, g⟩
  · exact zTkn_d _ _ _ _ _ _ h g ha
  · exact absurd h3 g3
  · exact absurd g3 h3
  · rw [h, g]
theorem zBar_m {f : Nat → Int32} {n sd : Int} {ok : Prop} {B : zRl_} (hM : zMon B) : zMon (zBar f n sd ok B) := fun a lv qt L q lv' qt' L' pl h ha => by
  rcases h with ⟨hs, h⟩ | ⟨hs, h⟩
  · rcases h with h | ⟨h0, p, x, h1, h2, h3⟩
    · cases h.2
    have a1 := h1.1
    rcases h3 with h3 | ⟨q0, l, t, K, pl0, hx, h3⟩
    · cases h3.2
    have a2 := hM _ _ _ _ _ _ _ _ _ (hx ▸ h2) (by omega)
    rcases h3 with h3 | ⟨h3, d, h4, h5⟩
    · cases h3.2
    have a3 := h4.1
    cases h5
    omega
  rcases h with ⟨h1, h⟩ | ⟨h1, h⟩
  · exact zMrk_m _ _ _ _ _ _ _ _ _ h ha
  rcases h with ⟨h2, h⟩ | ⟨h2, h⟩
  · exact zPhr_m _ _ _ _ _ _ _ _ _ h ha
  rcases h with ⟨h3, h⟩ | ⟨h3, h⟩
  · exact zTkn_m _ _ _ _ _ _ _ _ _ h ha
  · cases h
def zFl (f : Nat → Int32) (n a : Int) : Prop := ∃ k b, zLk f n a k b ∧ (k = 262 ∨ k = 263)
def zFs (f : Nat → Int32) (n : Int) : Nat → Int → Int → List Int → Prop
  | 0 => fun a a' M => a' = a ∧ M = []
  | k + 1 => fun a a' M => ∃ kd b p M', zLk f n a kd b ∧ (kd = 262 ∨ kd = 263) ∧ zBl f n b p ∧ zFs f n k p a' M' ∧ M = M' ++ [if kd = 262 then 6000 else 7000]
theorem zLk_b {f : Nat → Int32} {n p k b : Int} (h : zLk f n p k b) : p ≤ b := by
  rcases h with h | ⟨h1, h2, e, h3, h4⟩ | h | h
  · omega
  · have a1 := h3.1
    rcases h4 with h4 | ⟨_, h4⟩
    · omega
    rcases h4 with h4 | ⟨_, h4⟩
    · omega
    rcases h4 with h4 | ⟨_, h4⟩
    · omega
    rcases h4 with h4 | ⟨_, h4⟩
    · omega
    rcases h4 with ⟨c, b1, b2, b3, b4⟩ | h4
    · have a2 := b1.1; omega
    · omega
  · omega
  · omega
theorem zFs_u {f : Nat → Int32} {n : Int} : ∀ {k k' : Nat} {a x y : Int} {M N : List Int}, zFs f n k a x M → zFs f n k' a y N → ¬ zFl f n x → ¬ zFl f n y → 0 ≤ a → k = k' ∧ x = y ∧ M = N := by
  intro k
  induction k with
  | zero =>
    intro k' a x y M N h h' hx hy ha
    cases k' with
    | zero => exact ⟨rfl, by rw [h.1, h'.1], by rw [h.2, h'.2]⟩
    | succ k' =>
      obtain ⟨kd, b, p, M', g1, g2, _⟩ := h'
      exact absurd ⟨kd, b, h.1 ▸ g1, g2⟩ hx
  | succ k ih =>
    intro k' a x y M N h h' hx hy ha
    obtain ⟨kd, b, p, M', h1, h2, h3, h4, h5⟩ := h
    cases k' with
    | zero => exact absurd ⟨kd, b, h'.1 ▸ h1, h2⟩ hy
    | succ k' =>
      obtain ⟨kd', b', p', N', g1, g2, g3, g4, g5⟩ := h'
      obtain ⟨e1, e2⟩ := zLk_u ha h1 g1
      subst e1; subst e2
      have hb := zLk_b h1
      have e3 := zBl_u (by omega) h3 g3
      subst e3
      have hp := h3.1
      obtain ⟨e4, e5, e6⟩ := ih h4 g4 hx hy (by omega)
      exact ⟨by omega, e5, by rw [h5, g5, e6]⟩
theorem zFs_l {f : Nat → Int32} {n : Int} : ∀ {k k' : Nat} {a x y : Int} {M N : List Int}, zFs f n k a x M → zFs f n k' a y N → k < k' → 0 ≤ a → zFl f n x := by
  intro k
  induction k with
  | zero =>
    intro k' a x y M N h h' hk ha
    cases k' with
    | zero => omega
    | succ k' =>
      obtain ⟨kd, b, p, M', g1, g2, _⟩ := h'
      exact ⟨kd, b, h.1 ▸ g1, g2⟩
  | succ k ih =>
    intro k' a x y M N h h' hk ha
    obtain ⟨kd, b, p, M', h1, h2, h3, h4, h5⟩ := h
    cases k' with
    | zero => omega
    | succ k' =>
      obtain ⟨kd', b', p', N', g1, g2, g3, g4, g5⟩ := h'
      obtain ⟨e1, e2⟩ := zLk_u ha h1 g1
      subst e1; subst e2
      have hb := zLk_b h1
      have e3 := zBl_u (by omega) h3 g3
      subst e3
      have hp := h3.1
      exact ih h4 g4 (by omega) (by omega)
theorem zFs_e {f : Nat → Int32} {n : Int} : ∀ {k : Nat} {a x y : Int} {M N : List Int}, zFs f n k a x M → zFs f n k a y N → 0 ≤ a → x = y := by
  intro k
  induction k with
  | zero => intro a x y M N h h' ha; rw [h.1, h'.1]
  | succ k ih =>
    intro a x y M N h h' ha
    obtain ⟨kd, b, p, M', h1, h2, h3, h4, h5⟩ := h
    obtain ⟨kd', b', p', N', g1, g2, g3, g4, g5⟩ := h'
    obtain ⟨e1, e2⟩ := zLk_u ha h1 g1
    subst e1; subst e2
    have hb := zLk_b h1
    have e3 := zBl_u (by omega) h3 g3
    subst e3
    have hp := h3.1
    exact ih h4 g4 (by omega)
theorem zFs_m {f : Nat → Int32} {n : Int} : ∀ {k : Nat} {a x : Int} {M : List Int}, zFs f n k a x M → 0 ≤ a → a ≤ x := by
  intro k
  induction k with
  | zero => intro a x M h ha; rw [h.1]; omega
  | succ k ih =>
    intro a x M h ha
    obtain ⟨kd, b, p, M', h1, h2, h3, h4, h5⟩ := h
    have hb := zLk_b h1
    have hp := h3.1
    have q := ih h4 (by omega)
    omega
def zUni (f : Nat → Int32) (n : Int) (ok : Prop) (B : zBu) : zRl_ := fun a lv qt L r => ∃ k a' M, zFs f n k a a' M ∧ (
  (k = 12 ∧ zFl f n a' ∧ r = none) ∨ (k ≤ 12 ∧ ¬ zFl f n a' ∧ ∃ x, zBar f n (zsd M + 4 * B.1) ok (B.2 B.1) a' lv qt L x ∧ ((x = none ∧ r = none) ∨ ∃ q lv' qt' L' pl, x = some (q, lv', qt', L', pl) ∧ (
    ((0 < k ∧ pl = false) ∧ r = none) ∨ (¬ (0 < k ∧ pl = false) ∧ r = some (q, lv', qt', L' ++ M, pl))))))
theorem zUni_d {f : Nat → Int32} {n : Int} {ok : Prop} {B : zBu} (hB : zDeu B) (hM : zMou B) : zDet (zUni f n ok B) := fun a lv qt L r r' h h' ha => by
  obtain ⟨k, x, M, h1, h2⟩ := h
  obtain ⟨k', y, N, g1, g2⟩ := h'
  rcases h2 with h2 | ⟨h2, h3, u, h4, h5⟩ <;> rcases g2 with g2 | ⟨g2, g3, w, g4, g5⟩
  · rw [h2.2.2, g2.2.2]
  · rcases Nat.lt_or_ge k' k with c | c
    · exact absurd (zFs_l g1 h1 c ha) g3
    · have e : k = k' := by omega
      subst e
      rcases Nat.lt_or_ge k (k + 1) with _ | _
      · exact absurd (by
          have hx := h2.2.1
          obtain ⟨kd, b, q1, q2⟩ := hx
          have e2 : x = y := zFs_e h1 g1 ha
          rw [← e2]; exact ⟨kd, b, q1, q2⟩) g3
      · omega
  · rcases Nat.lt_or_ge k k' with c | c
    · exact absurd (zFs_l h1 g1 c ha) h3
    · have e : k = k' := by omega
      subst e
      have e2 : x = y := zFs_e h1 g1 ha
      exact absurd (e2 ▸ g2.2.1) h3
  obtain ⟨e1, e2, e3⟩ := zFs_u h1 g1 h3 g3 ha
  subst e1; subst e2; subst e3
  have hx := zFs_m h1 ha
  have e4 := zBar_d (hB _) (hM _) _ _ _ _ _ _ h4 g4 (by omega)
  subst e4
  rcases h5 with h5 | ⟨q, l, t, K, pl, hx, h5⟩ <;> rcases g5 with g5 | ⟨q', l', t', K', pl', gx, g5⟩
  · rw [h5.2, g5.2]
  · rw [h5.1] at gx; cases gx
  · rw [g5.1] at hx; cases hx
  rw [hx] at gx
  cases gx
  rcases h5 with h5 | h5 <;> rcases g5 with g5 | g5
  · rw [h5.2, g5.2]
  · exact absurd h5.1 g5.1
  · exact absurd g5.1 h5.1
  · rw [h5.2, g5.2]
theorem zUni_m {f : Nat → Int32} {n : Int} {ok : Prop} {B : zBu} (hM : zMou B) : zMon (zUni f n ok B) := fun a lv qt L q lv' qt' L' pl h ha => by
  obtain ⟨k, x, M, h1, h2⟩ := h
  have hx := zFs_m h1 ha
  rcases h2 with h2 | ⟨h2, h3, u, h4, h5⟩
  · cases h2.2.2
  rcases h5 with h5 | ⟨q0, l, t, K, pl0, hu, h5⟩
  · cases h5.2
  have a2 := zBar_m (hM _) _ _ _ _ _ _ _ _ _ (hu ▸ h4) (by omega)
  rcases h5 with h5 | h5
  · cases h5.2
  · cases h5.2; omega
def zKd (f : Nat → Int32) (n a k : Int) : Prop := ∃ b, zLk f n a k b
def zNea (f : Nat → Int32) (n : Int) (ok : Prop) (B : zBu) : zRl_ := fun a lv qt L r => ∃ x, zUni f n ok B a lv qt L x ∧ ((x = none ∧ r = none) ∨ ∃ q lv' qt' L' pl, x = some (q, lv', qt', L', pl) ∧ (
  (¬ zKd f n q 261 ∧ r = some (q, lv', qt', L', false)) ∨ ∃ b p e, zLk f n q 261 b ∧ zBl f n b p ∧ zqRe f n p e ∧ (
    (¬ (zDgs f p e 3 ∧ 1 ≤ zvl f p (e - p).toNat ∧ zvl f p (e - p).toNat ≤ 200) ∧ r = none) ∨
    ((zDgs f p e 3 ∧ 1 ≤ zvl f p (e - p).toNat ∧ zvl f p (e - p).toNat ≤ 200) ∧ ∃ p2 y, zBl f n e p2 ∧ zUni f n ok B p2 lv' qt' L' y ∧ ((y = none ∧ r = none) ∨ ∃ q2 lv2 qt2 L2 pl2, y = some (q2, lv2, qt2, L2, pl2) ∧ (
      (¬ (pl = true ∧ pl2 = true) ∧ r = none) ∨ ((pl = true ∧ pl2 = true) ∧ r = some (q2, lv2, qt2, L2 ++ [zlb 5 (zvl f p (e - p).toNat) L'], false))))))))
theorem zNea_d {f : Nat → Int32} {n : Int} {ok : Prop} {B : zBu} (hB : zDeu B) (hM : zMou B) : zDet (zNea f n ok B) := fun a lv qt L r r' h h' ha => by
  obtain ⟨x, h1, h2⟩ := h
  obtain ⟨x', g1, g2⟩ := h'
  have e1 := zUni_d hB hM _ _ _ _ _ _ h1 g1 ha
  subst e1
  rcases h2 with h2 | ⟨q, l, t, K, pl, hx, h2⟩ <;> rcases g2 with g2 | ⟨q', l', t', K', pl', gx, g2⟩
  · rw [h2.2, g2.2]
  · rw [h2.1] at gx; cases gx
  · rw [g2.1] at hx; cases hx
  rw [hx] at gx
  cases gx
  have hq := zUni_m hM _ _ _ _ _ _ _ _ _ (hx ▸ h1) ha
  rcases h2 with h2 | ⟨b, p, e, h3, h4, h5, h6⟩ <;> rcases g2 with g2 | ⟨b', p', e', g3, g4, g5, g6⟩
  · rw [h2.2, g2.2]
  · exact absurd ⟨b', g3⟩ h2.1
  · exact absurd ⟨b, h3⟩ g2.1
  have e2 := (zLk_u (by omega) h3 g3).2
  subst e2
  have hb := zLk_b h3
  have e3 := zBl_u (by omega) h4 g4
  subst e3
  have hp := h4.1
  have e4 := zRe_u (by omega) h5 g5
  subst e4
  have he := h5.1
  rcases h6 with h6 | ⟨h6, p2, y, h7, h8, h9⟩ <;> rcases g6 with g6 | ⟨g6, p2', y', g7, g8, g9⟩
  · rw [h6.2, g6.2]
  · exact absurd g6 h6.1
  · exact absurd h6 g6.1
  have e5 := zBl_u (by omega) h7 g7
  subst e5
  have hp2 := h7.1
  have e6 := zUni_d hB hM _ _ _ _ _ _ h8 g8 (by omega)
  subst e6
  rcases h9 with h9 | ⟨q2, l2, t2, K2, pl2, hy, h9⟩ <;> rcases g9 with g9 | ⟨q2', l2', t2', K2', pl2', gy, g9⟩
  · rw [h9.2, g9.2]
  · rw [h9.1] at gy; cases gy
  · rw [g9.1] at hy; cases hy
  rw [hy] at gy
  cases gy
  rcases h9 with h9 | h9 <;> rcases g9 with g9 | g9
  · rw [h9.2, g9.2]
  · exact absurd g9.1 h9.1
  · exact absurd h9.1 g9.1
  · rw [h9.2, g9.2]
theorem zNea_m {f : Nat → Int32} {n : Int} {ok : Prop} {B : zBu} (hM : zMou B) : zMon (zNea f n ok B) := fun a lv qt L q lv' qt' L' pl h ha => by
  obtain ⟨x, h1, h2⟩ := h
  rcases h2 with h2 | ⟨q0, l, t, K, pl0, hx, h2⟩
  · cases h2.2
  have hq := zUni_m hM _ _ _ _ _ _ _ _ _ (hx ▸ h1) ha
  rcases h2 with h2 | ⟨b, p, e, h3, h4, h5, h6⟩
  · cases h2.2; omega
  have hb := zLk_b h3
  have hp := h4.1
  have he := h5.1
  rcases h6 with h6 | ⟨h6, p2, y, h7, h8, h9⟩
  · cases h6.2
  have hp2 := h7.1
  rcases h9 with h9 | ⟨q2, l2, t2, K2, pl2, hy, h9⟩
  · cases h9.2
  have hq2 := zUni_m hM _ _ _ _ _ _ _ _ _ (hy ▸ h8) (by omega)
  rcases h9 with h9 | h9
  · cases h9.2
  · cases h9.2; omega
def zNs (f : Nat → Int32) (n : Int) : Nat → Int → Int → Prop
  | 0 => fun a a' => a' = a
  | k + 1 => fun a a' => ∃ b p, zLk f n a 260 b ∧ zBl f n b p ∧ zNs f n k p a'
theorem zNs_m {f : Nat → Int32} {n : Int} : ∀ {k : Nat} {a x : Int}, zNs f n k a x → 0 ≤ a → a ≤ x := by
  intro k
  induction k with
  | zero => intro a x h ha; have h : x = a := h; omega
  | succ k ih =>
    intro a x h ha
    obtain ⟨b, p, h1, h2, h3⟩ := h
    have hb := zLk_b h1
    have hp := h2.1
    have q := ih h3 (by omega)
    omega
theorem zNs_l {f : Nat → Int32} {n : Int} : ∀ {k k' : Nat} {a x y : Int}, zNs f n k a x → zNs f n k' a y → 0 ≤ a → (k < k' → zKd f n x 260) ∧ (k = k' → x = y) := by
  intro k
  induction k with
  | zero =>
    intro k' a x y h h' ha
    have h : x = a := h
    cases k' with
    | zero => exact ⟨fun c => absurd c (by omega), fun _ => by have h' : y = a := h'; omega⟩
    | succ k' =>
      obtain ⟨b, p, g1, g2, g3⟩ := h'
      exact ⟨fun _ => ⟨b, by rw [h]; exact g1⟩, fun c => absurd c (by omega)⟩
  | succ k ih =>
    intro k' a x y h h' ha
    obtain ⟨b, p, h1, h2, h3⟩ := h
    cases k' with
    | zero => exact ⟨fun c => absurd c (by omega), fun c => absurd c (by omega)⟩
    | succ k' =>
      obtain ⟨b', p', g1, g2, g3⟩ := h'
      have e1 := (zLk_u ha h1 g1).2
      subst e1
      have hb := zLk_b h1
      have e2 := zBl_u (by omega) h2 g2
      subst e2
      have hp := h2.1
      have q := ih h3 g3 (by omega)
      exact ⟨fun c => q.1 (by omega), fun c => q.2 (by omega)⟩
def zNot (f : Nat → Int32) (n : Int) (ok : Prop) (B : zBu) : zRl_ := fun a lv qt L r => ∃ k a', zNs f n k a a' ∧ (
  (k = 40 ∧ zKd f n a' 260 ∧ r = none) ∨ (k ≤ 40 ∧ ¬ zKd f n a' 260 ∧ ∃ x, zNea f n ok (zBx k B) a' lv qt L x ∧ ((x = none ∧ r = none) ∨ ∃ q lv' qt' L' pl, x = some (q, lv', qt', L', pl) ∧ r = some (q, lv', qt', L', decide (k % 2 = 1)))))
theorem zNot_d {f : Nat → Int32} {n : Int} {ok : Prop} {B : zBu} (hB : zDeu B) (hM : zMou B) : zDet (zNot f n ok B) := fun a lv qt L r r' h h' ha => by
  obtain ⟨k, x, h1, h2⟩ := h
  obtain ⟨k', y, g1, g2⟩ := h'
  have q1 := zNs_l h1 g1 ha
  have q2 := zNs_l g1 h1 ha
  rcases h2 with h2 | ⟨h2, h3, u, h4, h5⟩ <;> rcases g2 with g2 | ⟨g2, g3, w, g4, g5⟩
  · rw [h2.2.2, g2.2.2]
  · rcases Nat.lt_or_ge k' k with c | c
    · exact absurd (q2.1 c) g3
    · have e := q1.2 (by omega)
      subst e
      exact absurd h2.2.1 g3
  · rcases Nat.lt_or_ge k k' with c | c
    · exact absurd (q1.1 c) h3
    · have e := q1.2 (by omega)
      subst e
      exact absurd g2.2.1 h3
  have ek : k = k' := by
    rcases Nat.lt_trichotomy k k' with c | c | c
    · exact absurd (q1.1 c) h3
    · exact c
    · exact absurd (q2.1 c) g3
  subst ek
  have e := q1.2 rfl
  subst e
  have hx := zNs_m h1 ha
  have e2 := zNea_d (B := zBx k B) hB hM _ _ _ _ _ _ h4 g4 (by omega)
  subst e2
  rcases h5 with h5 | ⟨q, l, t, K, pl, hx, h5⟩ <;> rcases g5 with g5 | ⟨q', l', t', K', pl', gx, g5⟩
  · rw [h5.2, g5.2]
  · rw [h5.1] at gx; cases gx
  · rw [g5.1] at hx; cases hx
  rw [hx] at gx
  cases gx
  rw [h5, g5]
theorem zNot_m {f : Nat → Int32} {n : Int} {ok : Prop} {B : zBu} (hM : zMou B) : zMon (zNot f n ok B) := fun a lv qt L q lv' qt' L' pl h ha => by
  obtain ⟨k, x, h1, h2⟩ := h
  have hx := zNs_m h1 ha
  rcases h2 with h2 | ⟨h2, h3, u, h4, h5⟩
  · cases h2.2.2
  rcases h5 with h5 | ⟨q0, l, t, K, pl0, hu, h5⟩
  · cases h5.2
  have a2 := zNea_m (B := zBx k B) hM _ _ _ _ _ _ _ _ _ (hu ▸ h4) (by omega)
  cases h5
  omega
def zGo (f : Nat → Int32) (n a : Int) : Prop := ∃ k, zKd f n a k ∧ (k = 259 ∨ k = 260 ∨ k = 257 ∨ k = 262 ∨ k = 263 ∨ k = 34 ∨ k = 40 ∨ k = 91)
def zAlp (f : Nat → Int32) (n : Int) (ok : Prop) (B : zBu) : Nat → zRl_
  | 0 => fun a lv qt L r => ¬ zGo f n a ∧ r = some (a, lv, qt, L, false)
  | k + 1 => fun a lv qt L r => zGo f n a ∧ ∃ p x, ((∃ b, zLk f n a 259 b ∧ zBl f n b p) ∨ (¬ zKd f n a 259 ∧ p = a)) ∧ zNot f n ok B p lv qt L x ∧ ((x = none ∧ r = none) ∨ ∃ q lv' qt' L' pl, x = some (q, lv', qt', L', pl) ∧ zAlp f n ok B k q lv' qt' (L' ++ [if pl = true then zlb 11 0 L else zlb 8 0 L]) r)
theorem zAlp_d {f : Nat → Int32} {n : Int} {ok : Prop} {B : zBu} (hB : zDeu B) (hM : zMou B) : ∀ {k k' : Nat} {a lv qt : Int} {L : List Int} {r r' : zqRs}, zAlp f n ok B k a lv qt L r → zAlp f n ok B k' a lv qt L r' → 0 ≤ a → r = r' := by
  intro k
  induction k with
  | zero =>
    intro k' a lv qt L r r' h h' ha
    cases k' with
    | zero => rw [h.2, h'.2]
    | succ k' => exact absurd h'.1 h.1
  | succ k ih =>
    intro k' a lv qt L r r' h h' ha
    cases k' with
    | zero => exact absurd h.1 h'.1
    | succ k' =>
      obtain ⟨h0, p, x, h1, h2, h3⟩ := h
      obtain ⟨g0, p', x', g1, g2, g3⟩ := h'
      have ep : p = p' ∧ 0 ≤ p := by
        rcases h1 with ⟨b, h1, h4⟩ | ⟨h1, h4⟩ <;> rcases g1 with ⟨b', g1, g4⟩ | ⟨g1, g4⟩
        · have e1 := (zLk_u ha h1 g1).2
          subst e1
          have hb := zLk_b h1
          have hp := h4.1
          exact ⟨zBl_u (by omega) h4 g4, by omega⟩
        · exact absurd ⟨b, h1⟩ g1
        · exact absurd ⟨b', g1⟩ h1
        · exact ⟨by rw [h4, g4], by omega⟩
      obtain ⟨ep, hp⟩ := ep
      subst ep
      have e2 := zNot_d hB hM _ _ _ _ _ _ h2 g2 hp
      subst e2
      rcases h3 with h3 | ⟨q, l, t, K, pl, hx, h3⟩ <;> rcases g3 with g3 | ⟨q', l', t', K', pl', gx, g3⟩
      · rw [h3.2, g3.2]
      · rw [h3.1] at gx; cases gx
      · rw [g3.1] at hx; cases hx
      rw [hx] at gx
      cases gx
      have hq := zNot_m hM _ _ _ _ _ _ _ _ _ (hx ▸ h2) hp
      exact ih h3 g3 (by omega)
theorem zAlp_m {f : Nat → Int32} {n : Int} {ok : Prop} {B : zBu} (hM : zMou B) : ∀ {k : Nat} {a lv qt : Int} {L : List Int} {q lv' qt' : Int} {L' : List Int} {pl : Bool}, zAlp f n ok B k a lv qt L (some (q, lv', qt', L', pl)) → 0 ≤ a → a ≤ q := by
  intro k
  induction k with
  | zero => intro a lv qt L q lv' qt' L' pl h ha; have h2 := h.2; cases h2; omega
  | succ k ih =>
    intro a lv qt L q lv' qt' L' pl h ha
    obtain ⟨h0, p, x, h1, h2, h3⟩ := h
    have hp : a ≤ p := by
      rcases h1 with ⟨b, h1, h4⟩ | ⟨h1, h4⟩
      · have hb := zLk_b h1
        have hp := h4.1
        omega
      · omega
    rcases h3 with h3 | ⟨q0, l, t, K, pl0, hx, h3⟩
    · cases h3.2
    have hq := zNot_m hM _ _ _ _ _ _ _ _ _ (hx ▸ h2) (by omega)
    have q2 := ih h3 (by omega)
    omega
def zAll (f : Nat → Int32) (n : Int) (ok : Prop) (B : zBu) : zRl_ := fun a lv qt L r => ∃ x, zNot f n ok B a lv qt L x ∧ ((x = none ∧ r = none) ∨ ∃ q lv' qt' L' pl k, x = some (q, lv', qt', L', pl) ∧ zAlp f n ok B k q lv' qt' (if pl = true then L' ++ [10000] else L') r)
theorem zAll_d {f : Nat → Int32} {n : Int} {ok : Prop} {B : zBu} (hB : zDeu B) (hM : zMou B) : zDet (zAll f n ok B) := fun a lv qt L r r' h h' ha => by
  obtain ⟨x, h1, h2⟩ := h
  obtain ⟨x', g1, g2⟩ := h'
  have e1 := zNot_d hB hM _ _ _ _ _ _ h1 g1 ha
  subst e1
  rcases h2 with h2 | ⟨q, l, t, K, pl, k, hx, h2⟩ <;> rcases g2 with g2 | ⟨q', l', t', K', pl', k', gx, g2⟩
  · rw [h2.2, g2.2]
  · rw [h2.1] at gx; cases gx
  · rw [g2.1] at hx; cases hx
  rw [hx] at gx
  cases gx
  have hq := zNot_m hM _ _ _ _ _ _ _ _ _ (hx ▸ h1) ha
  exact zAlp_d hB hM h2 g2 (by omega)
theorem zAll_m {f : Nat → Int32} {n : Int} {ok : Prop} {B : zBu} (hM : zMou B) : zMon (zAll f n ok B) := fun a lv qt L q lv' qt' L' pl h ha => by
  obtain ⟨x, h1, h2⟩ := h
  rcases h2 with h2 | ⟨q0, l, t, K, pl0, k, hx, h2⟩
  · cases h2.2
  have hq := zNot_m hM _ _ _ _ _ _ _ _ _ (hx ▸ h1) ha
  have q2 := zAlp_m hM h2 (by omega)
  omega
def zQlp (f : Nat → Int32) (n : Int) (ok : Prop) (B : zBu) : Nat → zRl_
  | 0 => fun a lv qt L r => ¬ zKd f n a 258 ∧ r = some (a, lv, qt, L, false)
  | k + 1 => fun a lv qt L r => ∃ b p x, zLk f n a 258 b ∧ zBl f n b p ∧ zAll f n ok B p lv qt L x ∧ ((x = none ∧ r = none) ∨ ∃ q lv' qt' L' pl, x = some (q, lv', qt', L', pl) ∧ zQlp f n ok B k q lv' qt' (L' ++ [zlb 9 0 L]) r)
theorem zQlp_d {f : Nat → Int32} {n : Int} {ok : Prop} {B : zBu} (hB : zDeu B) (hM : zMou B) : ∀ {k k' : Nat} {a lv qt : Int} {L : List Int} {r r' : zqRs}, zQlp f n ok B k a lv qt L r → zQlp f n ok B k' a lv qt L r' → 0 ≤ a → r = r' := by
  intro k
  induction k with
  | zero =>
    intro k' a lv qt L r r' h h' ha
    cases k' with
    | zero => rw [h.2, h'.2]
    | succ k' =>
      obtain ⟨b, p, x, h1, _⟩ := h'
      exact absurd ⟨b, h1⟩ h.1
  | succ k ih =>
    intro k' a lv qt L r r' h h' ha
    obtain ⟨b, p, x, h1, h4, h2, h3⟩ := h
    cases k' with
    | zero => exact absurd ⟨b, h1⟩ h'.1
    | succ k' =>
      obtain ⟨b', p', x', g1, g4, g2, g3⟩ := h'
      have e1 := (zLk_u ha h1 g1).2
      subst e1
      have hb := zLk_b h1
      have e2 := zBl_u (by omega) h4 g4
      subst e2
      have hp := h4.1
      have e3 := zAll_d hB hM _ _ _ _ _ _ h2 g2 (by omega)
      subst e3
      rcases h3 with h3 | ⟨q, l, t, K, pl, hx, h3⟩ <;> rcases g3 with g3 | ⟨q', l', t', K', pl', gx, g3⟩
      · rw [h3.2, g3.2]
      · rw [h3.1] at gx; cases gx
      · rw [g3.1] at hx; cases hx
      rw [hx] at gx
      cases gx
      have hq := zAll_m hM _ _ _ _ _ _ _ _ _ (hx ▸ h2) (by omega)
      exact ih h3 g3 (by omega)
theorem zQlp_m {f : Nat → Int32} {n : Int} {ok : Prop} {B : zBu} (hM : zMou B) : ∀ {k : Nat} {a lv qt : Int} {L : List Int} {q lv' qt' : Int} {L' : List Int} {pl : Bool}, zQlp f n ok B k a lv qt L (some (q, lv', qt', L', pl)) → 0 ≤ a → a ≤ q := by
  intro k
  induction k with
  | zero => intro a lv qt L q lv' qt' L' pl h ha; have h2 := h.2; cases h2; omega
  | succ k ih =>
    intro a lv qt L q lv' qt' L' pl h ha
    obtain ⟨b, p, x, h1, h4, h2, h3⟩ := h
    have hb := zLk_b h1
    have hp := h4.1
    rcases h3 with h3 | ⟨q0, l, t, K, pl0, hx, h3⟩
    · cases h3.2
    have hq := zAll_m hM _ _ _ _ _ _ _ _ _ (hx ▸ h2) (by omega)
    have q2 := ih h3 (by omega)
    omega
def zQue (f : Nat → Int32) (n : Int) (ok : Prop) (B : zBu) : zRl_ := fun a lv qt L r => ∃ x, zAll f n ok B a lv qt L x ∧ ((x = none ∧ r = none) ∨ ∃ q lv' qt' L' pl k, x = some (q, lv', qt', L', pl) ∧ zQlp f n ok B k q lv' qt' L' r)
theorem zQue_d {f : Nat → Int32} {n : Int} {ok : Prop} {B : zBu} (hB : zDeu B) (hM : zMou B) : zDet (zQue f n ok B) := fun a lv qt L r r' h h' ha => by
  obtain ⟨x, h1, h2⟩ := h
  obtain ⟨x', g1, g2⟩ := h'
  have e1 := zAll_d hB hM _ _ _ _ _ _ h1 g1 ha
  subst e1
  rcases h2 with h2 | ⟨q, l, t, K, pl, k, hx, h2⟩ <;> rcases g2 with g2 | ⟨q', l', t', K', pl', k', gx, g2⟩
  · rw [h2.2, g2.2]
  · rw [h2.1] at gx; cases gx
  · rw [g2.1] at hx; cases hx
  rw [hx] at gx
  cases gx
  have hq := zAll_m hM _ _ _ _ _ _ _ _ _ (hx ▸ h1) ha
  exact zQlp_d hB hM h2 g2 (by omega)
theorem zQue_m {f : Nat → Int32} {n : Int} {ok : Prop} {B : zBu} (hM : zMou B) : zMon (zQue f n ok B) := fun a lv qt L q lv' qt' L' pl h ha => by
  obtain ⟨x, h1, h2⟩ := h
  rcases h2 with h2 | ⟨q0, l, t, K, pl0, k, hx, h2⟩
  · cases h2.2
  have hq := zAll_m hM _ _ _ _ _ _ _ _ _ (hx ▸ h1) ha
  have q2 := zQlp_m hM h2 (by omega)
  omega
def zQry (f : Nat → Int32) (n : Int) : Nat → Int → zRl_
  | 0 => fun u => zQue f n False (u, fun _ _ _ _ _ _ => False)
  | d + 1 => fun u => zQue f n True (u, zQry f n d)
theorem zQry_dm {f : Nat → Int32} {n : Int} : ∀ d : Nat, (∀ u : Int, zDet (zQry f n d u)) ∧ ∀ u : Int, zMon (zQry f n d u) := by
  intro d
  induction d with
  | zero => exact ⟨fun u => zQue_d (fun _ _ _ _ _ _ _ h => False.elim h) (fun _ _ _ _ _ _ _ _ _ _ h => False.elim h), fun u => zQue_m (fun _ _ _ _ _ _ _ _ _ _ h => False.elim h)⟩
  | succ d ih => exact ⟨fun u => zQue_d ih.1 ih.2, fun u => zQue_m ih.2⟩
def zPar (f : Nat → Int32) (n : Int) (L : List Int) : Prop := ∃ a x, zBl f n 0 a ∧ zQry f n 12 1 a 0 0 [] x ∧ ((x = none ∧ L = []) ∨ ∃ q lv qt K pl, x = some (q, lv, qt, K, pl) ∧ ((¬ zKd f n q 256 ∧ L = []) ∨ (zKd f n q 256 ∧ L = K)))
theorem zPar_u {f : Nat → Int32} {n : Int} {L L' : List Int} (h : zPar f n L) (h' : zPar f n L') : L = L' := by
  obtain ⟨a, x, h1, h2, h3⟩ := h
  obtain ⟨a', x', g1, g2, g3⟩ := h'
  have e1 := zBl_u (by omega) h1 g1
  subst e1
  have ha := h1.1
  have e2 := ((zQry_dm 12).1 1) _ _ _ _ _ _ h2 g2 ha
  subst e2
  rcases h3 with h3 | ⟨q, l, t, K, pl, hx, h3⟩ <;> rcases g3 with g3 | ⟨q', l', t', K', pl', gx, g3⟩
  · rw [h3.2, g3.2]
  · rw [h3.1] at gx; cases gx
  · rw [g3.1] at hx; cases hx
  rw [hx] at gx
  cases gx
  rcases h3 with h3 | h3 <;> rcases g3 with g3 | g3
  · rw [h3.2, g3.2]
  · exact absurd g3.1 h3.1
  · exact absurd h3.1 g3.1
  · rw [h3.2, g3.2]
def zCd (s : Nat → Int32) (n : Int) (L : List Int) : Prop := n = (L.length : Int) ∧ ∀ j : Nat, j < L.length → (s j).toInt = L.getD j 0 % 1000000
theorem zCd_0 {s : Nat → Int32} {n : Int} (h : n = 0) : zCd s n [] := ⟨by rw [h]; rfl, fun j hj => by simp at hj⟩
theorem zCd_p {s : Nat → Int32} {n m v : Int} {L : List Int} {N V : Int32} (h : zCd s n L) (hN : N.toInt = n) (hV : V.toInt = v % 1000000) (hm : m = n + 1) : zCd (upd s N.toNatClampNeg V) m (L ++ [v]) := by
  obtain ⟨h1, h2⟩ := h
  have q : N.toNatClampNeg = L.length := by have q : N.toNatClampNeg = N.toInt.toNat := rfl; omega
  refine ⟨by rw [List.length_append, List.length_singleton, hm, h1]; rfl, fun j hj => ?_⟩
  rw [List.length_append, List.length_singleton] at hj
  by_cases c : j = L.length
  · rw [q, c, pk_us, hV]
    simp
  · rw [q, pk_un c, h2 j (by omega)]
    have hj2 : j < L.length := by omega
    simp [List.getElem?_append_left hj2]
theorem zCd_u {s t : Nat → Int32} {n m : Int} {L : List Int} (h : zCd s n L) (h' : zCd t m L) : n = m ∧ ∀ j : Nat, (j : Int) < n → s j = t j := by
  refine ⟨by rw [h.1, h'.1], fun j hj => zeqi.mpr ?_⟩
  have q := h.1
  rw [h.2 j (by omega), h'.2 j (by omega)]
abbrev zQs : Type := (Nat → Nat → Int32) × Int × Int × (Int → Int → Int → Int → (Nat → Int32) → Prop)
def zqa (a b c d e f g : Nat → Int32) : Nat → Nat → Int32 := fun k => match k with
  | 0 => a
  | 1 => b
  | 2 => c
  | 3 => d
  | 4 => e
  | 5 => f
  | _ => g
def zLok (q : zQs) (e : Int) : Prop := 1 ≤ e / 1000 % 1000 → e / 1000 % 1000 ≤ 4 → e % 1000 < q.2.1 ∧ (q.1 1 (e % 1000).toNat).toInt = e / 1000 % 1000 ∧ ((q.1 4 (e % 1000).toNat).toInt = e / 1000000000 % 4 ∧ (q.1 6 (e % 1000).toNat).toInt = e / 1000000000 / 4) ∧ (e / 1000 % 1000 = 3 → 0 ≤ (q.1 2 (e % 1000).toNat).toInt ∧ (q.1 3 (e % 1000).toNat).toInt ≤ q.2.2.1) ∧ ∀ ph : Nat → Int32, (e / 1000 % 1000 = 3 → ∀ j : Nat, (q.1 2 (e % 1000).toNat).toInt ≤ (j : Int) → (j : Int) < (q.1 3 (e % 1000).toNat).toInt → ph j = q.1 5 j) → q.2.2.2 (e / 1000 % 1000) (e / 1000000 % 1000) (q.1 2 (e % 1000).toNat).toInt (q.1 3 (e % 1000).toNat).toInt ph
def zCe (q : zQs) (n : Int) (L : List Int) : Prop := n = (L.length : Int) ∧ zCd (q.1 0) n L ∧ (∀ e ∈ L, 0 ≤ e ∧ zLok q e) ∧ ∀ a : Nat, (a : Int) < q.2.1 → ∃ e ∈ L, 1 ≤ e / 1000 % 1000 ∧ e / 1000 % 1000 ≤ 4 ∧ e % 1000 = (a : Int)
def zAd (s s' : zQs) (ln ln' c : Int) : Prop := ∀ (L : List Int) (e : Int), e % 1000000 = c → 0 ≤ e → zCe s ln L → ln < 270 → zCe s' ln' (L ++ [e])
theorem zCe_0 {q : zQs} {n : Int} (h : n = 0) (hl : q.2.1 ≤ 0) : zCe q n [] := by
  subst h
  refine ⟨rfl, zCd_0 rfl, ?_, ?_⟩
  · intro e he
    simp at he
  · intro a ha
    exact absurd (Int.lt_of_lt_of_le ha hl) (Int.not_lt.mpr (Int.natCast_nonneg a))
theorem zlb_m {k x : Int} {L : List Int} (h0 : 0 ≤ 1000 * k + x) (h1 : 1000 * k + x < 1000000) : zlb k x L % 1000000 = 1000 * k + x := by unfold zlb; omega
theorem zlb_0 {k x : Int} {L : List Int} (h0 : 0 ≤ 1000 * k + x) : 0 ≤ zlb k x L := by unfold zlb; omega
theorem zlc_m {k lv a sd : Int} (h0 : 0 ≤ 1000 * k + lv) (h1 : 1000 * k + lv < 1000000) : zlc k lv a sd % 1000000 = 1000 * k + lv := by unfold zlc; omega
theorem zlc_0 {k lv a sd : Int} (h0 : 0 ≤ 1000 * k + lv) (h1 : 0 ≤ a) (h2 : 0 ≤ sd) : 0 ≤ zlc k lv a sd := by unfold zlc; omega
theorem zlc_a {k lv a sd : Int} (h0 : 0 ≤ 1000 * k + lv) (h1 : 1000 * k + lv < 1000000) (h2 : 0 ≤ a) (h3 : a < 1000) : zlc k lv a sd / 1000000 % 1000 = a := by unfold zlc; omega
theorem zlc_s {k lv a sd : Int} (h0 : 0 ≤ 1000 * k + lv) (h1 : 1000 * k + lv < 1000000) (h2 : 0 ≤ a) (h3 : a < 1000) : zlc k lv a sd / 1000000000 = sd := by unfold zlc; omega
theorem zAd_i {a a' b c d e f g : Nat → Int32} {lv pw n n' x : Int} {Z : Int → Int → Int → Int → (Nat → Int32) → Prop} (h : ∀ (L : List Int) (y : Int), y % 1000000 = x → zCd a n L → n < 270 → zCd a' n' (L ++ [y])) (x0 : 5000 ≤ x) (x1 : x < 12000) : zAd (zqa a b c d e f g, lv, pw, Z) (zqa a' b c d e f g, lv, pw, Z) n n' x := fun L y hy y0 hL hn => by
  obtain ⟨h1, h2, h3, h4⟩ := hL
  have k := h L y hy h2 hn
  refine ⟨k.1, k, fun z hz => ?_, fun j hj => by
    obtain ⟨z, z1, z2⟩ := h4 j hj
    exact ⟨z, List.mem_append.mpr (Or.inl z1), z2⟩⟩
  rcases List.mem_append.mp hz with q | q
  · exact h3 z q
  · rw [List.mem_singleton.mp q]
    exact ⟨y0, fun c1 c2 => by omega⟩
def zAl (A A' : Nat → Nat → Int32) (lv lv' pw n n' k lo hi sd ct : Int) : Prop := ∀ (Z : Int → Int → Int → Int → (Nat → Int32) → Prop) (L : List Int) (e : Int), e % 1000000 = 1000 * k + lv → 0 ≤ e → e / 1000000000 = sd + 4 * ct → (k = 3 → 0 ≤ lo ∧ hi ≤ pw) → (∀ ph : Nat → Int32, (k = 3 → ∀ j : Nat, lo ≤ (j : Int) → (j : Int) < hi → ph j = A 5 j) → Z k (e / 1000000 % 1000) lo hi ph) → zCe (A, lv, pw, Z) n L → n < 270 → lv < 40 → zCe (A', lv', pw, Z) n' (L ++ [e])
theorem zAl_i {a a' b b' c c' d d' e e' f g g' : Nat → Int32} {V K X Y S C : Int32} {lv lv' pw n n' : Int} (eb : b' = upd b V.toNatClampNeg K) (ec : c' = upd c V.toNatClampNeg X) (ed : d' = upd d V.toNatClampNeg Y) (ee : e' = upd e V.toNatClampNeg S) (eg : g' = upd g V.toNatClampNeg (vp_nar .boolean C)) (s0 : 0 ≤ S.toInt) (s3 : S.toInt ≤ 3) (q0 : 0 ≤ C.toInt) (q1 : C.toInt ≤ 1) (hV : V.toInt = lv) (h0 : 0 ≤ lv) (hl : lv' = lv + 1) (k1 : 1 ≤ K.toInt) (k4 : K.toInt ≤ 4) (h : ∀ (L : List Int) (y : Int), y % 1000000 = 1000 * K.toInt + lv → zCd a n L → n < 270 → zCd a' n' (L ++ [y])) : zAl (zqa a b c d e f g) (zqa a' b' c' d' e' f g') lv lv' pw n n' K.toInt X.toInt Y.toInt S.toInt C.toInt := fun Z L y hy y0 hs h3 hZ hL hn l4 => by
  obtain ⟨g1, g2, g3, g4⟩ := hL
  have k := h L y hy g2 hn
  have q : V.toNatClampNeg = lv.toNat := by rw [← hV]; rfl
  rw [q] at eb ec ed ee eg
  refine ⟨k.1, k, fun z hz => ?_, fun j hj => ?_⟩
  rcases List.mem_append.mp hz with w | w
  · obtain ⟨z0, z1⟩ := g3 z w
    refine ⟨z0, fun c1 c2 => ?_⟩
    obtain ⟨u1, u2, u3, u4, u5⟩ := z1 c1 c2
    have ne : (z % 1000).toNat ≠ lv.toNat := by
      have u1' : z % 1000 < lv := u1
      omega
    show z % 1000 < lv' ∧ (b' (z % 1000).toNat).toInt = _ ∧ ((e' (z % 1000).toNat).toInt = _ ∧ (g' (z % 1000).toNat).toInt = _) ∧ (_ → 0 ≤ (c' (z % 1000).toNat).toInt ∧ (d' (z % 1000).toNat).toInt ≤ pw) ∧ ∀ ph : Nat → Int32, (z / 1000 % 1000 = 3 → ∀ j : Nat, (c' (z % 1000).toNat).toInt ≤ (j : Int) → (j : Int) < (d' (z % 1000).toNat).toInt → ph j = f j) → Z _ _ (c' (z % 1000).toNat).toInt (d' (z % 1000).toNat).toInt ph
    rw [eb, ec, ed, ee, eg, pk_un ne, pk_un ne, pk_un ne, pk_un ne, pk_un ne]
    have u1' : z % 1000 < lv := u1
    exact ⟨by omega, u2, u3, u4, u5⟩
  · rw [List.mem_singleton.mp w]
    refine ⟨y0, fun c1 c2 => ?_⟩
    have e1 : y % 1000 = lv := by omega
    have e2 : y / 1000 % 1000 = K.toInt := by omega
    show y % 1000 < lv' ∧ (b' (y % 1000).toNat).toInt = _ ∧ ((e' (y % 1000).toNat).toInt = _ ∧ (g' (y % 1000).toNat).toInt = _) ∧ (_ → 0 ≤ (c' (y % 1000).toNat).toInt ∧ (d' (y % 1000).toNat).toInt ≤ pw) ∧ ∀ ph : Nat → Int32, (y / 1000 % 1000 = 3 → ∀ j : Nat, (c' (y % 1000).toNat).toInt ≤ (j : Int) → (j : Int) < (d' (y % 1000).toNat).toInt → ph j = f j) → Z _ _ (c' (y % 1000).toNat).toInt (d' (y % 1000).toNat).toInt ph
    rw [e1, e2, eb, ec, ed, ee, eg, pk_us, pk_us, pk_us, pk_us, pk_us, znar q0 q1]
    exact ⟨by omega, rfl, ⟨by omega, by omega⟩, h3, hZ⟩
  · have hj' : (j : Int) < lv' := hj
    by_cases cj : (j : Int) < lv
    · obtain ⟨z, z1, z2⟩ := g4 j cj
      exact ⟨z, List.mem_append.mpr (Or.inl z1), z2⟩
    · exact ⟨y, List.mem_append.mpr (Or.inr (List.mem_singleton.mpr rfl)), by omega, by omega, by omega⟩
theorem zCe_p {a b c d e f f' g : Nat → Int32} {lv pw pw' n : Int} {Z : Int → Int → Int → Int → (Nat → Int32) → Prop} {L : List Int} {V X : Int32} (h : zCe (zqa a b c d e f g, lv, pw, Z) n L) (ef : f' = upd f V.toNatClampNeg X) (hV : V.toInt = pw) (h0 : 0 ≤ pw) (hp : pw' = pw + 1) : zCe (zqa a b c d e f' g, lv, pw', Z) n L := by
  obtain ⟨g1, g2, g3, g4⟩ := h
  refine ⟨g1, g2, fun z hz => ?_, g4⟩
  obtain ⟨z0, z1⟩ := g3 z hz
  refine ⟨z0, fun c1 c2 => ?_⟩
  obtain ⟨u1, u2, u3, u4, u5⟩ := z1 c1 c2
  have q : V.toNatClampNeg = pw.toNat := by rw [← hV]; rfl
  refine ⟨u1, u2, u3, fun w => ⟨(u4 w).1, ?_⟩, fun ph hph => u5 ph (fun w j j1 j2 => ?_)⟩
  · have w2 : (d (z % 1000).toNat).toInt ≤ pw := (u4 w).2
    show (d (z % 1000).toNat).toInt ≤ pw'
    omega
  · have w2 : (d (z % 1000).toNat).toInt ≤ pw := (u4 w).2
    have j3 : (j : Int) < (d (z % 1000).toNat).toInt := j2
    have k : ph j = f' j := hph w j j1 j2
    show ph j = f j
    rw [k, ef, pk_un (by omega)]
def zu0 (x : Int) : Int := if x = 0 then 1 else 0
theorem zu0_s {s x : Int} (h : 0 ≤ s) : 0 ≤ s + 4 * zu0 x := by
  unfold zu0
  split <;> omega
theorem zu0_f {x c : Int} (h : (x = 0 ∧ c = 1) ∨ (x ≠ 0 ∧ c = 0)) : zu0 x = c := by
  unfold zu0
  split <;> omega
theorem zu0_e {s x c : Int} (h : (x = 0 ∧ c = 1) ∨ (x ≠ 0 ∧ c = 0)) : s + 4 * zu0 x = s + 4 * c := by rw [zu0_f h]
theorem zu0_b {x : Int} : 0 ≤ zu0 x ∧ zu0 x ≤ 1 := by
  unfold zu0
  split <;> omega
def zDv (f : Nat → Int32) (p i v : Int) : Prop := (∀ j : Nat, p ≤ (j : Int) → (j : Int) < i → 48 ≤ (f j).toInt ∧ (f j).toInt ≤ 57) ∧ v = zvl f p (i - p).toNat
theorem zDv_0 {f : Nat → Int32} {p i v : Int} (h : i ≤ p) (hv : v = 0) : zDv f p i v := ⟨fun j a b => by omega, by rw [hv, show (i - p).toNat = 0 from by omega]; rfl⟩
theorem zDv_s {f : Nat → Int32} {n p v w r j : Int} {i : Int32} (hb : zqTy f n) (h : zDv f p i.toInt v) (ha : 0 ≤ i.toInt ∧ i.toInt < n → r = (f i.toNatClampNeg &&& 255).toInt) (hn : i.toInt < n) (hd : 48 ≤ r ∧ r ≤ 57) (hp : 0 ≤ p) (hi : p ≤ i.toInt) (hw : w = 10 * v + r - 48) (hj : j = i.toInt + 1) : zDv f p j w := by
  have q1 := ha ⟨by omega, hn⟩
  rw [zand256] at q1
  have q2 : i.toNatClampNeg = i.toInt.toNat := rfl
  have q3 := hb i.toNatClampNeg (by omega)
  have q4 : (f i.toNatClampNeg).toInt = r := by omega
  refine ⟨fun k a b => ?_, ?_⟩
  · by_cases c : (k : Int) < i.toInt
    · exact h.1 k a c
    · rw [show k = i.toNatClampNeg from by omega, q4]; exact hd
  · rw [hw, h.2, show (j - p).toNat = (i.toInt - p).toNat + 1 from by omega]
    show _ = 10 * zvl f p (i.toInt - p).toNat + (f (p.toNat + (i.toInt - p).toNat)).toInt - 48
    rw [show p.toNat + (i.toInt - p).toNat = i.toNatClampNeg from by omega, q4]
theorem zvl_n {f : Nat → Int32} {p : Int} : ∀ k : Nat, (∀ j : Nat, j < k → 48 ≤ (f (p.toNat + j)).toInt) → 0 ≤ zvl f p k := by
  intro k
  induction k with
  | zero => intro _; exact Int.le_refl 0
  | succ k ih =>
    intro h
    have q1 := ih (fun j hj => h j (by omega))
    have q2 := h k (by omega)
    show 0 ≤ 10 * zvl f p k + (f (p.toNat + k)).toInt - 48
    omega
theorem zvl_0 {f : Nat → Int32} {p e m : Int} (h : zDgs f p e m) : 0 ≤ zvl f p (e - p).toNat ∨ p < 0 := by
  by_cases c : p < 0
  · exact Or.inr c
  · exact Or.inl (zvl_n _ (fun j hj => (h.2.2 (p.toNat + j) (by omega) (by omega)).1))
def zDr (f : Nat → Int32) (p e m r : Int) : Prop := (r = -1 ∧ ¬ zDgs f p e m) ∨ (r = zvl f p (e - p).toNat ∧ zDgs f p e m)
theorem zDr_y {f : Nat → Int32} {p e m i v : Int} (h : zDv f p i v) (hi : e ≤ i) (hi2 : i ≤ e) (h1 : p < e) (h2 : e - p ≤ m) : zDr f p e m v := by
  have q : i = e := by omega
  subst q
  exact Or.inr ⟨h.2, h1, h2, h.1⟩
theorem zDr_n {f : Nat → Int32} {p e m r : Int} (hr : r = -1) (h : e ≤ p ∨ m < e - p) : zDr f p e m r := Or.inl ⟨hr, fun q => by have q1 := q.1; have q2 := q.2.1; omega⟩
theorem zDr_d {f : Nat → Int32} {n p e m r x : Int} {i : Int32} (hr : r = -1) (ha : 0 ≤ i.toInt ∧ i.toInt < n → x = (f i.toNatClampNeg &&& 255).toInt) (hn : i.toInt < n) (hi0 : 0 ≤ i.toInt) (hi : p ≤ i.toInt) (he : i.toInt < e) (hd : x < 48 ∨ 57 < x) : zDr f p e m r := Or.inl ⟨hr, fun q => by
  have q1 := ha ⟨hi0, hn⟩
  rw [zand256] at q1
  have q2 : i.toNatClampNeg = i.toInt.toNat := rfl
  have q3 := q.2.2 i.toNatClampNeg (by omega) (by omega)
  omega⟩
def zqW (f : Nat → Int32) (n so st be fa dn : Int) : Prop := (so = 265 ∧ fa ≠ 0) ∨ (so ≠ 265 ∧ fa = 0 ∧ -1 ≤ dn ∧ dn ≤ 600 ∧ 0 ≤ st ∧ st ≤ n ∧ zLk f n st so be)
section ZW
variable {f : Nat → Int32} {n so st be fa dn so' st' be' fa' dn' k p : Int}
theorem zW_f (h : zqW f n so st be fa dn) (hn : n ≤ 600) (e4 : so' = 265) (e7 : fa ≠ 0 → fa' = fa) (e8 : fa = 0 → 1 ≤ k → k ≤ 4 → 0 ≤ p → p ≤ 700 → fa' ≠ 0) (hk : 1 ≤ k ∧ k ≤ 4) (hp : so ≠ 265 → 0 ≤ st → st ≤ n → 0 ≤ p ∧ p ≤ 700) : zqW f n so' st' be' fa' dn' := by
  refine Or.inl ⟨e4, ?_⟩
  rcases h with h | ⟨h1, h2, h3, h4, h5, h6, h7⟩
  · rw [e7 h.2]; exact h.2
  · have q := hp h1 h5 h6
    exact e8 h2 hk.1 hk.2 q.1 q.2
theorem zLk_n (h : zLk f n p k be) (hk : k ≠ 256) : be ≤ n := by
  rcases h with h | ⟨h1, h2, e, h3, h4⟩ | h | h
  · omega
  · have he : e ≤ n := by have q := h3.2.2.2; omega
    rcases h4 with h4 | ⟨_, h4⟩
    · omega
    rcases h4 with h4 | ⟨_, h4⟩
    · omega
    rcases h4 with h4 | ⟨_, h4⟩
    · omega
    rcases h4 with h4 | ⟨_, h4⟩
    · omega
    rcases h4 with ⟨c, b1, b2, b3, b4⟩ | h4
    · have q := b2.1; omega
    · omega
  · have q := h.2.2.1.2.1; omega
  · omega
theorem zLk_k (h : zLk f n p k be) : k ≠ 265 := by
  rcases h with h | ⟨h1, h2, e, h3, h4⟩ | h | h
  · omega
  · rcases h4 with h4 | ⟨_, h4⟩
    · omega
    rcases h4 with h4 | ⟨_, h4⟩
    · omega
    rcases h4 with h4 | ⟨_, h4⟩
    · omega
    rcases h4 with h4 | ⟨_, h4⟩
    · omega
    rcases h4 with ⟨c, b1, b2, b3, b4⟩ | h4
    · rcases b4 with b4 | b4 <;> omega
    · omega
  · omega
  · have q := Int.emod_lt_of_pos (f p.toNat).toInt (show (0 : Int) < 256 by omega); omega
def zqNx (f : Nat → Int32) (n so be fa dn so' st' be' fa' : Int) : Prop := (so = 265 ∨ dn ≠ -1 → so' = 265) ∧ (dn = -1 → fa' = fa) ∧ (fa ≠ 0 → fa' = fa) ∧ (dn ≠ -1 → fa = 0 → 0 ≤ dn → dn ≤ 700 → fa' ≠ 0) ∧ (0 ≤ be → be ≤ 602 → so ≠ 265 ∧ dn = -1 → zBl f n be st' ∧ zLk f n st' so' be')
theorem zW_n (h : zqW f n so st be fa dn) (hn : n ≤ 600) (hx : zqNx f n so be fa dn so' st' be' fa') (he : so ≠ 256) : zqW f n so' st' be' fa' dn := by
  obtain ⟨x1, x2, x3, x4, x5⟩ := hx
  rcases h with h | ⟨h1, h2, h3, h4, h5, h6, h7⟩
  · exact Or.inl ⟨x1 (Or.inl h.1), by rw [x3 h.2]; exact h.2⟩
  · by_cases c : dn = -1
    · have a1 := zLk_n h7 he
      have a2 := zLk_b h7
      have a3 := x5 (by omega) (by omega) ⟨h1, c⟩
      have a4 := a3.1.1
      have a5 := a3.1.2.2.2
      exact Or.inr ⟨zLk_k a3.2, by rw [x2 c]; exact h2, h3, h4, by omega, by omega, a3.2⟩
    · exact Or.inl ⟨x1 (Or.inr c), x4 c h2 (by omega) (by omega)⟩
theorem zW_x {Z : Prop} (h : zqW f n so st be fa dn) (hn : n ≤ 600) (hx : 0 ≤ be → be ≤ 602 → so ≠ 265 ∧ dn = -1 → Z) (hg : so ≠ 265 ∧ dn = -1) (he : so ≠ 256) : Z := by
  rcases h with h | ⟨h1, h2, h3, h4, h5, h6, h7⟩
  · exact absurd h.1 hg.1
  · have a1 := zLk_n h7 he
    have a2 := zLk_b h7
    exact hx (by omega) (by omega) hg
end ZW
theorem zqRe_0 {f : Nat → Int32} {n p e : Int} (h : zqRe f n p e) (hp : 0 ≤ p) (ht : ¬ (p < n ∧ zTok (f p.toNat).toInt)) : e = p := by
  obtain ⟨h1, h2, h3, h4⟩ := h
  by_cases c : p < e
  · exact absurd ⟨by omega, h2 p.toNat (by omega) (by omega)⟩ ht
  · omega
theorem zDgs_0 {f : Nat → Int32} {p e m : Int} (h : e ≤ p) : ¬ zDgs f p e m := fun q => by have q1 := q.1; omega
theorem zSpl_d {f : Nat → Int32} {p e m l : Int} {s : Nat} (hp : 0 ≤ p) (h : zSpl f p e s l) (hl : 0 < l) (hc : 57 < zqCs s 0) : ¬ zDgs f p e m := fun q => by
  have q1 := q.2.2 p.toNat (by omega) (by have q0 := q.1; omega)
  have q2 := h.2 0 (by omega)
  rw [Nat.add_zero, zor32 (by unfold zTok; omega)] at q2
  have q3 : zSml (f p.toNat).toInt = (f p.toNat).toInt := by unfold zSml; rw [if_neg (by omega)]
  have q4 : zqCs s ((0 : Nat) : Int) = zqCs s 0 := rfl
  omega
theorem zLk_d {f : Nat → Int32} {n p k b e m : Int} (hp : 0 ≤ p) (h : zLk f n p k b) (hk : k ≠ 257) (hr : zqRe f n p e) : ¬ zDgs f p e m := by
  rcases h with h | ⟨h1, h2, e', h3, h4⟩ | h | h
  · exact zDgs_0 (by have q := zqRe_0 hr hp (fun q => by omega); omega)
  · have q := zRe_u hp hr h3
    subst q
    rcases h4 with h4 | ⟨_, h4⟩
    · exact zSpl_d hp h4.1 (by omega) (by decide)
    rcases h4 with h4 | ⟨_, h4⟩
    · exact zSpl_d hp h4.1 (by omega) (by decide)
    rcases h4 with h4 | ⟨_, h4⟩
    · exact zSpl_d hp h4.1 (by omega) (by decide)
    rcases h4 with h4 | ⟨_, h4⟩
    · exact zSpl_d hp h4.1 (by omega) (by decide)
    rcases h4 with ⟨c, b1, b2, b3, b4⟩ | h4
    · rcases b4 with b4 | b4
      · exact zSpl_d hp b4.1 (by omega) (by decide)
      · exact zSpl_d hp b4.2.1 (by omega) (by decide)
    · exact absurd h4.2.1 hk
  · exact zDgs_0 (by have q := zqRe_0 hr hp (fun q => h.2.1 q.2); omega)
  · exact zDgs_0 (by have q := zqRe_0 hr hp (fun q => h.2.1 q.2); omega)
theorem zLk_s {f : Nat → Int32} {n p k b v : Int} (hb : zqTy f n) (hp : 0 ≤ p) (h : zLk f n p k b) (h0 : 0 ≤ v) (h1 : v ≤ 127) (hv : v ≠ 46) (ht : ¬ zTok v) : (k = v ↔ zSc f n p v) ∧ (k = v → b = p + 1) := by
  rcases h with h | ⟨h2, h3, e, h4, h5⟩ | h | h
  · exact ⟨⟨fun e => by omega, fun e => by have q := e.1; omega⟩, fun e => by omega⟩
  · have hk : 257 ≤ k := by
      rcases h5 with h5 | ⟨_, h5⟩
      · omega
      rcases h5 with h5 | ⟨_, h5⟩
      · omega
      rcases h5 with h5 | ⟨_, h5⟩
      · omega
      rcases h5 with h5 | ⟨_, h5⟩
      · omega
      rcases h5 with ⟨c, b1, b2, b3, b4⟩ | h5
      · rcases b4 with b4 | b4 <;> omega
      · omega
    exact ⟨⟨fun e => by omega, fun e => absurd (e.2 ▸ h3) ht⟩, fun e => by omega⟩
  · refine ⟨⟨fun e => by omega, fun e => ?_⟩, fun e => by omega⟩
    have q := h.2.2.1.1
    have q2 := e.2
    omega
  · have q := hb p.toNat (by omega)
    refine ⟨⟨fun e => ⟨h.1, by omega⟩, fun e => ?_⟩, fun _ => h.2.2.2.2⟩
    have q2 := e.2
    omega
def zRi (f : Nat → Int32) (n p least r so' st' be' : Int) : Prop := (so' = 265 ∧ (zIni f n p none ∨ ∃ v d, zIni f n p (some (v, d)) ∧ v < least)) ∨ (so' ≠ 265 ∧ zIni f n p (some (r, st')) ∧ least ≤ r ∧ zLk f n st' so' be')
section ZRi
variable {f : Nat → Int32} {n p k b least r v so' st' be' q e : Int}
theorem zRi_a (hb : zqTy f n) (hp : 0 ≤ p) (h : zLk f n p k b) (hk : k = 45) (hq : q = b) (hr : zqRe f n q e) (hd : zDr f q e 9 v) (hv : v = -1) (hs : so' = 265) : zRi f n p least r so' st' be' := by
  have a := zLk_s hb hp h (v := 45) (by omega) (by omega) (by omega) (by unfold zTok; omega)
  rcases hd with hd | hd
  · exact Or.inl ⟨hs, Or.inl ⟨q, e, Or.inl ⟨a.1.mp hk, by rw [hq]; exact a.2 hk⟩, hr, Or.inr ⟨hd.2, rfl⟩⟩⟩
  · have q1 := zvl_0 hd.2
    have q2 := zLk_b h
    omega
theorem zRi_b (hb : zqTy f n) (hp : 0 ≤ p) (h : zLk f n p k b) (hk : k = 257) (hq : q = p) (hr : zqRe f n q e) (hd : zDr f q e 9 v) (hv : v = -1) (hs : so' = 265) : zRi f n p least r so' st' be' := by
  have a := zLk_s hb hp h (v := 45) (by omega) (by omega) (by omega) (by unfold zTok; omega)
  rcases hd with hd | hd
  · exact Or.inl ⟨hs, Or.inl ⟨q, e, Or.inr ⟨fun y => by have y1 := a.1.mpr y; omega, hq⟩, hr, Or.inr ⟨hd.2, rfl⟩⟩⟩
  · have q1 := zvl_0 hd.2
    have q2 := zLk_b h
    omega
theorem zRi_c (hb : zqTy f n) (hp : 0 ≤ p) (h : zLk f n p k b) (hk : k ≠ 257) (hk2 : k ≠ 45) (hq : q = p) (hr : zqRe f n q e) (hs : so' = 265) : zRi f n p least r so' st' be' := by
  have a := zLk_s hb hp h (v := 45) (by omega) (by omega) (by omega) (by unfold zTok; omega)
  subst hq
  exact Or.inl ⟨hs, Or.inl ⟨q, e, Or.inr ⟨fun y => hk2 (a.1.mpr y), rfl⟩, hr, Or.inr ⟨zLk_d hp h hk hr, rfl⟩⟩⟩
theorem zRi_i (hb : zqTy f n) (hp : 0 ≤ p) (h : zLk f n p k b) (hk : (k = 45 ∧ q = b) ∨ (k = 257 ∧ q = p)) (hr : zqRe f n q e) (hd : zDr f q e 9 v) (hv : v ≠ -1) {d : Int} (hl : zBl f n e d) (hx : (k = 45 ∧ r = - v) ∨ (k ≠ 45 ∧ r = v)) : zIni f n p (some (r, d)) := by
  have a := zLk_s hb hp h (v := 45) (by omega) (by omega) (by omega) (by unfold zTok; omega)
  rcases hd with hd | hd
  · exact absurd hd.1 hv
  rcases hk with ⟨hk, hq⟩ | ⟨hk, hq⟩
  · refine ⟨q, e, Or.inl ⟨a.1.mp hk, by rw [hq]; exact a.2 hk⟩, hr, Or.inl ⟨hd.2, d, hl, Or.inl ⟨a.1.mp hk, ?_⟩⟩⟩
    rw [← hd.1, show r = - v by omega]
  · have hn : ¬ zSc f n p 45 := fun y => by have y1 := a.1.mpr y; omega
    refine ⟨q, e, Or.inr ⟨hn, hq⟩, hr, Or.inl ⟨hd.2, d, hl, Or.inr ⟨hn, ?_⟩⟩⟩
    rw [← hd.1, show r = v by omega]
end ZRi
theorem zW_n2 {f : Nat → Int32} {n so st be be2 fa dn so' st' be' fa' : Int} (h : zqW f n so st be fa dn) (hn : n ≤ 600) (hx : zqNx f n so be2 fa dn so' st' be' fa') (hb : so ≠ 265 → 0 ≤ be2 ∧ be2 ≤ n) : zqW f n so' st' be' fa' dn := by
  obtain ⟨x1, x2, x3, x4, x5⟩ := hx
  rcases h with h | ⟨h1, h2, h3, h4, h5, h6, h7⟩
  · exact Or.inl ⟨x1 (Or.inl h.1), by rw [x3 h.2]; exact h.2⟩
  · by_cases c : dn = -1
    · have a1 := hb h1
      have a3 := x5 (by omega) (by omega) ⟨h1, c⟩
      have a4 := a3.1.1
      have a5 := a3.1.2.2.2
      exact Or.inr ⟨zLk_k a3.2, by rw [x2 c]; exact h2, h3, h4, by omega, by omega, a3.2⟩
    · exact Or.inl ⟨x1 (Or.inr c), x4 c h2 (by omega) (by omega)⟩
theorem zBl_x {f : Nat → Int32} {n : Int} : ∀ k : Nat, ∀ p : Int, 0 ≤ p → (n - p).toNat = k → ∃ d, zBl f n p d := by
  intro k
  induction k with
  | zero => intro p hp hk; exact ⟨p, by omega, zBq_0 (by omega), fun h => by omega, Or.inr rfl⟩
  | succ k ih =>
    intro p hp hk
    by_cases c : zqBk (f p.toNat).toInt
    · obtain ⟨d, h1, h2, h3, h4⟩ := ih (p + 1) (by omega) (by omega)
      refine ⟨d, by omega, fun j a b => ?_, h3, Or.inl (by omega)⟩
      by_cases e : (j : Int) = p
      · rw [show j = p.toNat from by omega]; exact c
      · exact h2 j (by omega) b
    · exact ⟨p, by omega, zBq_0 (by omega), fun _ => c, Or.inr rfl⟩
theorem zW_g {f : Nat → Int32} {n so st be fa dn : Int} (h : zqW f n so st be fa dn) (hg : so ≠ 265) : fa = 0 ∧ -1 ≤ dn ∧ dn ≤ 600 ∧ 0 ≤ st ∧ st ≤ n ∧ zLk f n st so be := by
  rcases h with h | ⟨h1, h2, h3, h4, h5, h6, h7⟩
  · exact absurd h.1 hg
  · exact ⟨h2, h3, h4, h5, h6, h7⟩
theorem zvl_u {f : Nat → Int32} {p : Int} : ∀ k : Nat, (∀ j : Nat, j < k → 48 ≤ (f (p.toNat + j)).toInt ∧ (f (p.toNat + j)).toInt ≤ 57) → zvl f p k < 10 ^ k := by
  intro k
  induction k with
  | zero => intro _; exact (by decide : (0 : Int) < 1)
  | succ k ih =>
    intro h
    have q1 := ih (fun j hj => h j (by omega))
    have q2 := h k (by omega)
    show 10 * zvl f p k + (f (p.toNat + k)).toInt - 48 < 10 ^ (k + 1)
    rw [Int.pow_succ]
    omega
theorem zIni_b {f : Nat → Int32} {n p v d : Int} (hp : 0 ≤ p) (h : zIni f n p (some (v, d))) : -1000000000 < v := by
  obtain ⟨q, e, h1, h2, h3⟩ := h
  have hq : 0 ≤ q := by rcases h1 with h1 | h1 <;> omega
  rcases h3 with ⟨h3, d', h4, h5⟩ | ⟨h3, h4⟩
  · have a1 := zvl_u (f := f) (p := q) (e - q).toNat (fun j hj => h3.2.2 (q.toNat + j) (by omega) (by omega))
    have a2 := zvl_n (f := f) (p := q) (e - q).toNat (fun j hj => (h3.2.2 (q.toNat + j) (by omega) (by omega)).1)
    have a3 : (10 : Int) ^ (e - q).toNat ≤ 1000000000 := by
      have key : ∀ i : Nat, i ≤ 9 → (10 : Int) ^ i ≤ 1000000000 := by decide
      have h6 := h3.2.1
      exact key _ (by omega)
    rcases h5 with ⟨_, h5⟩ | ⟨_, h5⟩ <;> (cases h5; omega)
  · cases h4
def zMkv (f : Nat → Int32) (n a v w : Int) : Prop := ∃ p q p2 q2, zBl f n (a + 1) p ∧ zIni f n p (some (v, q)) ∧ zBl f n (q + 2) p2 ∧ zIni f n p2 (some (w, q2))
theorem zqrm {f : Nat → Int32} {n a lv qt least b0 s0 s1 dn s2 p b2 v s3 q b3 s4 p2 b4 w s5 q2 b5 s6 p3 b6 : Int} {L : List Int} (tb : zqTy f n) (ha : 0 ≤ a) (hb0 : b0 = a + 1) (hn : a < n) (h6 : n ≤ 600) (g : s0 ≠ 265 ∧ dn = -1) (hl : least = -1000000000)
    (t1 : lv < 40 → s1 = s0) (t2 : 40 ≤ lv → s1 = 265)
    (n1 : s1 = 265 ∨ dn ≠ -1 → s2 = 265) (n5 : 0 ≤ b0 → b0 ≤ 602 → s1 ≠ 265 ∧ dn = -1 → zBl f n b0 p ∧ zLk f n p s2 b2)
    (r0 : s2 = 265 ∨ dn ≠ -1 → s3 = 265) (r1 : s2 ≠ 265 ∧ dn = -1 → zRi f n p least v s3 q b3)
    (k0 : s3 = 265 ∨ dn ≠ -1 → s4 = 265) (k1 : s3 ≠ 264 → s4 = 265) (k3 : s3 ≠ 265 ∧ dn = -1 → s3 = 264 → zBl f n b3 p2 ∧ zLk f n p2 s4 b4)
    (u0 : s4 = 265 ∨ dn ≠ -1 → s5 = 265) (u1 : s4 ≠ 265 ∧ dn = -1 → zRi f n p2 v w s5 q2 b5)
    (m0 : s5 = 265 ∨ dn ≠ -1 → s6 = 265) (m1 : s5 ≠ 93 → s6 = 265) (m3 : s5 ≠ 265 ∧ dn = -1 → s5 = 93 → zBl f n b5 p3 ∧ zLk f n p3 s6 b6) :
    (s6 = 265 ∧ zMrk f n a lv qt L none) ∨ (s6 ≠ 265 ∧ lv < 40 ∧ zMrk f n a lv qt L (some (p3, lv + 1, qt, L ++ [zlc 4 lv a 0], false)) ∧ zMkv f n a v w) := by
  subst hl
  have bad : s1 = 265 → s6 = 265 := fun e => m0 (Or.inl (u0 (Or.inl (k0 (Or.inl (r0 (Or.inl (n1 (Or.inl e)))))))))
  have bad3 : s3 = 265 → s6 = 265 := fun e => m0 (Or.inl (u0 (Or.inl (k0 (Or.inl e)))))
  by_cases c : 40 ≤ lv
  · exact Or.inl ⟨bad (t2 c), Or.inl ⟨c, rfl⟩⟩
  have hs1 := t1 (by omega)
  have a1 := n5 (by omega) (by omega) ⟨by omega, g.2⟩
  have k2 := zLk_k a1.2
  have hp := a1.1.1
  subst hb0
  rcases r1 ⟨k2, g.2⟩ with ⟨e3, x⟩ | ⟨e3, x, x2, x3⟩
  · refine Or.inl ⟨bad3 e3, Or.inr ⟨by omega, ?_⟩⟩
    rcases x with x | ⟨v', d', x, y⟩
    · exact ⟨p, none, a1.1, x, Or.inl ⟨rfl, rfl⟩⟩
    · have y2 := zIni_b (by omega) x
      omega
  have hq := zIni_p (by omega) x
  have dd : s3 = 264 ↔ (q < n ∧ zDd f n q) := by
    rcases x3 with x3 | ⟨h1, h2, e, h3, h4⟩ | x3 | x3
    · exact ⟨fun e => by omega, fun e => by omega⟩
    · have hk : s3 ≠ 264 := by
        rcases h4 with h4 | ⟨_, h4⟩
        · omega
        rcases h4 with h4 | ⟨_, h4⟩
        · omega
        rcases h4 with h4 | ⟨_, h4⟩
        · omega
        rcases h4 with h4 | ⟨_, h4⟩
        · omega
        rcases h4 with ⟨c, b1, b2, b3, b4⟩ | h4
        · rcases b4 with b4 | b4 <;> omega
        · omega
      refine ⟨fun e => absurd e hk, fun e => ?_⟩
      have q := e.2.1
      rw [q] at h2
      exact absurd h2 (by unfold zTok; omega)
    · exact ⟨fun _ => ⟨x3.1, x3.2.2.1⟩, fun _ => x3.2.2.2.1⟩
    · have q := Int.emod_lt_of_pos (f q.toNat).toInt (show (0 : Int) < 256 by omega)
      exact ⟨fun e => by omega, fun e => absurd e.2 x3.2.2.1⟩
  by_cases c4 : s3 = 264
  · have a2 := k3 ⟨e3, g.2⟩ c4
    have k4 := zLk_k a2.2
    have hb3 : b3 = q + 2 := by
      have y := dd.mp c4
      rcases x3 with x3 | ⟨h1, h2, e, h3, h4⟩ | x3 | x3
      · omega
      · have q := y.2.1
        rw [q] at h2
        exact absurd h2 (by unfold zTok; omega)
      · exact x3.2.2.2.2
      · exact absurd y.2 x3.2.2.1
    subst hb3
    have hp2 := a2.1.1
    rcases u1 ⟨k4, g.2⟩ with ⟨e5, y⟩ | ⟨e5, y, y2, y3⟩
    · refine Or.inl ⟨m0 (Or.inl e5), Or.inr ⟨by omega, p, some (v, q), a1.1, x, Or.inr ⟨v, q, rfl, Or.inr ⟨dd.mp c4, ?_⟩⟩⟩⟩
      rcases y with y | ⟨v', d', y, z⟩
      · exact ⟨p2, none, a2.1, y, Or.inl ⟨rfl, rfl⟩⟩
      · exact ⟨p2, some (v', d'), a2.1, y, Or.inr ⟨v', d', rfl, Or.inl ⟨fun o => by have o1 := o.1; omega, rfl⟩⟩⟩
    have hq2 := zIni_p (by omega) y
    have b := zLk_s tb (by omega) y3 (v := 93) (by omega) (by omega) (by omega) (by unfold zTok; omega)
    by_cases c6 : s5 = 93
    · have a3 := m3 ⟨e5, g.2⟩ c6
      have hb5 := b.2 c6
      subst hb5
      exact Or.inr ⟨zLk_k a3.2, by omega, Or.inr ⟨by omega, p, some (v, q), a1.1, x, Or.inr ⟨v, q, rfl, Or.inr ⟨dd.mp c4, p2, some (w, q2), a2.1, y, Or.inr ⟨w, q2, rfl, Or.inr ⟨⟨y2, b.1.mp c6⟩, p3, a3.1, rfl⟩⟩⟩⟩⟩, p, q, p2, q2, a1.1, x, a2.1, y⟩
    · exact Or.inl ⟨m1 c6, Or.inr ⟨by omega, p, some (v, q), a1.1, x, Or.inr ⟨v, q, rfl, Or.inr ⟨dd.mp c4, p2, some (w, q2), a2.1, y, Or.inr ⟨w, q2, rfl, Or.inl ⟨fun o => c6 (b.1.mpr o.2), rfl⟩⟩⟩⟩⟩⟩
  · exact Or.inl ⟨m0 (Or.inl (u0 (Or.inl (k1 c4)))), Or.inr ⟨by omega, p, some (v, q), a1.1, x, Or.inr ⟨v, q, rfl, Or.inl ⟨fun o => c4 (dd.mpr o), rfl⟩⟩⟩⟩
theorem zLk_t {f : Nat → Int32} {n a b : Int} (h : zLk f n a 257 b) : a < n ∧ zqRe f n a b := by
  rcases h with h | ⟨h1, h2, e, h3, h4⟩ | h | h
  · omega
  · refine ⟨h1, ?_⟩
    rcases h4 with h4 | ⟨_, h4⟩
    · omega
    rcases h4 with h4 | ⟨_, h4⟩
    · omega
    rcases h4 with h4 | ⟨_, h4⟩
    · omega
    rcases h4 with h4 | ⟨_, h4⟩
    · omega
    rcases h4 with ⟨c, b1, b2, b3, b4⟩ | h4
    · rcases b4 with b4 | b4 <;> omega
    · rw [h4.2.2]; exact h3
  · omega
  · have q := Int.emod_lt_of_pos (f a.toNat).toInt (show (0 : Int) < 256 by omega); omega
section ZRt
variable {f : Nat → Int32} {n a lv qt b0 s0 s1 dn s2 c b2 s3 d b3 : Int} {L : List Int}
theorem zrt_a {sd : Int} (tb : zqTy f n) (ha : 0 ≤ a) (h6 : n ≤ 600) (hk : zLk f n a s0 b0) (h0 : s0 = 257) (g : s0 ≠ 265 ∧ dn = -1) (t1 : lv < 40 → s1 = s0) (t2 : 40 ≤ lv → s1 = 265) (n1 : s1 = 265 ∨ dn ≠ -1 → s2 = 265) (n5 : 0 ≤ b0 → b0 ≤ 602 → s1 ≠ 265 ∧ dn = -1 → zBl f n b0 c ∧ zLk f n c s2 b2) (hs : s2 ≠ 42) :
    (s2 = 265 ∧ zTkn f n sd a lv qt L none) ∨ (s2 ≠ 265 ∧ lv < 40 ∧ zTkn f n sd a lv qt L (some (c, lv + 1, qt, L ++ [zlc 1 lv a sd], true))) := by
  subst h0
  by_cases q : 40 ≤ lv
  · exact Or.inl ⟨n1 (Or.inl (t2 q)), Or.inl ⟨q, rfl⟩⟩
  have e1 := t1 (by omega)
  have k1 := zLk_t hk
  have k2 := k1.2.1
  have k3 := k1.2.2.2.2
  have a1 := n5 (by omega) (by omega) ⟨by omega, g.2⟩
  have a2 := a1.1.1
  have b := zLk_s tb (by omega) a1.2 (v := 42) (by omega) (by omega) (by omega) (by unfold zTok; omega)
  exact Or.inr ⟨zLk_k a1.2, by omega, Or.inr ⟨by omega, b0, c, k1.2, a1.1, Or.inr ⟨fun y => hs (b.1.mpr y), rfl⟩⟩⟩
theorem zrt_b {sd : Int} (tb : zqTy f n) (ha : 0 ≤ a) (h6 : n ≤ 600) (hk : zLk f n a s0 b0) (h0 : s0 = 257) (g : s0 ≠ 265 ∧ dn = -1) (t1 : lv < 40 → s1 = s0) (t2 : 40 ≤ lv → s1 = 265) (n1 : s1 = 265 ∨ dn ≠ -1 → s2 = 265) (n5 : 0 ≤ b0 → b0 ≤ 602 → s1 ≠ 265 ∧ dn = -1 → zBl f n b0 c ∧ zLk f n c s2 b2) (hs : s2 = 42) (m5 : 0 ≤ b2 → b2 ≤ 602 → s2 ≠ 265 ∧ dn = -1 → zBl f n b2 d ∧ zLk f n d s3 b3) :
    s3 ≠ 265 ∧ lv < 40 ∧ zTkn f n sd a lv qt L (some (d, lv + 1, qt, L ++ [zlc 2 lv a sd], true)) := by
  subst h0
  by_cases q : 40 ≤ lv
  · have := n1 (Or.inl (t2 q)); omega
  have e1 := t1 (by omega)
  have k1 := zLk_t hk
  have k2 := k1.2.1
  have k3 := k1.2.2.2.2
  have a1 := n5 (by omega) (by omega) ⟨by omega, g.2⟩
  have a2 := a1.1.1
  have b := zLk_s tb (by omega) a1.2 (v := 42) (by omega) (by omega) (by omega) (by unfold zTok; omega)
  have b1 := b.2 hs
  have b3 := (b.1.mp hs).1
  subst b1
  have a3 := m5 (by omega) (by omega) ⟨by omega, g.2⟩
  exact ⟨zLk_k a3.2, by omega, Or.inr ⟨by omega, b0, c, k1.2, a1.1, Or.inl ⟨b.1.mp hs, d, a3.1, rfl⟩⟩⟩
end ZRt
def zqBn (c : Int) (B : zRl_) : Prop := ∀ a lv qt L q lv' qt' K pl, B a lv qt L (some (q, lv', qt', K, pl)) → 0 ≤ a → 4 * (K.length : Int) + 8 * lv + a + c ≤ 4 * (L.length : Int) + 8 * lv' + q ∧ lv + 1 ≤ lv'
def zqBu (c : Int) (B : zBu) : Prop := ∀ u : Int, zqBn c (B.2 u)
theorem zLk_l {f : Nat → Int32} {n p k b : Int} (h : zLk f n p k b) : (k = 258 → p + 2 ≤ b) ∧ (k = 259 → p + 3 ≤ b) ∧ (k = 260 → p + 3 ≤ b) ∧ (k = 261 → p + 4 ≤ b) ∧ (k = 262 ∨ k = 263 → p + 5 ≤ b) ∧ (k ≠ 256 → p < b ∧ p < n) := by
  rcases h with h | ⟨h1, h2, e, h3, h4⟩ | h | h
  · refine ⟨?_, ?_, ?_, ?_, ?_, ?_⟩ <;> intro q <;> omega
  · have hl : p < e := by
      have q := h3.2.2.1
      have q1 := h3.1
      rcases Int.lt_or_le p e with c | c
      · exact c
      · have c2 : e = p := by omega
        subst c2
        exact absurd h2 (q h1)
    rcases h4 with h4 | ⟨_, h4⟩
    · have q := h4.1.1; refine ⟨?_, ?_, ?_, ?_, ?_, ?_⟩ <;> intro q <;> omega
    rcases h4 with h4 | ⟨_, h4⟩
    · have q := h4.1.1; refine ⟨?_, ?_, ?_, ?_, ?_, ?_⟩ <;> intro q <;> omega
    rcases h4 with h4 | ⟨_, h4⟩
    · have q := h4.1.1; refine ⟨?_, ?_, ?_, ?_, ?_, ?_⟩ <;> intro q <;> omega
    rcases h4 with h4 | ⟨_, h4⟩
    · have q := h4.1.1; refine ⟨?_, ?_, ?_, ?_, ?_, ?_⟩ <;> intro q <;> omega
    rcases h4 with ⟨c, b1, b2, b3, b4⟩ | h4
    · have q1 := b1.1
      rcases b4 with b4 | b4
      · have q := b4.1.1; refine ⟨?_, ?_, ?_, ?_, ?_, ?_⟩ <;> intro q <;> omega
      · have q := b4.2.1.1; refine ⟨?_, ?_, ?_, ?_, ?_, ?_⟩ <;> intro q <;> omega
    · refine ⟨?_, ?_, ?_, ?_, ?_, ?_⟩ <;> intro q <;> omega
  · refine ⟨?_, ?_, ?_, ?_, ?_, ?_⟩ <;> intro q <;> omega
  · have q := Int.emod_lt_of_pos (f p.toNat).toInt (show (0 : Int) < 256 by omega)
    refine ⟨?_, ?_, ?_, ?_, ?_, ?_⟩ <;> intro q <;> omega
theorem zlen1 {L : List Int} {v : Int} : ((L ++ [v]).length : Int) = (L.length : Int) + 1 := by rw [List.length_append, List.length_singleton]; rfl
theorem zTkn_b {f : Nat → Int32} {n sd : Int} : zqBn 4 (zTkn f n sd) := fun a lv qt L q lv' qt' K pl h ha => by
  rcases h with h | ⟨h0, e, c, h1, h2, h3⟩
  · cases h.2
  · have a1 := h1.1
    have a2 := h2.1
    rcases h3 with ⟨b1, d, b2, b3⟩ | ⟨b1, b2⟩
    · have a3 := b2.1; cases b3; rw [zlen1]; omega
    · cases b2; rw [zlen1]; omega
theorem zPhr_b {f : Nat → Int32} {n sd : Int} : zqBn 5 (zPhr f n sd) := fun a lv qt L q lv' qt' K pl h ha => by
  rcases h with h | ⟨h0, h⟩
  · cases h.2
  · rcases h with ⟨c, h1, h2, h3⟩ | ⟨c, d, h1, h2, h3, h4⟩ | ⟨h1, h2⟩
    · cases h3
    · have a1 := h1.1; have a2 := h3.1; cases h4; rw [zlen1]; omega
    · cases h2
theorem zMrk_b {f : Nat → Int32} {n : Int} : zqBn 5 (zMrk f n) := fun a lv qt L q lv' qt' K pl h ha => by
  rcases h with h | ⟨h0, p, x, h1, h2, h3⟩
  · cases h.2
  have a1 := h1.1
  rcases h3 with h3 | ⟨v, q0, hx, h3⟩
  · cases h3.2
  have a2 := zIni_p (by omega) (hx ▸ h2)
  rcases h3 with h3 | ⟨h3, p2, y, h4, h5, h6⟩
  · cases h3.2
  have a3 := h4.1
  rcases h6 with h6 | ⟨w, q2, hy, h6⟩
  · cases h6.2
  have a4 := zIni_p (by omega) (hy ▸ h5)
  rcases h6 with h6 | ⟨h6, d, h7, h8⟩
  · cases h6.2
  have a5 := h7.1
  cases h8
  rw [zlen1]
  omega
theorem zBar_b {f : Nat → Int32} {n sd : Int} {ok : Prop} {B : zRl_} (hB : zqBn 4 B) : zqBn 5 (zBar f n sd ok B) := fun a lv qt L q lv' qt' K pl h ha => by
  rcases h with ⟨hs, h⟩ | ⟨hs, h⟩
  · rcases h with h | ⟨h0, p, x, h1, h2, h3⟩
    · cases h.2
    have a1 := h1.1
    rcases h3 with h3 | ⟨q0, l, t, K, pl0, hx, h3⟩
    · cases h3.2
    have a2 := hB _ _ _ _ _ _ _ _ _ (hx ▸ h2) (by omega)
    rcases h3 with h3 | ⟨h3, d, h4, h5⟩
    · cases h3.2
    have a3 := h4.1
    cases h5
    omega
  rcases h with ⟨h1, h⟩ | ⟨h1, h⟩
  · exact zMrk_b _ _ _ _ _ _ _ _ _ h ha
  rcases h with ⟨h2, h⟩ | ⟨h2, h⟩
  · exact zPhr_b _ _ _ _ _ _ _ _ _ h ha
  rcases h with ⟨⟨b, h3⟩, h⟩ | ⟨h3, h⟩
  · have k1 := (zLk_l h3).2.2.2.2.2 (by omega)
    have k2 := zLk_t h3
    rcases h with h | ⟨h0, e, c, g1, g2, g3⟩
    · cases h.2
    · have e1 := zRe_u ha g1 k2.2
      have a2 := g2.1
      rcases g3 with ⟨b1, d, b2, b3⟩ | ⟨b1, b2⟩
      · have a3 := b2.1; cases b3; rw [zlen1]; omega
      · cases b2; rw [zlen1]; omega
  · cases h
theorem zFs_b {f : Nat → Int32} {n : Int} : ∀ {k : Nat} {a x : Int} {M : List Int}, zFs f n k a x M → 0 ≤ a → a + 5 * (k : Int) ≤ x ∧ M.length = k := by
  intro k
  induction k with
  | zero => intro a x M h ha; rw [h.1, h.2]; exact ⟨by omega, rfl⟩
  | succ k ih =>
    intro a x M h ha
    obtain ⟨kd, b, p, M', h1, h2, h3, h4, h5⟩ := h
    have hb := (zLk_l h1).2.2.2.2.1 h2
    have hp := h3.1
    have q := ih h4 (by omega)
    exact ⟨by omega, by rw [h5, List.length_append, List.length_singleton, q.2]⟩
theorem zUni_b {f : Nat → Int32} {n : Int} {ok : Prop} {B : zBu} (hB : zqBu 4 B) : zqBn 5 (zUni f n ok B) := fun a lv qt L q lv' qt' K pl h ha => by
  obtain ⟨k, x, M, h1, h2⟩ := h
  have hx := zFs_b h1 ha
  rcases h2 with h2 | ⟨h2, h3, u, h4, h5⟩
  · cases h2.2.2
  rcases h5 with h5 | ⟨q0, l, t, K, pl0, hu, h5⟩
  · cases h5.2
  have a2 := zBar_b (hB _) _ _ _ _ _ _ _ _ _ (hu ▸ h4) (by omega)
  rcases h5 with h5 | h5
  · cases h5.2
  · have h6 := h5.2
    cases h6
    rw [List.length_append]
    omega
theorem zNea_b {f : Nat → Int32} {n : Int} {ok : Prop} {B : zBu} (hB : zqBu 4 B) (hM : zMou B) : zqBn 5 (zNea f n ok B) := fun a lv qt L q lv' qt' K pl h ha => by
  obtain ⟨x, h1, h2⟩ := h
  rcases h2 with h2 | ⟨q0, l, t, K, pl0, hx, h2⟩
  · cases h2.2
  have hq := zUni_b hB _ _ _ _ _ _ _ _ _ (hx ▸ h1) ha
  rcases h2 with h2 | ⟨b, p, e, h3, h4, h5, h6⟩
  · cases h2.2; omega
  have hb := (zLk_l h3).2.2.2.1 rfl
  have hp := h4.1
  have he := h5.1
  rcases h6 with h6 | ⟨h6, p2, y, h7, h8, h9⟩
  · cases h6.2
  have hp2 := h7.1
  rcases h9 with h9 | ⟨q2, l2, t2, K2, pl2, hy, h9⟩
  · cases h9.2
  have h0 := zUni_m hM _ _ _ _ _ _ _ _ _ (hx ▸ h1) ha
  have hq2 := zUni_b hB _ _ _ _ _ _ _ _ _ (hy ▸ h8) (by omega)
  rcases h9 with h9 | h9
  · cases h9.2
  · have h9 := h9.2
    cases h9
    rw [zlen1]
    omega
theorem zNs_b {f : Nat → Int32} {n : Int} : ∀ {k : Nat} {a x : Int}, zNs f n k a x → 0 ≤ a → a + 3 * (k : Int) ≤ x := by
  intro k
  induction k with
  | zero => intro a x h ha; have h : x = a := h; omega
  | succ k ih =>
    intro a x h ha
    obtain ⟨b, p, h1, h2, h3⟩ := h
    have hb := (zLk_l h1).2.2.1 rfl
    have hp := h2.1
    have q := ih h3 (by omega)
    omega
theorem zNot_b {f : Nat → Int32} {n : Int} {ok : Prop} {B : zBu} (hB : zqBu 4 B) (hM : zMou B) {a lv qt : Int} {L : List Int} {q lv' qt' : Int} {K : List Int} {pl : Bool} (h : zNot f n ok B a lv qt L (some (q, lv', qt', K, pl))) (ha : 0 ≤ a) : (4 * (K.length : Int) + 8 * lv + a + 5 ≤ 4 * (L.length : Int) + 8 * lv' + q ∧ lv + 1 ≤ lv') ∧ (pl = true → 4 * (K.length : Int) + 8 * lv + a + 8 ≤ 4 * (L.length : Int) + 8 * lv' + q) := by
  obtain ⟨k, x, h1, h2⟩ := h
  have hx := zNs_b h1 ha
  rcases h2 with h2 | ⟨h2, h3, u, h4, h5⟩
  · cases h2.2.2
  rcases h5 with h5 | ⟨q0, l, t, K, pl0, hu, h5⟩
  · cases h5.2
  have a2 := zNea_b (B := zBx k B) hB hM _ _ _ _ _ _ _ _ _ (hu ▸ h4) (by omega)
  cases h5
  exact ⟨by omega, fun e => by have e := of_decide_eq_true e; omega⟩
theorem zAlp_b {f : Nat → Int32} {n : Int} {ok : Prop} {B : zBu} (hB : zqBu 4 B) (hM : zMou B) : ∀ {k : Nat} {a lv qt : Int} {L : List Int} {q lv' qt' : Int} {L' : List Int} {pl : Bool}, zAlp f n ok B k a lv qt L (some (q, lv', qt', L', pl)) → 0 ≤ a → 4 * (L'.length : Int) + 8 * lv + a ≤ 4 * (L.length : Int) + 8 * lv' + q ∧ lv ≤ lv' := by
  intro k
  induction k with
  | zero => intro a lv qt L q lv' qt' L' pl h ha; have h2 := h.2; cases h2; omega
  | succ k ih =>
    intro a lv qt L q lv' qt' L' pl h ha
    obtain ⟨h0, p, x, h1, h2, h3⟩ := h
    have hp : a ≤ p := by
      rcases h1 with ⟨b, h1, h4⟩ | ⟨h1, h4⟩
      · have hb := zLk_b h1
        have hp := h4.1
        omega
      · omega
    rcases h3 with h3 | ⟨q0, l, t, K, pl0, hx, h3⟩
    · cases h3.2
    have hq := zNot_m hM _ _ _ _ _ _ _ _ _ (hx ▸ h2) (by omega)
    have hq2 := (zNot_b hB hM (hx ▸ h2) (by omega)).1
    have q2 := ih h3 (by omega)
    rw [zlen1] at q2
    omega
theorem zAll_b {f : Nat → Int32} {n : Int} {ok : Prop} {B : zBu} (hB : zqBu 4 B) (hM : zMou B) : zqBn 4 (zAll f n ok B) := fun a lv qt L q lv' qt' L' pl h ha => by
  obtain ⟨x, h1, h2⟩ := h
  rcases h2 with h2 | ⟨q0, l, t, K, pl0, k, hx, h2⟩
  · cases h2.2
  have hq := zNot_m hM _ _ _ _ _ _ _ _ _ (hx ▸ h1) ha
  have hq2 := zNot_b hB hM (hx ▸ h1) ha
  have q2 := zAlp_b hB hM h2 (by omega)
  cases pl0 with
  | true => have hq3 := hq2.2 rfl; rw [if_pos rfl, zlen1] at q2; omega
  | false => rw [if_neg (by decide)] at q2; omega
theorem zQlp_b {f : Nat → Int32} {n : Int} {ok : Prop} {B : zBu} (hB : zqBu 4 B) (hM : zMou B) : ∀ {k : Nat} {a lv qt : Int} {L : List Int} {q lv' qt' : Int} {L' : List Int} {pl : Bool}, zQlp f n ok B k a lv qt L (some (q, lv', qt', L', pl)) → 0 ≤ a → 4 * (L'.length : Int) + 8 * lv + a ≤ 4 * (L.length : Int) + 8 * lv' + q ∧ lv ≤ lv' := by
  intro k
  induction k with
  | zero => intro a lv qt L q lv' qt' L' pl h ha; have h2 := h.2; cases h2; omega
  | succ k ih =>
    intro a lv qt L q lv' qt' L' pl h ha
    obtain ⟨b, p, x, h1, h4, h2, h3⟩ := h
    have hb := zLk_b h1
    have hp := h4.1
    rcases h3 with h3 | ⟨q0, l, t, K, pl0, hx, h3⟩
    · cases h3.2
    have hq := zAll_m hM _ _ _ _ _ _ _ _ _ (hx ▸ h2) (by omega)
    have hq2 := zAll_b hB hM _ _ _ _ _ _ _ _ _ (hx ▸ h2) (by omega)
    have q2 := ih h3 (by omega)
    rw [zlen1] at q2
    omega
theorem zQue_b {f : Nat → Int32} {n : Int} {ok : Prop} {B : zBu} (hB : zqBu 4 B) (hM : zMou B) : zqBn 4 (zQue f n ok B) := fun a lv qt L q lv' qt' L' pl h ha => by
  obtain ⟨x, h1, h2⟩ := h
  rcases h2 with h2 | ⟨q0, l, t, K, pl0, k, hx, h2⟩
  · cases h2.2
  have hq := zAll_m hM _ _ _ _ _ _ _ _ _ (hx ▸ h1) ha
  have hq2 := zAll_b hB hM _ _ _ _ _ _ _ _ _ (hx ▸ h1) ha
  have q2 := zQlp_b hB hM h2 (by omega)
  omega
theorem zQry_b {f : Nat → Int32} {n : Int} : ∀ d : Nat, ∀ u : Int, zqBn 4 (zQry f n d u) := by
  intro d
  induction d with
  | zero => exact fun u => zQue_b (fun _ _ _ _ _ _ _ _ _ _ h => False.elim h) (fun _ _ _ _ _ _ _ _ _ _ h => False.elim h)
  | succ d ih => exact fun u => zQue_b ih (zQry_dm d).2
def zokR : Nat → Prop
  | 0 => False
  | _ + 1 => True
def zsbR (f : Nat → Int32) (n : Int) : Nat → Int → zRl_
  | 0 => fun _ _ _ _ _ _ => False
  | d + 1 => zQry f n d
theorem zQry_e {f : Nat → Int32} {n : Int} (d : Nat) (u : Int) : zQry f n d u = zQue f n (zokR d) (u, zsbR f n d) := by cases d <;> rfl
theorem zsbR_b {f : Nat → Int32} {n : Int} (d : Nat) : ∀ u : Int, zqBn 4 (zsbR f n d u) := by
  cases d with
  | zero => exact fun _ _ _ _ _ _ _ _ _ _ h => False.elim h
  | succ d => exact zQry_b d
theorem zsbR_m {f : Nat → Int32} {n : Int} (d : Nat) : ∀ u : Int, zMon (zsbR f n d u) := by
  cases d with
  | zero => exact fun _ _ _ _ _ _ _ _ _ _ h => False.elim h
  | succ d => exact (zQry_dm d).2
theorem zRe_x {f : Nat → Int32} {n : Int} : ∀ k : Nat, ∀ p : Int, 0 ≤ p → (n - p).toNat = k → ∃ d, zqRe f n p d := by
  intro k
  induction k with
  | zero => intro p hp hk; exact ⟨p, by omega, zAt_0 (by omega), fun h => by omega, Or.inr rfl⟩
  | succ k ih =>
    intro p hp hk
    by_cases c : zTok (f p.toNat).toInt
    · obtain ⟨d, h1, h2, h3, h4⟩ := ih (p + 1) (by omega) (by omega)
      refine ⟨d, by omega, fun j a b => ?_, h3, Or.inl (by omega)⟩
      by_cases e : (j : Int) = p
      · rw [show j = p.toNat from by omega]; exact c
      · exact h2 j (by omega) b
    · exact ⟨p, by omega, zAt_0 (by omega), fun _ => c, Or.inr rfl⟩
theorem zFs_s {f : Nat → Int32} {n : Int} : ∀ {k : Nat} {a x kd b p : Int} {M : List Int}, zFs f n k a x M → zLk f n x kd b → (kd = 262 ∨ kd = 263) → zBl f n b p → zFs f n (k + 1) a p ((if kd = 262 then 6000 else 7000) :: M) := by
  intro k
  induction k with
  | zero =>
    intro a x kd b p M h h1 h2 h3
    have e1 := h.1
    have e2 := h.2
    subst e1; subst e2
    exact ⟨kd, b, p, [], h1, h2, h3, ⟨rfl, rfl⟩, rfl⟩
  | succ k ih =>
    intro a x kd b p M h h1 h2 h3
    obtain ⟨kd', b', p', M', g1, g2, g3, g4, g5⟩ := h
    exact ⟨kd', b', p', _, g1, g2, g3, ih g4 h1 h2 h3, by rw [g5]; rfl⟩
theorem zNs_s {f : Nat → Int32} {n : Int} : ∀ {k : Nat} {a x b p : Int}, zNs f n k a x → zLk f n x 260 b → zBl f n b p → zNs f n (k + 1) a p := by
  intro k
  induction k with
  | zero =>
    intro a x b p h h1 h3
    have e1 : x = a := h
    subst e1
    exact ⟨b, p, h1, h3, rfl⟩
  | succ k ih =>
    intro a x b p h h1 h3
    obtain ⟨b', p', g1, g3, g4⟩ := h
    exact ⟨b', p', g1, g3, ih g4 h1 h3⟩
