def zBk (b : Int) : Prop := b = 32 ∨ b = 10
def zBq (f : Nat → Int32) (p q : Int) : Prop := ∀ j : Nat, p ≤ (j : Int) → (j : Int) < q → zBk (f j).toInt
def zBl (f : Nat → Int32) (n p q : Int) : Prop := p ≤ q ∧ zBq f p q ∧ (q < n → ¬ zBk (f q.toNat).toInt) ∧ (q ≤ n ∨ q = p)
def zRe (f : Nat → Int32) (n p q : Int) : Prop := p ≤ q ∧ zAt f p q ∧ (q < n → ¬ zTok (f q.toNat).toInt) ∧ (q ≤ n ∨ q = p)
def zTy (f : Nat → Int32) (n : Int) : Prop := ∀ j : Nat, (j : Int) < n → -128 ≤ (f j).toInt ∧ (f j).toInt ≤ 127
theorem zBq_0 {f : Nat → Int32} {p q : Int} (h : q ≤ p) : zBq f p q := fun j a b => by omega
theorem zBq_s {f : Nat → Int32} {p c : Int} {k z : Int32} (h : zBq f p k.toInt) (e : z = f k.toNatClampNeg) (hz : zBk z.toInt) (h0 : 0 ≤ k.toInt) (hc : c = k.toInt + 1) : zBq f p c := fun j q1 q2 => by
  by_cases d : (j : Int) < k.toInt
  · exact h j q1 d
  · have q : j = k.toNatClampNeg := by have q : k.toNatClampNeg = k.toInt.toNat := rfl; omega
    rw [q, ← e]; exact hz
theorem zBl_i {f : Nat → Int32} {n p : Int} {k : Int32} (h : zBq f p k.toInt) (h1 : p ≤ k.toInt) (h2 : k.toInt ≤ n ∨ k.toInt = p) (h3 : k.toInt < n → ¬ zBk (f k.toNatClampNeg).toInt) : zBl f n p k.toInt := ⟨h1, h, h3, h2⟩
theorem zBk_n {f : Nat → Int32} {k z y : Int32} (e : z = f k.toNatClampNeg) (e2 : y = f k.toNatClampNeg) (h : z.toInt ≠ 32) (h2 : y.toInt ≠ 10) : ¬ zBk (f k.toNatClampNeg).toInt := fun q => by
  unfold zBk at q
  rw [← e] at q
  rw [e, ← e2] at q h
  omega
theorem zBl_u {f : Nat → Int32} {n p q r : Int} (hp : 0 ≤ p) (h : zBl f n p q) (h' : zBl f n p r) : q = r := by
  obtain ⟨a1, a2, a3, a4⟩ := h
  obtain ⟨b1, b2, b3, b4⟩ := h'
  rcases Int.lt_trichotomy q r with c | c | c
  · exact absurd (b2 q.toNat (by omega) (by omega)) (a3 (by omega))
  · exact c
  · exact absurd (a2 r.toNat (by omega) (by omega)) (b3 (by omega))
theorem zRe_u {f : Nat → Int32} {n p q r : Int} (hp : 0 ≤ p) (h : zRe f n p q) (h' : zRe f n p r) : q = r := by
  obtain ⟨a1, a2, a3, a4⟩ := h
  obtain ⟨b1, b2, b3, b4⟩ := h'
  rcases Int.lt_trichotomy q r with c | c | c
  · exact absurd (b2 q.toNat (by omega) (by omega)) (a3 (by omega))
  · exact c
  · exact absurd (a2 r.toNat (by omega) (by omega)) (b3 (by omega))
theorem zAt_e {f : Nat → Int32} {n p i j : Int} (h : zAt f p i) (h1 : zIn f n i) (e : j = i + 1) : zAt f p j := fun k q1 q2 => by
  by_cases d : (k : Int) < i
  · exact h k q1 d
  · have q := h1.2.2; rw [show i.toNat = k from by omega] at q; exact q
def zCsT : List (List Int) := [[105, 101, 115], [105, 110, 103], [101, 100], [115], [115, 115], [117, 115], [105, 115], [111, 114], [97, 110, 100], [110, 111, 116], [110, 101, 97, 114], [116, 105, 116, 108, 101], [98, 111, 100, 121]]
def zCs (s : Nat) (k : Int) : Int := (zCsT.getD s []).getD k.toNat 0
theorem zcs9 {s : Nat} {x z8 z12 z13 : Int32} (hs : s < 13) (e8 : z8 = (zSbyt.getD s []).getD x.toNatClampNeg 0) (e12 : z12 = z8 &&& 255) (e13 : z13 = (z12.toUInt32 % 65536).toInt32) (h1 : x.toNatClampNeg < 5) : z13.toInt = zCs s x.toInt := by
  have key : ∀ s, s < 13 → ∀ n, n < 5 → ((((zSbyt.getD s []).getD n 0) &&& 255).toUInt32 % 65536).toInt32.toInt = (zCsT.getD s []).getD n 0 := by decide +kernel
  rw [e13, e12, e8]
  exact key s hs x.toNatClampNeg h1
def zSq (f : Nat → Int32) (p : Int) (s : Nat) (k : Int) : Prop := ∀ j : Nat, (j : Int) < k → (f (p.toNat + j) ||| 32).toInt = zCs s j
def zSpl (f : Nat → Int32) (p e : Int) (s : Nat) (l : Int) : Prop := e - p = l ∧ zSq f p s l
theorem zSq_0 {f : Nat → Int32} {p k : Int} {s : Nat} (h : k ≤ 0) : zSq f p s k := fun j hj => by omega
theorem zSq_s {f : Nat → Int32} {p c : Int} {s : Nat} {k i z y : Int32} (h : zSq f p s k.toInt) (e : z = f i.toNatClampNeg) (ey : y = z ||| 32) (hi : i.toInt = p + k.toInt) (hp : 0 ≤ p) (hk : 0 ≤ k.toInt) (hy : y.toInt = zCs s k.toInt) (hc : c = k.toInt + 1) : zSq f p s c := fun j hj => by
  by_cases d : (j : Int) < k.toInt
  · exact h j d
  · have q : i.toNatClampNeg = p.toNat + j := by have q : i.toNatClampNeg = i.toInt.toNat := rfl; omega
    rw [← q, ← e, ← ey, hy, show (j : Int) = k.toInt from by omega]
theorem zSpl_n {f : Nat → Int32} {p b l : Int} {s : Nat} {k i z y : Int32} (e : z = f i.toNatClampNeg) (ey : y = z ||| 32) (hi : i.toInt = p + k.toInt) (hp : 0 ≤ p) (hk : 0 ≤ k.toInt) (hl : k.toInt < l) (hy : y.toInt ≠ zCs s k.toInt) : ¬ zSpl f p b s l := fun q => by
  have q1 := q.2 k.toNatClampNeg (by have q : k.toNatClampNeg = k.toInt.toNat := rfl; omega)
  have q2 : i.toNatClampNeg = p.toNat + k.toNatClampNeg := by have q : i.toNatClampNeg = i.toInt.toNat := rfl; have q' : k.toNatClampNeg = k.toInt.toNat := rfl; omega
  rw [← q2, ← e, ← ey, show ((k.toNatClampNeg : Nat) : Int) = k.toInt from zclamp hk] at q1
  exact hy q1
def zCo (f : Nat → Int32) (n c : Int) : Prop := c < n ∧ (f c.toNat).toInt = 58
theorem zand256 (b : Int32) : (b &&& 255).toInt = b.toInt % 256 := by
  have h2 : (b &&& 255).toBitVec.toNat = b.toBitVec.toNat &&& 255 := rfl
  have h3 : b.toBitVec.toNat &&& 255 = b.toBitVec.toNat % 256 := Nat.and_two_pow_sub_one_eq_mod b.toBitVec.toNat 8
  have h4 := ztoi (b &&& 255)
  have h5 := ztoi b
  have h6 : b.toBitVec.toNat % 256 < 256 := Nat.mod_lt _ (by decide)
  rw [h2, h3] at h4
  rw [if_pos (by omega)] at h4
  rw [h4, h5]
  split <;> omega
theorem zCo_i {f : Nat → Int32} {n r : Int} {c : Int32} {Z : Prop} (hb : zTy f n) (h : 0 ≤ c.toInt ∧ c.toInt < n → r = (f c.toNatClampNeg &&& 255).toInt) (h1 : r ≠ -1 → 0 ≤ c.toInt ∧ c.toInt < n ∧ Z) (hr : r = 58) : zCo f n c.toInt := by
  have q := h1 (by omega)
  have q2 := h ⟨q.1, q.2.1⟩
  have q3 : c.toNatClampNeg = c.toInt.toNat := rfl
  have q4 := hb c.toNatClampNeg (by omega)
  rw [zand256] at q2
  exact ⟨q.2.1, show (f c.toNatClampNeg).toInt = 58 by omega⟩
theorem zCo_n {f : Nat → Int32} {n r : Int} {c : Int32} (hb : zTy f n) (h : 0 ≤ c.toInt ∧ c.toInt < n → r = (f c.toNatClampNeg &&& 255).toInt) (h0 : 0 ≤ c.toInt) (hr : r ≠ 58) : ¬ zCo f n c.toInt := fun y => by
  have q2 := h ⟨h0, y.1⟩
  rw [zand256] at q2
  have q3 : (f c.toNatClampNeg).toInt = 58 := y.2
  omega
def zFc (f : Nat → Int32) (n e : Int) : Prop := ∃ c, zBl f n e c ∧ zCo f n c
def zKw (f : Nat → Int32) (n p e k b : Int) : Prop :=
  (zSpl f p e 7 2 ∧ k = 258 ∧ b = e) ∨ (¬ zSpl f p e 7 2 ∧ (
  (zSpl f p e 8 3 ∧ k = 259 ∧ b = e) ∨ (¬ zSpl f p e 8 3 ∧ (
  (zSpl f p e 9 3 ∧ k = 260 ∧ b = e) ∨ (¬ zSpl f p e 9 3 ∧ (
  (zSpl f p e 10 4 ∧ k = 261 ∧ b = e) ∨ (¬ zSpl f p e 10 4 ∧ (
  (∃ c, zBl f n e c ∧ zCo f n c ∧ b = c + 1 ∧ ((zSpl f p e 11 5 ∧ k = 262) ∨ (¬ zSpl f p e 11 5 ∧ zSpl f p e 12 4 ∧ k = 263))) ∨
  (¬ ((zSpl f p e 11 5 ∨ zSpl f p e 12 4) ∧ zFc f n e) ∧ k = 257 ∧ b = e)))))))))
def zDd (f : Nat → Int32) (n p : Int) : Prop := (f p.toNat).toInt = 46 ∧ p + 1 < n ∧ (f (p + 1).toNat).toInt = 46
def zLk (f : Nat → Int32) (n p k b : Int) : Prop :=
  (n ≤ p ∧ k = 256 ∧ b = p + 1) ∨ (p < n ∧ zTok (f p.toNat).toInt ∧ ∃ e, zRe f n p e ∧ zKw f n p e k b)
  ∨ (p < n ∧ ¬ zTok (f p.toNat).toInt ∧ zDd f n p ∧ k = 264 ∧ b = p + 2)
  ∨ (p < n ∧ ¬ zTok (f p.toNat).toInt ∧ ¬ zDd f n p ∧ k = (f p.toNat).toInt % 256 ∧ b = p + 1)
theorem zKw_u {f : Nat → Int32} {n p e k b k' b' : Int} (he : 0 ≤ e) (h : zKw f n p e k b) (h' : zKw f n p e k' b') : k = k' ∧ b = b' := by
  rcases h with h | ⟨g, h⟩ <;> rcases h' with h' | ⟨g', h'⟩
  · exact ⟨by rw [h.2.1, h'.2.1], by rw [h.2.2, h'.2.2]⟩
  · exact absurd h.1 g'
  · exact absurd h'.1 g
  rcases h with h | ⟨g, h⟩ <;> rcases h' with h' | ⟨g', h'⟩
  · exact ⟨by rw [h.2.1, h'.2.1], by rw [h.2.2, h'.2.2]⟩
  · exact absurd h.1 g'
  · exact absurd h'.1 g
  rcases h with h | ⟨g, h⟩ <;> rcases h' with h' | ⟨g', h'⟩
  · exact ⟨by rw [h.2.1, h'.2.1], by rw [h.2.2, h'.2.2]⟩
  · exact absurd h.1 g'
  · exact absurd h'.1 g
  rcases h with h | ⟨g, h⟩ <;> rcases h' with h' | ⟨g', h'⟩
  · exact ⟨by rw [h.2.1, h'.2.1], by rw [h.2.2, h'.2.2]⟩
  · exact absurd h.1 g'
  · exact absurd h'.1 g
  rcases h with ⟨c, a1, a2, a3, a4⟩ | ⟨a1, a2, a3⟩ <;> rcases h' with ⟨c', b1, b2, b3, b4⟩ | ⟨b1, b2, b3⟩
  · have q := zBl_u he a1 b1
    refine ⟨?_, by rw [a3, b3, q]⟩
    rcases a4 with a4 | a4 <;> rcases b4 with b4 | b4
    · rw [a4.2, b4.2]
    · exact absurd a4.1 b4.1
    · exact absurd b4.1 a4.1
    · rw [a4.2.2, b4.2.2]
  · refine absurd ⟨?_, c, a1, a2⟩ b1
    rcases a4 with a4 | a4
    · exact Or.inl a4.1
    · exact Or.inr a4.2.1
  · refine absurd ⟨?_, c', b1, b2⟩ a1
    rcases b4 with b4 | b4
    · exact Or.inl b4.1
    · exact Or.inr b4.2.1
  · exact ⟨by rw [a2, b2], by rw [a3, b3]⟩
theorem zLk_u {f : Nat → Int32} {n p k b k' b' : Int} (hp : 0 ≤ p) (h : zLk f n p k b) (h' : zLk f n p k' b') : k = k' ∧ b = b' := by
  rcases h with h | ⟨h1, h2, e, h3, h4⟩ | h | h <;> rcases h' with h' | ⟨g1, g2, e', g3, g4⟩ | h' | h'
  · exact ⟨by rw [h.2.1, h'.2.1], by rw [h.2.2, h'.2.2]⟩
  · omega
  · omega
  · omega
  · omega
  · have q := zRe_u hp h3 g3
    subst q
    exact zKw_u (by have q1 := h3.1; omega) h4 g4
  · exact absurd h2 h'.2.1
  · exact absurd h2 h'.2.1
  · omega
  · exact absurd g2 h.2.1
  · exact ⟨by rw [h.2.2.2.1, h'.2.2.2.1], by rw [h.2.2.2.2, h'.2.2.2.2]⟩
  · exact absurd h.2.2.1 h'.2.2.1
  · omega
  · exact absurd g2 h.2.1
  · exact absurd h'.2.2.1 h.2.2.1
  · exact ⟨by rw [h.2.2.2.1, h'.2.2.2.1], by rw [h.2.2.2.2, h'.2.2.2.2]⟩
theorem zFc_n {f : Nat → Int32} {n e c : Int} (h : zBl f n e c) (hc : ¬ zCo f n c) (he : 0 ≤ e) : ¬ zFc f n e := fun ⟨d, q1, q2⟩ => by
  rw [zBl_u he q1 h] at q2
  exact hc q2
section ZAt
variable {f : Nat → Int32} {n r v : Int} {c : Int32}
theorem zat_n (h : 0 ≤ c.toInt ∧ c.toInt < n → r = (f c.toNatClampNeg &&& 255).toInt) (hr : r = -1) (h0 : 0 ≤ c.toInt) : n ≤ c.toInt := by
  by_cases d : c.toInt < n
  · have q := h ⟨h0, d⟩
    rw [zand256] at q
    omega
  · omega
theorem zat_m (h : 0 ≤ c.toInt ∧ c.toInt < n → r = (f c.toNatClampNeg &&& 255).toInt) (h0 : 0 ≤ c.toInt) (h1 : c.toInt < n) : r = (f c.toInt.toNat).toInt % 256 := by
  have q := h ⟨h0, h1⟩
  rw [zand256] at q
  exact q
theorem zat_v (hb : zTy f n) (h : 0 ≤ c.toInt ∧ c.toInt < n → r = (f c.toNatClampNeg &&& 255).toInt) (h0 : 0 ≤ c.toInt) (h1 : c.toInt < n) (hr : r = v) (h2 : 0 ≤ v) (h3 : v ≤ 127) : (f c.toInt.toNat).toInt = v := by
  have q := zat_m h h0 h1
  have q2 := hb c.toInt.toNat (by omega)
  omega
theorem zDd_y {d : Int32} {rd : Int} (hb : zTy f n) (h : 0 ≤ c.toInt ∧ c.toInt < n → r = (f c.toNatClampNeg &&& 255).toInt) (g : 0 ≤ d.toInt ∧ d.toInt < n → rd = (f d.toNatClampNeg &&& 255).toInt) (h0 : 0 ≤ c.toInt) (h1 : c.toInt < n) (e : d.toInt = c.toInt + 1) (hd : d.toInt < n) (hr : r = 46) (hr2 : rd = 46) : zDd f n c.toInt :=
  ⟨zat_v hb h h0 h1 hr (by omega) (by omega), by omega, by rw [← e]; exact zat_v hb g (by omega) hd hr2 (by omega) (by omega)⟩
theorem zDd_a (h : 0 ≤ c.toInt ∧ c.toInt < n → r = (f c.toNatClampNeg &&& 255).toInt) (h0 : 0 ≤ c.toInt) (h1 : c.toInt < n) (hr : r ≠ 46) : ¬ zDd f n c.toInt := fun q => by
  have q1 := zat_m h h0 h1
  have q2 := q.1
  omega
theorem zDd_b {d : Int32} {rd : Int} (g : 0 ≤ d.toInt ∧ d.toInt < n → rd = (f d.toNatClampNeg &&& 255).toInt) (h0 : 0 ≤ c.toInt) (e : d.toInt = c.toInt + 1) (hr : rd ≠ 46) : ¬ zDd f n c.toInt := fun q => by
  have q1 := zat_m g (by omega) (by have q2 := q.2.1; omega)
  have q2 := q.2.2
  rw [e] at q1
  omega
end ZAt
theorem zgu {f : Nat → Int32} {n c r : Int} {i : Int32} (e : r = (f i.toNatClampNeg).toInt) (h : i.toInt = n) (hc : r = c) : (f n.toNat).toInt = c := by
  have q : i.toNatClampNeg = n.toNat := by have q : i.toNatClampNeg = i.toInt.toNat := rfl; omega
  rw [← q, ← e]; exact hc
def zMl (f : Nat → Int32) (n p h b : Int) : Prop :=
  (n ≤ p ∧ h = 0) ∨ (p < n ∧ zTok (f p.toNat).toInt ∧ h = 1 ∧ zRe f n p b)
  ∨ (p < n ∧ ¬ zTok (f p.toNat).toInt ∧ zDd f n p ∧ h = 3 ∧ b = p + 2)
  ∨ (p < n ∧ ¬ zTok (f p.toNat).toInt ∧ ¬ zDd f n p ∧ h = 2 ∧ b = p + 1)
theorem zBq_t {f : Nat → Int32} {p i j : Int} (h : zBq f p i) (hz : zBk (f i.toNat).toInt) (h0 : 0 ≤ i) (hj : j = i + 1) : zBq f p j := fun k q1 q2 => by
  by_cases d : (k : Int) < i
  · exact h k q1 d
  · rw [show k = i.toNat from by omega]; exact hz
def zSpm (f : Nat → Int32) (p e : Int) (s : Nat) (l : Int) : Prop := e - p = l ∧ ∀ j : Nat, (j : Int) < l → zSml (f (p.toNat + j)).toInt = zCs s j
theorem zor32 {b : Int32} (h : zTok b.toInt) : (b ||| 32).toInt = zSml b.toInt := by
  have key : ∀ m : Nat, m < 128 → ((48 ≤ m ∧ m ≤ 57) ∨ (97 ≤ m ∧ m ≤ 122) ∨ (65 ≤ m ∧ m ≤ 90)) → ((Int32.ofNat m) ||| 32).toInt = if 65 ≤ m ∧ m ≤ 90 then (m : Int) + 32 else (m : Int) := by decide +kernel
  have h0 : 0 ≤ b.toInt ∧ b.toInt ≤ 122 := by unfold zTok at h; omega
  have e : b = Int32.ofNat b.toInt.toNat := by
    apply zeqi.mpr
    rw [show (Int32.ofNat b.toInt.toNat).toInt = (b.toInt.toNat : Int) from Int32.toInt_ofNat_of_lt (by omega)]
    omega
  have k := key b.toInt.toNat (by omega) (by unfold zTok at h; omega)
  rw [← e] at k
  rw [k]
  unfold zSml
  split <;> split <;> omega
theorem zSpl_m {f : Nat → Int32} {p e l : Int} {s : Nat} (ha : zAt f p e) (h0 : 0 ≤ p) : zSpl f p e s l ↔ zSpm f p e s l := by
  constructor
  · intro h
    refine ⟨h.1, fun j hj => ?_⟩
    have q := h.2 j hj
    rw [zor32 (ha _ (by omega) (by have q1 := h.1; omega))] at q
    exact q
  · intro h
    refine ⟨h.1, fun j hj => ?_⟩
    have q := h.2 j hj
    rw [zor32 (ha _ (by omega) (by have q1 := h.1; omega))]
    exact q
def zSg (f : Nat → Int32) (p h c : Int) : Prop := h = 2 ∧ (f p.toNat).toInt = c
def zSs (f : Nat → Int32) (p : Int) : Int := zSml (f p.toNat).toInt
theorem zss {f : Nat → Int32} {p a r : Int} {i z : Int32} (e : z = f i.toNatClampNeg) (hr : r = zSml z.toInt) (hi : i.toInt = p) (ha : r = a) : zSs f p = a := by
  subst hi
  show zSml (f i.toNatClampNeg).toInt = a
  rw [← e, ← hr, ha]
def zMr (f : Nat → Int32) (p q h a b c d g : Int) : Prop := h = 1 ∧ ∃ k : Int, ((g ≠ 0 ∧ k = 5) ∨ (g = 0 ∧ d ≠ 0 ∧ k = 4) ∨ (g = 0 ∧ d = 0 ∧ c ≠ 0 ∧ k = 3) ∨ (g = 0 ∧ d = 0 ∧ c = 0 ∧ k = 2)) ∧ q - p = k ∧ zSs f p = a ∧ zSs f (p + 1) = b ∧ (k < 3 ∨ zSs f (p + 2) = c) ∧ (k < 4 ∨ zSs f (p + 3) = d) ∧ (k < 5 ∨ zSs f (p + 4) = g)
section ZMr
variable {f : Nat → Int32} {p q h a b c d g r : Int} {i z : Int32}
theorem zMr_h (e : h ≠ 1) : ¬ zMr f p q h a b c d g := fun y => e y.1
theorem zMr_k (e : ∀ k : Int, ((g ≠ 0 ∧ k = 5) ∨ (g = 0 ∧ d ≠ 0 ∧ k = 4) ∨ (g = 0 ∧ d = 0 ∧ c ≠ 0 ∧ k = 3) ∨ (g = 0 ∧ d = 0 ∧ c = 0 ∧ k = 2)) → q - p ≠ k) : ¬ zMr f p q h a b c d g := fun ⟨_, k, y1, y2, _⟩ => e k y1 y2
theorem zMr_0 (e : z = f i.toNatClampNeg) (hr : r = zSml z.toInt) (hi : i.toInt = p) (ha : r ≠ a) : ¬ zMr f p q h a b c d g := fun ⟨_, k, y1, y2, y3, _⟩ => ha ((zss e hr hi rfl).symm.trans y3)
theorem zMr_1 (e : z = f i.toNatClampNeg) (hr : r = zSml z.toInt) (hi : i.toInt = p + 1) (ha : r ≠ b) : ¬ zMr f p q h a b c d g := fun ⟨_, k, y1, y2, y3, y4, _⟩ => ha ((zss e hr hi rfl).symm.trans y4)
theorem zMr_2 (e : z = f i.toNatClampNeg) (hr : r = zSml z.toInt) (hi : i.toInt = p + 2) (hk : g ≠ 0 ∨ d ≠ 0 ∨ c ≠ 0) (ha : r ≠ c) : ¬ zMr f p q h a b c d g := fun ⟨_, k, y1, y2, y3, y4, y5, _⟩ => ha ((zss e hr hi rfl).symm.trans (y5.resolve_left (by omega)))
theorem zMr_3 (e : z = f i.toNatClampNeg) (hr : r = zSml z.toInt) (hi : i.toInt = p + 3) (hk : g ≠ 0 ∨ d ≠ 0) (ha : r ≠ d) : ¬ zMr f p q h a b c d g := fun ⟨_, k, y1, y2, y3, y4, y5, y6, _⟩ => ha ((zss e hr hi rfl).symm.trans (y6.resolve_left (by omega)))
theorem zMr_4 (e : z = f i.toNatClampNeg) (hr : r = zSml z.toInt) (hi : i.toInt = p + 4) (hk : g ≠ 0) (ha : r ≠ g) : ¬ zMr f p q h a b c d g := fun ⟨_, k, y1, y2, y3, y4, y5, y6, y7⟩ => ha ((zss e hr hi rfl).symm.trans (y7.resolve_left (by omega)))
end ZMr
section ZSw
variable {f : Nat → Int32} {p q h : Int}
theorem zSs_j (h0 : 0 ≤ p) (j : Nat) : zSml (f (p.toNat + j)).toInt = zSs f (p + j) := by
  unfold zSs
  rw [show (p + (j : Int)).toNat = p.toNat + j from by omega]
theorem zMr_or (h0 : 0 ≤ p) : zMr f p q h 111 114 0 0 0 ↔ h = 1 ∧ zSpm f p q 7 2 := by
  constructor
  · rintro ⟨e, k, y1, y2, y3, y4, y5, y6, y7⟩
    refine ⟨e, by omega, fun j hj => ?_⟩
    rw [zSs_j h0]
    match j, hj with
    | 0, _ => rw [show p + ((0 : Nat) : Int) = p from by omega, y3]; decide
    | 1, _ => exact y4.trans (by decide)
    | j + 2, hj => omega
  · rintro ⟨e, y1, y2⟩
    have a0 := y2 0 (by omega)
    have a1 := y2 1 (by omega)
    rw [zSs_j h0] at a0 a1
    rw [show p + ((0 : Nat) : Int) = p from by omega] at a0
    exact ⟨e, 2, by omega, y1, a0.trans (by decide), a1.trans (by decide), by omega, by omega, by omega⟩
theorem zMr_3l {a b c : Int} {s : Nat} (h0 : 0 ≤ p) (e0 : zCs s 0 = a) (e1 : zCs s 1 = b) (e2 : zCs s 2 = c) (hc : c ≠ 0) : zMr f p q h a b c 0 0 ↔ h = 1 ∧ zSpm f p q s 3 := by
  constructor
  · rintro ⟨e, k, y1, y2, y3, y4, y5, y6, y7⟩
    have y5 := y5.resolve_left (by omega)
    refine ⟨e, by omega, fun j hj => ?_⟩
    rw [zSs_j h0]
    match j, hj with
    | 0, _ => rw [show p + ((0 : Nat) : Int) = p from by omega, y3]; exact e0.symm
    | 1, _ => exact y4.trans e1.symm
    | 2, _ => exact y5.trans e2.symm
    | j + 3, hj => omega
  · rintro ⟨e, y1, y2⟩
    have a0 := y2 0 (by omega)
    have a1 := y2 1 (by omega)
    have a2 := y2 2 (by omega)
    rw [zSs_j h0] at a0 a1 a2
    rw [show p + ((0 : Nat) : Int) = p from by omega] at a0
    exact ⟨e, 3, by omega, y1, a0.trans e0, a1.trans e1, Or.inr (a2.trans e2), by omega, by omega⟩
theorem zMr_4l {a b c d : Int} {s : Nat} (h0 : 0 ≤ p) (e0 : zCs s 0 = a) (e1 : zCs s 1 = b) (e2 : zCs s 2 = c) (e3 : zCs s 3 = d) (hd : d ≠ 0) : zMr f p q h a b c d 0 ↔ h = 1 ∧ zSpm f p q s 4 := by
  constructor
  · rintro ⟨e, k, y1, y2, y3, y4, y5, y6, y7⟩
    have y5 := y5.resolve_left (by omega)
    have y6 := y6.resolve_left (by omega)
    refine ⟨e, by omega, fun j hj => ?_⟩
    rw [zSs_j h0]
    match j, hj with
    | 0, _ => rw [show p + ((0 : Nat) : Int) = p from by omega, y3]; exact e0.symm
    | 1, _ => exact y4.trans e1.symm
    | 2, _ => exact y5.trans e2.symm
    | 3, _ => exact y6.trans e3.symm
    | j + 4, hj => omega
  · rintro ⟨e, y1, y2⟩
    have a0 := y2 0 (by omega)
    have a1 := y2 1 (by omega)
    have a2 := y2 2 (by omega)
    have a3 := y2 3 (by omega)
    rw [zSs_j h0] at a0 a1 a2 a3
    rw [show p + ((0 : Nat) : Int) = p from by omega] at a0
    exact ⟨e, 4, by omega, y1, a0.trans e0, a1.trans e1, Or.inr (a2.trans e2), Or.inr (a3.trans e3), by omega⟩
theorem zMr_ti (h0 : 0 ≤ p) : zMr f p q h 116 105 116 108 101 ↔ h = 1 ∧ zSpm f p q 11 5 := by
  constructor
  · rintro ⟨e, k, y1, y2, y3, y4, y5, y6, y7⟩
    have y5 := y5.resolve_left (by omega)
    have y6 := y6.resolve_left (by omega)
    have y7 := y7.resolve_left (by omega)
    refine ⟨e, by omega, fun j hj => ?_⟩
    rw [zSs_j h0]
    match j, hj with
    | 0, _ => rw [show p + ((0 : Nat) : Int) = p from by omega, y3]; decide
    | 1, _ => exact y4.trans (by decide)
    | 2, _ => exact y5.trans (by decide)
    | 3, _ => exact y6.trans (by decide)
    | 4, _ => exact y7.trans (by decide)
    | j + 5, hj => omega
  · rintro ⟨e, y1, y2⟩
    have a0 := y2 0 (by omega)
    have a1 := y2 1 (by omega)
    have a2 := y2 2 (by omega)
    have a3 := y2 3 (by omega)
    have a4 := y2 4 (by omega)
    rw [zSs_j h0] at a0 a1 a2 a3 a4
    rw [show p + ((0 : Nat) : Int) = p from by omega] at a0
    exact ⟨e, 5, by omega, y1, a0.trans (by decide), a1.trans (by decide), Or.inr (a2.trans (by decide)), Or.inr (a3.trans (by decide)), Or.inr (a4.trans (by decide))⟩
end ZSw
theorem zfl {x y z w v : Int32} (e1 : z = 1000 * x) (e2 : w = z + y) (e3 : v = w + 1) (h1 : 1 ≤ x.toInt) (h2 : x.toInt ≤ 4) (h3 : 0 ≤ y.toInt) (h4 : y.toInt ≤ 700) : v.toInt ≠ 0 := by
  have b1 := zmul (by decide : (1000 : Int32).toInt = 1000) rfl e1 (by omega) (by omega)
  have b2 := zadd rfl rfl e2 (by omega) (by omega)
  have b3 := zadd rfl (by decide : (1 : Int32).toInt = 1) e3 (by omega) (by omega)
  omega
def zSa (f : Nat → Int32) (n i r : Int) : Prop := (0 ≤ i ∧ i < n → r = (f i.toNat).toInt) ∧ (i < 0 ∨ n ≤ i → r = -1)
theorem zSa_y {f : Nat → Int32} {n : Int} {i r : Int32} (e : r = f i.toNatClampNeg) (h0 : 0 ≤ i.toInt) (h : i.toInt < n) : zSa f n i.toInt r.toInt := ⟨fun _ => by rw [e]; rfl, fun q => by omega⟩
theorem zSa_n {f : Nat → Int32} {n i r : Int} (e : r = -1) (h : i < 0 ∨ n ≤ i) : zSa f n i r := ⟨fun q => by omega, fun _ => e⟩
