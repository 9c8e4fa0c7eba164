abbrev zRs : Type := Option (Int × Int × Int × List Int × Bool)
abbrev zRl_ : Type := Int → Int → Int → List Int → zRs → Prop
def zDet (B : zRl_) : Prop := ∀ a lv qt L r r', B a lv qt L r → B a lv qt L r' → 0 ≤ a → r = r'
def zSc (f : Nat → Int32) (n c v : Int) : Prop := c < n ∧ (f c.toNat).toInt = v
def zTkn (f : Nat → Int32) (n : Int) : zRl_ := fun a lv qt L r =>
  (40 ≤ lv ∧ r = none) ∨ (lv < 40 ∧ ∃ e c, zRe f n a e ∧ zBl f n e c ∧ (
    (zSc f n c 42 ∧ ∃ d, zBl f n (c + 1) d ∧ r = some (d, lv + 1, qt, L ++ [2000 + lv], true)) ∨
    (¬ zSc f n c 42 ∧ r = some (c, lv + 1, qt, L ++ [1000 + lv], true))))
theorem zTkn_d {f : Nat → Int32} {n : Int} : zDet (zTkn f n) := fun a lv qt L r r' h h' ha => by
  rcases h with h | ⟨h0, e, c, h1, h2, h3⟩ <;> rcases h' with g | ⟨g0, e', c', g1, g2, g3⟩
  · rw [h.2, g.2]
  · omega
  · omega
  · have q1 := zRe_u ha h1 g1
    subst q1
    have he := h1.1
    have q2 := zBl_u (by omega) h2 g2
    subst q2
    have hc := h2.1
    rcases h3 with ⟨a1, d, a2, a3⟩ | ⟨a1, a2⟩ <;> rcases g3 with ⟨b1, d', b2, b3⟩ | ⟨b1, b2⟩
    · rw [a3, b3, zBl_u (by omega) a2 b2]
    · exact absurd a1 b1
    · exact absurd b1 a1
    · rw [a2, b2]
def zts (f : Nat → Int32) (p : Int) : Nat → Int
  | 0 => 0
  | k + 1 => zts f p k + (if ((48 ≤ (f (p + k).toNat).toInt ∧ (f (p + k).toNat).toInt ≤ 57) ∨ (97 ≤ (f (p + k).toNat).toInt ∧ (f (p + k).toNat).toInt ≤ 122) ∨ (65 ≤ (f (p + k).toNat).toInt ∧ (f (p + k).toNat).toInt ≤ 90)) ∧ (k = 0 ∨ ¬ ((48 ≤ (f (p + k - 1).toNat).toInt ∧ (f (p + k - 1).toNat).toInt ≤ 57) ∨ (97 ≤ (f (p + k - 1).toNat).toInt ∧ (f (p + k - 1).toNat).toInt ≤ 122) ∨ (65 ≤ (f (p + k - 1).toNat).toInt ∧ (f (p + k - 1).toNat).toInt ≤ 90))) then 1 else 0)
def zQc (f : Nat → Int32) (n p c : Int) : Prop := p ≤ c ∧ c < n ∧ (f c.toNat).toInt = 34 ∧ ∀ j : Nat, p ≤ (j : Int) → (j : Int) < c → (f j).toInt ≠ 34
def zPhr (f : Nat → Int32) (n : Int) : zRl_ := fun a lv qt L r =>
  (40 ≤ lv ∧ r = none) ∨ (lv < 40 ∧ (
    (∃ c, zQc f n (a + 1) c ∧ (zts f (a + 1) (c - (a + 1)).toNat = 0 ∨ 160 < qt + zts f (a + 1) (c - (a + 1)).toNat) ∧ r = none) ∨
    (∃ c d, zQc f n (a + 1) c ∧ ¬ (zts f (a + 1) (c - (a + 1)).toNat = 0 ∨ 160 < qt + zts f (a + 1) (c - (a + 1)).toNat) ∧ zBl f n (c + 1) d ∧ r = some (d, lv + 1, qt + zts f (a + 1) (c - (a + 1)).toNat, L ++ [3000 + lv], true)) ∨
    ((∀ c, ¬ zQc f n (a + 1) c) ∧ r = none)))
theorem zQc_u {f : Nat → Int32} {n p c d : Int} (hp : 0 ≤ p) (h : zQc f n p c) (h' : zQc f n p d) : c = d := by
  obtain ⟨a1, a2, a3, a4⟩ := h
  obtain ⟨b1, b2, b3, b4⟩ := h'
  rcases Int.lt_trichotomy c d with q | q | q
  · exact absurd a3 (b4 c.toNat (by omega) (by omega))
  · exact q
  · exact absurd b3 (a4 d.toNat (by omega) (by omega))
theorem zPhr_d {f : Nat → Int32} {n : Int} : zDet (zPhr f n) := fun a lv qt L r r' h h' ha => by
  rcases h with h | ⟨h0, h⟩ <;> rcases h' with g | ⟨g0, g⟩
  · rw [h.2, g.2]
  · omega
  · omega
  rcases h with ⟨c, h1, h2, h3⟩ | ⟨c, d, h1, h2, h3, h4⟩ | ⟨h1, h2⟩ <;> rcases g with ⟨c', g1, g2, g3⟩ | ⟨c', d', g1, g2, g3, g4⟩ | ⟨g1, g2⟩
  · rw [h3, g3]
  · have q := zQc_u (by omega) h1 g1
    subst q
    exact absurd h2 g2
  · exact absurd h1 (g1 c)
  · have q := zQc_u (by omega) h1 g1
    subst q
    exact absurd g2 h2
  · have q := zQc_u (by omega) h1 g1
    subst q
    have hc := h1.1
    rw [h4, g4, zBl_u (by omega) h3 g3]
  · exact absurd h1 (g1 c)
  · exact absurd g1 (h1 c')
  · exact absurd g1 (h1 c')
  · rw [h2, g2]
def zDgs (f : Nat → Int32) (q e m : Int) : Prop := q < e ∧ e - q ≤ m ∧ ∀ j : Nat, q ≤ (j : Int) → (j : Int) < e → 48 ≤ (f j).toInt ∧ (f j).toInt ≤ 57
def zvl (f : Nat → Int32) (q : Int) : Nat → Int
  | 0 => 0
  | k + 1 => 10 * zvl f q k + (f (q.toNat + k)).toInt - 48
def zIni (f : Nat → Int32) (n p : Int) (r : Option (Int × Int)) : Prop := ∃ q e, ((zSc f n p 45 ∧ q = p + 1) ∨ (¬ zSc f n p 45 ∧ q = p)) ∧ zRe f n q e ∧
  ((zDgs f q e 9 ∧ ∃ d, zBl f n e d ∧ ((zSc f n p 45 ∧ r = some (- zvl f q (e - q).toNat, d)) ∨ (¬ zSc f n p 45 ∧ r = some (zvl f q (e - q).toNat, d)))) ∨ (¬ zDgs f q e 9 ∧ r = none))
theorem zIni_u {f : Nat → Int32} {n p : Int} {r r' : Option (Int × Int)} (hp : 0 ≤ p) (h : zIni f n p r) (h' : zIni f n p r') : r = r' := by
  obtain ⟨q, e, h1, h2, h3⟩ := h
  obtain ⟨q', e', g1, g2, g3⟩ := h'
  have hq : q = q' ∧ 0 ≤ q := by
    rcases h1 with h1 | h1 <;> rcases g1 with g1 | g1
    · exact ⟨by rw [h1.2, g1.2], by omega⟩
    · exact absurd h1.1 g1.1
    · exact absurd g1.1 h1.1
    · exact ⟨by rw [h1.2, g1.2], by omega⟩
  obtain ⟨hq, h0⟩ := hq
  subst hq
  have q1 := zRe_u h0 h2 g2
  subst q1
  have he := h2.1
  rcases h3 with ⟨h3, d, h4, h5⟩ | ⟨h3, h4⟩ <;> rcases g3 with ⟨g3, d', g4, g5⟩ | ⟨g3, g4⟩
  · have q2 := zBl_u (by omega) h4 g4
    subst q2
    rcases h5 with h5 | h5 <;> rcases g5 with g5 | g5
    · rw [h5.2, g5.2]
    · exact absurd h5.1 g5.1
    · exact absurd g5.1 h5.1
    · rw [h5.2, g5.2]
  · exact absurd h3 g3
  · exact absurd g3 h3
  · rw [h4, g4]
theorem zIni_p {f : Nat → Int32} {n p v q : Int} (hp : 0 ≤ p) (h : zIni f n p (some (v, q))) : p ≤ q := by
  obtain ⟨x, e, h1, h2, h3⟩ := h
  have a1 := h2.1
  have hx : p ≤ x := by rcases h1 with h1 | h1 <;> omega
  rcases h3 with ⟨h3, d, h4, h5⟩ | ⟨h3, h4⟩
  · have a2 := h4.1
    rcases h5 with ⟨_, h5⟩ | ⟨_, h5⟩ <;> (cases h5; omega)
  · cases h4
def zMrk (f : Nat → Int32) (n : Int) : zRl_ := fun a lv qt L r =>
  (40 ≤ lv ∧ r = none) ∨ (lv < 40 ∧ ∃ p x, zBl f n (a + 1) p ∧ zIni f n p x ∧ ((x = none ∧ r = none) ∨ ∃ v q, x = some (v, q) ∧ (
    (¬ (q < n ∧ zDd f n q) ∧ r = none) ∨ ((q < n ∧ zDd f n q) ∧ ∃ p2 y, zBl f n (q + 2) p2 ∧ zIni f n p2 y ∧ ((y = none ∧ r = none) ∨ ∃ w q2, y = some (w, q2) ∧ (
      (¬ (v ≤ w ∧ zSc f n q2 93) ∧ r = none) ∨ ((v ≤ w ∧ zSc f n q2 93) ∧ ∃ d, zBl f n (q2 + 1) d ∧ r = some (d, lv + 1, qt, L ++ [4000 + lv], false))))))))
theorem zMrk_d {f : Nat → Int32} {n : Int} : zDet (zMrk f n) := fun a lv qt L r r' h h' ha => by
  rcases h with h | ⟨h0, p, x, h1, h2, h3⟩ <;> rcases h' with g | ⟨g0, p', x', g1, g2, g3⟩
  · rw [h.2, g.2]
  · omega
  · omega
  have q1 := zBl_u (by omega) h1 g1
  subst q1
  have hp := h1.1
  have q2 := zIni_u (by omega) h2 g2
  subst q2
  rcases h3 with h3 | ⟨v, q, hx, h3⟩ <;> rcases g3 with g3 | ⟨v', q', gx, g3⟩
  · rw [h3.2, g3.2]
  · rw [h3.1] at gx; cases gx
  · rw [g3.1] at hx; cases hx
  rw [hx] at gx
  cases gx
  have hq := zIni_p (by omega) (hx ▸ h2)
  rcases h3 with h3 | ⟨h3, p2, y, h4, h5, h6⟩ <;> rcases g3 with g3 | ⟨g3, p2', y', g4, g5, g6⟩
  · rw [h3.2, g3.2]
  · exact absurd g3 h3.1
  · exact absurd h3 g3.1
  have q3 := zBl_u (by omega) h4 g4
  subst q3
  have hp2 := h4.1
  have q4 := zIni_u (by omega) h5 g5
  subst q4
  rcases h6 with h6 | ⟨w, q2, hy, h6⟩ <;> rcases g6 with g6 | ⟨w', q2', gy, g6⟩
  · rw [h6.2, g6.2]
  · rw [h6.1] at gy; cases gy
  · rw [g6.1] at hy; cases hy
  rw [hy] at gy
  cases gy
  have hq2 := zIni_p (by omega) (hy ▸ h5)
  rcases h6 with h6 | ⟨h6, d, h7, h8⟩ <;> rcases g6 with g6 | ⟨g6, d', g7, g8⟩
  · rw [h6.2, g6.2]
  · exact absurd g6 h6.1
  · exact absurd h6 g6.1
  · rw [h8, g8, zBl_u (by omega) h7 g7]
def zMon (B : zRl_) : Prop := ∀ a lv qt L q lv' qt' L' pl, B a lv qt L (some (q, lv', qt', L', pl)) → 0 ≤ a → a ≤ q
theorem zTkn_m {f : Nat → Int32} {n : Int} : zMon (zTkn f n) := fun a lv qt L q lv' qt' L' pl h ha => by
  rcases h with h | ⟨h0, e, c, h1, h2, h3⟩
  · cases h.2
  · have a1 := h1.1
    have a2 := h2.1
    rcases h3 with ⟨b1, d, b2, b3⟩ | ⟨b1, b2⟩
    · have a3 := b2.1; cases b3; omega
    · cases b2; omega
theorem zPhr_m {f : Nat → Int32} {n : Int} : zMon (zPhr f n) := fun a lv qt L q lv' qt' L' pl h ha => by
  rcases h with h | ⟨h0, h⟩
  · cases h.2
  · rcases h with ⟨c, h1, h2, h3⟩ | ⟨c, d, h1, h2, h3, h4⟩ | ⟨h1, h2⟩
    · cases h3
    · have a1 := h1.1; have a2 := h3.1; cases h4; omega
    · cases h2
theorem zMrk_m {f : Nat → Int32} {n : Int} : zMon (zMrk f n) := fun a lv qt L q lv' qt' L' pl h ha => by
  rcases h with h | ⟨h0, p, x, h1, h2, h3⟩
  · cases h.2
  have a1 := h1.1
  rcases h3 with h3 | ⟨v, q0, hx, h3⟩
  · cases h3.2
  have a2 := zIni_p (by omega) (hx ▸ h2)
  rcases h3 with h3 | ⟨h3, p2, y, h4, h5, h6⟩
  · cases h3.2
  have a3 := h4.1
  rcases h6 with h6 | ⟨w, q2, hy, h6⟩
  · cases h6.2
  have a4 := zIni_p (by omega) (hy ▸ h5)
  rcases h6 with h6 | ⟨h6, d, h7, h8⟩
  · cases h6.2
  have a5 := h7.1
  cases h8
  omega
def zBar (f : Nat → Int32) (n : Int) (ok : Prop) (B : zRl_) : zRl_ := fun a lv qt L r =>
  (zSc f n a 40 ∧ ((¬ ok ∧ r = none) ∨ (ok ∧ ∃ p x, zBl f n (a + 1) p ∧ B p lv qt L x ∧ ((x = none ∧ r = none) ∨ ∃ q lv' qt' L' pl, x = some (q, lv', qt', L', pl) ∧ (
    (¬ zSc f n q 41 ∧ r = none) ∨ (zSc f n q 41 ∧ ∃ d, zBl f n (q + 1) d ∧ r = some (d, lv', qt', L', false))))))) ∨
  (¬ zSc f n a 40 ∧ ((zSc f n a 91 ∧ zMrk f n a lv qt L r) ∨ (¬ zSc f n a 91 ∧ ((zSc f n a 34 ∧ zPhr f n a lv qt L r) ∨ (¬ zSc f n a 34 ∧ (
    ((∃ b, zLk f n a 257 b) ∧ zTkn f n a lv qt L r) ∨ (¬ (∃ b, zLk f n a 257 b) ∧ r = none)))))))
theorem zBar_d {f : Nat → Int32} {n : Int} {ok : Prop} {B : zRl_} (hB : zDet B) (hM : zMon B) : zDet (zBar f n ok B) := fun a lv qt L r r' h h' ha => by
  rcases h with ⟨hs, h⟩ | ⟨hs, h⟩ <;> rcases h' with ⟨gs, g⟩ | ⟨gs, g⟩
  · rcases h with h | ⟨h0, p, x, h1, h2, h3⟩ <;> rcases g with g | ⟨g0, p', x', g1, g2, g3⟩
    · rw [h.2, g.2]
    · exact absurd g0 h.1
    · exact absurd h0 g.1
    have q1 := zBl_u (by omega) h1 g1
    subst q1
    have hp := h1.1
    have q2 := hB _ _ _ _ _ _ h2 g2 (by omega)
    subst q2
    rcases h3 with h3 | ⟨q, l, t, K, pl, hx, h3⟩ <;> rcases g3 with g3 | ⟨q', l', t', K', pl', gx, g3⟩
    · rw [h3.2, g3.2]
    · rw [h3.1] at gx; cases gx
    · rw [g3.1] at hx; cases hx
    rw [hx] at gx
    cases gx
    have hq := hM _ _ _ _ _ _ _ _ _ (hx ▸ h2) (by omega)
    rcases h3 with h3 | ⟨h3, d, h4, h5⟩ <;> rcases g3 with g3 | ⟨g3, d', g4, g5⟩
    · rw [h3.2, g3.2]
    · exact absurd g3 h3.1
    · exact absurd h3 g3.1
    · rw [h5, g5, zBl_u (by omega) h4 g4]
  · exact absurd hs gs
  · exact absurd gs hs
  rcases h with ⟨h1, h⟩ | ⟨h1, h⟩ <;> rcases g with ⟨g1, g⟩ | ⟨g1, g⟩
  · exact zMrk_d _ _ _ _ _ _ h g ha
  · exact absurd h1 g1
  · exact absurd g1 h1
  rcases h with ⟨h2, h⟩ | ⟨h2, h⟩ <;> rcases g with ⟨g2, g⟩ | ⟨g2, g⟩
  · exact zPhr_d _ _ _ _ _ _ h g ha
  · exact absurd h2 g2
  · exact absurd g2 h2
  rcases h with ⟨h3, h⟩ | ⟨h3, h⟩ <;> rcases g with ⟨g3, g⟩ | ⟨g3, g⟩
  · exact zTkn_d _ _ _ _ _ _ h g ha
  · exact absurd h3 g3
  · exact absurd g3 h3
  · rw [h, g]
theorem zBar_m {f : Nat → Int32} {n : Int} {ok : Prop} {B : zRl_} (hM : zMon B) : zMon (zBar f n ok B) := fun a lv qt L q lv' qt' L' pl h ha => by
  rcases h with ⟨hs, h⟩ | ⟨hs, h⟩
  · rcases h with h | ⟨h0, p, x, h1, h2, h3⟩
    · cases h.2
    have a1 := h1.1
    rcases h3 with h3 | ⟨q0, l, t, K, pl0, hx, h3⟩
    · cases h3.2
    have a2 := hM _ _ _ _ _ _ _ _ _ (hx ▸ h2) (by omega)
    rcases h3 with h3 | ⟨h3, d, h4, h5⟩
    · cases h3.2
    have a3 := h4.1
    cases h5
    omega
  rcases h with ⟨h1, h⟩ | ⟨h1, h⟩
  · exact zMrk_m _ _ _ _ _ _ _ _ _ h ha
  rcases h with ⟨h2, h⟩ | ⟨h2, h⟩
  · exact zPhr_m _ _ _ _ _ _ _ _ _ h ha
  rcases h with ⟨h3, h⟩ | ⟨h3, h⟩
  · exact zTkn_m _ _ _ _ _ _ _ _ _ h ha
  · cases h
def zFl (f : Nat → Int32) (n a : Int) : Prop := ∃ k b, zLk f n a k b ∧ (k = 262 ∨ k = 263)
def zFs (f : Nat → Int32) (n : Int) : Nat → Int → Int → List Int → Prop
  | 0 => fun a a' M => a' = a ∧ M = []
  | k + 1 => fun a a' M => ∃ kd b p M', zLk f n a kd b ∧ (kd = 262 ∨ kd = 263) ∧ zBl f n b p ∧ zFs f n k p a' M' ∧ M = M' ++ [if kd = 262 then 6000 else 7000]
theorem zLk_b {f : Nat → Int32} {n p k b : Int} (h : zLk f n p k b) : p ≤ b := by
  rcases h with h | ⟨h1, h2, e, h3, h4⟩ | h | h
  · omega
  · have a1 := h3.1
    rcases h4 with h4 | ⟨_, h4⟩
    · omega
    rcases h4 with h4 | ⟨_, h4⟩
    · omega
    rcases h4 with h4 | ⟨_, h4⟩
    · omega
    rcases h4 with h4 | ⟨_, h4⟩
    · omega
    rcases h4 with ⟨c, b1, b2, b3, b4⟩ | h4
    · have a2 := b1.1; omega
    · omega
  · omega
  · omega
theorem zFs_u {f : Nat → Int32} {n : Int} : ∀ {k k' : Nat} {a x y : Int} {M N : List Int}, zFs f n k a x M → zFs f n k' a y N → ¬ zFl f n x → ¬ zFl f n y → 0 ≤ a → k = k' ∧ x = y ∧ M = N := by
  intro k
  induction k with
  | zero =>
    intro k' a x y M N h h' hx hy ha
    cases k' with
    | zero => exact ⟨rfl, by rw [h.1, h'.1], by rw [h.2, h'.2]⟩
    | succ k' =>
      obtain ⟨kd, b, p, M', g1, g2, _⟩ := h'
      exact absurd ⟨kd, b, h.1 ▸ g1, g2⟩ hx
  | succ k ih =>
    intro k' a x y M N h h' hx hy ha
    obtain ⟨kd, b, p, M', h1, h2, h3, h4, h5⟩ := h
    cases k' with
    | zero => exact absurd ⟨kd, b, h'.1 ▸ h1, h2⟩ hy
    | succ k' =>
      obtain ⟨kd', b', p', N', g1, g2, g3, g4, g5⟩ := h'
      obtain ⟨e1, e2⟩ := zLk_u ha h1 g1
      subst e1; subst e2
      have hb := zLk_b h1
      have e3 := zBl_u (by omega) h3 g3
      subst e3
      have hp := h3.1
      obtain ⟨e4, e5, e6⟩ := ih h4 g4 hx hy (by omega)
      exact ⟨by omega, e5, by rw [h5, g5, e6]⟩
theorem zFs_l {f : Nat → Int32} {n : Int} : ∀ {k k' : Nat} {a x y : Int} {M N : List Int}, zFs f n k a x M → zFs f n k' a y N → k < k' → 0 ≤ a → zFl f n x := by
  intro k
  induction k with
  | zero =>
    intro k' a x y M N h h' hk ha
    cases k' with
    | zero => omega
    | succ k' =>
      obtain ⟨kd, b, p, M', g1, g2, _⟩ := h'
      exact ⟨kd, b, h.1 ▸ g1, g2⟩
  | succ k ih =>
    intro k' a x y M N h h' hk ha
    obtain ⟨kd, b, p, M', h1, h2, h3, h4, h5⟩ := h
    cases k' with
    | zero => omega
    | succ k' =>
      obtain ⟨kd', b', p', N', g1, g2, g3, g4, g5⟩ := h'
      obtain ⟨e1, e2⟩ := zLk_u ha h1 g1
      subst e1; subst e2
      have hb := zLk_b h1
      have e3 := zBl_u (by omega) h3 g3
      subst e3
      have hp := h3.1
      exact ih h4 g4 (by omega) (by omega)
theorem zFs_e {f : Nat → Int32} {n : Int} : ∀ {k : Nat} {a x y : Int} {M N : List Int}, zFs f n k a x M → zFs f n k a y N → 0 ≤ a → x = y := by
  intro k
  induction k with
  | zero => intro a x y M N h h' ha; rw [h.1, h'.1]
  | succ k ih =>
    intro a x y M N h h' ha
    obtain ⟨kd, b, p, M', h1, h2, h3, h4, h5⟩ := h
    obtain ⟨kd', b', p', N', g1, g2, g3, g4, g5⟩ := h'
    obtain ⟨e1, e2⟩ := zLk_u ha h1 g1
    subst e1; subst e2
    have hb := zLk_b h1
    have e3 := zBl_u (by omega) h3 g3
    subst e3
    have hp := h3.1
    exact ih h4 g4 (by omega)
theorem zFs_m {f : Nat → Int32} {n : Int} : ∀ {k : Nat} {a x : Int} {M : List Int}, zFs f n k a x M → 0 ≤ a → a ≤ x := by
  intro k
  induction k with
  | zero => intro a x M h ha; rw [h.1]; omega
  | succ k ih =>
    intro a x M h ha
    obtain ⟨kd, b, p, M', h1, h2, h3, h4, h5⟩ := h
    have hb := zLk_b h1
    have hp := h3.1
    have q := ih h4 (by omega)
    omega
def zUni (f : Nat → Int32) (n : Int) (ok : Prop) (B : zRl_) : zRl_ := fun a lv qt L r => ∃ k a' M, zFs f n k a a' M ∧ (
  (k = 12 ∧ zFl f n a' ∧ r = none) ∨ (k ≤ 12 ∧ ¬ zFl f n a' ∧ ∃ x, zBar f n ok B a' lv qt L x ∧ ((x = none ∧ r = none) ∨ ∃ q lv' qt' L' pl, x = some (q, lv', qt', L', pl) ∧ (
    ((0 < k ∧ pl = false) ∧ r = none) ∨ (¬ (0 < k ∧ pl = false) ∧ r = some (q, lv', qt', L' ++ M, pl))))))
theorem zUni_d {f : Nat → Int32} {n : Int} {ok : Prop} {B : zRl_} (hB : zDet B) (hM : zMon B) : zDet (zUni f n ok B) := fun a lv qt L r r' h h' ha => by
  obtain ⟨k, x, M, h1, h2⟩ := h
  obtain ⟨k', y, N, g1, g2⟩ := h'
  rcases h2 with h2 | ⟨h2, h3, u, h4, h5⟩ <;> rcases g2 with g2 | ⟨g2, g3, w, g4, g5⟩
  · rw [h2.2.2, g2.2.2]
  · rcases Nat.lt_or_ge k' k with c | c
    · exact absurd (zFs_l g1 h1 c ha) g3
    · have e : k = k' := by omega
      subst e
      rcases Nat.lt_or_ge k (k + 1) with _ | _
      · exact absurd (by
          have hx := h2.2.1
          obtain ⟨kd, b, q1, q2⟩ := hx
          have e2 : x = y := zFs_e h1 g1 ha
          rw [← e2]; exact ⟨kd, b, q1, q2⟩) g3
      · omega
  · rcases Nat.lt_or_ge k k' with c | c
    · exact absurd (zFs_l h1 g1 c ha) h3
    · have e : k = k' := by omega
      subst e
      have e2 : x = y := zFs_e h1 g1 ha
      exact absurd (e2 ▸ g2.2.1) h3
  obtain ⟨e1, e2, e3⟩ := zFs_u h1 g1 h3 g3 ha
  subst e1; subst e2; subst e3
  have hx := zFs_m h1 ha
  have e4 := zBar_d hB hM _ _ _ _ _ _ h4 g4 (by omega)
  subst e4
  rcases h5 with h5 | ⟨q, l, t, K, pl, hx, h5⟩ <;> rcases g5 with g5 | ⟨q', l', t', K', pl', gx, g5⟩
  · rw [h5.2, g5.2]
  · rw [h5.1] at gx; cases gx
  · rw [g5.1] at hx; cases hx
  rw [hx] at gx
  cases gx
  rcases h5 with h5 | h5 <;> rcases g5 with g5 | g5
  · rw [h5.2, g5.2]
  · exact absurd h5.1 g5.1
  · exact absurd g5.1 h5.1
  · rw [h5.2, g5.2]
theorem zUni_m {f : Nat → Int32} {n : Int} {ok : Prop} {B : zRl_} (hM : zMon B) : zMon (zUni f n ok B) := fun a lv qt L q lv' qt' L' pl h ha => by
  obtain ⟨k, x, M, h1, h2⟩ := h
  have hx := zFs_m h1 ha
  rcases h2 with h2 | ⟨h2, h3, u, h4, h5⟩
  · cases h2.2.2
  rcases h5 with h5 | ⟨q0, l, t, K, pl0, hu, h5⟩
  · cases h5.2
  have a2 := zBar_m hM _ _ _ _ _ _ _ _ _ (hu ▸ h4) (by omega)
  rcases h5 with h5 | h5
  · cases h5.2
  · cases h5.2; omega
def zKd (f : Nat → Int32) (n a k : Int) : Prop := ∃ b, zLk f n a k b
def zNea (f : Nat → Int32) (n : Int) (ok : Prop) (B : zRl_) : zRl_ := fun a lv qt L r => ∃ x, zUni f n ok B a lv qt L x ∧ ((x = none ∧ r = none) ∨ ∃ q lv' qt' L' pl, x = some (q, lv', qt', L', pl) ∧ (
  (¬ zKd f n q 261 ∧ r = some (q, lv', qt', L', false)) ∨ ∃ b p e, zLk f n q 261 b ∧ zBl f n b p ∧ zRe f n p e ∧ (
    (¬ (zDgs f p e 3 ∧ 1 ≤ zvl f p (e - p).toNat ∧ zvl f p (e - p).toNat ≤ 200) ∧ r = none) ∨
    ((zDgs f p e 3 ∧ 1 ≤ zvl f p (e - p).toNat ∧ zvl f p (e - p).toNat ≤ 200) ∧ ∃ p2 y, zBl f n e p2 ∧ zUni f n ok B p2 lv' qt' L' y ∧ ((y = none ∧ r = none) ∨ ∃ q2 lv2 qt2 L2 pl2, y = some (q2, lv2, qt2, L2, pl2) ∧ (
      (¬ (pl = true ∧ pl2 = true) ∧ r = none) ∨ ((pl = true ∧ pl2 = true) ∧ r = some (q2, lv2, qt2, L2 ++ [5000 + zvl f p (e - p).toNat], false))))))))
theorem zNea_d {f : Nat → Int32} {n : Int} {ok : Prop} {B : zRl_} (hB : zDet B) (hM : zMon B) : zDet (zNea f n ok B) := fun a lv qt L r r' h h' ha => by
  obtain ⟨x, h1, h2⟩ := h
  obtain ⟨x', g1, g2⟩ := h'
  have e1 := zUni_d hB hM _ _ _ _ _ _ h1 g1 ha
  subst e1
  rcases h2 with h2 | ⟨q, l, t, K, pl, hx, h2⟩ <;> rcases g2 with g2 | ⟨q', l', t', K', pl', gx, g2⟩
  · rw [h2.2, g2.2]
  · rw [h2.1] at gx; cases gx
  · rw [g2.1] at hx; cases hx
  rw [hx] at gx
  cases gx
  have hq := zUni_m hM _ _ _ _ _ _ _ _ _ (hx ▸ h1) ha
  rcases h2 with h2 | ⟨b, p, e, h3, h4, h5, h6⟩ <;> rcases g2 with g2 | ⟨b', p', e', g3, g4, g5, g6⟩
  · rw [h2.2, g2.2]
  · exact absurd ⟨b', g3⟩ h2.1
  · exact absurd ⟨b, h3⟩ g2.1
  have e2 := (zLk_u (by omega) h3 g3).2
  subst e2
  have hb := zLk_b h3
  have e3 := zBl_u (by omega) h4 g4
  subst e3
  have hp := h4.1
  have e4 := zRe_u (by omega) h5 g5
  subst e4
  have he := h5.1
  rcases h6 with h6 | ⟨h6, p2, y, h7, h8, h9⟩ <;> rcases g6 with g6 | ⟨g6, p2', y', g7, g8, g9⟩
  · rw [h6.2, g6.2]
  · exact absurd g6 h6.1
  · exact absurd h6 g6.1
  have e5 := zBl_u (by omega) h7 g7
  subst e5
  have hp2 := h7.1
  have e6 := zUni_d hB hM _ _ _ _ _ _ h8 g8 (by omega)
  subst e6
  rcases h9 with h9 | ⟨q2, l2, t2, K2, pl2, hy, h9⟩ <;> rcases g9 with g9 | ⟨q2', l2', t2', K2', pl2', gy, g9⟩
  · rw [h9.2, g9.2]
  · rw [h9.1] at gy; cases gy
  · rw [g9.1] at hy; cases hy
  rw [hy] at gy
  cases gy
  rcases h9 with h9 | h9 <;> rcases g9 with g9 | g9
  · rw [h9.2, g9.2]
  · exact absurd g9.1 h9.1
  · exact absurd h9.1 g9.1
  · rw [h9.2, g9.2]
theorem zNea_m {f : Nat → Int32} {n : Int} {ok : Prop} {B : zRl_} (hM : zMon B) : zMon (zNea f n ok B) := fun a lv qt L q lv' qt' L' pl h ha => by
  obtain ⟨x, h1, h2⟩ := h
  rcases h2 with h2 | ⟨q0, l, t, K, pl0, hx, h2⟩
  · cases h2.2
  have hq := zUni_m hM _ _ _ _ _ _ _ _ _ (hx ▸ h1) ha
  rcases h2 with h2 | ⟨b, p, e, h3, h4, h5, h6⟩
  · cases h2.2; omega
  have hb := zLk_b h3
  have hp := h4.1
  have he := h5.1
  rcases h6 with h6 | ⟨h6, p2, y, h7, h8, h9⟩
  · cases h6.2
  have hp2 := h7.1
  rcases h9 with h9 | ⟨q2, l2, t2, K2, pl2, hy, h9⟩
  · cases h9.2
  have hq2 := zUni_m hM _ _ _ _ _ _ _ _ _ (hy ▸ h8) (by omega)
  rcases h9 with h9 | h9
  · cases h9.2
  · cases h9.2; omega
def zNs (f : Nat → Int32) (n : Int) : Nat → Int → Int → Prop
  | 0 => fun a a' => a' = a
  | k + 1 => fun a a' => ∃ b p, zLk f n a 260 b ∧ zBl f n b p ∧ zNs f n k p a'
theorem zNs_m {f : Nat → Int32} {n : Int} : ∀ {k : Nat} {a x : Int}, zNs f n k a x → 0 ≤ a → a ≤ x := by
  intro k
  induction k with
  | zero => intro a x h ha; have h : x = a := h; omega
  | succ k ih =>
    intro a x h ha
    obtain ⟨b, p, h1, h2, h3⟩ := h
    have hb := zLk_b h1
    have hp := h2.1
    have q := ih h3 (by omega)
    omega
theorem zNs_l {f : Nat → Int32} {n : Int} : ∀ {k k' : Nat} {a x y : Int}, zNs f n k a x → zNs f n k' a y → 0 ≤ a → (k < k' → zKd f n x 260) ∧ (k = k' → x = y) := by
  intro k
  induction k with
  | zero =>
    intro k' a x y h h' ha
    have h : x = a := h
    cases k' with
    | zero => exact ⟨fun c => absurd c (by omega), fun _ => by have h' : y = a := h'; omega⟩
    | succ k' =>
      obtain ⟨b, p, g1, g2, g3⟩ := h'
      exact ⟨fun _ => ⟨b, by rw [h]; exact g1⟩, fun c => absurd c (by omega)⟩
  | succ k ih =>
    intro k' a x y h h' ha
    obtain ⟨b, p, h1, h2, h3⟩ := h
    cases k' with
    | zero => exact ⟨fun c => absurd c (by omega), fun c => absurd c (by omega)⟩
    | succ k' =>
      obtain ⟨b', p', g1, g2, g3⟩ := h'
      have e1 := (zLk_u ha h1 g1).2
      subst e1
      have hb := zLk_b h1
      have e2 := zBl_u (by omega) h2 g2
      subst e2
      have hp := h2.1
      have q := ih h3 g3 (by omega)
      exact ⟨fun c => q.1 (by omega), fun c => q.2 (by omega)⟩
def zNot (f : Nat → Int32) (n : Int) (ok : Prop) (B : zRl_) : zRl_ := fun a lv qt L r => ∃ k a', zNs f n k a a' ∧ (
  (k = 40 ∧ zKd f n a' 260 ∧ r = none) ∨ (k ≤ 40 ∧ ¬ zKd f n a' 260 ∧ ∃ x, zNea f n ok B a' lv qt L x ∧ ((x = none ∧ r = none) ∨ ∃ q lv' qt' L' pl, x = some (q, lv', qt', L', pl) ∧ r = some (q, lv', qt', L', decide (k % 2 = 1)))))
theorem zNot_d {f : Nat → Int32} {n : Int} {ok : Prop} {B : zRl_} (hB : zDet B) (hM : zMon B) : zDet (zNot f n ok B) := fun a lv qt L r r' h h' ha => by
  obtain ⟨k, x, h1, h2⟩ := h
  obtain ⟨k', y, g1, g2⟩ := h'
  have q1 := zNs_l h1 g1 ha
  have q2 := zNs_l g1 h1 ha
  rcases h2 with h2 | ⟨h2, h3, u, h4, h5⟩ <;> rcases g2 with g2 | ⟨g2, g3, w, g4, g5⟩
  · rw [h2.2.2, g2.2.2]
  · rcases Nat.lt_or_ge k' k with c | c
    · exact absurd (q2.1 c) g3
    · have e := q1.2 (by omega)
      subst e
      exact absurd h2.2.1 g3
  · rcases Nat.lt_or_ge k k' with c | c
    · exact absurd (q1.1 c) h3
    · have e := q1.2 (by omega)
      subst e
      exact absurd g2.2.1 h3
  have ek : k = k' := by
    rcases Nat.lt_trichotomy k k' with c | c | c
    · exact absurd (q1.1 c) h3
    · exact c
    · exact absurd (q2.1 c) g3
  subst ek
  have e := q1.2 rfl
  subst e
  have hx := zNs_m h1 ha
  have e2 := zNea_d hB hM _ _ _ _ _ _ h4 g4 (by omega)
  subst e2
  rcases h5 with h5 | ⟨q, l, t, K, pl, hx, h5⟩ <;> rcases g5 with g5 | ⟨q', l', t', K', pl', gx, g5⟩
  · rw [h5.2, g5.2]
  · rw [h5.1] at gx; cases gx
  · rw [g5.1] at hx; cases hx
  rw [hx] at gx
  cases gx
  rw [h5, g5]
theorem zNot_m {f : Nat → Int32} {n : Int} {ok : Prop} {B : zRl_} (hM : zMon B) : zMon (zNot f n ok B) := fun a lv qt L q lv' qt' L' pl h ha => by
  obtain ⟨k, x, h1, h2⟩ := h
  have hx := zNs_m h1 ha
  rcases h2 with h2 | ⟨h2, h3, u, h4, h5⟩
  · cases h2.2.2
  rcases h5 with h5 | ⟨q0, l, t, K, pl0, hu, h5⟩
  · cases h5.2
  have a2 := zNea_m hM _ _ _ _ _ _ _ _ _ (hu ▸ h4) (by omega)
  cases h5
  omega
def zGo (f : Nat → Int32) (n a : Int) : Prop := ∃ k, zKd f n a k ∧ (k = 259 ∨ k = 260 ∨ k = 257 ∨ k = 262 ∨ k = 263 ∨ k = 34 ∨ k = 40 ∨ k = 91)
def zAlp (f : Nat → Int32) (n : Int) (ok : Prop) (B : zRl_) : Nat → zRl_
  | 0 => fun a lv qt L r => ¬ zGo f n a ∧ r = some (a, lv, qt, L, false)
  | k + 1 => fun a lv qt L r => zGo f n a ∧ ∃ p x, ((∃ b, zLk f n a 259 b ∧ zBl f n b p) ∨ (¬ zKd f n a 259 ∧ p = a)) ∧ zNot f n ok B p lv qt L x ∧ ((x = none ∧ r = none) ∨ ∃ q lv' qt' L' pl, x = some (q, lv', qt', L', pl) ∧ zAlp f n ok B k q lv' qt' (L' ++ [if pl = true then 11000 else 8000]) r)
theorem zAlp_d {f : Nat → Int32} {n : Int} {ok : Prop} {B : zRl_} (hB : zDet B) (hM : zMon B) : ∀ {k k' : Nat} {a lv qt : Int} {L : List Int} {r r' : zRs}, zAlp f n ok B k a lv qt L r → zAlp f n ok B k' a lv qt L r' → 0 ≤ a → r = r' := by
  intro k
  induction k with
  | zero =>
    intro k' a lv qt L r r' h h' ha
    cases k' with
    | zero => rw [h.2, h'.2]
    | succ k' => exact absurd h'.1 h.1
  | succ k ih =>
    intro k' a lv qt L r r' h h' ha
    cases k' with
    | zero => exact absurd h.1 h'.1
    | succ k' =>
      obtain ⟨h0, p, x, h1, h2, h3⟩ := h
      obtain ⟨g0, p', x', g1, g2, g3⟩ := h'
      have ep : p = p' ∧ 0 ≤ p := by
        rcases h1 with ⟨b, h1, h4⟩ | ⟨h1, h4⟩ <;> rcases g1 with ⟨b', g1, g4⟩ | ⟨g1, g4⟩
        · have e1 := (zLk_u ha h1 g1).2
          subst e1
          have hb := zLk_b h1
          have hp := h4.1
          exact ⟨zBl_u (by omega) h4 g4, by omega⟩
        · exact absurd ⟨b, h1⟩ g1
        · exact absurd ⟨b', g1⟩ h1
        · exact ⟨by rw [h4, g4], by omega⟩
      obtain ⟨ep, hp⟩ := ep
      subst ep
      have e2 := zNot_d hB hM _ _ _ _ _ _ h2 g2 hp
      subst e2
      rcases h3 with h3 | ⟨q, l, t, K, pl, hx, h3⟩ <;> rcases g3 with g3 | ⟨q', l', t', K', pl', gx, g3⟩
      · rw [h3.2, g3.2]
      · rw [h3.1] at gx; cases gx
      · rw [g3.1] at hx; cases hx
      rw [hx] at gx
      cases gx
      have hq := zNot_m hM _ _ _ _ _ _ _ _ _ (hx ▸ h2) hp
      exact ih h3 g3 (by omega)
theorem zAlp_m {f : Nat → Int32} {n : Int} {ok : Prop} {B : zRl_} (hM : zMon B) : ∀ {k : Nat} {a lv qt : Int} {L : List Int} {q lv' qt' : Int} {L' : List Int} {pl : Bool}, zAlp f n ok B k a lv qt L (some (q, lv', qt', L', pl)) → 0 ≤ a → a ≤ q := by
  intro k
  induction k with
  | zero => intro a lv qt L q lv' qt' L' pl h ha; have h2 := h.2; cases h2; omega
  | succ k ih =>
    intro a lv qt L q lv' qt' L' pl h ha
    obtain ⟨h0, p, x, h1, h2, h3⟩ := h
    have hp : a ≤ p := by
      rcases h1 with ⟨b, h1, h4⟩ | ⟨h1, h4⟩
      · have hb := zLk_b h1
        have hp := h4.1
        omega
      · omega
    rcases h3 with h3 | ⟨q0, l, t, K, pl0, hx, h3⟩
    · cases h3.2
    have hq := zNot_m hM _ _ _ _ _ _ _ _ _ (hx ▸ h2) (by omega)
    have q2 := ih h3 (by omega)
    omega
def zAll (f : Nat → Int32) (n : Int) (ok : Prop) (B : zRl_) : zRl_ := fun a lv qt L r => ∃ x, zNot f n ok B a lv qt L x ∧ ((x = none ∧ r = none) ∨ ∃ q lv' qt' L' pl k, x = some (q, lv', qt', L', pl) ∧ zAlp f n ok B k q lv' qt' (if pl = true then L' ++ [10000] else L') r)
theorem zAll_d {f : Nat → Int32} {n : Int} {ok : Prop} {B : zRl_} (hB : zDet B) (hM : zMon B) : zDet (zAll f n ok B) := fun a lv qt L r r' h h' ha => by
  obtain ⟨x, h1, h2⟩ := h
  obtain ⟨x', g1, g2⟩ := h'
  have e1 := zNot_d hB hM _ _ _ _ _ _ h1 g1 ha
  subst e1
  rcases h2 with h2 | ⟨q, l, t, K, pl, k, hx, h2⟩ <;> rcases g2 with g2 | ⟨q', l', t', K', pl', k', gx, g2⟩
  · rw [h2.2, g2.2]
  · rw [h2.1] at gx; cases gx
  · rw [g2.1] at hx; cases hx
  rw [hx] at gx
  cases gx
  have hq := zNot_m hM _ _ _ _ _ _ _ _ _ (hx ▸ h1) ha
  exact zAlp_d hB hM h2 g2 (by omega)
theorem zAll_m {f : Nat → Int32} {n : Int} {ok : Prop} {B : zRl_} (hM : zMon B) : zMon (zAll f n ok B) := fun a lv qt L q lv' qt' L' pl h ha => by
  obtain ⟨x, h1, h2⟩ := h
  rcases h2 with h2 | ⟨q0, l, t, K, pl0, k, hx, h2⟩
  · cases h2.2
  have hq := zNot_m hM _ _ _ _ _ _ _ _ _ (hx ▸ h1) ha
  have q2 := zAlp_m hM h2 (by omega)
  omega
def zQlp (f : Nat → Int32) (n : Int) (ok : Prop) (B : zRl_) : Nat → zRl_
  | 0 => fun a lv qt L r => ¬ zKd f n a 258 ∧ r = some (a, lv, qt, L, false)
  | k + 1 => fun a lv qt L r => ∃ b p x, zLk f n a 258 b ∧ zBl f n b p ∧ zAll f n ok B p lv qt L x ∧ ((x = none ∧ r = none) ∨ ∃ q lv' qt' L' pl, x = some (q, lv', qt', L', pl) ∧ zQlp f n ok B k q lv' qt' (L' ++ [9000]) r)
theorem zQlp_d {f : Nat → Int32} {n : Int} {ok : Prop} {B : zRl_} (hB : zDet B) (hM : zMon B) : ∀ {k k' : Nat} {a lv qt : Int} {L : List Int} {r r' : zRs}, zQlp f n ok B k a lv qt L r → zQlp f n ok B k' a lv qt L r' → 0 ≤ a → r = r' := by
  intro k
  induction k with
  | zero =>
    intro k' a lv qt L r r' h h' ha
    cases k' with
    | zero => rw [h.2, h'.2]
    | succ k' =>
      obtain ⟨b, p, x, h1, _⟩ := h'
      exact absurd ⟨b, h1⟩ h.1
  | succ k ih =>
    intro k' a lv qt L r r' h h' ha
    obtain ⟨b, p, x, h1, h4, h2, h3⟩ := h
    cases k' with
    | zero => exact absurd ⟨b, h1⟩ h'.1
    | succ k' =>
      obtain ⟨b', p', x', g1, g4, g2, g3⟩ := h'
      have e1 := (zLk_u ha h1 g1).2
      subst e1
      have hb := zLk_b h1
      have e2 := zBl_u (by omega) h4 g4
      subst e2
      have hp := h4.1
      have e3 := zAll_d hB hM _ _ _ _ _ _ h2 g2 (by omega)
      subst e3
      rcases h3 with h3 | ⟨q, l, t, K, pl, hx, h3⟩ <;> rcases g3 with g3 | ⟨q', l', t', K', pl', gx, g3⟩
      · rw [h3.2, g3.2]
      · rw [h3.1] at gx; cases gx
      · rw [g3.1] at hx; cases hx
      rw [hx] at gx
      cases gx
      have hq := zAll_m hM _ _ _ _ _ _ _ _ _ (hx ▸ h2) (by omega)
      exact ih h3 g3 (by omega)
theorem zQlp_m {f : Nat → Int32} {n : Int} {ok : Prop} {B : zRl_} (hM : zMon B) : ∀ {k : Nat} {a lv qt : Int} {L : List Int} {q lv' qt' : Int} {L' : List Int} {pl : Bool}, zQlp f n ok B k a lv qt L (some (q, lv', qt', L', pl)) → 0 ≤ a → a ≤ q := by
  intro k
  induction k with
  | zero => intro a lv qt L q lv' qt' L' pl h ha; have h2 := h.2; cases h2; omega
  | succ k ih =>
    intro a lv qt L q lv' qt' L' pl h ha
    obtain ⟨b, p, x, h1, h4, h2, h3⟩ := h
    have hb := zLk_b h1
    have hp := h4.1
    rcases h3 with h3 | ⟨q0, l, t, K, pl0, hx, h3⟩
    · cases h3.2
    have hq := zAll_m hM _ _ _ _ _ _ _ _ _ (hx ▸ h2) (by omega)
    have q2 := ih h3 (by omega)
    omega
def zQue (f : Nat → Int32) (n : Int) (ok : Prop) (B : zRl_) : zRl_ := fun a lv qt L r => ∃ x, zAll f n ok B a lv qt L x ∧ ((x = none ∧ r = none) ∨ ∃ q lv' qt' L' pl k, x = some (q, lv', qt', L', pl) ∧ zQlp f n ok B k q lv' qt' L' r)
theorem zQue_d {f : Nat → Int32} {n : Int} {ok : Prop} {B : zRl_} (hB : zDet B) (hM : zMon B) : zDet (zQue f n ok B) := fun a lv qt L r r' h h' ha => by
  obtain ⟨x, h1, h2⟩ := h
  obtain ⟨x', g1, g2⟩ := h'
  have e1 := zAll_d hB hM _ _ _ _ _ _ h1 g1 ha
  subst e1
  rcases h2 with h2 | ⟨q, l, t, K, pl, k, hx, h2⟩ <;> rcases g2 with g2 | ⟨q', l', t', K', pl', k', gx, g2⟩
  · rw [h2.2, g2.2]
  · rw [h2.1] at gx; cases gx
  · rw [g2.1] at hx; cases hx
  rw [hx] at gx
  cases gx
  have hq := zAll_m hM _ _ _ _ _ _ _ _ _ (hx ▸ h1) ha
  exact zQlp_d hB hM h2 g2 (by omega)
theorem zQue_m {f : Nat → Int32} {n : Int} {ok : Prop} {B : zRl_} (hM : zMon B) : zMon (zQue f n ok B) := fun a lv qt L q lv' qt' L' pl h ha => by
  obtain ⟨x, h1, h2⟩ := h
  rcases h2 with h2 | ⟨q0, l, t, K, pl0, k, hx, h2⟩
  · cases h2.2
  have hq := zAll_m hM _ _ _ _ _ _ _ _ _ (hx ▸ h1) ha
  have q2 := zQlp_m hM h2 (by omega)
  omega
def zQry (f : Nat → Int32) (n : Int) : Nat → zRl_
  | 0 => zQue f n False (fun _ _ _ _ _ => False)
  | d + 1 => zQue f n True (zQry f n d)
theorem zQry_dm {f : Nat → Int32} {n : Int} : ∀ d : Nat, zDet (zQry f n d) ∧ zMon (zQry f n d) := by
  intro d
  induction d with
  | zero => exact ⟨zQue_d (fun _ _ _ _ _ _ h => h.elim) (fun _ _ _ _ _ _ _ _ _ h => h.elim), zQue_m (fun _ _ _ _ _ _ _ _ _ h => h.elim)⟩
  | succ d ih => exact ⟨zQue_d ih.1 ih.2, zQue_m ih.2⟩
def zPar (f : Nat → Int32) (n : Int) (L : List Int) : Prop := ∃ a x, zBl f n 0 a ∧ zQry f n 12 a 0 0 [] x ∧ ((x = none ∧ L = []) ∨ ∃ q lv qt K pl, x = some (q, lv, qt, K, pl) ∧ ((¬ zKd f n q 256 ∧ L = []) ∨ (zKd f n q 256 ∧ L = K)))
theorem zPar_u {f : Nat → Int32} {n : Int} {L L' : List Int} (h : zPar f n L) (h' : zPar f n L') : L = L' := by
  obtain ⟨a, x, h1, h2, h3⟩ := h
  obtain ⟨a', x', g1, g2, g3⟩ := h'
  have e1 := zBl_u (by omega) h1 g1
  subst e1
  have ha := h1.1
  have e2 := (zQry_dm 12).1 _ _ _ _ _ _ h2 g2 ha
  subst e2
  rcases h3 with h3 | ⟨q, l, t, K, pl, hx, h3⟩ <;> rcases g3 with g3 | ⟨q', l', t', K', pl', gx, g3⟩
  · rw [h3.2, g3.2]
  · rw [h3.1] at gx; cases gx
  · rw [g3.1] at hx; cases hx
  rw [hx] at gx
  cases gx
  rcases h3 with h3 | h3 <;> rcases g3 with g3 | g3
  · rw [h3.2, g3.2]
  · exact absurd g3.1 h3.1
  · exact absurd h3.1 g3.1
  · rw [h3.2, g3.2]
