def zTe (f g : Nat → Int32) (n : Int) : Prop := ∀ j : Nat, (j : Int) < n → f j = g j
def zTi (s : Nat → Int64) (i fr : Nat → Int32) (n : Int) (g sz : Nat → Int32) (k : Int) : Prop := n = k ∧ zSd s i fr n ∧ zMs g sz k ∧ ∀ y : Int, zHas s n y ↔ zQ g sz k y
theorem zTe_0 {f g : Nat → Int32} {n : Int} (h : n ≤ 0) : zTe f g n := fun j hj => by omega
theorem zTe_m {f g : Nat → Int32} {n m : Int} (h : zTe f g n) (e : m ≤ n) : zTe f g m := fun j hj => h j (by omega)
theorem zTi_0 {s : Nat → Int64} {i fr g sz : Nat → Int32} {n k : Int} (h1 : n = 0) (h2 : k = 0) (h3 : ∀ j : Nat, j < 10 → fr j = 0) : zTi s i fr n g sz k := by
  subst h1; subst h2
  exact ⟨rfl, ⟨fun a b _ q => by omega, fun a q => by omega, fun a b _ q => by omega, h3⟩, ⟨fun j q => by omega, fun a b _ q => by omega⟩, fun y => ⟨fun ⟨a, q, _⟩ => by omega, fun ⟨a, q, _⟩ => by omega⟩⟩
theorem zTe_f {f f' g g' : Nat → Int32} {o o' n : Int} {a b c d e a' b' c' d' e' : Int32} (h : zTe f g o) (eo : o' = o) (h1 : o ≤ 580 → zFed f f' o a b c d e) (h2 : 580 < o → ∀ j : Nat, f' j = f j) (k1 : o' ≤ 580 → zFed g g' o' a' b' c' d' e') (k2 : 580 < o' → ∀ j : Nat, g' j = g j) (ea : a' = a) (eb : b' = b) (ec : c' = c) (ed : d' = d) (ee : e' = e) (hn : n ≤ o + 20) (hm : 580 < o → n = o) : zTe f' g' n := by
  subst eo; subst ea; subst eb; subst ec; subst ed; subst ee
  by_cases q : o' ≤ 580
  · exact fun j hj => zFed_u (h1 q) (k1 q) h j (by omega)
  · intro j hj
    have q1 := hm (by omega)
    rw [h2 (by omega) j, k2 (by omega) j]
    exact h j (by omega)
theorem zTi_s {s s' : Nat → Int64} {i i' fr fr' g g' sz sz' f f2 : Nat → Int32} {n n' k k' l l2 on on2 r r2 : Int} (h : zTi s i fr n g sz k) (ht : zTe f f2 l) (el : l2 = l) (h1 : zSd s i fr n → zSd s' i' fr' n' ∧ ∃ x : Int, zFW f l x ∧ zStp on x n n' r (zHas s n) (zHas s' n')) (h2 : zMs g sz k → zMs g' sz' k' ∧ ∃ x : Int, zFW f2 l2 x ∧ zStp on2 x k k' r2 (zQ g sz k) (zQ g' sz' k')) (eon : on2 = on) : zTi s' i' fr' n' g' sz' k' ∧ r = r2 := by
  obtain ⟨e1, e2, e3, e4⟩ := h
  subst el; subst eon
  obtain ⟨a1, x, a2, a3⟩ := h1 e2
  obtain ⟨b1, y, b2, b3⟩ := h2 e3
  have e : x = y := zFW_u (zFW_c ht a2) b2
  subst e
  subst e1
  have q := zStp_u a3 b3 e4
  exact ⟨⟨q.2.1, a1, b1, q.2.2⟩, q.1⟩
