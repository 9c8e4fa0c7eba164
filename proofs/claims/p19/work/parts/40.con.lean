def zPl (v : Int) : Prop := v = 1 ∨ v = 2 ∨ v = 3 ∨ v = 6 ∨ v = 7
def zNd (wh : Nat → Int32) (nodes lv w a b n : Int) : Prop := ((w = 5 ∨ w = 8 ∨ w = 9 ∨ w = 11) → (0 ≤ a ∧ a < nodes ∧ 0 ≤ b ∧ b < nodes)) ∧ ((w = 6 ∨ w = 7 ∨ w = 10) → (0 ≤ a ∧ a < nodes)) ∧ ((1 ≤ w ∧ w ≤ 4) → (0 ≤ n ∧ n < lv)) ∧ ((w = 5 ∨ w = 6 ∨ w = 7) → zPl (wh a.toNat).toInt) ∧ (w = 5 → zPl (wh b.toNat).toInt) ∧ 1 ≤ w ∧ w ≤ 11
def zTr (wh lf rt nm : Nat → Int32) (nodes lv : Int) : Prop := ∀ i : Nat, (i : Int) < nodes → zNd wh (i : Int) lv (wh i).toInt (lf i).toInt (rt i).toInt (nm i).toInt
theorem zNd_upd {wh : Nat → Int32} {k lv w a b n : Int} {N : Nat} {x : Int32} (h : zNd wh k lv w a b n) (hk : k ≤ (N : Int)) : zNd (upd wh N x) k lv w a b n := by
  obtain ⟨h1, h2, h3, h4, h5, h6⟩ := h
  refine ⟨h1, h2, h3, fun q => ?_, fun q => ?_, h6⟩
  · have e : a.toNat ≠ N := by
      rcases q with q | q | q
      · have := h1 (Or.inl q); omega
      · have := h2 (Or.inl q); omega
      · have := h2 (Or.inr (Or.inl q)); omega
    rw [pk_un e]
    exact h4 q
  · have e : b.toNat ≠ N := by have := h1 (Or.inl q); omega
    rw [pk_un e]
    exact h5 q
theorem zTr_mono {wh lf rt nm : Nat → Int32} {nodes lv lv' : Int} (h : zTr wh lf rt nm nodes lv) (e : lv ≤ lv') : zTr wh lf rt nm nodes lv' := fun i hi => by
  obtain ⟨h1, h2, h3, h4⟩ := h i hi
  exact ⟨h1, h2, fun q => by have := h3 q; omega, h4⟩
theorem zTr_push {wh lf rt nm : Nat → Int32} {nodes lv : Int} {nv w a b n : Int32} (h : zTr wh lf rt nm nodes lv) (hv : nv.toInt = nodes) (h0 : 0 ≤ nodes) (hn : zNd wh nodes lv w.toInt a.toInt b.toInt n.toInt) : zTr (upd wh nv.toNatClampNeg w) (upd lf nv.toNatClampNeg a) (upd rt nv.toNatClampNeg b) (upd nm nv.toNatClampNeg n) (nodes + 1) lv := by
  intro i hi
  have ev := zclamp (x := nv) (by omega)
  by_cases e : i = nv.toNatClampNeg
  · subst e
    have e1 : upd wh nv.toNatClampNeg w nv.toNatClampNeg = w := pk_us
    have e2 : upd lf nv.toNatClampNeg a nv.toNatClampNeg = a := pk_us
    have e3 : upd rt nv.toNatClampNeg b nv.toNatClampNeg = b := pk_us
    have e4 : upd nm nv.toNatClampNeg n nv.toNatClampNeg = n := pk_us
    rw [e1, e2, e3, e4, show ((nv.toNatClampNeg : Nat) : Int) = nodes by omega]
    exact zNd_upd hn (by omega)
  · rw [pk_un e, pk_un e, pk_un e, pk_un e]
    exact zNd_upd (h i (by omega)) (by omega)
theorem zNd_leaf {wh : Nat → Int32} {k lv w a b n : Int} (h : 1 ≤ w ∧ w ≤ 4) (h2 : 0 ≤ n ∧ n < lv) : zNd wh k lv w a b n := ⟨fun q => by omega, fun q => by omega, fun _ => h2, fun q => by omega, fun q => by omega, by omega, by omega⟩
theorem zNd_two {wh : Nat → Int32} {k lv w a b n : Int} (h : w = 8 ∨ w = 9 ∨ w = 11) (h2 : 0 ≤ a ∧ a < k ∧ 0 ≤ b ∧ b < k) : zNd wh k lv w a b n := ⟨fun _ => h2, fun q => by omega, fun q => by omega, fun q => by omega, fun q => by omega, by omega, by omega⟩
theorem zNd_not {wh : Nat → Int32} {k lv w a b n : Int} (h : w = 10) (h2 : 0 ≤ a ∧ a < k) : zNd wh k lv w a b n := ⟨fun q => by omega, fun _ => h2, fun q => by omega, fun q => by omega, fun q => by omega, by omega, by omega⟩
theorem zNd_near {wh : Nat → Int32} {k lv w n : Int} {a b : Int32} (h : w = 5) (h2 : 0 ≤ a.toInt ∧ a.toInt < k ∧ 0 ≤ b.toInt ∧ b.toInt < k) (ha : zPl (wh a.toNatClampNeg).toInt) (hb : zPl (wh b.toNatClampNeg).toInt) : zNd wh k lv w a.toInt b.toInt n := ⟨fun _ => h2, fun q => by omega, fun q => by omega, fun _ => ha, fun _ => hb, by omega, by omega⟩
theorem zNd_side {wh : Nat → Int32} {k lv w b n : Int} {a : Int32} (h : w = 6 ∨ w = 7) (h2 : 0 ≤ a.toInt ∧ a.toInt < k) (ha : zPl (wh a.toNatClampNeg).toInt) : zNd wh k lv w a.toInt b n := ⟨fun q => by omega, fun _ => h2, fun q => by omega, fun _ => ha, fun q => by omega, by omega, by omega⟩
def zLf (wh fr mn : Nat → Int32) (leaves : Int) : Prop := ∀ i : Nat, (i : Int) < leaves → (1 ≤ (wh i).toInt ∧ (wh i).toInt ≤ 4) ∧ ((wh i).toInt ≤ 3 → 0 ≤ (fr i).toInt ∧ 1 ≤ (mn i).toInt ∧ (fr i).toInt + (mn i).toInt ≤ 200)
theorem zLf_push {wh fr mn wh' fr' mn' : Nat → Int32} {leaves : Int} {lv : Int32} (h : zLf wh fr mn leaves) (hl : lv.toInt = leaves) (h0 : 0 ≤ leaves) (e1 : ∀ j, j ≠ lv.toNatClampNeg → wh' j = wh j) (e2 : ∀ j, j ≠ lv.toNatClampNeg → fr' j = fr j) (e3 : ∀ j, j ≠ lv.toNatClampNeg → mn' j = mn j) (hn : (1 ≤ (wh' lv.toNatClampNeg).toInt ∧ (wh' lv.toNatClampNeg).toInt ≤ 4) ∧ ((wh' lv.toNatClampNeg).toInt ≤ 3 → 0 ≤ (fr' lv.toNatClampNeg).toInt ∧ 1 ≤ (mn' lv.toNatClampNeg).toInt ∧ (fr' lv.toNatClampNeg).toInt + (mn' lv.toNatClampNeg).toInt ≤ 200)) : zLf wh' fr' mn' (leaves + 1) := by
  intro i hi
  have ev := zclamp (x := lv) (by omega)
  by_cases e : i = lv.toNatClampNeg
  · subst e; exact hn
  · rw [e1 i e, e2 i e, e3 i e]
    exact h i (by omega)
theorem zLf_get {wh fr mn : Nat → Int32} {leaves : Int} {x : Int32} (h : zLf wh fr mn leaves) (h1 : x.toInt < leaves) (h0 : 0 ≤ x.toInt) : 1 ≤ (wh x.toNatClampNeg).toInt ∧ (wh x.toNatClampNeg).toInt ≤ 4 ∧ ((wh x.toNatClampNeg).toInt ≤ 3 → 0 ≤ (fr x.toNatClampNeg).toInt ∧ 1 ≤ (mn x.toNatClampNeg).toInt ∧ (fr x.toNatClampNeg).toInt + (mn x.toNatClampNeg).toInt ≤ 200) := by
  have e := zclamp (x := x) h0
  have q := h x.toNatClampNeg (by omega)
  exact ⟨q.1.1, q.1.2, q.2⟩
def zFk (fk : Nat → Int32) (lo hi : Int) : Prop := ∀ j : Nat, lo ≤ (j : Int) → (j : Int) < hi → (fk j).toInt = 6 ∨ (fk j).toInt = 7
theorem zFk_0 {f : Nat → Int32} {lo hi : Int} (h : hi ≤ lo) : zFk f lo hi := fun j h1 h2 => by omega
theorem zFk_c {f : Nat → Int32} {lo hi lo' hi' : Int} (h : zFk f lo hi) (h1 : lo ≤ lo') (h2 : hi' ≤ hi) : zFk f lo' hi' := fun j q1 q2 => h j (by omega) (by omega)
theorem zFk_put {f : Nat → Int32} {lo hi : Int} {i x : Int32} (h : zFk f lo hi) (hi0 : i.toInt = hi) (h0 : 0 ≤ hi) (hx : x.toInt = 6 ∨ x.toInt = 7) : zFk (upd f i.toNatClampNeg x) lo (hi + 1) := fun j q1 q2 => by
  have e := zclamp (x := i) (by omega)
  by_cases c : j = i.toNatClampNeg
  · subst c; rw [pk_us]; exact hx
  · rw [pk_un c]; exact h j q1 (by omega)
theorem zFk_get {f : Nat → Int32} {lo hi : Int} {i : Int32} (h : zFk f lo hi) (h0 : 0 ≤ i.toInt) (h1 : lo ≤ i.toInt) (h2 : i.toInt < hi) : (f i.toNatClampNeg).toInt = 6 ∨ (f i.toNatClampNeg).toInt = 7 := by
  have e := zclamp (x := i) h0
  exact h _ (by omega) (by omega)
def zEq (f g : Nat → Int32) (n : Int) : Prop := ∀ j : Nat, (j : Int) < n → g j = f j
theorem zEq_rf {f : Nat → Int32} {n : Int} : zEq f f n := fun _ _ => rfl
theorem zEq_tr {f g h : Nat → Int32} {n m : Int} (h1 : zEq f g n) (h2 : zEq g h m) (e : n ≤ m) : zEq f h n := fun j q => by rw [h2 j (by omega), h1 j q]
theorem zEq_put {f g : Nat → Int32} {n : Int} {i x : Int32} (h : zEq f g n) (h0 : 0 ≤ i.toInt) (h1 : n ≤ i.toInt) : zEq f (upd g i.toNatClampNeg x) n := fun j q => by
  have e := zclamp (x := i) h0
  rw [pk_un (by omega)]; exact h j q
theorem zFk_eq {f g : Nat → Int32} {lo hi m : Int} (h : zFk f lo hi) (h2 : zEq f g m) (e : hi ≤ m) : zFk g lo hi := fun j q1 q2 => by rw [h2 j (by omega)]; exact h j q1 q2
theorem zTr_get {wh lf rt nm : Nat → Int32} {nodes lv : Int} {x : Int32} (h : zTr wh lf rt nm nodes lv) (h0 : 0 ≤ x.toInt) (h1 : x.toInt < nodes) : zNd wh x.toInt lv (wh x.toNatClampNeg).toInt (lf x.toNatClampNeg).toInt (rt x.toNatClampNeg).toInt (nm x.toNatClampNeg).toInt := by
  have e := zclamp (x := x) h0
  have q := h x.toNatClampNeg (by omega)
  rwa [e] at q
