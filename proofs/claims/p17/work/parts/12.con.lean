def zPl (v : Int) : Prop := v = 1 ∨ v = 2 ∨ v = 3 ∨ v = 6 ∨ v = 7
def zNd (wh : Nat → Int32) (nodes lv w a b n : Int) : Prop := ((w = 5 ∨ w = 8 ∨ w = 9 ∨ w = 11) → (0 ≤ a ∧ a < nodes ∧ 0 ≤ b ∧ b < nodes)) ∧ ((w = 6 ∨ w = 7 ∨ w = 10) → (0 ≤ a ∧ a < nodes)) ∧ ((1 ≤ w ∧ w ≤ 4) → (0 ≤ n ∧ n < lv)) ∧ ((w = 5 ∨ w = 6 ∨ w = 7) → zPl (wh a.toNat).toInt) ∧ (w = 5 → zPl (wh b.toNat).toInt) ∧ 1 ≤ w ∧ w ≤ 11
def zTr (wh lf rt nm : Nat → Int32) (nodes lv : Int) : Prop := ∀ i : Nat, (i : Int) < nodes → zNd wh (i : Int) lv (wh i).toInt (lf i).toInt (rt i).toInt (nm i).toInt
theorem zNd_upd {wh : Nat → Int32} {k lv w a b n : Int} {N : Nat} {x : Int32} (h : zNd wh k lv w a b n) (hk : k ≤ (N : Int)) : zNd (upd wh N x) k lv w a b n := by
  obtain ⟨h1, h2, h3, h4, h5, h6⟩ := h
  refine ⟨h1, h2, h3, fun q => ?_, fun q => ?_, h6⟩
  · have e : a.toNat ≠ N := by
      rcases q with q | q | q
      · have := h1 (Or.inl q); omega
      · have := h2 (Or.inl q); omega
      · have := h2 (Or.inr (Or.inl q)); omega
    rw [pk_un e]
    exact h4 q
  · have e : b.toNat ≠ N := by have := h1 (Or.inl q); omega
    rw [pk_un e]
    exact h5 q
theorem zTr_mono {wh lf rt nm : Nat → Int32} {nodes lv lv' : Int} (h : zTr wh lf rt nm nodes lv) (e : lv ≤ lv') : zTr wh lf rt nm nodes lv' := fun i hi => by
  obtain ⟨h1, h2, h3, h4⟩ := h i hi
  exact ⟨h1, h2, fun q => by have := h3 q; omega, h4⟩
theorem zTr_push {wh lf rt nm : Nat → Int32} {nodes lv : Int} {nv w a b n : Int32} (h : zTr wh lf rt nm nodes lv) (hv : nv.toInt = nodes) (h0 : 0 ≤ nodes) (hn : zNd wh nodes lv w.toInt a.toInt b.toInt n.toInt) : zTr (upd wh nv.toNatClampNeg w) (upd lf nv.toNatClampNeg a) (upd rt nv.toNatClampNeg b) (upd nm nv.toNatClampNeg n) (nodes + 1) lv := by
  intro i hi
  have ev := zclamp (x := nv) (by omega)
  by_cases e : i = nv.toNatClampNeg
  · subst e
    have e1 : upd wh nv.toNatClampNeg w nv.toNatClampNeg = w := pk_us
    have e2 : upd lf nv.toNatClampNeg a nv.toNatClampNeg = a := pk_us
    have e3 : upd rt nv.toNatClampNeg b nv.toNatClampNeg = b := pk_us
    have e4 : upd nm nv.toNatClampNeg n nv.toNatClampNeg = n := pk_us
    rw [e1, e2, e3, e4, show ((nv.toNatClampNeg : Nat) : Int) = nodes by omega]
    exact zNd_upd hn (by omega)
  · rw [pk_un e, pk_un e, pk_un e, pk_un e]
    exact zNd_upd (h i (by omega)) (by omega)
theorem zNd_leaf {wh : Nat → Int32} {k lv w a b n : Int} (h : 1 ≤ w ∧ w ≤ 4) (h2 : 0 ≤ n ∧ n < lv) : zNd wh k lv w a b n := ⟨fun q => by omega, fun q => by omega, fun _ => h2, fun q => by omega, fun q => by omega, by omega, by omega⟩
theorem zNd_two {wh : Nat → Int32} {k lv w a b n : Int} (h : w = 8 ∨ w = 9 ∨ w = 11) (h2 : 0 ≤ a ∧ a < k ∧ 0 ≤ b ∧ b < k) : zNd wh k lv w a b n := ⟨fun _ => h2, fun q => by omega, fun q => by omega, fun q => by omega, fun q => by omega, by omega, by omega⟩
theorem zNd_not {wh : Nat → Int32} {k lv w a b n : Int} (h : w = 10) (h2 : 0 ≤ a ∧ a < k) : zNd wh k lv w a b n := ⟨fun q => by omega, fun _ => h2, fun q => by omega, fun q => by omega, fun q => by omega, by omega, by omega⟩
theorem zNd_near {wh : Nat → Int32} {k lv w n : Int} {a b : Int32} (h : w = 5) (h2 : 0 ≤ a.toInt ∧ a.toInt < k ∧ 0 ≤ b.toInt ∧ b.toInt < k) (ha : zPl (wh a.toNatClampNeg).toInt) (hb : zPl (wh b.toNatClampNeg).toInt) : zNd wh k lv w a.toInt b.toInt n := ⟨fun _ => h2, fun q => by omega, fun q => by omega, fun _ => ha, fun _ => hb, by omega, by omega⟩
theorem zNd_side {wh : Nat → Int32} {k lv w b n : Int} {a : Int32} (h : w = 6 ∨ w = 7) (h2 : 0 ≤ a.toInt ∧ a.toInt < k) (ha : zPl (wh a.toNatClampNeg).toInt) : zNd wh k lv w a.toInt b n := ⟨fun q => by omega, fun _ => h2, fun q => by omega, fun _ => ha, fun q => by omega, by omega, by omega⟩
def zLf (wh fr mn : Nat → Int32) (leaves : Int) : Prop := ∀ i : Nat, (i : Int) < leaves → (1 ≤ (wh i).toInt ∧ (wh i).toInt ≤ 4) ∧ ((wh i).toInt ≤ 3 → 0 ≤ (fr i).toInt ∧ 1 ≤ (mn i).toInt ∧ (fr i).toInt + (mn i).toInt ≤ 200)
theorem zLf_push {wh fr mn wh' fr' mn' : Nat → Int32} {leaves : Int} {lv : Int32} (h : zLf wh fr mn leaves) (hl : lv.toInt = leaves) (h0 : 0 ≤ leaves) (e1 : ∀ j, j ≠ lv.toNatClampNeg → wh' j = wh j) (e2 : ∀ j, j ≠ lv.toNatClampNeg → fr' j = fr j) (e3 : ∀ j, j ≠ lv.toNatClampNeg → mn' j = mn j) (hn : (1 ≤ (wh' lv.toNatClampNeg).toInt ∧ (wh' lv.toNatClampNeg).toInt ≤ 4) ∧ ((wh' lv.toNatClampNeg).toInt ≤ 3 → 0 ≤ (fr' lv.toNatClampNeg).toInt ∧ 1 ≤ (mn' lv.toNatClampNeg).toInt ∧ (fr' lv.toNatClampNeg).toInt + (mn' lv.toNatClampNeg).toInt ≤ 200)) : zLf wh' fr' mn' (leaves + 1) := by
  intro i hi
  have ev := zclamp (x := lv) (by omega)
  by_cases e : i = lv.toNatClampNeg
  · subst e; exact hn
  · rw [e1 i e, e2 i e, e3 i e]
    exact h i (by omega)
theorem zLf_get {wh fr mn : Nat → Int32} {leaves : Int} {x : Int32} (h : zLf wh fr mn leaves) (h1 : x.toInt < leaves) (h0 : 0 ≤ x.toInt) : 1 ≤ (wh x.toNatClampNeg).toInt ∧ (wh x.toNatClampNeg).toInt ≤ 4 ∧ ((wh x.toNatClampNeg).toInt ≤ 3 → 0 ≤ (fr x.toNatClampNeg).toInt ∧ 1 ≤ (mn x.toNatClampNeg).toInt ∧ (fr x.toNatClampNeg).toInt + (mn x.toNatClampNeg).toInt ≤ 200) := by
  have e := zclamp (x := x) h0
  have q := h x.toNatClampNeg (by omega)
  exact ⟨q.1.1, q.1.2, q.2⟩
def zFk (fk : Nat → Int32) (lo hi : Int) : Prop := ∀ j : Nat, lo ≤ (j : Int) → (j : Int) < hi → (fk j).toInt = 6 ∨ (fk j).toInt = 7
theorem zFk_0 {f : Nat → Int32} {lo hi : Int} (h : hi ≤ lo) : zFk f lo hi := fun j h1 h2 => by omega
theorem zFk_c {f : Nat → Int32} {lo hi lo' hi' : Int} (h : zFk f lo hi) (h1 : lo ≤ lo') (h2 : hi' ≤ hi) : zFk f lo' hi' := fun j q1 q2 => h j (by omega) (by omega)
theorem zFk_put {f : Nat → Int32} {lo hi : Int} {i x : Int32} (h : zFk f lo hi) (hi0 : i.toInt = hi) (h0 : 0 ≤ hi) (hx : x.toInt = 6 ∨ x.toInt = 7) : zFk (upd f i.toNatClampNeg x) lo (hi + 1) := fun j q1 q2 => by
  have e := zclamp (x := i) (by omega)
  by_cases c : j = i.toNatClampNeg
  · subst c; rw [pk_us]; exact hx
  · rw [pk_un c]; exact h j q1 (by omega)
theorem zFk_get {f : Nat → Int32} {lo hi : Int} {i : Int32} (h : zFk f lo hi) (h0 : 0 ≤ i.toInt) (h1 : lo ≤ i.toInt) (h2 : i.toInt < hi) : (f i.toNatClampNeg).toInt = 6 ∨ (f i.toNatClampNeg).toInt = 7 := by
  have e := zclamp (x := i) h0
  exact h _ (by omega) (by omega)
def zEq (f g : Nat → Int32) (n : Int) : Prop := ∀ j : Nat, (j : Int) < n → g j = f j
theorem zEq_rf {f : Nat → Int32} {n : Int} : zEq f f n := fun _ _ => rfl
theorem zEq_tr {f g h : Nat → Int32} {n m : Int} (h1 : zEq f g n) (h2 : zEq g h m) (e : n ≤ m) : zEq f h n := fun j q => by rw [h2 j (by omega), h1 j q]
theorem zEq_put {f g : Nat → Int32} {n : Int} {i x : Int32} (h : zEq f g n) (h0 : 0 ≤ i.toInt) (h1 : n ≤ i.toInt) : zEq f (upd g i.toNatClampNeg x) n := fun j q => by
  have e := zclamp (x := i) h0
  rw [pk_un (by omega)]; exact h j q
theorem zFk_eq {f g : Nat → Int32} {lo hi m : Int} (h : zFk f lo hi) (h2 : zEq f g m) (e : hi ≤ m) : zFk g lo hi := fun j q1 q2 => by rw [h2 j (by omega)]; exact h j q1 q2
theorem zTr_get {wh lf rt nm : Nat → Int32} {nodes lv : Int} {x : Int32} (h : zTr wh lf rt nm nodes lv) (h0 : 0 ≤ x.toInt) (h1 : x.toInt < nodes) : zNd wh x.toInt lv (wh x.toNatClampNeg).toInt (lf x.toNatClampNeg).toInt (rt x.toNatClampNeg).toInt (nm x.toNatClampNeg).toInt := by
  have e := zclamp (x := x) h0
  have q := h x.toNatClampNeg (by omega)
  rwa [e] at q
theorem zix {f : Nat → Int32} {i : Int32} {m : Int} (h : i.toInt = m) : f i.toNatClampNeg = f m.toNat := by subst h; rfl
theorem zTr_0 {wh lf rt nm : Nat → Int32} {nodes lv : Int} (h : nodes ≤ 0) : zTr wh lf rt nm nodes lv := fun i hi => by omega
theorem zLf_0 {wh fr mn : Nat → Int32} {lv : Int} (h : lv ≤ 0) : zLf wh fr mn lv := fun i hi => by omega
def zun (p : Int) : Int := if p < 512 then 512 else 1024
theorem zun_a {p : Int} (h : p < 512) : zun p = 512 := if_pos h
theorem zun_b {p : Int} (h : 512 ≤ p) : zun p = 1024 := if_neg (by omega)
def zphr (ta me : Nat → Int32) (b fr p un : Int) : Nat → Int → Int → Int
  | 0, _, s => s
  | n + 1, k, s => if (me (fr + k).toNat).toInt = -1 then zphr ta me b fr p un n (k + 1) s else if (me (fr + k).toNat).toInt = 0 ∨ un ≤ p + k ∨ (ta (b + p + k).toNat).toInt ≠ (me (fr + k).toNat).toInt then 0 else zphr ta me b fr p un n (k + 1) 1
section ZP
variable {ta me : Nat → Int32} {b fr p un m k s : Int}
theorem zphr_a (h : k < m) (hm : (me (fr + k).toNat).toInt = -1) : zphr ta me b fr p un (m - k).toNat k s = zphr ta me b fr p un (m - (k + 1)).toNat (k + 1) s := by
  rw [show (m - k).toNat = (m - (k + 1)).toNat + 1 by omega]
  exact if_pos hm
theorem zphr_b (h : k < m) (hm : ¬ (me (fr + k).toNat).toInt = -1) (hc : (me (fr + k).toNat).toInt = 0 ∨ un ≤ p + k ∨ (ta (b + p + k).toNat).toInt ≠ (me (fr + k).toNat).toInt) : zphr ta me b fr p un (m - k).toNat k s = 0 := by
  rw [show (m - k).toNat = (m - (k + 1)).toNat + 1 by omega]
  exact (if_neg hm).trans (if_pos hc)
theorem zphr_c (h : k < m) (hm : ¬ (me (fr + k).toNat).toInt = -1) (hc : ¬ ((me (fr + k).toNat).toInt = 0 ∨ un ≤ p + k ∨ (ta (b + p + k).toNat).toInt ≠ (me (fr + k).toNat).toInt)) : zphr ta me b fr p un (m - k).toNat k s = zphr ta me b fr p un (m - (k + 1)).toNat (k + 1) 1 := by
  rw [show (m - k).toNat = (m - (k + 1)).toNat + 1 by omega]
  exact (if_neg hm).trans (if_neg hc)
theorem zphr_z (h : m ≤ k) : zphr ta me b fr p un (m - k).toNat k s = s := by
  rw [show (m - k).toNat = 0 by omega]
  rfl
end ZP
def zMt (ta wh fr mn me ib : Nat → Int32) (l d p : Int) : Int :=
  if (wh l.toNat).toInt = 1 then (if 0 < (ta (1024 * d + p).toNat).toInt ∧ (ta (1024 * d + p).toNat).toInt = (me (fr l.toNat).toInt.toNat).toInt then 1 else 0)
  else if (wh l.toNat).toInt = 2 then (if 0 < (ta (1024 * d + p).toNat).toInt ∧ (ib (400 * l + (ta (1024 * d + p).toNat).toInt - 1).toNat).toInt ≠ 0 then 1 else 0)
  else if (wh l.toNat).toInt = 3 then zphr ta me (1024 * d) (fr l.toNat).toInt p (zun p) (mn l.toNat).toInt.toNat 0 0
  else 0
section ZM
variable {ta wh fr mn me ib : Nat → Int32} {l d p w v : Int}
theorem zMt_1 (e : (wh l.toNat).toInt = 1) (hw : (ta (1024 * d + p).toNat).toInt = w) (hv : (me (fr l.toNat).toInt.toNat).toInt = v) (c : 0 < w ∧ w = v) : zMt ta wh fr mn me ib l d p = 1 := (if_pos e).trans (if_pos (by rw [hw, hv]; exact c))
theorem zMt_1n (e : (wh l.toNat).toInt = 1) (hw : (ta (1024 * d + p).toNat).toInt = w) (hv : (me (fr l.toNat).toInt.toNat).toInt = v) (c : ¬ (0 < w ∧ w = v)) : zMt ta wh fr mn me ib l d p = 0 := (if_pos e).trans (if_neg (by rw [hw, hv]; exact c))
theorem zMt_0n (e : (wh l.toNat).toInt = 1 ∨ (wh l.toNat).toInt = 2) (hw : (ta (1024 * d + p).toNat).toInt = w) (c : ¬ 0 < w) : zMt ta wh fr mn me ib l d p = 0 := by
  rcases e with e | e
  · exact (if_pos e).trans (if_neg (fun q => c (by rw [← hw]; exact q.1)))
  · exact (if_neg (by omega)).trans ((if_pos e).trans (if_neg (fun q => c (by rw [← hw]; exact q.1))))
theorem zMt_2 (e : (wh l.toNat).toInt = 2) (hw : (ta (1024 * d + p).toNat).toInt = w) (hv : (ib (400 * l + w - 1).toNat).toInt = v) (c : 0 < w ∧ v ≠ 0) : zMt ta wh fr mn me ib l d p = 1 := (if_neg (by omega)).trans ((if_pos e).trans (if_pos (by rw [hw, hv]; exact c)))
theorem zMt_2n (e : (wh l.toNat).toInt = 2) (hw : (ta (1024 * d + p).toNat).toInt = w) (hv : (ib (400 * l + w - 1).toNat).toInt = v) (c : ¬ (0 < w ∧ v ≠ 0)) : zMt ta wh fr mn me ib l d p = 0 := (if_neg (by omega)).trans ((if_pos e).trans (if_neg (by rw [hw, hv]; exact c)))
theorem zMt_3 (e : (wh l.toNat).toInt = 3) : zMt ta wh fr mn me ib l d p = zphr ta me (1024 * d) (fr l.toNat).toInt p (zun p) (mn l.toNat).toInt.toNat 0 0 := (if_neg (by omega)).trans ((if_neg (by omega)).trans (if_pos e))
theorem zMt_4 (e1 : (wh l.toNat).toInt ≠ 1) (e2 : (wh l.toNat).toInt ≠ 2) (e3 : (wh l.toNat).toInt ≠ 3) : zMt ta wh fr mn me ib l d p = 0 := (if_neg e1).trans ((if_neg e2).trans (if_neg e3))
end ZM
def zIl (lo : Nat → Int32) (l p : Int) : Prop := (lo l.toNat).toInt = 0 ∨ (p < 512 ∧ (lo l.toNat).toInt = 1) ∨ (512 ≤ p ∧ (lo l.toNat).toInt = 2)
def zHt (ta wh fr mn me ib lo : Nat → Int32) (l d p : Int) : Prop := zIl lo l p ∧ zMt ta wh fr mn me ib l d p = 1
def zSm (F : Int → Prop) (a b : Int) : Prop := ∃ p : Int, a ≤ p ∧ p < b ∧ F p
def zWd (ta wh fr mn me ib lo ti bo : Nat → Int32) (l d : Int) : Prop := zSm (zHt ta wh fr mn me ib lo l d) 0 (ti d.toNat).toInt ∨ zSm (zHt ta wh fr mn me ib lo l d) 512 (512 + (bo d.toNat).toInt)
section ZW
variable {F : Int → Prop} {X : Prop} {a b p p' f f' T : Int}
theorem zSm_n (h : ¬ F p) : zSm F a (p + 1) ↔ zSm F a p := ⟨fun ⟨q, h1, h2, h3⟩ => ⟨q, h1, (by have : q ≠ p := fun e => h (e ▸ h3); omega), h3⟩, fun ⟨q, h1, h2, h3⟩ => ⟨q, h1, by omega, h3⟩⟩
theorem zWi_0 (h : f ≤ 0) (hb : b ≤ a) : 0 < f ↔ zSm F a b := ⟨fun q => by omega, fun ⟨q, h1, h2, _⟩ => by omega⟩
theorem zWi_y (hF : F p) (ha : a ≤ p) (h : 0 < f') (e : p' = p + 1) : 0 < f' ↔ zSm F a p' := ⟨fun _ => ⟨p, ha, by omega, hF⟩, fun _ => h⟩
theorem zWi_n (hI : 0 < f ↔ zSm F a p) (hF : ¬ F p) (e : f' = f) (ep : p' = p + 1) : 0 < f' ↔ zSm F a p' := by
  subst e; subst ep
  exact hI.trans (zSm_n hF).symm
theorem zWj_0 (hI : 0 < f ↔ zSm F 0 p) (e : p = T) (hb : b ≤ a) : 0 < f ↔ (zSm F 0 T ∨ zSm F a b) := by
  subst e
  exact hI.trans ⟨Or.inl, fun q => q.elim id (fun ⟨r, h1, h2, _⟩ => by omega)⟩
theorem zWj_y (hF : F p) (ha : a ≤ p) (h : 0 < f') (e : p' = p + 1) : 0 < f' ↔ (X ∨ zSm F a p') := ⟨fun _ => Or.inr ⟨p, ha, by omega, hF⟩, fun _ => h⟩
theorem zWj_n (hI : 0 < f ↔ (X ∨ zSm F a p)) (hF : ¬ F p) (e : f' = f) (ep : p' = p + 1) : 0 < f' ↔ (X ∨ zSm F a p') := by
  subst e; subst ep
  exact hI.trans (or_congr Iff.rfl (zSm_n hF).symm)
theorem zWj_z (hI : 0 < f ↔ (X ∨ zSm F a p)) (e : p = T) : 0 < f ↔ (X ∨ zSm F a T) := by subst e; exact hI
end ZW
def zMa (ma co on ta wh fr mn me ib lo ti bo : Nat → Int32) (docs L : Int) : Prop := ∀ l d : Int, 0 ≤ l → l < L → 0 ≤ d → d < docs → (co l.toNat).toInt ≠ 0 → (on d.toNat).toInt ≠ 0 → zWd ta wh fr mn me ib lo ti bo l d → 1 ≤ (ma l.toNat).toInt
def zMo (co on ta wh fr mn me ib lo ti bo : Nat → Int32) (l D n : Int) : Prop := (co l.toNat).toInt ≠ 0 → ∀ d : Int, 0 ≤ d → d < D → (on d.toNat).toInt ≠ 0 → zWd ta wh fr mn me ib lo ti bo l d → 1 ≤ n
section ZMA
variable {ma ma' co on ta wh fr mn me ib lo ti bo : Nat → Int32} {docs L L' l D D' n n' : Int}
theorem zMa_0 (h : L ≤ 0) : zMa ma co on ta wh fr mn me ib lo ti bo docs L := fun l d h1 h2 => by omega
theorem zMo_0 (h : D ≤ 0) : zMo co on ta wh fr mn me ib lo ti bo l D n := fun _ d h1 h2 => by omega
theorem zMo_y (h : 1 ≤ n') : zMo co on ta wh fr mn me ib lo ti bo l D n' := fun _ _ _ _ _ _ => h
theorem zMo_n (h : zMo co on ta wh fr mn me ib lo ti bo l D n) (hd : (on D.toNat).toInt = 0 ∨ ¬ zWd ta wh fr mn me ib lo ti bo l D) (e : n' = n) (e' : D' = D + 1) : zMo co on ta wh fr mn me ib lo ti bo l D' n' := fun hc d h1 h2 h3 h4 => by
  subst e; subst e'
  by_cases c : d = D
  · subst c; rcases hd with hd | hd
    · exact absurd hd h3
    · exact absurd h4 hd
  · exact h hc d h1 (by omega) h3 h4
theorem zMo_c (h : zMo co on ta wh fr mn me ib lo ti bo l D n) (e : docs ≤ D) : zMo co on ta wh fr mn me ib lo ti bo l docs n := fun hc d h1 h2 => h hc d h1 (by omega)
theorem zMa_c (h : zMa ma co on ta wh fr mn me ib lo ti bo docs L) (e : L' ≤ L) : zMa ma co on ta wh fr mn me ib lo ti bo docs L' := fun l d h1 h2 => h l d h1 (by omega)
theorem zMa_s (h : zMa ma co on ta wh fr mn me ib lo ti bo docs L) (ho : (co L.toNat).toInt = 0 ∨ zMo co on ta wh fr mn me ib lo ti bo L docs (ma' L.toNat).toInt) (hk : ∀ j : Nat, (j : Int) < L → ma' j = ma j) (e : L' = L + 1) : zMa ma' co on ta wh fr mn me ib lo ti bo docs L' := fun l d h1 h2 h3 h4 h5 h6 h7 => by
  subst e
  by_cases c : l = L
  · subst c; rcases ho with ho | ho
    · exact absurd ho h5
    · exact ho h5 d h3 h4 h6 h7
  · rw [hk l.toNat (by omega)]
    exact h l d h1 (by omega) h3 h4 h5 h6 h7
end ZMA
section ZThrow2
variable {p : Program} {l : Launch} {e : Env} {R : Room} {s : State} {m : MethodId} {args : Array Value} {below : List Frame} {meth : Method} {c : Code} {H : Heap} {locs : List Loc} {cells slots : Nat} {Q : State → Prop} {ls : Array Slot} {rest : List Value}

theorem z_athrowC {cc : ByteArray} {pc : Nat} {q : Addr} (hexec : p.tables.exec = Jvm.exec) (hb : c.code = cc) (hd : decode cc pc = .ok (.athrow, 1)) (kk : vx_W p l e R s m args below meth c H locs cells slots Q (F0 m pc ls rest) q) : W p l e R s m args below meth c H locs cells slots Q (F0 m pc ls (.ref q :: rest)) := by
  intro T hT X
  obtain ⟨t, h1, h2⟩ := kk T hT X
  refine ⟨t, ?_, h2⟩
  have hstack : (F0 m pc ls (.ref q :: rest)).stack = .ref q :: rest := rfl
  have hdg : decode c.code (F0 m pc ls (.ref q :: rest)).pc = .ok (.athrow, 1) := by rw [hb]; exact hd
  have hh : At T (F0 m pc ls (.ref q :: rest)).method c below := X.here
  jvm_step hh [hexec, hdg, Op.athrow.wp_sem, hstack]
  exact h1
end ZThrow2
def zAtw (ta : Nat → Int32) (d w : Int) : Int → Prop := fun p => (ta (1024 * d + p).toNat).toInt = w + 1
def zHw (ta ti bo : Nat → Int32) (d w : Int) : Prop := zSm (zAtw ta d w) 0 (ti d.toNat).toInt ∨ zSm (zAtw ta d w) 512 (512 + (bo d.toNat).toInt)
def zT0 (to : Nat → Int32) (L : Int) : Prop := ∀ w : Nat, (w : Int) < L → (to w).toInt = 0
def zTa (to ta : Nat → Int32) (W d k : Int) : Prop := ∀ w : Nat, (w : Int) < W → 0 ≤ (to w).toInt ∧ (to w).toInt ≤ k ∧ (0 < (to w).toInt ↔ zSm (zAtw ta d w) 0 k)
def zTb (to ta : Nat → Int32) (W d T k : Int) : Prop := ∀ w : Nat, (w : Int) < W → 0 ≤ (to w).toInt ∧ (to w).toInt ≤ k ∧ (0 < (to w).toInt ↔ (zSm (zAtw ta d w) 0 T ∨ zSm (zAtw ta d w) 512 k))
def zTc (to ta ti bo : Nat → Int32) (W d : Int) : Prop := ∀ w : Nat, (w : Int) < W → (0 < (to w).toInt ↔ zHw ta ti bo d w)
section ZT
variable {to ta ti bo : Nat → Int32} {W W' L L' d k k' T v : Int} {i x : Int32}
theorem zT0_0 (h : L ≤ 0) : zT0 to L := fun w q => by omega
theorem zT0_s (h : zT0 to L) (hi : i.toInt = L) (h0 : 0 ≤ L) (hx : x.toInt = 0) (e : L' = L + 1) : zT0 (upd to i.toNatClampNeg x) L' := fun w q => by
  have ei := zclamp (x := i) (by omega)
  by_cases c : w = i.toNatClampNeg
  · subst c; rw [pk_us]; exact hx
  · rw [pk_un c]; exact h w (by omega)
theorem zTa_0 (h : zT0 to L) (e : W ≤ L) (hk : k = 0) : zTa to ta W d k := fun w q => by
  have h1 := h w (by omega)
  exact ⟨by omega, by omega, zWi_0 (by omega) (by omega)⟩
theorem zTa_n (h : zTa to ta W d k) (hv : (ta (1024 * d + k).toNat).toInt ≤ 0) (e : k' = k + 1) : zTa to ta W d k' := fun w q => by
  obtain ⟨h1, h2, h3⟩ := h w q
  exact ⟨h1, by omega, zWi_n h3 (fun c => by have c2 : (ta (1024 * d + k).toNat).toInt = w + 1 := c; omega) rfl e⟩
theorem zTa_y (h : zTa to ta W d k) (hv : (ta (1024 * d + k).toNat).toInt = v) (hi : i.toInt = v - 1) (hv0 : 0 < v) (hx : i.toInt < W → x.toInt = (to i.toNatClampNeg).toInt + 1) (hk : 0 ≤ k) (e : k' = k + 1) : zTa (upd to i.toNatClampNeg x) ta W d k' := fun w q => by
  have ei := zclamp (x := i) (by omega)
  obtain ⟨h1, h2, h3⟩ := h w q
  by_cases c : w = i.toNatClampNeg
  · subst c
    rw [pk_us]
    have h4 := hx (by omega)
    exact ⟨by omega, by omega, zWi_y (p := k) (show (ta (1024 * d + k).toNat).toInt = _ + 1 by omega) (by omega) (by omega) e⟩
  · rw [pk_un c]
    exact ⟨h1, by omega, zWi_n h3 (fun c2 => by have c3 : (ta (1024 * d + k).toNat).toInt = w + 1 := c2; omega) rfl e⟩
theorem zTb_0 (h : zTa to ta W d k) (e : k = T) (ht : T ≤ 512) (e2 : k' = 512) : zTb to ta W d T k' := fun w q => by
  obtain ⟨h1, h2, h3⟩ := h w q
  exact ⟨h1, by omega, zWj_0 h3 e (by omega)⟩
theorem zTb_n (h : zTb to ta W d T k) (hv : (ta (1024 * d + k).toNat).toInt ≤ 0) (e : k' = k + 1) : zTb to ta W d T k' := fun w q => by
  obtain ⟨h1, h2, h3⟩ := h w q
  exact ⟨h1, by omega, zWj_n h3 (fun c => by have c2 : (ta (1024 * d + k).toNat).toInt = w + 1 := c; omega) rfl e⟩
theorem zTb_y (h : zTb to ta W d T k) (hv : (ta (1024 * d + k).toNat).toInt = v) (hi : i.toInt = v - 1) (hv0 : 0 < v) (hx : i.toInt < W → x.toInt = (to i.toNatClampNeg).toInt + 1) (hk : 512 ≤ k) (e : k' = k + 1) : zTb (upd to i.toNatClampNeg x) ta W d T k' := fun w q => by
  have ei := zclamp (x := i) (by omega)
  obtain ⟨h1, h2, h3⟩ := h w q
  by_cases c : w = i.toNatClampNeg
  · subst c
    rw [pk_us]
    have h4 := hx (by omega)
    exact ⟨by omega, by omega, zWj_y (p := k) (show (ta (1024 * d + k).toNat).toInt = _ + 1 by omega) (by omega) (by omega) e⟩
  · rw [pk_un c]
    exact ⟨h1, by omega, zWj_n h3 (fun c2 => by have c3 : (ta (1024 * d + k).toNat).toInt = w + 1 := c2; omega) rfl e⟩
theorem zTc_of (h : zTb to ta W d T k) (e1 : T = (ti d.toNat).toInt) (e2 : k = 512 + (bo d.toNat).toInt) : zTc to ta ti bo W d := fun w q => by
  subst e1; subst e2
  exact (h w q).2.2
end ZT
def zHo (he on ta ti bo : Nat → Int32) (W D : Int) : Prop := ∀ w : Nat, (w : Int) < W → 0 ≤ (he w).toInt ∧ (he w).toInt ≤ D ∧ ∀ d : Int, 0 ≤ d → d < D → (on d.toNat).toInt ≠ 0 → zHw ta ti bo d w → 1 ≤ (he w).toInt
def zHi (he h0 of : Nat → Int32) (W j : Int) : Prop := ∀ w : Nat, (w : Int) < W → ((w : Int) < j → ((0 < (of w).toInt ∧ (he w).toInt = (h0 w).toInt + 1) ∨ ((of w).toInt ≤ 0 ∧ (he w).toInt = (h0 w).toInt))) ∧ (j ≤ (w : Int) → he w = h0 w)
section ZH
variable {he h0 of on ta ti bo : Nat → Int32} {W L D D' j j' : Int} {i x : Int32}
theorem zHo_0 (h : zT0 he L) (e : W ≤ L) (hd : D = 0) : zHo he on ta ti bo W D := fun w q => by
  have h1 := h w (by omega)
  exact ⟨by omega, by omega, fun d h2 h3 => by omega⟩
theorem zHo_n (h : zHo he on ta ti bo W D) (hn : (on D.toNat).toInt = 0) (e : D' = D + 1) : zHo he on ta ti bo W D' := fun w q => by
  subst e
  obtain ⟨h1, h2, h3⟩ := h w q
  refine ⟨h1, by omega, fun d g1 g2 g3 g4 => ?_⟩
  by_cases c : d = D
  · subst c; exact absurd hn g3
  · exact h3 d g1 (by omega) g3 g4
theorem zHi_0 (e : j ≤ 0) : zHi h0 h0 of W j := fun w _ => ⟨fun q => by omega, fun _ => rfl⟩
theorem zHi_at (h : zHi he h0 of W j) (hi : i.toInt = j) (h1 : 0 ≤ j) (h2 : j < W) : he i.toNatClampNeg = h0 i.toNatClampNeg := by
  have ei := zclamp (x := i) (by omega)
  exact (h _ (by omega)).2 (by omega)
theorem zHi_s (h : zHi he h0 of W j) (hi : i.toInt = j) (h1 : 0 ≤ j) (hx : (0 < (of i.toNatClampNeg).toInt ∧ x.toInt = (h0 i.toNatClampNeg).toInt + 1) ∨ ((of i.toNatClampNeg).toInt ≤ 0 ∧ x.toInt = (h0 i.toNatClampNeg).toInt)) (e : j' = j + 1) : zHi (upd he i.toNatClampNeg x) h0 of W j' := fun w q => by
  subst e
  have ei := zclamp (x := i) (by omega)
  by_cases c : w = i.toNatClampNeg
  · subst c
    rw [pk_us]
    exact ⟨fun _ => hx, fun g => by omega⟩
  · rw [pk_un c]
    obtain ⟨g1, g2⟩ := h w q
    exact ⟨fun g => g1 (by omega), fun g => g2 (by omega)⟩
theorem zHo_s (h : zHo h0 on ta ti bo W D) (hi : zHi he h0 of W j) (e : W ≤ j) (ht : zTc of ta ti bo W D) (ed : D' = D + 1) : zHo he on ta ti bo W D' := fun w q => by
  subst ed
  obtain ⟨h1, h2, h3⟩ := h w q
  have h4 := (hi w q).1 (by omega)
  refine ⟨by omega, by omega, fun d g1 g2 g3 g4 => ?_⟩
  by_cases c : d = D
  · subst c
    have h5 := (ht w q).mpr g4
    omega
  · have h5 := h3 d g1 (by omega) g3 g4
    omega
theorem zHo_get (h : zHo he on ta ti bo W D) (ht : zTc of ta ti bo W j) (h0 : 0 ≤ i.toInt) (hi : i.toInt < W) (g1 : 0 ≤ j) (g2 : j < D) (g3 : (on j.toNat).toInt ≠ 0) (g4 : 0 < (of i.toNatClampNeg).toInt) : 1 ≤ (he i.toNatClampNeg).toInt := by
  have ei := zclamp (x := i) (by omega)
  exact (h _ (by omega)).2.2 j g1 g2 g3 ((ht _ (by omega)).mp g4)
end ZH
def zdig (x : Int) : Int := if x ≤ 0 then 0 else (Nat.log2 x.toNat : Int) + 1
def zgam (x : Int) : Int := 2 * zdig x - 1
theorem zdig_0 {x : Int} (h : x ≤ 0) : zdig x = 0 := if_pos h
theorem zdig_p {x : Int} (h : 0 < x) : zdig x = (Nat.log2 x.toNat : Int) + 1 := if_neg (by omega)
theorem zdig_half {x : Int} (h : 0 < x) : zdig x = zdig (x / 2) + 1 := by
  rw [zdig_p h]
  by_cases h1 : x = 1
  · subst h1
    rw [zdig_0 (by decide), show Nat.log2 (1 : Int).toNat = 0 from by decide]
    rfl
  · rw [zdig_p (by omega), Nat.log2_def, if_pos (by omega), show (x / 2).toNat = x.toNat / 2 by omega]
    omega
theorem zdig_1 {x : Int} (h : 0 < x) : 1 ≤ zdig x := by rw [zdig_p h]; omega
theorem zdig_n (x : Int) : 0 ≤ zdig x := by
  by_cases h : 0 < x
  · have := zdig_1 h; omega
  · rw [zdig_0 (by omega)]; exact Int.le_refl 0
theorem zdig_lt {x : Int} {k : Nat} (h0 : 0 < x) (h : x < 2 ^ k) : zdig x ≤ k := by
  rw [zdig_p h0]
  have h2 : x.toNat < 2 ^ k := by
    have h3 : ((2 ^ k : Nat) : Int) = (2 : Int) ^ k := by push_cast; rfl
    omega
  have h1 := (Nat.log2_lt (n := x.toNat) (k := k) (by omega)).mpr h2
  omega
theorem zdig_self {x : Int} (h0 : 0 < x) : x < 2 ^ (zdig x).toNat := by
  rw [zdig_p h0]
  have h1 := Nat.lt_log2_self (n := x.toNat)
  have h4 : ((x.toNat.log2 : Int) + 1).toNat = x.toNat.log2 + 1 := by omega
  rw [h4]
  have h3 : ((2 ^ (x.toNat.log2 + 1) : Nat) : Int) = (2 : Int) ^ (x.toNat.log2 + 1) := by push_cast; rfl
  omega
theorem zdig_31 (x : Int32) : zdig x.toInt ≤ 31 := by
  by_cases h : 0 < x.toInt
  · exact zdig_lt (k := 31) h (by have := zhi x; omega)
  · rw [zdig_0 (by omega)]; decide
theorem zpow_le {a b : Nat} (h : a ≤ b) : (2 : Int) ^ a ≤ 2 ^ b := by
  have h1 : (2 : Nat) ^ a ≤ 2 ^ b := Nat.pow_le_pow_right (by decide) h
  exact_mod_cast h1
theorem zdig_mono {x y : Int} (h : x ≤ y) : zdig x ≤ zdig y := by
  by_cases h0 : 0 < x
  · have h1 := zdig_self (x := y) (by omega)
    have h2 := zdig_lt (x := x) (k := (zdig y).toNat) h0 (by omega)
    have h3 := zdig_n y
    omega
  · rw [zdig_0 (by omega)]; exact zdig_n y
theorem zgam_mono {x y : Int} (h : x ≤ y) : zgam x ≤ zgam y := by have := zdig_mono h; unfold zgam; omega
theorem zgam_1 {x : Int} (h : 0 < x) : 1 ≤ zgam x := by have := zdig_1 h; unfold zgam; omega
theorem zgam_21 {x : Int} (h : 0 < x) (h2 : x < 2048) : zgam x ≤ 21 := by have := zdig_lt (k := 11) h (by omega); unfold zgam; omega
theorem zgam_add {a b : Int} (ha : 0 < a) (hb : 0 < b) : zgam (a + b) ≤ zgam a + zgam b + 1 := by
  have h1 := zdig_self ha
  have h2 := zdig_self hb
  have n1 := zdig_1 ha
  have n2 := zdig_1 hb
  have key : zdig (a + b) ≤ max (zdig a) (zdig b) + 1 := by
    have h3 := zpow_le (a := (zdig a).toNat) (b := (max (zdig a) (zdig b)).toNat) (by omega)
    have h4 := zpow_le (a := (zdig b).toNat) (b := (max (zdig a) (zdig b)).toNat) (by omega)
    have h5 : (2 : Int) ^ ((max (zdig a) (zdig b)).toNat + 1) = 2 ^ (max (zdig a) (zdig b)).toNat * 2 := Int.pow_succ ..
    have h6 := zdig_lt (x := a + b) (k := (max (zdig a) (zdig b)).toNat + 1) (by omega) (by omega)
    omega
  unfold zgam
  omega
def zp (ta : Nat → Int32) (d w : Int) : Nat → Int × Int × Int
  | 0 => (0, 0, -1)
  | k + 1 => if (ta (1024 * d + k).toNat).toInt = w + 1 then ((zp ta d w k).1 + 1, (zp ta d w k).2.1 + zgam (k - (zp ta d w k).2.2), (k : Int)) else zp ta d w k
theorem zp_y {ta : Nat → Int32} {d w : Int} {k : Nat} (h : (ta (1024 * d + k).toNat).toInt = w + 1) : zp ta d w (k + 1) = ((zp ta d w k).1 + 1, (zp ta d w k).2.1 + zgam (k - (zp ta d w k).2.2), (k : Int)) := if_pos h
theorem zp_n {ta : Nat → Int32} {d w : Int} {k : Nat} (h : ¬ (ta (1024 * d + k).toNat).toInt = w + 1) : zp ta d w (k + 1) = zp ta d w k := if_neg h
theorem zp_b {ta : Nat → Int32} {d w : Int} {k : Nat} (hk : k ≤ 1024) : 0 ≤ (zp ta d w k).1 ∧ (zp ta d w k).1 ≤ k ∧ (zp ta d w k).1 ≤ (zp ta d w k).2.1 ∧ (zp ta d w k).2.1 ≤ 21 * k ∧ -1 ≤ (zp ta d w k).2.2 ∧ (zp ta d w k).2.2 < k := by
  induction k with
  | zero =>
    show (0 : Int) ≤ 0 ∧ (0 : Int) ≤ ((0 : Nat) : Int) ∧ (0 : Int) ≤ 0 ∧ (0 : Int) ≤ 21 * ((0 : Nat) : Int) ∧ (-1 : Int) ≤ -1 ∧ (-1 : Int) < ((0 : Nat) : Int)
    omega
  | succ k ih =>
    obtain ⟨h1, h2, h3, h4, h5, h6⟩ := ih (by omega)
    by_cases h : (ta (1024 * d + k).toNat).toInt = w + 1
    · rw [zp_y h]
      have g1 := zgam_1 (x := k - (zp ta d w k).2.2) (by omega)
      have g2 := zgam_21 (x := k - (zp ta d w k).2.2) (by omega) (by omega)
      exact ⟨by dsimp only; omega, by dsimp only; omega, by dsimp only; omega, by dsimp only; omega, by dsimp only; omega, by dsimp only; omega⟩
    · rw [zp_n h]
      exact ⟨h1, by omega, h3, by omega, h5, by omega⟩
theorem zp_mono {ta : Nat → Int32} {d w : Int} {j k : Nat} (h : j ≤ k) (hk : k ≤ 1024) : (zp ta d w j).2.1 ≤ (zp ta d w k).2.1 := by
  induction k with
  | zero => rw [show j = 0 by omega]; exact Int.le_refl _
  | succ k ih =>
    by_cases e : j = k + 1
    · rw [e]; exact Int.le_refl _
    · have h1 := ih (by omega) (by omega)
      by_cases h : (ta (1024 * d + k).toNat).toInt = w + 1
      · rw [zp_y h]
        have h2 := zp_b (ta := ta) (d := d) (w := w) (k := k) (by omega)
        have g1 := zgam_1 (x := k - (zp ta d w k).2.2) (by omega)
        dsimp only
        omega
      · rw [zp_n h]; exact h1
theorem zp_congr {ta ta' : Nat → Int32} {d w v : Int} {k : Nat} (h : ∀ j : Nat, j < k → ((ta (1024 * d + j).toNat).toInt = w + 1 ↔ (ta' (1024 * d + j).toNat).toInt = v + 1)) : zp ta d w k = zp ta' d v k := by
  induction k with
  | zero => rfl
  | succ k ih =>
    have h1 := ih (fun j hj => h j (by omega))
    by_cases c : (ta (1024 * d + k).toNat).toInt = w + 1
    · rw [zp_y c, zp_y ((h k (by omega)).mp c), h1]
    · rw [zp_n c, zp_n (fun q => c ((h k (by omega)).mpr q)), h1]
def zcnw (ta ke : Nat → Int32) (w : Int) (d : Nat) : Int := if (ke d).toInt = 0 then 0 else (zp ta d w 1024).1
def zB (ta ke : Nat → Int32) (w : Int) : Nat → Int × Int
  | 0 => (0, -1)
  | d + 1 => if 0 < zcnw ta ke w d then ((zB ta ke w d).1 + zgam (d - (zB ta ke w d).2) + zgam (zcnw ta ke w d) + (zp ta d w 1024).2.1, (d : Int)) else zB ta ke w d
section ZB
variable {ta ta' ke ke' : Nat → Int32} {w v : Int} {d n : Nat}
theorem zcnw_0 (h : (ke d).toInt = 0) : zcnw ta ke w d = 0 := if_pos h
theorem zcnw_p (h : (ke d).toInt ≠ 0) : zcnw ta ke w d = (zp ta d w 1024).1 := if_neg h
theorem zcnw_b : 0 ≤ zcnw ta ke w d ∧ zcnw ta ke w d ≤ 1024 := by
  have h := zp_b (ta := ta) (d := d) (w := w) (k := 1024) (Nat.le_refl _)
  by_cases c : (ke d).toInt = 0
  · rw [zcnw_0 c]; omega
  · rw [zcnw_p c]; omega
theorem zB_y (h : 0 < zcnw ta ke w d) : zB ta ke w (d + 1) = ((zB ta ke w d).1 + zgam (d - (zB ta ke w d).2) + zgam (zcnw ta ke w d) + (zp ta d w 1024).2.1, (d : Int)) := if_pos h
theorem zB_n (h : ¬ 0 < zcnw ta ke w d) : zB ta ke w (d + 1) = zB ta ke w d := if_neg h
theorem zB_b (hn : n ≤ 120) : 0 ≤ (zB ta ke w n).1 ∧ (zB ta ke w n).1 ≤ 21546 * n ∧ -1 ≤ (zB ta ke w n).2 ∧ (zB ta ke w n).2 < n := by
  induction n with
  | zero =>
    show (0 : Int) ≤ 0 ∧ (0 : Int) ≤ 21546 * ((0 : Nat) : Int) ∧ (-1 : Int) ≤ -1 ∧ (-1 : Int) < ((0 : Nat) : Int)
    omega
  | succ n ih =>
    obtain ⟨h1, h2, h3, h4⟩ := ih (by omega)
    have h5 := zcnw_b (ta := ta) (ke := ke) (w := w) (d := n)
    have h6 := zp_b (ta := ta) (d := n) (w := w) (k := 1024) (Nat.le_refl _)
    by_cases c : 0 < zcnw ta ke w n
    · rw [zB_y c]
      have g1 := zgam_1 (x := n - (zB ta ke w n).2) (by omega)
      have g2 := zgam_21 (x := n - (zB ta ke w n).2) (by omega) (by omega)
      have g3 := zgam_1 (x := zcnw ta ke w n) c
      have g4 := zgam_21 (x := zcnw ta ke w n) c (by omega)
      exact ⟨by dsimp only; omega, by dsimp only; omega, by dsimp only; omega, by dsimp only; omega⟩
    · rw [zB_n c]
      exact ⟨h1, by omega, h3, by omega⟩
theorem zB_mono {m : Nat} (h : m ≤ n) (hn : n ≤ 120) : (zB ta ke w m).1 ≤ (zB ta ke w n).1 := by
  induction n with
  | zero => rw [show m = 0 by omega]; exact Int.le_refl _
  | succ n ih =>
    by_cases e : m = n + 1
    · rw [e]; exact Int.le_refl _
    · have h1 := ih (by omega) (by omega)
      by_cases c : 0 < zcnw ta ke w n
      · rw [zB_y c]
        have h2 := zB_b (ta := ta) (ke := ke) (w := w) (n := n) (by omega)
        have h6 := zp_b (ta := ta) (d := n) (w := w) (k := 1024) (Nat.le_refl _)
        have g1 := zgam_1 (x := n - (zB ta ke w n).2) (by omega)
        have g3 := zgam_1 (x := zcnw ta ke w n) c
        dsimp only
        omega
      · rw [zB_n c]; exact h1
theorem zB_congr (h : ∀ d : Nat, d < n → ke d = ke' d ∧ ∀ j : Nat, j < 1024 → ((ta (1024 * (d : Int) + j).toNat).toInt = w + 1 ↔ (ta' (1024 * (d : Int) + j).toNat).toInt = v + 1)) : zB ta ke w n = zB ta' ke' v n := by
  induction n with
  | zero => rfl
  | succ n ih =>
    have h1 := ih (fun d hd => h d (by omega))
    obtain ⟨h2, h3⟩ := h n (by omega)
    have h4 := zp_congr (ta := ta) (ta' := ta') (d := n) (w := w) (v := v) (k := 1024) h3
    have h5 : zcnw ta ke w n = zcnw ta' ke' v n := by unfold zcnw; rw [h2, h4]
    by_cases c : 0 < zcnw ta ke w n
    · rw [zB_y c, zB_y (by rw [← h5]; exact c), h1, h4, h5]
    · rw [zB_n c, zB_n (by rw [← h5]; exact c), h1]
end ZB
def zSl (L l B b : Int) : Prop := L ≤ B ∧ l ≤ b ∧ (l = b ∨ L + zgam (b - l) + 1 ≤ B)
theorem zSl_skip {L l B b d c s : Int} (h : zSl L l B b) (hb : b < d) (hc : 0 < c) (hs : 1 ≤ s) : zSl L l (B + zgam (d - b) + zgam c + s) d := by
  obtain ⟨h1, h2, h3⟩ := h
  have g1 := zgam_1 (x := d - b) (by omega)
  have g2 := zgam_1 hc
  refine ⟨by omega, by omega, Or.inr ?_⟩
  rcases h3 with h3 | h3
  · subst h3; omega
  · by_cases e : l = b
    · subst e; omega
    · have g3 := zgam_add (a := d - b) (b := b - l) (by omega) (by omega)
      rw [show d - b + (b - l) = d - l by omega] at g3
      omega
theorem zSl_take {L l B b d n c s : Int} (h : zSl L l B b) (hb : b < d) (hn : 0 < n) (hc : n ≤ c) : zSl (L + zgam (d - l) + zgam n + s) d (B + zgam (d - b) + zgam c + s) d ∧ L + zgam (d - l) ≤ B + zgam (d - b) ∧ zgam n ≤ zgam c := by
  obtain ⟨h1, h2, h3⟩ := h
  have g1 := zgam_mono hc
  have g2 : L + zgam (d - l) ≤ B + zgam (d - b) := by
    by_cases e : l = b
    · subst e; omega
    · have g3 := zgam_add (a := d - b) (b := b - l) (by omega) (by omega)
      rw [show d - b + (b - l) = d - l by omega] at g3
      omega
  exact ⟨⟨by omega, Int.le_refl _, Or.inl rfl⟩, g2, g1⟩
def zSb (ta ke ta' ke' : Nat → Int32) (n : Int) : Prop := ∀ d : Nat, (d : Int) < n → (ke' d).toInt = 0 ∨ (ke' d = ke d ∧ ∀ j : Nat, j < 1024 → ta' (1024 * (d : Int) + j).toNat = ta (1024 * (d : Int) + j).toNat)
theorem zSb_rf {ta ke : Nat → Int32} {n : Int} : zSb ta ke ta ke n := fun _ _ => Or.inr ⟨rfl, fun _ _ => rfl⟩
theorem zB_sub {ta ke ta' ke' : Nat → Int32} {w : Int} {n : Nat} (h : zSb ta ke ta' ke' n) (hn : n ≤ 120) : zSl (zB ta' ke' w n).1 (zB ta' ke' w n).2 (zB ta ke w n).1 (zB ta ke w n).2 := by
  induction n with
  | zero => exact ⟨Int.le_refl _, Int.le_refl _, Or.inl rfl⟩
  | succ n ih =>
    have h1 := ih (fun d hd => h d (by omega)) (by omega)
    have b1 := zB_b (ta := ta) (ke := ke) (w := w) (n := n) (by omega)
    have p1 := zp_b (ta := ta) (d := n) (w := w) (k := 1024) (Nat.le_refl _)
    have skip : ¬ 0 < zcnw ta' ke' w n → zSl (zB ta' ke' w (n + 1)).1 (zB ta' ke' w (n + 1)).2 (zB ta ke w (n + 1)).1 (zB ta ke w (n + 1)).2 := fun q => by
      rw [zB_n q]
      by_cases c : 0 < zcnw ta ke w n
      · have c2 : zcnw ta ke w n ≤ (zp ta n w 1024).1 := by
          by_cases k0 : (ke n).toInt = 0
          · rw [zcnw_0 k0]; omega
          · rw [zcnw_p k0]; exact Int.le_refl _
        rw [zB_y c]
        exact zSl_skip h1 (by omega) c (by omega)
      · rw [zB_n c]; exact h1
    rcases h n (by omega) with h2 | ⟨h2, h3⟩
    · exact skip (by rw [zcnw_0 h2]; omega)
    · have h4 := zp_congr (ta := ta') (ta' := ta) (d := n) (w := w) (v := w) (k := 1024) (fun j hj => by rw [h3 j hj])
      have h5 : zcnw ta' ke' w n = zcnw ta ke w n := by unfold zcnw; rw [h2, h4]
      by_cases c : 0 < zcnw ta' ke' w n
      · rw [zB_y c, zB_y (by rw [← h5]; exact c), h4, h5]
        exact (zSl_take h1 (by omega) (by omega) (Int.le_refl _)).1
      · exact skip c
def zJ (ta ke : Nat → Int32) (W n : Int) : Prop := ∀ w : Nat, (w : Int) < W → (zB ta ke w n.toNat).1 ≤ 40000
def zTk (ta ke : Nat → Int32) (W n r : Int) : Prop := ∀ w : Nat, (w : Int) < W → (zB ta ke w n.toNat).1 ≤ r
theorem zJ_of {ta ke : Nat → Int32} {W n r : Int} (h : zTk ta ke W n r) (hr : r ≤ 40000) : zJ ta ke W n := fun w hw => Int.le_trans (h w hw) hr
theorem zJ_sub {ta ke ta' ke' : Nat → Int32} {W n : Int} (h : zJ ta ke W n) (hs : zSb ta ke ta' ke' n) (h0 : 0 ≤ n) (hn : n ≤ 120) : zJ ta' ke' W n := fun w hw => Int.le_trans (zB_sub (w := w) (n := n.toNat) (fun d hd => hs d (by omega)) (by omega)).1 (h w hw)
theorem zJ_eq {ta ke ta' ke' : Nat → Int32} {W n m : Int} (h : zJ ta ke W n) (h1 : zEq ta ta' (1024 * n)) (h2 : zEq ke ke' m) (hm : n ≤ m) (h0 : 0 ≤ n) : zJ ta' ke' W n := fun w hw => by
  rw [← zB_congr (ta := ta) (ke := ke) (ta' := ta') (ke' := ke') (w := w) (v := w) (n := n.toNat) (fun d hd => ⟨(h2 d (by omega)).symm, fun j hj => by rw [h1 (1024 * (d : Int) + j).toNat (by omega)]⟩)]
  exact h w hw
theorem zp_z {ta : Nat → Int32} {d w : Int} {k : Nat} (h : (zp ta d w k).1 = 0) (hk : k ≤ 1024 := by decide) : (zp ta d w k).2.1 = 0 := by
  induction k with
  | zero => rfl
  | succ k ih =>
    have b := zp_b (ta := ta) (d := d) (w := w) (k := k) (by omega)
    by_cases c : (ta (1024 * d + k).toNat).toInt = w + 1
    · rw [zp_y c] at h
      dsimp only at h
      omega
    · rw [zp_n c] at h ⊢
      exact ih h (by omega)
theorem zp_cm {ta : Nat → Int32} {d w : Int} {j k : Nat} (h : j ≤ k) : (zp ta d w j).1 ≤ (zp ta d w k).1 := by
  induction k with
  | zero => rw [show j = 0 by omega]; exact Int.le_refl _
  | succ k ih =>
    by_cases e : j = k + 1
    · rw [e]; exact Int.le_refl _
    · have h1 := ih (by omega)
      by_cases c : (ta (1024 * d + k).toNat).toInt = w + 1
      · rw [zp_y c]; dsimp only; omega
      · rw [zp_n c]; exact h1
def zM0 (su ld : Nat → Int32) (L : Int) : Prop := ∀ w : Nat, (w : Int) < L → (su w).toInt = 0 ∧ (ld w).toInt = -1
def zM1 (su ld ta ke : Nat → Int32) (W d : Int) : Prop := ∀ w : Nat, (w : Int) < W → (su w).toInt = (zB ta ke w d.toNat).1 ∧ (ld w).toInt = (zB ta ke w d.toNat).2
def zM3 (of lp su ta ke : Nat → Int32) (W d k : Int) : Prop := ∀ w : Nat, (w : Int) < W → (of w).toInt = (zp ta d w k.toNat).1 ∧ (lp w).toInt = (zp ta d w k.toNat).2.2 ∧ (su w).toInt = (zB ta ke w d.toNat).1 + (zp ta d w k.toNat).2.1
def zM4 (of su ld ta ke : Nat → Int32) (W d j : Int) : Prop := ∀ w : Nat, (w : Int) < W → (of w).toInt = (zp ta d w 1024).1 ∧ ((w : Int) < j → (su w).toInt = (zB ta ke w (d.toNat + 1)).1 ∧ (ld w).toInt = (zB ta ke w (d.toNat + 1)).2) ∧ (j ≤ (w : Int) → (su w).toInt = (zB ta ke w d.toNat).1 + (zp ta d w 1024).2.1 ∧ (ld w).toInt = (zB ta ke w d.toNat).2)
section ZMe
variable {of lp su ld su0 ta ke : Nat → Int32} {W L L' d d' k k' j j' v r : Int} {i x y z : Int32}
theorem zM0_0 (h : L ≤ 0) : zM0 su ld L := fun w q => by omega
theorem zM0_s (h : zM0 su ld L) (hi : i.toInt = L) (h0 : 0 ≤ L) (hx : x.toInt = 0) (hy : y.toInt = -1) (e : L' = L + 1) : zM0 (upd su i.toNatClampNeg x) (upd ld i.toNatClampNeg y) L' := fun w q => by
  have ei := zclamp (x := i) (by omega)
  by_cases c : w = i.toNatClampNeg
  · subst c; rw [pk_us, pk_us]; exact ⟨hx, hy⟩
  · rw [pk_un c, pk_un c]; exact h w (by omega)
theorem zM1_0 (h : zM0 su ld L) (e : W ≤ L) (hd : d = 0) : zM1 su ld ta ke W d := fun w q => by
  subst hd
  exact h w (by omega)
theorem zM1_n (h : zM1 su ld ta ke W d) (h0 : 0 ≤ d) (hk : (ke d.toNat).toInt = 0) (e : d' = d + 1) : zM1 su ld ta ke W d' := fun w q => by
  subst e
  rw [show (d + 1).toNat = d.toNat + 1 by omega, zB_n (by rw [zcnw_0 hk]; omega)]
  exact h w q
theorem zM3_0 (h : zM1 su ld ta ke W d) (h2 : zM0 of lp L) (e : W ≤ L) (hk : k = 0) : zM3 of lp su ta ke W d k := fun w q => by
  subst hk
  obtain ⟨h3, h4⟩ := h2 w (by omega)
  exact ⟨h3, h4, by rw [(h w q).1]; exact (Int.add_zero _).symm⟩
theorem zM3_n (h : zM3 of lp su ta ke W d k) (h0 : 0 ≤ k) (hv : (ta (1024 * d + k).toNat).toInt ≤ 0) (e : k' = k + 1) : zM3 of lp su ta ke W d k' := fun w q => by
  subst e
  rw [show (k + 1).toNat = k.toNat + 1 by omega, zp_n (by rw [show ((k.toNat : Nat) : Int) = k by omega]; omega)]
  exact h w q
theorem zM3_y (h : zM3 of lp su ta ke W d k) (h0 : 0 ≤ k) (hv : (ta (1024 * d + k).toNat).toInt = v) (hv0 : 0 < v) (hi : i.toInt = v - 1) (hx : i.toInt < W → x.toInt = (of i.toNatClampNeg).toInt + 1) (hy : i.toInt < W → y.toInt = (su i.toNatClampNeg).toInt + zgam (k - (lp i.toNatClampNeg).toInt)) (hz : z.toInt = k) (e : k' = k + 1) : zM3 (upd of i.toNatClampNeg x) (upd lp i.toNatClampNeg z) (upd su i.toNatClampNeg y) ta ke W d k' := fun w q => by
  subst e
  have ei := zclamp (x := i) (by omega)
  have ek : ((k.toNat : Nat) : Int) = k := by omega
  rw [show (k + 1).toNat = k.toNat + 1 by omega]
  obtain ⟨h1, h2, h3⟩ := h w q
  by_cases c : w = i.toNatClampNeg
  · subst c
    rw [pk_us, pk_us, pk_us, zp_y (by rw [ek]; omega), hx (by omega), hy (by omega), hz, h1, h2, h3]
    dsimp only
    rw [ek]
    exact ⟨rfl, rfl, by omega⟩
  · rw [pk_un c, pk_un c, pk_un c, zp_n (by rw [ek]; omega)]
    exact ⟨h1, h2, h3⟩
theorem zM4_0 (h : zM3 of lp su ta ke W d k) (hk : k = 1024) (h1 : zM1 su0 ld ta ke W d) (hj : j ≤ 0) : zM4 of su ld ta ke W d j := fun w q => by
  subst hk
  obtain ⟨g1, g2, g3⟩ := h w q
  exact ⟨g1, fun c => by omega, fun _ => ⟨g3, (h1 w q).2⟩⟩
theorem zM4_n (h : zM4 of su ld ta ke W d j) (h0 : 0 ≤ j) (hd : 0 ≤ d) (hk : (ke d.toNat).toInt ≠ 0) (hi : i.toInt = j) (ho : (of i.toNatClampNeg).toInt = 0) (e : j' = j + 1) : zM4 of su ld ta ke W d j' := fun w q => by
  subst e
  have ei := zclamp (x := i) (by omega)
  obtain ⟨g1, g2, g3⟩ := h w q
  refine ⟨g1, fun c => ?_, fun c => g3 (by omega)⟩
  by_cases c2 : (w : Int) < j
  · exact g2 c2
  · have ew : w = i.toNatClampNeg := by omega
    obtain ⟨g4, g5⟩ := g3 (by omega)
    have ed : ((d.toNat : Nat) : Int) = d := by omega
    have z0 : (zp ta d w 1024).1 = 0 := by rw [← g1, ew]; exact ho
    have zs : (zp ta d w 1024).2.1 = 0 := zp_z (k := 1024) z0
    rw [zB_n (by rw [zcnw_p hk, ed]; omega), g4, g5, zs]
    exact ⟨by omega, rfl⟩
theorem zM4_y (h : zM4 of su ld ta ke W d j) (h0 : 0 ≤ j) (hd : 0 ≤ d) (hk : (ke d.toNat).toInt ≠ 0) (hi : i.toInt = j) (hj : j < W) (ho : (of i.toNatClampNeg).toInt ≠ 0) (hy : y.toInt = (su i.toNatClampNeg).toInt + (zgam (d - (ld i.toNatClampNeg).toInt) + zgam (of i.toNatClampNeg).toInt)) (hz : z.toInt = d) (e : j' = j + 1) : zM4 of (upd su i.toNatClampNeg y) (upd ld i.toNatClampNeg z) ta ke W d j' := fun w q => by
  subst e
  have ei := zclamp (x := i) (by omega)
  have ed : ((d.toNat : Nat) : Int) = d := by omega
  obtain ⟨g1, g2, g3⟩ := h w q
  by_cases c : w = i.toNatClampNeg
  · subst c
    rw [pk_us, pk_us]
    obtain ⟨g4, g5⟩ := g3 (by omega)
    have p1 := zp_b (ta := ta) (d := d) (w := (i.toNatClampNeg : Nat)) (k := 1024) (Nat.le_refl _)
    refine ⟨g1, fun _ => ?_, fun c2 => by omega⟩
    have ec : zcnw ta ke (i.toNatClampNeg : Nat) d.toNat = (zp ta d (i.toNatClampNeg : Nat) 1024).1 := by rw [zcnw_p hk, ed]
    rw [zB_y (by rw [ec]; omega), hy, hz, ec, ed, g4, g5, g1]
    exact ⟨by dsimp only; omega, rfl⟩
  · rw [pk_un c, pk_un c]
    exact ⟨g1, fun c2 => g2 (by omega), fun c2 => g3 (by omega)⟩
theorem zM1_s (h : zM4 of su ld ta ke W d j) (hj : W ≤ j) (hd : 0 ≤ d) (e : d' = d + 1) : zM1 su ld ta ke W d' := fun w q => by
  subst e
  rw [show (d + 1).toNat = d.toNat + 1 by omega]
  exact (h w q).2.1 (by omega)
def zTs (su : Nat → Int32) (j s : Int) : Prop := ∀ w : Nat, (w : Int) < j → (su w).toInt ≤ s
theorem zTs_0 (h : j ≤ 0) : zTs su j r := fun w q => by omega
theorem zTs_s {s s' : Int} (h : zTs su j s) (hi : i.toInt = j) (h0 : 0 ≤ j) (h1 : s ≤ s') (h2 : (su i.toNatClampNeg).toInt ≤ s') (e : j' = j + 1) : zTs su j' s' := fun w q => by
  have ei := zclamp (x := i) (by omega)
  by_cases c : w = i.toNatClampNeg
  · subst c; exact h2
  · have := h w (by omega); omega
theorem zTk_of (h : zM1 su ld ta ke W d) (ht : zTs su j r) (e : W ≤ j) : zTk ta ke W d r := fun w q => by
  rw [← (h w q).1]
  exact ht w (by omega)
theorem zM1_g (h : zM1 su ld ta ke W d) (h0 : 0 ≤ i.toInt) (hi : i.toInt < W) (hd0 : 0 ≤ d) (hd : d ≤ 120) : 0 ≤ (su i.toNatClampNeg).toInt ∧ (su i.toNatClampNeg).toInt ≤ 2585520 := by
  have ei := zclamp (x := i) h0
  have b := zB_b (ta := ta) (ke := ke) (w := (i.toNatClampNeg : Nat)) (n := d.toNat) (by omega)
  rw [(h i.toNatClampNeg (by omega)).1]
  omega
theorem zM3_g (h : zM3 of lp su ta ke W d k) (h0 : 0 ≤ i.toInt) (hi : i.toInt < W) (hd0 : 0 ≤ d) (hd : d ≤ 119) (hk0 : 0 ≤ k) (hk : k ≤ 1024) : 0 ≤ (su i.toNatClampNeg).toInt ∧ (su i.toNatClampNeg).toInt ≤ 2585520 ∧ 0 ≤ (of i.toNatClampNeg).toInt ∧ (of i.toNatClampNeg).toInt ≤ 1024 ∧ -1 ≤ (lp i.toNatClampNeg).toInt ∧ (lp i.toNatClampNeg).toInt < k := by
  have ei := zclamp (x := i) h0
  obtain ⟨g1, g2, g3⟩ := h i.toNatClampNeg (by omega)
  have b := zB_b (ta := ta) (ke := ke) (w := (i.toNatClampNeg : Nat)) (n := d.toNat) (by omega)
  have p1 := zp_b (ta := ta) (d := d) (w := (i.toNatClampNeg : Nat)) (k := k.toNat) (by omega)
  rw [g1, g2, g3]
  omega
theorem zM4_g (h : zM4 of su ld ta ke W d j) (h0 : 0 ≤ i.toInt) (hi : i.toInt < W) (hj : i.toInt = j) (hd0 : 0 ≤ d) (hd : d ≤ 119) : 0 ≤ (su i.toNatClampNeg).toInt ∧ (su i.toNatClampNeg).toInt ≤ 2585520 ∧ 0 ≤ (of i.toNatClampNeg).toInt ∧ (of i.toNatClampNeg).toInt ≤ 1024 ∧ -1 ≤ (ld i.toNatClampNeg).toInt ∧ (ld i.toNatClampNeg).toInt < d := by
  have ei := zclamp (x := i) h0
  obtain ⟨g1, g2, g3⟩ := h i.toNatClampNeg (by omega)
  obtain ⟨g4, g5⟩ := g3 (by omega)
  have b := zB_b (ta := ta) (ke := ke) (w := (i.toNatClampNeg : Nat)) (n := d.toNat) (by omega)
  have p1 := zp_b (ta := ta) (d := d) (w := (i.toNatClampNeg : Nat)) (k := 1024) (Nat.le_refl _)
  rw [g1, g4, g5]
  omega
end ZMe
section ZTd
variable {ta ke ta' ke' he : Nat → Int32} {n W K K' w la L L' d0 r : Int} {i x : Int32}
theorem zSb_k (h : zSb ta ke ta' ke' n) (h0 : 0 ≤ i.toInt) (hx : x.toInt = 0) : zSb ta ke ta' (upd ke' i.toNatClampNeg x) n := fun d hd => by
  by_cases c : d = i.toNatClampNeg
  · subst c; rw [pk_us]; exact Or.inl hx
  · rw [pk_un c]; exact h d hd
theorem zSb_row {q : Int32} (h : zSb ta ke ta' ke' n) (h0 : 0 ≤ q.toInt) (hk : (ke' q.toNatClampNeg).toInt = 0) (hi : 1024 * q.toInt ≤ i.toInt) (hi2 : i.toInt < 1024 * q.toInt + 1024) : zSb ta ke (upd ta' i.toNatClampNeg x) ke' n := fun d hd => by
  have eq := zclamp (x := q) h0
  have ei := zclamp (x := i) (by omega)
  by_cases c : d = q.toNatClampNeg
  · subst c; exact Or.inl hk
  · rcases h d hd with g | ⟨g1, g2⟩
    · exact Or.inl g
    · exact Or.inr ⟨g1, fun j hj => by rw [pk_un (by omega)]; exact g2 j hj⟩
def zHc (he ta : Nat → Int32) (W K : Int) : Prop := ∀ w : Nat, (w : Int) < W → 0 ≤ (he w).toInt ∧ (he w).toInt ≤ K ∧ ∀ k : Int, 0 ≤ k → k < K → (ta k.toNat).toInt = w + 1 → 1 ≤ (he w).toInt
def zHd (he ta : Nat → Int32) (W K : Int) : Prop := ∀ w : Nat, (w : Int) < W → ∀ k : Int, 0 ≤ k → k < K → (ta k.toNat).toInt = w + 1 → 1 ≤ (he w).toInt
theorem zHc_0 (h : zT0 he L) (e : W ≤ L) (hk : K = 0) : zHc he ta W K := fun w q => by
  have h1 := h w (by omega)
  exact ⟨by omega, by omega, fun k g1 g2 => by omega⟩
theorem zHc_n (h : zHc he ta W K) (hv : (ta K.toNat).toInt ≤ 0) (e : K' = K + 1) : zHc he ta W K' := fun w q => by
  obtain ⟨h1, h2, h3⟩ := h w q
  refine ⟨h1, by omega, fun k g1 g2 g3 => ?_⟩
  by_cases c : k = K
  · subst c; omega
  · exact h3 k g1 (by omega) g3
theorem zHc_y {v : Int} (h : zHc he ta W K) (hK : 0 ≤ K) (hv : (ta K.toNat).toInt = v) (hv0 : 0 < v) (hi : i.toInt = v - 1) (hx : i.toInt < W → x.toInt = (he i.toNatClampNeg).toInt + 1) (e : K' = K + 1) : zHc (upd he i.toNatClampNeg x) ta W K' := fun w q => by
  have ei := zclamp (x := i) (by omega)
  obtain ⟨h1, h2, h3⟩ := h w q
  by_cases c : w = i.toNatClampNeg
  · subst c
    have h4 := hx (by omega)
    rw [pk_us]
    exact ⟨by omega, by omega, fun k _ _ _ => by omega⟩
  · rw [pk_un c]
    refine ⟨h1, by omega, fun k g1 g2 g3 => ?_⟩
    by_cases c2 : k = K
    · subst c2; omega
    · exact h3 k g1 (by omega) g3
theorem zHd_of (h : zHc he ta W K) (e : r ≤ K) : zHd he ta W r := fun w q k g1 g2 => (h w q).2.2 k g1 (by omega)
def zRn (ta ta' : Nat → Int32) (w la K : Int) : Prop := ∀ k : Nat, ((k : Int) < K → ((ta k).toInt = la + 1 → (ta' k).toInt = w + 1) ∧ ((ta k).toInt ≠ la + 1 → ta' k = ta k)) ∧ (K ≤ (k : Int) → ta' k = ta k)
theorem zRn_0 (h : K ≤ 0) : zRn ta ta w la K := fun k => ⟨fun q => by omega, fun _ => rfl⟩
theorem zRn_at (h : zRn ta ta' w la K) (hi : i.toInt = K) (h0 : 0 ≤ K) : ta' i.toNatClampNeg = ta i.toNatClampNeg := by
  have ei := zclamp (x := i) (by omega)
  exact (h _).2 (by omega)
theorem zRn_n (h : zRn ta ta' w la K) (hi : i.toInt = K) (h0 : 0 ≤ K) (hv : (ta i.toNatClampNeg).toInt ≠ la + 1) (e : K' = K + 1) : zRn ta ta' w la K' := fun k => by
  have ei := zclamp (x := i) (by omega)
  obtain ⟨g1, g2⟩ := h k
  refine ⟨fun q => ?_, fun q => g2 (by omega)⟩
  by_cases c : k = i.toNatClampNeg
  · subst c; exact ⟨fun q2 => absurd q2 hv, fun _ => g2 (by omega)⟩
  · exact g1 (by omega)
theorem zRn_y (h : zRn ta ta' w la K) (hi : i.toInt = K) (h0 : 0 ≤ K) (hv : (ta i.toNatClampNeg).toInt = la + 1) (hx : x.toInt = w + 1) (e : K' = K + 1) : zRn ta (upd ta' i.toNatClampNeg x) w la K' := fun k => by
  have ei := zclamp (x := i) (by omega)
  obtain ⟨g1, g2⟩ := h k
  by_cases c : k = i.toNatClampNeg
  · subst c
    rw [pk_us]
    exact ⟨fun _ => ⟨fun _ => hx, fun q2 => absurd hv q2⟩, fun q => by omega⟩
  · rw [pk_un c]
    exact ⟨fun q => g1 (by omega), fun q => g2 (by omega)⟩
theorem zRn_iff (h : zRn ta ta' w la K) (hd : zHd he ta W K) (hw : (he w.toNat).toInt ≤ 0) (hw0 : 0 ≤ w) (hwW : w < W) (hla : la = W - 1) {k : Int} (k0 : 0 ≤ k) (kK : k < K) {v : Int} (v0 : 0 ≤ v) (vW : v < W - 1) : ((ta' k.toNat).toInt = v + 1 ↔ (ta k.toNat).toInt = (if v = w then la else v) + 1) := by
  obtain ⟨g1, g2⟩ := (h k.toNat).1 (by omega)
  have hno : (ta k.toNat).toInt ≠ w + 1 := fun q => by
    have := hd w.toNat (by omega) k k0 kK (by rw [show ((w.toNat : Nat) : Int) = w by omega]; exact q)
    omega
  by_cases c : (ta k.toNat).toInt = la + 1
  · have g3 := g1 c
    by_cases e : v = w
    · rw [if_pos e]; omega
    · rw [if_neg e]; omega
  · have g3 : (ta' k.toNat).toInt = (ta k.toNat).toInt := by rw [g2 c]
    by_cases e : v = w
    · rw [if_pos e]; omega
    · rw [if_neg e]; omega
theorem zJ_drop (h : zJ ta ke W n) (hr : zRn ta ta' w la (1024 * n)) (hd : zHd he ta W (1024 * n)) (hw : (he w.toNat).toInt ≤ 0) (hw0 : 0 ≤ w) (hwW : w < W) (hla : la = W - 1) (n0 : 0 ≤ n) : zJ ta' ke (W - 1) n := fun v hv => by
  have e := zB_congr (ta := ta') (ta' := ta) (ke := ke) (ke' := ke) (w := v) (v := if (v : Int) = w then la else v) (n := n.toNat) (fun d hd9 => ⟨rfl, fun j hj => zRn_iff hr hd hw hw0 hwW hla (by omega) (by omega) (by omega) (by omega)⟩)
  rw [e]
  by_cases c : (v : Int) = w
  · rw [if_pos c]
    have := h la.toNat (by omega)
    rwa [show ((la.toNat : Nat) : Int) = la by omega] at this
  · rw [if_neg c]
    exact h v (by omega)
theorem zHd_drop {q : Int32} (hr : zRn ta ta' w la K) (hd : zHd he ta W K) (hw : (he w.toNat).toInt ≤ 0) (hw0 : 0 ≤ w) (hwW : w < W) (hla : la = W - 1) (hq : q.toInt = w) (hx : x = he la.toNat) : zHd (upd he q.toNatClampNeg x) ta' (W - 1) K := fun v hv k k0 kK e => by
  have eq := zclamp (x := q) (by omega)
  have e2 := (zRn_iff hr hd hw hw0 hwW hla k0 kK (v := v) (by omega) (by omega)).mp e
  by_cases c : v = q.toNatClampNeg
  · subst c
    rw [pk_us, hx]
    rw [if_pos (by omega)] at e2
    exact hd la.toNat (by omega) k k0 kK (by rw [show ((la.toNat : Nat) : Int) = la by omega]; exact e2)
  · rw [pk_un c]
    rw [if_neg (by omega)] at e2
    exact hd v (by omega) k k0 kK e2
end ZTd
section ZLo
variable {ta ke : Nat → Int32} {w d d' k k' f f' l L b : Int} {n : Nat}
theorem zSl_d (h : zSl L l (zB ta ke w n).1 (zB ta ke w n).2) (hn : n < 120) : zSl L l (zB ta ke w (n + 1)).1 (zB ta ke w (n + 1)).2 := by
  have b1 := zB_b (ta := ta) (ke := ke) (w := w) (n := n) (by omega)
  have p1 := zp_b (ta := ta) (d := n) (w := w) (k := 1024) (Nat.le_refl _)
  by_cases c : 0 < zcnw ta ke w n
  · have c2 : zcnw ta ke w n ≤ (zp ta n w 1024).1 := by
      by_cases k0 : (ke n).toInt = 0
      · rw [zcnw_0 k0]; omega
      · rw [zcnw_p k0]; exact Int.le_refl _
    rw [zB_y c]
    exact zSl_skip h (by omega) c (by omega)
  · rw [zB_n c]; exact h
theorem zSl_t {m : Int} (h : zSl L l (zB ta ke w d.toNat).1 (zB ta ke w d.toNat).2) (hd0 : 0 ≤ d) (hn : d < 120) (hk : (ke d.toNat).toInt ≠ 0) (hm : 0 < m) (hc : m ≤ (zp ta d w 1024).1) : zSl (L + zgam (d - l) + zgam m + (zp ta d w 1024).2.1) d (zB ta ke w (d.toNat + 1)).1 (zB ta ke w (d.toNat + 1)).2 ∧ L + zgam (d - l) + zgam m + (zp ta d w 1024).2.1 ≤ (zB ta ke w (d.toNat + 1)).1 := by
  have ed : ((d.toNat : Nat) : Int) = d := by omega
  have b1 := zB_b (ta := ta) (ke := ke) (w := w) (n := d.toNat) (by omega)
  have ec : zcnw ta ke w d.toNat = (zp ta d w 1024).1 := by rw [zcnw_p hk, ed]
  have t := zSl_take (s := (zp ta d w 1024).2.1) h (d := d) (by omega) hm hc
  rw [zB_y (by rw [ec]; omega), ec, ed]
  exact ⟨t.1, t.1.1⟩
theorem zti_0 (h : f ≤ 0) (hk : k ≤ 0) : f ≤ (zp ta d w k.toNat).1 := by
  rw [show k.toNat = 0 by omega]; exact h
theorem zti_y (h : f ≤ (zp ta d w k.toNat).1) (h0 : 0 ≤ k) (hv : (ta (1024 * d + k).toNat).toInt = w + 1) (e : k' = k + 1) (ef : f' = f + 1) : f' ≤ (zp ta d w k'.toNat).1 := by
  subst e; subst ef
  rw [show (k + 1).toNat = k.toNat + 1 by omega, zp_y (by rw [show ((k.toNat : Nat) : Int) = k by omega]; exact hv)]
  dsimp only
  omega
theorem zti_m (h : f ≤ (zp ta d w k.toNat).1) (e : k ≤ k') (h0 : 0 ≤ k) (h1 : k' ≤ 1024) (ef : f' = f) : f' ≤ (zp ta d w k'.toNat).1 := by
  subst ef
  have := zp_cm (ta := ta) (d := d) (w := w) (j := k.toNat) (k := k'.toNat) (by omega)
  omega
theorem zpl_y {g : Int} (h : f = b + (zp ta d w k.toNat).2.1 ∧ l = (zp ta d w k.toNat).2.2) (h0 : 0 ≤ k) (hv : (ta (1024 * d + k).toNat).toInt = w + 1) (e : k' = k + 1) (ef : f' = f + zgam (k - l)) (eg : g = k) : f' = b + (zp ta d w k'.toNat).2.1 ∧ g = (zp ta d w k'.toNat).2.2 := by
  subst e; subst ef; rw [eg]
  rw [show (k + 1).toNat = k.toNat + 1 by omega, zp_y (by rw [show ((k.toNat : Nat) : Int) = k by omega]; exact hv)]
  dsimp only
  rw [show ((k.toNat : Nat) : Int) = k by omega, ← h.2]
  omega
theorem zpl_n {g : Int} (h : f = b + (zp ta d w k.toNat).2.1 ∧ l = (zp ta d w k.toNat).2.2) (h0 : 0 ≤ k) (hv : ¬ (ta (1024 * d + k).toNat).toInt = w + 1) (e : k' = k + 1) (ef : f' = f) (eg : g = l) : f' = b + (zp ta d w k'.toNat).2.1 ∧ g = (zp ta d w k'.toNat).2.2 := by
  subst e; rw [ef, eg]
  rw [show (k + 1).toNat = k.toNat + 1 by omega, zp_n (by rw [show ((k.toNat : Nat) : Int) = k by omega]; exact hv)]
  exact h
theorem zpl_0 {g : Int} (hk : k = 0) (ef : f = b) (eg : g = -1) : f = b + (zp ta d w k.toNat).2.1 ∧ g = (zp ta d w k.toNat).2.2 := by
  subst hk; subst ef; subst eg
  exact ⟨(Int.add_zero _).symm, rfl⟩
end ZLo
def zW (P : Prop) : Prop := P
def zRb (row : Nat → Int32) (p : Nat) : Bool := (row (p / 32)).toBitVec.getLsbD (31 - p % 32)
theorem zgb1 {x s z y : Int32} (e1 : z = (x.toUInt32 >>> (s.toUInt32 &&& Int32.toUInt32 31)).toInt32) (e2 : y = z &&& 1) (hs : 0 ≤ s.toInt) (hs2 : s.toInt ≤ 31) : y.toInt = if x.toBitVec.getLsbD s.toInt.toNat then 1 else 0 := by
  have key : ∀ k : Nat, k ≤ 31 → s = Int32.ofNat k → y.toInt = if x.toBitVec.getLsbD k then 1 else 0 := by
    intro k hk es
    have hy := ztoi y
    have h1 := pk_ushr x (Int32.ofNat k) k (by
      have q : ∀ k : Nat, k ≤ 31 → (((Int32.ofNat k).toUInt32 &&& Int32.toUInt32 31).toBitVec % 32).toNat = k := by decide
      exact q k hk)
    rw [es] at e1
    rw [← e1] at h1
    have h2 : y.toBitVec.toNat = z.toBitVec.toNat &&& 1 := by rw [e2]; rfl
    have h3 : z.toBitVec.toNat &&& 1 = z.toBitVec.toNat % 2 := Nat.and_two_pow_sub_one_eq_mod z.toBitVec.toNat 1
    rw [h2, h3] at hy
    rw [if_pos (by omega)] at hy
    rw [hy, h1, BitVec.getLsbD, Nat.testBit_eq_decide_div_mod_eq]
    have h4 : x.toBitVec.toNat / 2 ^ k % 2 < 2 := Nat.mod_lt _ (by decide)
    by_cases c : x.toBitVec.toNat / 2 ^ k % 2 = 1
    · rw [c]; simp
    · have c0 : x.toBitVec.toNat / 2 ^ k % 2 = 0 := by omega
      rw [c0]; simp
  have q2 : ∀ k : Nat, k ≤ 31 → (Int32.ofNat k).toInt = (k : Int) := by decide
  have es : s = Int32.ofNat s.toInt.toNat := zeqi.mpr (by rw [q2 _ (by omega)]; omega)
  exact key s.toInt.toNat (by omega) es
theorem zgb2 {x b s z y : Int32} (e1 : z = b <<< (s &&& 31)) (e2 : y = x ||| z) (hb : b = 0 ∨ b = 1) (hs : 0 ≤ s.toInt) (hs2 : s.toInt ≤ 31) (j : Nat) (hj : j < 32) : y.toBitVec.getLsbD j = (x.toBitVec.getLsbD j || (decide (j = s.toInt.toNat) && decide (b = 1))) := by
  have q2 : ∀ k : Nat, k ≤ 31 → (Int32.ofNat k).toInt = (k : Int) := by decide
  have es : s = Int32.ofNat s.toInt.toNat := zeqi.mpr (by rw [q2 _ (by omega)]; omega)
  have key : ∀ k : Nat, k ≤ 31 → ∀ j : Nat, j < 32 → ((1 : Int32) <<< (Int32.ofNat k &&& 31)).toBitVec.getLsbD j = decide (j = k) := by decide +kernel
  have key0 : ∀ k : Nat, k ≤ 31 → ∀ j : Nat, j < 32 → ((0 : Int32) <<< (Int32.ofNat k &&& 31)).toBitVec.getLsbD j = false := by decide +kernel
  rw [e2, Int32.toBitVec_or, BitVec.getLsbD_or, e1]
  rcases hb with hb | hb
  · subst hb
    rw [es, key0 _ (by omega) j hj]
    simp
  · subst hb
    rw [es, key _ (by omega) j hj]
    rw [q2 _ (by omega)]
    simp
theorem zRb_u {row row' : Nat → Int32} {x z y b s : Int32} {I : Int32} {p : Nat} (e : x = row I.toNatClampNeg) (e1 : z = b <<< (s &&& 31)) (e2 : y = x ||| z) (e3 : row' = upd row I.toNatClampNeg y) (hb : b = 0 ∨ b = 1) (hs : s.toInt = 31 - (p % 32 : Nat)) (hI : I.toInt = (p / 32 : Nat)) (h0 : zRb row p = false) (q : Nat) : zRb row' q = if q = p then decide (b = 1) else zRb row q := by
  have hI2 : I.toNatClampNeg = p / 32 := by have q : I.toNatClampNeg = I.toInt.toNat := rfl; omega
  have hm : p % 32 < 32 := Nat.mod_lt _ (by decide)
  have hq : q % 32 < 32 := Nat.mod_lt _ (by decide)
  unfold zRb at h0 ⊢
  rw [e3]
  by_cases c : q / 32 = p / 32
  · have hsn : s.toInt.toNat = 31 - p % 32 := by omega
    rw [hI2, c, pk_us, zgb2 e1 e2 hb (by omega) (by omega) _ (by omega), e, hI2, hsn]
    by_cases d : q = p
    · subst d
      rw [if_pos rfl, h0, decide_eq_true rfl]
      rfl
    · rw [if_neg d]
      have d2 : ¬ (31 - q % 32 = 31 - p % 32) := by omega
      rw [decide_eq_false d2, Bool.false_and, Bool.or_false]
  · rw [hI2, pk_un c, if_neg (by intro d; rw [d] at c; exact c rfl)]
def zbd : Nat → Nat := fun n => if n = 0 then 0 else Nat.log2 n + 1
def zbl (n : Nat) : Nat → List Bool
  | 0 => []
  | k + 1 => n.testBit k :: zbl n k
def zGa (n : Nat) : List Bool := List.replicate (zbd n - 1) false ++ zbl n (zbd n)
theorem zbl_l {n : Nat} : ∀ k, (zbl n k).length = k := by
  intro k
  induction k with
  | zero => rfl
  | succ k ih => show (n.testBit k :: zbl n k).length = k + 1; rw [List.length_cons, ih]
theorem zGa_l {n : Nat} (h : 0 < n) : (zGa n).length = 2 * zbd n - 1 := by
  unfold zGa
  rw [List.length_append, List.length_replicate, zbl_l]
  have q : 0 < zbd n := by unfold zbd; rw [if_neg (by omega)]; omega
  omega
def zva : List Bool → Nat → Nat
  | [], v => v
  | b :: l, v => zva l (2 * v + b.toNat)
theorem zbd_2 {n : Nat} (h : 0 < n) : 2 ^ (zbd n - 1) ≤ n ∧ n < 2 ^ zbd n := by
  unfold zbd
  rw [if_neg (by omega)]
  exact ⟨by rw [Nat.add_sub_cancel]; exact Nat.log2_self_le (by omega), Nat.lt_log2_self⟩
theorem zva_b {n : Nat} : ∀ (k v : Nat), zva (zbl n k) v = v * 2 ^ k + n % 2 ^ k := by
  intro k
  induction k with
  | zero => intro v; show v = _; rw [Nat.pow_zero, Nat.mul_one, Nat.mod_one, Nat.add_zero]
  | succ k ih =>
    intro v
    show zva (zbl n k) (2 * v + (n.testBit k).toNat) = _
    rw [ih, Nat.toNat_testBit, Nat.pow_succ, Nat.mod_mul, Nat.add_mul]
    have e : 2 * v * 2 ^ k = v * (2 ^ k * 2) := by rw [Nat.mul_comm 2 v, Nat.mul_assoc, Nat.mul_comm 2]
    rw [e, Nat.mul_comm (n / 2 ^ k % 2)]
    omega
theorem zbl_m {n : Nat} (h : 0 < n) : ∃ l, zbl n (zbd n) = true :: l ∧ l = zbl n (zbd n - 1) := by
  have q := zbd_2 h
  obtain ⟨k, hk⟩ : ∃ k, zbd n = k + 1 := by unfold zbd; rw [if_neg (by omega)]; exact ⟨_, rfl⟩
  rw [hk] at q ⊢
  refine ⟨zbl n k, ?_, by rw [Nat.add_sub_cancel]⟩
  show n.testBit k :: zbl n k = _
  have e : n.testBit k = true := by
    rw [Nat.testBit_eq_decide_div_mod_eq]
    rw [Nat.add_sub_cancel] at q
    have e1 : n / 2 ^ k = 1 := by
      rw [Nat.div_eq_of_lt_le]
      · rw [Nat.one_mul]; exact q.1
      · rw [show (1 + 1) = 2 from rfl, Nat.mul_comm, ← Nat.pow_succ]; exact q.2
    rw [e1]
    rfl
  rw [e]
theorem zGa_v {n : Nat} (h : 0 < n) : ∃ l, zGa n = List.replicate (zbd n - 1) false ++ true :: l ∧ l.length = zbd n - 1 ∧ zva l 1 = n := by
  obtain ⟨l, h1, h2⟩ := zbl_m h
  refine ⟨l, by unfold zGa; rw [h1], by rw [h2, zbl_l], ?_⟩
  have q := zbd_2 h
  rw [h2, zva_b]
  have e : n % 2 ^ (zbd n - 1) = n - 2 ^ (zbd n - 1) := by
    rw [Nat.mod_eq_sub_mod q.1]
    apply Nat.mod_eq_of_lt
    have e2 : 2 ^ zbd n = 2 * 2 ^ (zbd n - 1) := by
      have q0 : 0 < zbd n := by unfold zbd; rw [if_neg (by omega)]; omega
      rw [show zbd n = (zbd n - 1) + 1 from by omega, Nat.pow_succ, Nat.add_sub_cancel, Nat.mul_comm]
    omega
  rw [e]
  omega
def zrm (j : Nat) : Nat := if j = 0 then 0 else if j = 1 then 32 else if j = 2 then 96 else 256 * j - 544
def zbc (j : Nat) : Nat := if j = 0 then 32 else if j = 1 then 64 else if j = 2 then 128 else 256
def zck (b : Nat) : Nat := if b < 32 then 0 else if b < 96 then 1 else if b < 224 then 2 else 3 + (b - 224) / 256
def znc (n : Nat) : Nat := if n = 0 then 0 else zck (n - 1) + 1
def zco (n : Nat) : Nat := zrm (znc n) + 16 * znc n
theorem zrm_s (j : Nat) : zrm (j + 1) = zrm j + zbc j := by unfold zrm zbc; (repeat' split) <;> omega
theorem zbc_b (j : Nat) : 32 ≤ zbc j ∧ zbc j ≤ 256 ∧ zbc j = 32 * (zbc j / 32) := by unfold zbc; (repeat' split) <;> omega
theorem zrm_m {i j : Nat} (h : i ≤ j) : zrm i ≤ zrm j := by unfold zrm; (repeat' split) <;> omega
theorem zrm_lt {i j : Nat} (h : i < j) : zrm i + zbc i ≤ zrm j := by rw [← zrm_s]; exact zrm_m h
theorem zck_b (b : Nat) : zrm (zck b) ≤ b ∧ b < zrm (zck b + 1) := by unfold zrm zck; (repeat' split) <;> omega
theorem zck_u {b j : Nat} (h1 : zrm j ≤ b) (h2 : b < zrm (j + 1)) : zck b = j := by
  have q := zck_b b
  rcases Nat.lt_trichotomy (zck b) j with c | c | c
  · have := zrm_m (i := zck b + 1) (j := j) c; omega
  · exact c
  · have := zrm_m (i := j + 1) (j := zck b) c; omega
theorem zck_m {a b : Nat} (h : a ≤ b) : zck a ≤ zck b := by unfold zck; (repeat' split) <;> omega
theorem znc_0 : znc 0 = 0 := rfl
theorem znc_p {n : Nat} (h : 0 < n) : znc n = zck (n - 1) + 1 := if_neg (by omega)
theorem znc_b {n : Nat} : n ≤ zrm (znc n) := by
  by_cases h : n = 0
  · subst h; exact Nat.zero_le _
  · rw [znc_p (by omega)]; have := zck_b (n - 1); omega
theorem znc_m {a b : Nat} (h : a ≤ b) : znc a ≤ znc b := by
  by_cases c : a = 0
  · subst c; exact Nat.zero_le _
  · rw [znc_p (by omega), znc_p (by omega)]; have := zck_m (a := a - 1) (b := b - 1) (by omega); omega
theorem zco_m {a b : Nat} (h : a ≤ b) : zco a ≤ zco b := by
  have h1 := znc_m h
  have h2 := zrm_m h1
  unfold zco; omega
theorem zck_lt {n i : Nat} (h : i < zrm (znc n)) : zck i < znc n := by
  have q := zck_b i
  rcases Nat.lt_or_ge (zck i) (znc n) with c | c
  · exact c
  · have := zrm_m c; omega
theorem znc_i {n j : Nat} (h : zrm j < n) : j < znc n := by
  rcases Nat.lt_or_ge j (znc n) with c | c
  · exact c
  · have := zrm_m c; have := znc_b (n := n); omega
theorem znc_A {n : Nat} (h : zrm (zck n) < n) : znc (n + 1) = znc n ∧ zck n + 1 = znc n := by
  have q := zck_b n
  have e : zck (n - 1) = zck n := zck_u (by omega) (by omega)
  rw [znc_p (by omega), znc_p (by omega), e, Nat.add_sub_cancel]
  exact ⟨rfl, rfl⟩
theorem znc_B {n : Nat} (h : n = zrm (zck n)) : znc (n + 1) = znc n + 1 ∧ zck n = znc n := by
  have e2 : zck n = znc n := by
    by_cases c : n = 0
    · subst c; rfl
    · rw [znc_p (by omega)]
      have q := zck_b (n - 1)
      have q2 := zck_b n
      rcases Nat.lt_trichotomy (zck n) (zck (n - 1) + 1) with d | d | d
      · have := zrm_m (i := zck n) (j := zck (n - 1)) (by omega)
        have := zck_m (a := n - 1) (b := n) (by omega)
        have e : zck n = zck (n - 1) := by omega
        rw [← e] at q
        omega
      · exact d
      · have := zrm_m (i := zck (n - 1) + 1 + 1) (j := zck n) (by omega)
        have := zrm_s (zck (n - 1) + 1)
        have := zbc_b (zck (n - 1) + 1)
        omega
  rw [znc_p (by omega), Nat.add_sub_cancel]
  exact ⟨by rw [e2], e2⟩
theorem zco_A {n : Nat} (h : zrm (zck n) < n) : zco (n + 1) = zco n := by unfold zco; rw [(znc_A h).1]
theorem zco_B {n : Nat} (h : n = zrm (zck n)) : zco (n + 1) = zco n + zbc (zck n) + 16 := by
  unfold zco; rw [(znc_B h).1, zrm_s, (znc_B h).2]; omega
def zsu (F : Nat → Nat) : Nat → Nat
  | 0 => 0
  | n + 1 => zsu F n + F n
theorem zsu_c {F G : Nat → Nat} : ∀ {n : Nat}, (∀ i, i < n → F i = G i) → zsu F n = zsu G n := by
  intro n
  induction n with
  | zero => intro _; rfl
  | succ n ih => intro h; show zsu F n + F n = zsu G n + G n; rw [ih (fun i q => h i (by omega)), h n (by omega)]
theorem zsu_m {F G : Nat → Nat} : ∀ {n : Nat}, (∀ i, i < n → F i ≤ G i) → zsu F n ≤ zsu G n := by
  intro n
  induction n with
  | zero => intro _; exact Nat.le_refl _
  | succ n ih =>
    intro h
    show zsu F n + F n ≤ zsu G n + G n
    have := ih (fun i q => h i (by omega))
    have := h n (by omega)
    omega
theorem zsu_u {F G : Nat → Nat} {k : Nat} : ∀ {n : Nat}, k < n → (∀ i, i < n → i ≠ k → F i = G i) → zsu F n + G k = zsu G n + F k := by
  intro n
  induction n with
  | zero => intro h; omega
  | succ n ih =>
    intro h e
    show zsu F n + F n + G k = zsu G n + G n + F k
    by_cases c : k = n
    · subst c
      have := zsu_c (F := F) (G := G) (n := k) (fun i q => e i (by omega) (by omega))
      omega
    · have := ih (by omega) (fun i q1 q2 => e i (by omega) q2)
      have := e n (by omega) (fun q => c q.symm)
      omega
theorem zsu_k {F : Nat → Nat} {k : Nat} : ∀ {n : Nat}, k < n → F k ≤ zsu F n := by
  intro n
  induction n with
  | zero => intro h; omega
  | succ n ih =>
    intro h
    show F k ≤ zsu F n + F n
    by_cases c : k = n
    · subst c; omega
    · have := ih (by omega); omega
theorem zsu_0 {F : Nat → Nat} {m : Nat} : ∀ {n : Nat}, m ≤ n → (∀ i, m ≤ i → i < n → F i = 0) → zsu F n = zsu F m := by
  intro n
  induction n with
  | zero => intro h _; rw [show m = 0 from by omega]
  | succ n ih =>
    intro h e
    by_cases c : m = n + 1
    · rw [c]
    · show zsu F n + F n = zsu F m
      rw [ih (by omega) (fun i q1 q2 => e i q1 (by omega)), e n (by omega) (by omega)]
      rfl
def zuf {α : Type} (B : Nat → α) (k : Nat) (x : α) : Nat → α := fun j => if j = k then x else B j
theorem zuf_s {α : Type} {B : Nat → α} {k : Nat} {x : α} : zuf B k x k = x := if_pos rfl
theorem zuf_n {α : Type} {B : Nat → α} {k j : Nat} {x : α} (h : j ≠ k) : zuf B k x j = B j := if_neg h
theorem zuf_z {α : Type} {B : Nat → α} {k : Nat} {x y : α} : zuf (zuf B k x) k y = zuf B k y := funext fun j => by
  by_cases c : j = k
  · subst c; rw [zuf_s, zuf_s]
  · rw [zuf_n c, zuf_n c, zuf_n c]
theorem zuf_i {α : Type} {B : Nat → α} {k : Nat} : zuf B k (B k) = B := funext fun j => by
  by_cases c : j = k
  · subst c; rw [zuf_s]
  · rw [zuf_n c]
def zcs (B : Nat → List Bool) : Nat := zsu (fun i => zco (B i).length) 400
theorem zcs_u {B : Nat → List Bool} {k : Nat} {l : List Bool} (h : k < 400) : zcs (zuf B k l) + zco (B k).length = zcs B + zco l.length := by
  have q := zsu_u (F := fun i => zco (zuf B k l i).length) (G := fun i => zco (B i).length) h (fun i _ c => by rw [zuf_n c])
  rw [zuf_s] at q
  exact q
theorem zcs_m {B : Nat → List Bool} {k : Nat} {l l' : List Bool} (h : k < 400) (hl : l.length ≤ l'.length) : zcs (zuf B k l) ≤ zcs (zuf B k l') := by
  have q1 := zcs_u (B := B) (l := l) h
  have q2 := zcs_u (B := B) (l := l') h
  have q3 := zco_m hl
  omega
def zcc (fc nx : Nat → Int32) (id : Nat) : Nat → Int
  | 0 => (fc id).toInt
  | j + 1 => (nx (zcc fc nx id j).toNat).toInt
def zsp (cs fc nx : Nat → Int32) (id j : Nat) : Int := 32 * (cs (zcc fc nx id j).toNat).toInt
def zPC (ro cs nx fc lc : Nat → Int32) (ch ru tk : Int) (B : Nat → List Bool) (m : Nat → Nat) : Prop :=
  (∀ id j, id < 400 → j < m id → 0 ≤ zcc fc nx id j ∧ zcc fc nx id j < ch ∧ 0 ≤ zsp cs fc nx id j ∧ zsp cs fc nx id j + zbc j ≤ 32 * ru) ∧
  (∀ id, id < 400 → 0 < m id → (lc id).toInt = zcc fc nx id (m id - 1)) ∧
  (∀ id j id' j', id < 400 → id' < 400 → j < m id → j' < m id' → (id ≠ id' ∨ j ≠ j') → zsp cs fc nx id j + zbc j ≤ zsp cs fc nx id' j' ∨ zsp cs fc nx id' j' + zbc j' ≤ zsp cs fc nx id j) ∧
  (∀ id i, id < 400 → i < zrm (m id) → zRb ro ((zsp cs fc nx id (zck i)).toNat + (i - zrm (zck i))) = (B id).getD i false) ∧
  (∀ p : Nat, 32 * ru ≤ (p : Int) → p < 40000 → zRb ro p = false) ∧
  tk = (zsu (fun i => zrm (m i) + 16 * m i) 400 : Nat) ∧ 32 * ru + 16 * ch = tk ∧ 0 ≤ ch ∧ ch ≤ ru
def zPB (ro cs nx fc lc bt : Nat → Int32) (ch ru ab tk : Int) (B : Nat → List Bool) : Prop :=
  (∀ id, id < 400 → (bt id).toInt = ((B id).length : Int)) ∧ ab = (zsu (fun i => (B i).length) 400 : Nat) ∧ zPC ro cs nx fc lc ch ru tk B (fun i => znc (B i).length)
section ZPB
variable {ro ro' cs cs' nx nx' fc fc' lc lc' bt bt' : Nat → Int32} {ch ru ab tk ch' ru' ab' tk' : Int} {B B' : Nat → List Bool} {m m' : Nat → Nat} {id : Nat} {b : Bool}
theorem zPC_tk (h : zPB ro cs nx fc lc bt ch ru ab tk B) : tk = (zcs B : Nat) := h.2.2.2.2.2.2.2.1
theorem zcc_ne (h : zPC ro cs nx fc lc ch ru tk B m) {i j i' j' : Nat} (hi : i < 400) (hi' : i' < 400) (hj : j < m i) (hj' : j' < m i') (hne : i ≠ i' ∨ j ≠ j') : zcc fc nx i j ≠ zcc fc nx i' j' := fun e => by
  have q := h.2.2.1 i j i' j' hi hi' hj hj' hne
  have e2 : zsp cs fc nx i j = zsp cs fc nx i' j' := by unfold zsp; rw [e]
  have b1 := zbc_b j
  have b2 := zbc_b j'
  omega
theorem zcc_c (h : ∀ j, j < m id → (j = 0 → fc' id = fc id) ∧ (j + 1 < m id → nx' (zcc fc nx id j).toNat = nx (zcc fc nx id j).toNat)) : ∀ j, j < m id → zcc fc' nx' id j = zcc fc nx id j := by
  intro j
  induction j with
  | zero => intro hj; show (fc' id).toInt = (fc id).toInt; rw [(h 0 hj).1 rfl]
  | succ j ih =>
    intro hj
    show (nx' (zcc fc' nx' id j).toNat).toInt = (nx (zcc fc nx id j).toNat).toInt
    rw [ih (by omega), (h j (by omega)).2 hj]
theorem zsp_c (e : zcc fc' nx' id = zcc fc nx id) {j : Nat} : zsp cs fc' nx' id j = zsp cs fc nx id j := by unfold zsp; rw [e]
theorem zPC_w (h : zPC ro cs nx fc lc ch ru tk B m) (hid : id < 400) (hn : (B id).length < zrm (m id)) (hr : ∀ q, zRb ro' q = if q = (zsp cs fc nx id (zck (B id).length)).toNat + ((B id).length - zrm (zck (B id).length)) then b else zRb ro q) : zPC ro' cs nx fc lc ch ru tk (zuf B id (B id ++ [b])) m := by
  obtain ⟨h1, h2, h3, h4, h5, h6⟩ := h
  have hkm : ∀ {i : Nat} {k : Nat}, i < zrm (m k) → zck i < m k := fun {i k} q => by
    have q1 := zck_b i
    rcases Nat.lt_or_ge (zck i) (m k) with c | c
    · exact c
    · have := zrm_m c; omega
  refine ⟨h1, h2, h3, fun k i hk hi => ?_, fun p hp hp2 => ?_, h6⟩
  · have q := h1 id _ hid (hkm hn)
    have q2 := h1 k _ hk (hkm hi)
    have z1 := zck_b i
    have z2 := zck_b (B id).length
    have s1 := zrm_s (zck i)
    have s2 := zrm_s (zck (B id).length)
    rw [hr]
    by_cases c : k = id
    · subst c
      rw [zuf_s]
      by_cases d : i = (B k).length
      · rw [d, if_pos rfl, List.getD_eq_getElem?_getD, List.getElem?_append_right (Nat.le_refl _), Nat.sub_self]
        rfl
      · rw [if_neg]
        · rw [h4 k i hk hi, List.getD_eq_getElem?_getD, List.getD_eq_getElem?_getD]
          rcases Nat.lt_or_ge i (B k).length with e | e
          · rw [List.getElem?_append_left e]
          · rw [List.getElem?_eq_none e, List.getElem?_eq_none (by rw [List.length_append, List.length_singleton]; omega)]
        · intro e
          by_cases f : zck i = zck (B k).length
          · rw [f] at e z1; omega
          · have := h3 k _ k _ hk hk (hkm hi) (hkm hn) (Or.inr f)
            omega
    · rw [zuf_n c, if_neg]
      · exact h4 k i hk hi
      · intro e
        have := h3 k _ id _ hk hid (hkm hi) (hkm hn) (Or.inl c)
        omega
  · rw [hr, if_neg]
    · exact h5 p hp hp2
    · have q := h1 id _ hid (hkm hn)
      have z2 := zck_b (B id).length
      have s2 := zrm_s (zck (B id).length)
      omega
theorem zPC_a (h : zPC ro cs nx fc lc ch ru tk B m) (hid : id < 400) (hl : (B id).length ≤ zrm (m id))
    (hr : 32 * ru' = 32 * ru + zbc (m id)) (hc : ch' = ch + 1) (ht : tk' = tk + zbc (m id) + 16) (h4 : 32 * ru' ≤ 40000)
    (hcs : ∀ q, (cs' q).toInt = if (q : Int) = ch then ru else (cs q).toInt)
    (hlc : ∀ q, q < 400 → (lc' q).toInt = if q = id then ch else (lc q).toInt)
    (hfc : ∀ q, q < 400 → (fc' q).toInt = if q = id ∧ m id = 0 then ch else (fc q).toInt)
    (hnx : ∀ q : Nat, (q : Int) < ch → (nx' q).toInt = if (q : Int) = (lc id).toInt ∧ m id ≠ 0 then ch else (nx q).toInt) :
    zPC ro cs' nx' fc' lc' ch' ru' tk' B (zuf m id (m id + 1)) := by
  have h0 := h
  obtain ⟨h1, h2, h3, h4, h5, h6, h7, h8, h9⟩ := h
  have kc : ∀ k, k < 400 → ∀ j, j < m k → zcc fc' nx' k j = zcc fc nx k j := by
    intro k hk j
    induction j with
    | zero =>
      intro hj
      show (fc' k).toInt = (fc k).toInt
      rw [hfc k hk, if_neg]
      intro q
      rw [q.1, q.2] at hj
      omega
    | succ j ih =>
      intro hj
      have q := h1 k j hk (by omega)
      show (nx' (zcc fc' nx' k j).toNat).toInt = (nx (zcc fc nx k j).toNat).toInt
      rw [ih (by omega), hnx _ (by omega), if_neg]
      intro c
      have q2 := h2 id hid (by omega)
      have q3 : k ≠ id ∨ j ≠ m id - 1 := by
        by_cases d : k = id
        · right; subst d; omega
        · exact Or.inl d
      exact zcc_ne h0 hk hid (by omega) (by omega) q3 (by omega)
  have kn : zcc fc' nx' id (m id) = ch := by
    rcases Nat.eq_zero_or_pos (m id) with c | c
    · rw [c]
      show (fc' id).toInt = ch
      rw [hfc id hid, if_pos ⟨rfl, c⟩]
    · obtain ⟨w, hw⟩ : ∃ w, m id = w + 1 := ⟨m id - 1, by omega⟩
      have q := h1 id w hid (by omega)
      have q2 := h2 id hid c
      rw [hw]
      show (nx' (zcc fc' nx' id w).toNat).toInt = ch
      rw [kc id hid w (by omega), hnx _ (by omega), if_pos]
      rw [q2, hw, Nat.add_sub_cancel]
      exact ⟨by omega, by omega⟩
  have sc : ∀ k, k < 400 → ∀ j, j < m k → zsp cs' fc' nx' k j = zsp cs fc nx k j := fun k hk j hj => by
    have q := h1 k j hk hj
    unfold zsp
    rw [kc k hk j hj, hcs, if_neg (by omega)]
  have sn : zsp cs' fc' nx' id (m id) = 32 * ru := by
    unfold zsp
    rw [kn, hcs, if_pos (by omega)]
  have b0 := zbc_b (m id)
  have cs2 : ∀ k, k < 400 → ∀ j, j < zuf m id (m id + 1) k → (j < m k) ∨ (k = id ∧ j = m id) := fun k hk j hj => by
    by_cases c : k = id
    · subst c; rw [zuf_s] at hj; omega
    · rw [zuf_n c] at hj; exact Or.inl hj
  refine ⟨fun k j hk hj => ?_, fun k hk hm => ?_, fun k j k' j' hk hk' hj hj' hne => ?_, fun k i hk hi => ?_, fun p hp hp2 => h5 p (by omega) hp2, ?_, by omega, by omega, by omega⟩
  · rcases cs2 k hk j hj with c | ⟨c, d⟩
    · have q := h1 k j hk c
      rw [kc k hk j c, sc k hk j c]
      omega
    · subst c; subst d
      rw [kn, sn]
      omega
  · rw [hlc k hk]
    by_cases c : k = id
    · subst c
      rw [if_pos rfl, zuf_s, Nat.add_sub_cancel, kn]
    · rw [if_neg c]
      rw [zuf_n c] at hm ⊢
      rw [h2 k hk hm, kc k hk _ (by omega)]
  · rcases cs2 k hk j hj with c | ⟨c, d⟩
    · rcases cs2 k' hk' j' hj' with c' | ⟨c', d'⟩
      · rw [sc k hk j c, sc k' hk' j' c']
        exact h3 k j k' j' hk hk' c c' hne
      · subst c'; subst d'
        have q := h1 k j hk c
        rw [sc k hk j c, sn]
        left; omega
    · subst c; subst d
      rcases cs2 k' hk' j' hj' with c' | ⟨c', d'⟩
      · have q := h1 k' j' hk' c'
        rw [sc k' hk' j' c', sn]
        right; omega
      · subst c'; subst d'
        rcases hne with e | e <;> exact absurd rfl e
  · have z1 := zck_b i
    have s1 := zrm_s (zck i)
    by_cases c : i < zrm (m k)
    · have q : zck i < m k := by
        rcases Nat.lt_or_ge (zck i) (m k) with d | d
        · exact d
        · have := zrm_m d; omega
      rw [sc k hk _ q]
      exact h4 k i hk c
    · have ck : k = id := by
        by_cases d : k = id
        · exact d
        · rw [zuf_n d] at hi; omega
      subst ck
      rw [zuf_s] at hi
      have e : zck i = m k := zck_u (by omega) hi
      rw [e, sn, h5 _ (by omega) (by rw [zrm_s] at hi; omega), List.getD_eq_getElem?_getD, List.getElem?_eq_none (by omega)]
      rfl
  · have q := zsu_u (F := fun i => zrm (zuf m id (m id + 1) i) + 16 * zuf m id (m id + 1) i) (G := fun i => zrm (m i) + 16 * m i) hid (fun i _ c => by rw [zuf_n c])
    rw [zuf_s, zrm_s] at q
    omega
end ZPB
def zAp (ro cs nx fc lc bt : Nat → Int32) (ch ru ab tk : Int) (ro' cs' nx' fc' lc' bt' : Nat → Int32) (ch' ru' ab' tk' : Int) (id : Nat) (l : List Bool) : Prop := ∀ B : Nat → List Bool, zPB ro cs nx fc lc bt ch ru ab tk B → id < 400 → zcs (zuf B id (B id ++ l)) ≤ 40000 → zPB ro' cs' nx' fc' lc' bt' ch' ru' ab' tk' (zuf B id (B id ++ l))
def zAc (cs nx fc lc : Nat → Int32) (ch ru tk : Int) (cs' nx' fc' lc' : Nat → Int32) (ch' ru' tk' : Int) (id : Nat) (w : Int) : Prop :=
  (∀ q : Nat, (cs' q).toInt = if (q : Int) = ch then ru else (cs q).toInt) ∧ (∀ q : Nat, (lc' q).toInt = if q = id then ch else (lc q).toInt) ∧ (∀ q : Nat, (fc' q).toInt = if q = id ∧ w = 0 then ch else (fc q).toInt) ∧ (∀ q : Nat, (q : Int) < ch → (nx' q).toInt = if (q : Int) = (lc id).toInt ∧ w ≠ 0 then ch else (nx q).toInt) ∧ 32 * ru' = 32 * ru + zbc w.toNat ∧ ch' = ch + 1 ∧ (0 ≤ tk → tk ≤ 40000 → tk' = tk + zbc w.toNat + 16)
theorem zCk_n {b c : Int} (h : zCk b c) : 0 ≤ c ∧ c.toNat = zck b.toNat := by
  unfold zCk at h; unfold zck
  (repeat' split) <;> omega
theorem zRo_n {c r : Int} (h : zRo c r) : r = zrm c.toNat := by
  unfold zRo at h; unfold zrm
  (repeat' split) <;> omega
theorem zBs_n {c s : Int} (h : zBs c s) : s = zbc c.toNat := by
  unfold zBs at h; unfold zbc
  (repeat' split) <;> omega
def zAx (ch ru w : Int) : Prop := 833 ≤ ch ∨ ∃ s, zBs w s ∧ 40000 < 32 * ru + s
section ZAP
variable {ro ro' cs cs' nx nx' fc fc' lc lc' bt bt' ro2 cs2 nx2 fc2 lc2 bt2 : Nat → Int32} {ch ru ab tk ch' ru' ab' tk' ch2 ru2 ab2 tk2 : Int} {id : Nat} {l l' : List Bool}
theorem zAp_0 : zAp ro cs nx fc lc bt ch ru ab tk ro cs nx fc lc bt ch ru ab tk id [] := fun B h _ _ => by
  rw [List.append_nil, zuf_i]; exact h
theorem zAp_t (h1 : zAp ro cs nx fc lc bt ch ru ab tk ro' cs' nx' fc' lc' bt' ch' ru' ab' tk' id l) (h2 : zAp ro' cs' nx' fc' lc' bt' ch' ru' ab' tk' ro2 cs2 nx2 fc2 lc2 bt2 ch2 ru2 ab2 tk2 id l') : zAp ro cs nx fc lc bt ch ru ab tk ro2 cs2 nx2 fc2 lc2 bt2 ch2 ru2 ab2 tk2 id (l ++ l') := fun B h hid hf => by
  have q1 := h1 B h hid (Nat.le_trans (zcs_m hid (by rw [List.length_append, List.length_append, List.length_append]; omega)) hf)
  have q2 := h2 _ q1 hid
  rw [zuf_s, zuf_z, List.append_assoc] at q2
  exact q2 hf
theorem zAp_e (h : zAp ro cs nx fc lc bt ch ru ab tk ro' cs' nx' fc' lc' bt' ch' ru' ab' tk' id l) (e : l' = l) : zAp ro cs nx fc lc bt ch ru ab tk ro' cs' nx' fc' lc' bt' ch' ru' ab' tk' id l' := by subst e; exact h
theorem zAp_n (h : 400 ≤ id) : zAp ro cs nx fc lc bt ch ru ab tk ro' cs' nx' fc' lc' bt' ch' ru' ab' tk' id l := fun _ _ q => by omega
theorem zsu_len {B : Nat → List Bool} : zsu (fun i => (B i).length) 400 ≤ zcs B := zsu_m (fun i _ => by
  have := znc_b (n := (B i).length)
  show (B i).length ≤ zco (B i).length
  unfold zco; omega)
theorem zPB_in {B : Nat → List Bool} (h : zPB ro cs nx fc lc bt ch ru ab tk B) (hid : id < 400) {r14 r25 ins : Int} (h14 : zCk (bt id).toInt r14) (h25 : zRo r14 r25) (hin : ins = (bt id).toInt - r25) : (bt id).toInt = (B id).length ∧ r14 = zck (B id).length ∧ r25 = zrm (zck (B id).length) ∧ ins = ((B id).length : Int) - zrm (zck (B id).length) ∧ 0 ≤ ins ∧ ins < zbc (zck (B id).length) := by
  have q1 := h.1 id hid
  have q2 := zCk_n h14
  have q3 := zRo_n h25
  have e : (bt id).toInt.toNat = (B id).length := by omega
  rw [e] at q2
  rw [q2.2] at q3
  have q4 := zck_b (B id).length
  have q5 := zrm_s (zck (B id).length)
  omega
theorem zAp_x {b : Bool} {r14 r25 ins : Int} (h14 : zCk (bt id).toInt r14) (h25 : zRo r14 r25) (hin : ins = (bt id).toInt - r25) (h0 : ins = 0) (hx : zAx ch ru r14) : zAp ro cs nx fc lc bt ch ru ab tk ro' cs' nx' fc' lc' bt' ch' ru' ab' tk' id [b] := fun B h hid hf => by
  exfalso
  obtain ⟨e1, e2, e3, e4, e5, e6⟩ := zPB_in h hid h14 h25 hin
  have hz : (B id).length = zrm (zck (B id).length) := by omega
  have c1 := zcs_u (B := B) (l := B id ++ [b]) hid
  have c2 := zco_B hz
  have c3 := zPC_tk h
  rw [List.length_append, List.length_singleton] at c1
  obtain ⟨-, -, h1, h2, h3, h4, h5, h6, h7, h8, h9⟩ := h
  have b0 := zbc_b (zck (B id).length)
  rcases hx with hx | ⟨s, hs, hx⟩
  · omega
  · have := zBs_n hs
    rw [e2, Int.toNat_natCast] at this
    omega
theorem zPB_m {B : Nat → List Bool} {m : Nat → Nat} {bt : Nat → Int32} {z : Int32} {k : Nat} {b : Bool} {a a' : Int32} (hB : ∀ id, id < 400 → (bt id).toInt = ((B id).length : Int)) (ha : a.toInt = (zsu (fun i => (B i).length) 400 : Nat)) (hk : k < 400) (hm : zuf m k (m k) = m) (hz : z.toInt = (bt k).toInt + 1) (ea : a' = a + 1) (hf : zsu (fun i => (B i).length) 400 ≤ 40000) (h : zPC ro cs nx fc lc ch ru tk (zuf B k (B k ++ [b])) (fun i => znc (zuf B k (B k ++ [b]) i).length)) : zPB ro cs nx fc lc (upd bt k z) ch ru a'.toInt tk (zuf B k (B k ++ [b])) := by
  refine ⟨fun i hi => ?_, ?_, h⟩
  · by_cases c : i = k
    · subst c
      rw [pk_us, zuf_s, List.length_append, List.length_singleton, hz, hB i hi]
      omega
    · rw [pk_un c, zuf_n c, hB i hi]
  · have q := zsu_u (F := fun i => (zuf B k (B k ++ [b]) i).length) (G := fun i => (B i).length) hk (fun i _ c => by rw [zuf_n c])
    rw [zuf_s, List.length_append, List.length_singleton] at q
    have q2 := zadd ha (show (1 : Int32).toInt = 1 from by decide) ea (by omega) (by omega)
    omega
theorem zAp_w {B : Nat → List Bool} {m : Nat → Nat} {x y z s I : Int32} {b : Int32} {k : Nat} {p : Int} (h : zPC ro cs nx fc lc ch ru tk B m) (hk : k < 400) (hn : (B k).length < zrm (m k)) (hp : zsp cs fc nx k (zck (B k).length) = 32 * p) (hI : I.toInt = p + ((B k).length - zrm (zck (B k).length) : Nat) / 32) (hs : s.toInt = 31 - ((B k).length - zrm (zck (B k).length) : Nat) % 32) (ex : x = ro I.toNatClampNeg) (ez : z = b <<< (s &&& 31)) (ey : y = x ||| z) (er : ro' = upd ro I.toNatClampNeg y) (hb : b = 0 ∨ b = 1) : zPC ro' cs nx fc lc ch ru tk (zuf B k (B k ++ [decide (b = 1)])) m := by
  have z2 := zck_b (B k).length
  have hkm : zck (B k).length < m k := by
    rcases Nat.lt_or_ge (zck (B k).length) (m k) with c | c
    · exact c
    · have := zrm_m c; omega
  have q := h.1 k _ hk hkm
  refine zPC_w h hk hn (fun q => ?_)
  have h0 := h.2.2.2.1 k _ hk hn
  rw [List.getD_eq_getElem?_getD, List.getElem?_eq_none (Nat.le_refl _)] at h0
  refine zRb_u ex ez ey er hb ?_ ?_ h0 q
  · omega
  · omega
theorem zAp_A {z13 z59 z60 I x y z s b z89 a a' : Int32} {r14 r25 ins : Int} {k : Nat} (e13 : z13 = bt k) (h14 : zCk z13.toInt r14) (h25 : zRo r14 r25) (hin : ins = z13.toInt - r25) (hne : ins ≠ 0) (e59 : z59 = lc k) (e60 : z60 = cs z59.toNatClampNeg) (hI : I.toInt = z60.toInt + ins / 32) (ex : x = ro I.toNatClampNeg) (ez : z = b <<< (s &&& 31)) (ey : y = x ||| z) (hs : s.toInt = 31 - ins % 32) (hb : b.toInt = 0 ∨ b.toInt = 1) (er : ro' = upd ro I.toNatClampNeg y) (eb : bt' = upd bt k z89) (h89 : z89.toInt = z13.toInt + 1) (ea : a' = a + 1) : zAp ro cs nx fc lc bt ch ru a.toInt tk ro' cs nx fc lc bt' ch ru a'.toInt tk k [decide (b.toInt = 1)] := fun B h hid hf => by
  subst e13
  obtain ⟨e1, e2, e3, e4, e5, e6⟩ := zPB_in h hid h14 h25 hin
  have hz : zrm (zck (B k).length) < (B k).length := by omega
  have hb2 : b = 0 ∨ b = 1 := hb.imp (fun q => zeqi.mpr q) (fun q => zeqi.mpr q)
  have ed : decide (b.toInt = 1) = decide (b = 1) := by rw [decide_eq_decide]; exact (zeqi (x := b) (y := 1)).symm
  rw [ed] at hf ⊢
  have n1 := znc_A hz
  have c1 := zcs_u (B := B) (l := B k ++ [decide (b = 1)]) hid
  rw [List.length_append, List.length_singleton, zco_A hz] at c1
  have c4 := zsu_len (B := B)
  obtain ⟨hB, ha, hP⟩ := h
  have hl := hP.2.1 k hid (show 0 < znc (B k).length from by omega)
  have hp := hP.1 k (zck (B k).length) hid (show _ < znc (B k).length from by omega)
  have e5' : zsp cs fc nx k (zck (B k).length) = 32 * z60.toInt := by
    unfold zsp
    rw [e60, e59]
    have : (lc k).toNatClampNeg = (lc k).toInt.toNat := rfl
    rw [this, hl]
    rw [show znc (B k).length - 1 = zck (B k).length from by omega]
  have hw := zAp_w (ro' := ro') hP hid (show (B k).length < zrm (znc (B k).length) from by have := zck_b (B k).length; rw [← n1.2]; omega) e5' (I := I) (s := s) (by omega) (by omega) ex ez ey er hb2
  rw [eb]
  refine zPB_m (m := fun i => znc (B i).length) hB ha hid zuf_i (by rw [h89]) ea (by omega) ?_
  have em : (fun i => znc (zuf B k (B k ++ [decide (b = 1)]) i).length) = fun i => znc (B i).length := funext fun i => by
    by_cases c : i = k
    · subst c; rw [zuf_s, List.length_append, List.length_singleton, n1.1]
    · rw [zuf_n c]
  rw [em]
  exact hw
theorem zAp_B {z13 z59 z60 I x y z s b z89 a a' : Int32} {r14 r25 ins : Int} {k : Nat} (hc : zAc cs nx fc lc ch ru tk cs' nx' fc' lc' ch' ru' tk' k r14) (hr : ru' ≤ 1250) (e13 : z13 = bt k) (h14 : zCk z13.toInt r14) (h25 : zRo r14 r25) (hin : ins = z13.toInt - r25) (h0 : ins = 0) (e59 : z59 = lc' k) (e60 : z60 = cs' z59.toNatClampNeg) (hI : I.toInt = z60.toInt + ins / 32) (ex : x = ro I.toNatClampNeg) (ez : z = b <<< (s &&& 31)) (ey : y = x ||| z) (hs : s.toInt = 31 - ins % 32) (hb : b.toInt = 0 ∨ b.toInt = 1) (er : ro' = upd ro I.toNatClampNeg y) (eb : bt' = upd bt k z89) (h89 : z89.toInt = z13.toInt + 1) (ea : a' = a + 1) : zAp ro cs nx fc lc bt ch ru a.toInt tk ro' cs' nx' fc' lc' bt' ch' ru' a'.toInt tk' k [decide (b.toInt = 1)] := fun B h hid hf => by
  subst e13
  obtain ⟨e1, e2, e3, e4, e5, e6⟩ := zPB_in h hid h14 h25 hin
  have hz : (B k).length = zrm (zck (B k).length) := by omega
  have hb2 : b = 0 ∨ b = 1 := hb.imp (fun q => zeqi.mpr q) (fun q => zeqi.mpr q)
  have ed : decide (b.toInt = 1) = decide (b = 1) := by rw [decide_eq_decide]; exact (zeqi (x := b) (y := 1)).symm
  rw [ed] at hf ⊢
  have n1 := znc_B hz
  have c1 := zcs_u (B := B) (l := B k ++ [decide (b = 1)]) hid
  rw [List.length_append, List.length_singleton, zco_B hz] at c1
  have c3 := zPC_tk h
  have c4 := zsu_len (B := B)
  obtain ⟨hB, ha, hP⟩ := h
  obtain ⟨k1, k2, k3, k4, k5, k6, k7⟩ := hc
  have ew : r14.toNat = zck (B k).length := by omega
  rw [ew] at k5 k7
  have em0 : znc (B k).length = zck (B k).length := n1.2.symm
  have k3' : ∀ q, q < 400 → (fc' q).toInt = if q = k ∧ znc (B k).length = 0 then ch else (fc q).toInt := fun q _ => by
    rw [k3 q]
    have e : (q = k ∧ r14 = 0) ↔ (q = k ∧ znc (B k).length = 0) := by rw [em0]; omega
    simp only [e]
  have k4' : ∀ q : Nat, (q : Int) < ch → (nx' q).toInt = if (q : Int) = (lc k).toInt ∧ znc (B k).length ≠ 0 then ch else (nx q).toInt := fun q hq => by
    rw [k4 q hq]
    have e : ((q : Int) = (lc k).toInt ∧ r14 ≠ 0) ↔ ((q : Int) = (lc k).toInt ∧ znc (B k).length ≠ 0) := by rw [em0]; omega
    simp only [e]
  have k5' : 32 * ru' = 32 * ru + ((zbc (znc (B k).length) : Nat) : Int) := by rw [em0]; exact k5
  have k7' : tk' = tk + ((zbc (znc (B k).length) : Nat) : Int) + 16 := by rw [em0]; exact k7 (by omega) (by omega)
  have hA := zPC_a (cs' := cs') (nx' := nx') (fc' := fc') (lc' := lc') (ru' := ru') (ch' := ch') (tk' := tk') hP hid (show (B k).length ≤ zrm (znc (B k).length) from znc_b) k5' k6 k7' (by omega) k1 (fun q _ => k2 q) k3' k4'
  have m0 : (zuf (fun i => znc (B i).length) k (znc (B k).length + 1)) k = zck (B k).length + 1 := by rw [zuf_s, em0]
  have e59' : z59.toInt = ch := by rw [e59, k2 k, if_pos rfl]
  have e60' : z60.toInt = ru := by
    have : z59.toNatClampNeg = z59.toInt.toNat := rfl
    have := hP.2.2.2.2.2.2.2.1
    rw [e60, k1, if_pos (by omega)]
  have hl := hA.2.1 k hid (by rw [m0]; omega)
  rw [m0, Nat.add_sub_cancel, k2 k, if_pos rfl] at hl
  have e5' : zsp cs' fc' nx' k (zck (B k).length) = 32 * z60.toInt := by
    unfold zsp
    have := hP.2.2.2.2.2.2.2.1
    rw [← hl, e60', k1, if_pos (by omega)]
  have hw := zAp_w (ro' := ro') hA hid (show (B k).length < zrm _ from by rw [m0]; exact (zck_b (B k).length).2) e5' (I := I) (s := s) (by omega) (by omega) ex ez ey er hb2
  rw [eb]
  refine zPB_m (m := fun i => znc (B i).length) hB ha hid zuf_i (by rw [h89]) ea (by omega) ?_
  have em : (fun i => znc (zuf B k (B k ++ [decide (b = 1)]) i).length) = zuf (fun i => znc (B i).length) k (znc (B k).length + 1) := funext fun i => by
    by_cases c : i = k
    · subst c; rw [zuf_s, zuf_s, List.length_append, List.length_singleton, n1.1]
    · rw [zuf_n c, zuf_n c]
  rw [em]
  exact hw
end ZAP
theorem zAc_i {cs nx fc lc cs' nx' fc' lc' : Nat → Int32} {CH RU T T' S V L : Int32} {k : Nat} {w s ru' ch' : Int} (h1 : cs' = upd cs CH.toNatClampNeg RU) (h2 : lc' = upd lc k CH) (h3 : (w = 0 ∧ fc' = upd fc k CH ∧ nx' = upd nx CH.toNatClampNeg (-1)) ∨ (w ≠ 0 ∧ fc' = fc ∧ nx' = upd (upd nx L.toNatClampNeg CH) CH.toNatClampNeg (-1) ∧ L = lc k)) (hc0 : 0 ≤ CH.toInt) (hL : 0 ≤ (lc k).toInt) (hs : zBs w s) (hr : 32 * ru' = 32 * RU.toInt + s) (hc : ch' = CH.toInt + 1) (hS : S.toInt = s) (e1 : V = S + 16) (e2 : T' = T + V) : zAc cs nx fc lc CH.toInt RU.toInt T.toInt cs' nx' fc' lc' ch' ru' T'.toInt k w := by
  have ec : ∀ q : Nat, q = CH.toNatClampNeg ↔ (q : Int) = CH.toInt := fun q => by have := zclamp hc0; omega
  have el : (lc k).toNatClampNeg = (lc k).toInt.toNat := rfl
  have es := zBs_n hs
  have bb := zbc_b w.toNat
  refine ⟨fun q => ?_, fun q => ?_, fun q => ?_, fun q hq => ?_, by omega, hc, fun t0 t1 => ?_⟩
  · rw [h1]
    by_cases c : q = CH.toNatClampNeg
    · rw [if_pos ((ec q).mp c), c, pk_us]
    · rw [if_neg (fun d => c ((ec q).mpr d)), pk_un c]
  · rw [h2]
    by_cases c : q = k
    · rw [if_pos c, c, pk_us]
    · rw [if_neg c, pk_un c]
  · rcases h3 with ⟨w0, f, -⟩ | ⟨w0, f, -⟩
    · rw [f]
      by_cases c : q = k
      · rw [if_pos ⟨c, w0⟩, c, pk_us]
      · rw [if_neg (fun d => c d.1), pk_un c]
    · rw [f, if_neg (fun d => w0 d.2)]
  · have nc : q ≠ CH.toNatClampNeg := fun d => by have := (ec q).mp d; omega
    rcases h3 with ⟨w0, -, n⟩ | ⟨w0, -, n, eL⟩
    · rw [n, pk_un nc, if_neg (fun d => d.2 w0)]
    · rw [n, pk_un nc, eL]
      by_cases c : q = (lc k).toNatClampNeg
      · rw [if_pos ⟨by omega, w0⟩, c, pk_us]
      · rw [if_neg (fun d => c (by omega)), pk_un c]
  · have q1 := zadd hS (show (16 : Int32).toInt = 16 from by decide) e1 (by omega) (by omega)
    have q2 := zadd (x := T) (y := V) rfl q1 e2 (by omega) (by omega)
    omega
theorem zbd_p {n : Nat} (h : 0 < n) : zbd n = Nat.log2 n + 1 := if_neg (by omega)
theorem zbd_h {n : Nat} (h : 2 ≤ n) : zbd n = zbd (n / 2) + 1 := by
  rw [zbd_p (by omega), zbd_p (by omega), Nat.log2_def, if_pos h]
theorem zbd_s : ∀ {k n : Nat}, 2 ^ k ≤ n → zbd n = zbd (n / 2 ^ k) + k := by
  intro k
  induction k with
  | zero => intro n _; rw [Nat.pow_zero, Nat.div_one]; rfl
  | succ k ih =>
    intro n h
    have p : 0 < 2 ^ k := Nat.two_pow_pos k
    have e : 2 ^ (k + 1) = 2 * 2 ^ k := by rw [Nat.pow_succ, Nat.mul_comm]
    have h2 : 2 ≤ n := by omega
    have h3 : 2 ^ k ≤ n / 2 := by rw [Nat.le_div_iff_mul_le (by decide)]; omega
    rw [zbd_h h2, ih h3, Nat.div_div_eq_div_mul, ← e]
    omega
def zLz (p a b : Int) : Prop := 0 < p → 0 < a ∧ (zbd p.toNat : Int) + b = zbd a.toNat + 31
theorem zLz_0 {p a b : Int} (h1 : a = p) (h2 : b = 31) : zLz p a b := fun h => by subst h1; subst h2; exact ⟨h, rfl⟩
theorem zLz_s {p a b a' b' : Int} (k : Nat) (h : zLz p a b) (hk : ((2 ^ k : Nat) : Int) ≤ a) (ha : a' = a / ((2 ^ k : Nat) : Int)) (hb : b' = b - k) : zLz p a' b' := fun h0 => by
  obtain ⟨q1, q2⟩ := h h0
  have e := zbd_s (k := k) (n := a.toNat) (by omega)
  have e2 : a'.toNat = a.toNat / 2 ^ k := by
    rw [ha]
    conv => lhs; rw [show a = ((a.toNat : Nat) : Int) from by omega]
    rw [← Int.natCast_ediv, Int.toNat_natCast]
  have e3 : 0 < a.toNat / 2 ^ k := Nat.div_pos (by omega) (Nat.two_pow_pos k)
  refine ⟨by omega, ?_⟩
  rw [e2]
  omega
theorem zbd_1 : zbd 1 = 1 ∧ zbd 2 = 2 ∧ zbd 3 = 2 := by decide
theorem zLz_e {p a b r : Int} (h : zLz p a b) (h4 : a < 4) (hr : r = b - a / 2) : 0 < p → r = 32 - (zbd p.toNat : Int) := fun h0 => by
  obtain ⟨q1, q2⟩ := h h0
  have e := zbd_1
  have : a.toNat = 1 ∨ a.toNat = 2 ∨ a.toNat = 3 := by omega
  rcases this with c | c | c <;> rw [c] at q2 <;> omega
theorem zbd_le {n k : Nat} (h : n < 2 ^ k) : zbd n ≤ k := by
  by_cases c : n = 0
  · subst c; exact Nat.zero_le _
  · have q := zbd_2 (n := n) (by omega)
    rcases Nat.lt_or_ge k (zbd n) with d | d
    · have : 2 ^ k ≤ 2 ^ (zbd n - 1) := Nat.pow_le_pow_right (by decide) (by omega)
      omega
    · exact d
theorem zbd_i (x : Int32) : zbd x.toInt.toNat ≤ 31 := zbd_le (by have := x.toInt_lt; omega)
theorem zbd_0 {n : Nat} (h : 0 < n) : 0 < zbd n := by rw [zbd_p h]; omega
theorem zbl_t {n : Nat} : ∀ {d i : Nat}, i < d → (zbl n d).take (d - i) = (zbl n d).take (d - (i + 1)) ++ [n.testBit i] := by
  intro d
  induction d with
  | zero => intro i h; omega
  | succ d ih =>
    intro i h
    show List.take (d + 1 - i) (n.testBit d :: zbl n d) = List.take (d + 1 - (i + 1)) (n.testBit d :: zbl n d) ++ _
    by_cases c : i = d
    · subst c
      rw [show i + 1 - i = 1 from by omega, show i + 1 - (i + 1) = 0 from by omega]
      rfl
    · rw [show d + 1 - i = (d - i) + 1 from by omega, show d + 1 - (i + 1) = (d - (i + 1)) + 1 from by omega, List.take_succ_cons, List.take_succ_cons, ih (by omega)]
      rfl
theorem zbit {x s z y : Int32} (e1 : z = (x.toUInt32 >>> (s.toUInt32 &&& Int32.toUInt32 31)).toInt32) (e2 : y = z &&& 1) (hx : 0 ≤ x.toInt) (hs : 0 ≤ s.toInt) (hs2 : s.toInt ≤ 31) : (y.toInt = 0 ∨ y.toInt = 1) ∧ decide (y.toInt = 1) = x.toInt.toNat.testBit s.toInt.toNat := by
  have h := zgb1 e1 e2 hs hs2
  have e : x.toBitVec.toNat = x.toInt.toNat := by
    have := ztoi x
    split at this <;> omega
  have e3 : x.toBitVec.getLsbD s.toInt.toNat = x.toInt.toNat.testBit s.toInt.toNat := by rw [BitVec.getLsbD, e]
  rw [e3] at h
  cases hb : x.toInt.toNat.testBit s.toInt.toNat
  · rw [hb] at h; rw [h]; exact ⟨Or.inl rfl, rfl⟩
  · rw [hb] at h; rw [h]; exact ⟨Or.inr rfl, rfl⟩
def zA1 (n i : Int) : List Bool := List.replicate (i.toNat - 1) false
def zA2 (n i : Int) : List Bool := List.replicate (zbd n.toNat - 1) false ++ (zbl n.toNat (zbd n.toNat)).take (zbd n.toNat - (i + 1).toNat)
theorem zA1_s {n i j : Int} (h : 1 ≤ i) (hj : j = i + 1) : zA1 n j = zA1 n i ++ [decide ((0 : Int) = 1)] := by
  unfold zA1
  rw [show j.toNat - 1 = (i.toNat - 1) + 1 from by omega, List.replicate_succ']
  rfl
theorem zA2_0 {n i j : Int} (hi : i = max 1 (zbd n.toNat : Int)) (hj : j = (zbd n.toNat : Int) - 1) : zA2 n j = zA1 n i := by
  unfold zA1 zA2
  rw [show (j + 1).toNat = zbd n.toNat from by omega, Nat.sub_self, List.take_zero, List.append_nil, show i.toNat - 1 = zbd n.toNat - 1 from by omega]
theorem zA2_s {n i j : Int} {b : Bool} (h0 : 0 ≤ i) (hi : i < zbd n.toNat) (hj : j = i - 1) (hb : b = n.toNat.testBit i.toNat) : zA2 n j = zA2 n i ++ [b] := by
  unfold zA2
  rw [show (j + 1).toNat = i.toNat from by omega, show (i + 1).toNat = i.toNat + 1 from by omega, zbl_t (n := n.toNat) (d := zbd n.toNat) (i := i.toNat) (by omega), hb, List.append_assoc]
theorem zA2_e {n i : Int} (h : i < 0) (h2 : -1 ≤ i) : zA2 n i = zGa n.toNat := by
  unfold zA2 zGa
  rw [show (i + 1).toNat = 0 from by omega, Nat.sub_zero, List.take_of_length_le (by rw [zbl_l]; exact Nat.le_refl _)]
def zRr (fc nx : Nat → Int32) (B : Nat → List Bool) (bl ck wh ins : Int) (R : List Bool) : Prop := ∃ id i : Nat, id < 400 ∧ i ≤ (B id).length ∧ R = (B id).drop i ∧ bl = ((B id).length : Int) - i ∧ ((B id).length = 0 ∨ ∃ j : Nat, wh = j ∧ j < znc (B id).length ∧ zrm j ≤ i ∧ i ≤ zrm (j + 1) ∧ ins = (i : Int) - zrm j ∧ ck = zcc fc nx id j)
def zRs (fc nx : Nat → Int32) (B : Nat → List Bool) (bl ck wh ins : Int) (R : List Bool) : Prop := ∃ id i j : Nat, id < 400 ∧ i < (B id).length ∧ R = (B id).drop i ∧ bl = ((B id).length : Int) - i ∧ wh = j ∧ j < znc (B id).length ∧ zrm j ≤ i ∧ i < zrm (j + 1) ∧ ins = (i : Int) - zrm j ∧ ck = zcc fc nx id j
def zOs (ro cs nx fc lc bt : Nat → Int32) (ch ru ab tk : Int) (bl ck wh ins bl' ck' wh' ins' : Int) : Prop := ∀ (B : Nat → List Bool) (b : Bool) (R : List Bool), zPB ro cs nx fc lc bt ch ru ab tk B → zRr fc nx B bl ck wh ins (b :: R) → zRs fc nx B bl' ck' wh' ins' (b :: R)
def zOb (ro cs nx fc lc bt : Nat → Int32) (ch ru ab tk : Int) (bl ck wh ins bl' ck' wh' ins' r : Int) : Prop := ∀ (B : Nat → List Bool) (b : Bool) (R : List Bool), zPB ro cs nx fc lc bt ch ru ab tk B → zRr fc nx B bl ck wh ins (b :: R) → r = (if b = true then 1 else 0) ∧ zRr fc nx B bl' ck' wh' ins' R
def zBi (ro cs : Nat → Int32) (ch : Int) (ck : Int32) (ins r : Int) : Prop := 0 ≤ ck.toInt → ck.toInt < ch → 0 ≤ ins → 32 * (cs ck.toNatClampNeg).toInt + ins < 40000 → 0 ≤ (cs ck.toNatClampNeg).toInt → r = if zRb ro (32 * (cs ck.toNatClampNeg).toInt + ins).toNat = true then 1 else 0
section ZRD
variable {ro cs nx fc lc bt : Nat → Int32} {ch ru ab tk bl ck wh ins bl' ck' wh' ins' bl2 ck2 wh2 ins2 r : Int} {R : List Bool} {B : Nat → List Bool}
theorem zRd_l (h : zRr fc nx B bl ck wh ins R) : bl = (R.length : Int) := by
  obtain ⟨id, i, h1, h2, h3, h4, -⟩ := h
  rw [h3, List.length_drop]
  omega
theorem zOs_a {s : Int} (hs : 0 ≤ wh → zBs wh s) (hne : ins ≠ s) : zOs ro cs nx fc lc bt ch ru ab tk bl ck wh ins bl ck wh ins := fun B b R hP h => by
  obtain ⟨id, i, h1, h2, h3, h4, h5⟩ := h
  have hl : i < (B id).length := by
    have := congrArg List.length h3
    rw [List.length_cons, List.length_drop] at this
    omega
  rcases h5 with h5 | ⟨j, e1, e2, e3, e4, e5, e6⟩
  · omega
  · have q := zBs_n (hs (by omega))
    rw [e1, Int.toNat_natCast] at q
    have q2 := zrm_s j
    exact ⟨id, i, j, h1, hl, h3, h4, e1, e2, e3, by omega, e5, e6⟩
theorem zOs_b {s : Int} {W W' C : Int32} (hs : 0 ≤ W.toInt → zBs W.toInt s) (he : ins = s) (hc : 0 ≤ C.toInt ∧ C.toInt < ch → ck' = (nx C.toNatClampNeg).toInt) (ew : W' = W + 1) (h0 : ins' = 0) : zOs ro cs nx fc lc bt ch ru ab tk bl C.toInt W.toInt ins bl ck' W'.toInt ins' := fun B b R hP h => by
  obtain ⟨id, i, h1, h2, h3, h4, h5⟩ := h
  have hl : i < (B id).length := by
    have := congrArg List.length h3
    rw [List.length_cons, List.length_drop] at this
    omega
  rcases h5 with h5 | ⟨j, e1, e2, e3, e4, e5, e6⟩
  · omega
  · have q := zBs_n (hs (by omega))
    rw [e1, Int.toNat_natCast] at q
    have q2 := zrm_s j
    have q3 := zrm_s (j + 1)
    have q4 := zbc_b (j + 1)
    have q5 := hP.2.2.1 id j h1 e2
    have q6 : j + 1 < znc (B id).length := znc_i (by omega)
    have u1 := hP.2.2.1 id (j + 1) h1 q6
    have u2 := hP.1 id h1
    have u3 := (bt id).toInt_lt
    have u4 : znc (B id).length ≤ (B id).length + 1 := by unfold znc zck; (repeat' split) <;> omega
    have q7 := zadd e1 (show (1 : Int32).toInt = 1 from by decide) ew (by omega) (by omega)
    refine ⟨id, i, j + 1, h1, hl, h3, h4, by omega, q6, by omega, by omega, by omega, ?_⟩
    rw [hc ⟨by rw [e6]; exact q5.1, by rw [e6]; exact q5.2.1⟩]
    show _ = (nx (zcc fc nx id j).toNat).toInt
    rw [← e6]
    rfl
theorem zOb_c {C I I' L L' : Int32} (h : zOs ro cs nx fc lc bt ch ru ab tk bl ck wh ins L.toInt C.toInt wh' I.toInt) (hb : zBi ro cs ch C I.toInt r) (hru : ru ≤ 1250) (e1 : I' = I + 1) (e2 : L' = L - 1) : zOb ro cs nx fc lc bt ch ru ab tk bl ck wh ins L'.toInt C.toInt wh' I'.toInt r := fun B b R hP hR => by
  obtain ⟨id, i, j, h1, hl, h3, h4, e3, e4, e5, e6, e7, e8⟩ := h B b R hP hR
  have q := hP.2.2.1 id j h1 e4
  have q2 := zrm_s j
  have q3 := zbc_b j
  have q4 := hP.2.2.2.2.2.1 id i h1 (Nat.lt_of_lt_of_le hl znc_b)
  have q5 : zck i = j := zck_u e5 e6
  have u2 := hP.1 id h1
  have u3 := (bt id).toInt_lt
  have s1 : zsp cs fc nx id j = 32 * (cs C.toNatClampNeg).toInt := by
    unfold zsp
    rw [← e8]
    rfl
  rw [q5] at q4
  have hd : (B id).drop i = (B id)[i] :: (B id).drop (i + 1) := List.drop_eq_getElem_cons hl
  rw [hd] at h3
  have hb1 : b = (B id)[i] := (List.cons.inj h3).1
  have hb2 : R = (B id).drop (i + 1) := (List.cons.inj h3).2
  have g1 : (B id).getD i false = b := by rw [hb1, List.getD_eq_getElem?_getD, List.getElem?_eq_getElem hl]; rfl
  rw [g1] at q4
  constructor
  · rw [hb (by omega) (by omega) (by omega) (by omega) (by omega), ← q4]
    rw [show (zsp cs fc nx id j).toNat + (i - zrm j) = (32 * (cs C.toNatClampNeg).toInt + I.toInt).toNat from by omega]
  · have a1 := zadd (x := I) rfl (show (1 : Int32).toInt = 1 from by decide) e1 (by omega) (by omega)
    have a2 := zsub (x := L) rfl (show (1 : Int32).toInt = 1 from by decide) e2 (by omega) (by omega)
    exact ⟨id, i + 1, h1, hl, hb2, by omega, Or.inr ⟨j, e3, e4, by omega, by omega, by omega, e8⟩⟩
theorem zOb_z (h : bl ≤ 0) : zOb ro cs nx fc lc bt ch ru ab tk bl ck wh ins bl' ck' wh' ins' r := fun B b R hP hR => by
  have := zRd_l hR
  rw [List.length_cons] at this
  omega
theorem zBi_i {C I P x z y s : Int32} (e1 : x = ro P.toNatClampNeg) (hP : P.toInt = (cs C.toNatClampNeg).toInt + I.toInt / 32) (hs : s.toInt = 31 - I.toInt % 32) (e2 : z = (x.toUInt32 >>> (s.toUInt32 &&& Int32.toUInt32 31)).toInt32) (e3 : y = z &&& 1) (h0 : 0 ≤ I.toInt) : zBi ro cs ch C I.toInt y.toInt := fun _ _ _ h5 h6 => by
  rw [zgb1 e2 e3 (by omega) (by omega), e1]
  unfold zRb
  have a1 : P.toNatClampNeg = P.toInt.toNat := rfl
  rw [show (32 * (cs C.toNatClampNeg).toInt + I.toInt).toNat / 32 = P.toNatClampNeg from by omega, show 31 - (32 * (cs C.toNatClampNeg).toInt + I.toInt).toNat % 32 = s.toInt.toNat from by omega]
theorem zBi_o {C I P : Int32} (hP : P.toInt = (cs C.toNatClampNeg).toInt + I.toInt / 32) (hx : 1250 ≤ P.toInt) : zBi ro cs ch C I.toInt r := fun _ _ _ h5 h6 => by exfalso; omega
theorem zBi_x {C I : Int32} (hx : C.toInt < 0 ∨ ch ≤ C.toInt ∨ I.toInt < 0) : zBi ro cs ch C I.toInt r := fun _ _ _ _ _ => by exfalso; omega
theorem zRd_o {id : Nat} (hid : id < 400) (h1 : bl = (bt id).toInt) (h2 : 0 < (bt id).toInt → ck = (fc id).toInt) (h3 : wh = 0) (h4 : ins = 0) (hP : zPB ro cs nx fc lc bt ch ru ab tk B) : zRr fc nx B bl ck wh ins (B id) := by
  have q := hP.1 id hid
  refine ⟨id, 0, hid, Nat.zero_le _, rfl, by omega, ?_⟩
  by_cases c : (B id).length = 0
  · exact Or.inl c
  · refine Or.inr ⟨0, h3, znc_i (j := 0) (by show 0 < _; omega), Nat.zero_le _, Nat.zero_le _, by rw [h4]; rfl, h2 (by omega)⟩
def zGz (ro cs nx fc lc bt : Nat → Int32) (ch ru ab tk bl ck wh ins bl' ck' wh' ins' k : Int) : Prop := ∀ (B : Nat → List Bool) (m : Nat) (R : List Bool), zPB ro cs nx fc lc bt ch ru ab tk B → 0 < m → zbd m ≤ 31 → zRr fc nx B bl ck wh ins (zGa m ++ R) → 0 ≤ k ∧ k ≤ zbd m - 1 ∧ zRr fc nx B bl' ck' wh' ins' (List.replicate (zbd m - 1 - k.toNat) false ++ (zbl m (zbd m) ++ R))
def zGy (ro cs nx fc lc bt : Nat → Int32) (ch ru ab tk bl ck wh ins bl' ck' wh' ins' k i v : Int) : Prop := ∀ (B : Nat → List Bool) (m : Nat) (R : List Bool), zPB ro cs nx fc lc bt ch ru ab tk B → 0 < m → zbd m ≤ 31 → zRr fc nx B bl ck wh ins (zGa m ++ R) → k = zbd m - 1 ∧ 0 ≤ i ∧ i ≤ k ∧ zRr fc nx B bl' ck' wh' ins' (zbl m (k - i).toNat ++ R) ∧ v = (m / 2 ^ (k - i).toNat : Nat)
def zGm (ro cs nx fc lc bt : Nat → Int32) (ch ru ab tk bl ck wh ins bl' ck' wh' ins' r : Int) : Prop := ∀ (B : Nat → List Bool) (m : Nat) (R : List Bool), zPB ro cs nx fc lc bt ch ru ab tk B → 0 < m → zbd m ≤ 31 → zRr fc nx B bl ck wh ins (zGa m ++ R) → r = (m : Int) ∧ zRr fc nx B bl' ck' wh' ins' R
theorem zGz_0 {k : Int} (h : k = 0) : zGz ro cs nx fc lc bt ch ru ab tk bl ck wh ins bl ck wh ins k := fun B m R hP h1 h2 hR => by
  subst h
  have := zbd_0 h1
  refine ⟨Int.le_refl _, by omega, ?_⟩
  rw [← List.append_assoc]
  exact hR
theorem zGz_s {k k' : Int} (h : zGz ro cs nx fc lc bt ch ru ab tk bl ck wh ins bl' ck' wh' ins' k) (ho : zOb ro cs nx fc lc bt ch ru ab tk bl' ck' wh' ins' bl2 ck2 wh2 ins2 r) (hr : r = 0) (hk : k' = k + 1) : zGz ro cs nx fc lc bt ch ru ab tk bl ck wh ins bl2 ck2 wh2 ins2 k' := fun B m R hP h1 h2 hR => by
  obtain ⟨q1, q2, q3⟩ := h B m R hP h1 h2 hR
  rcases Nat.eq_zero_or_pos (zbd m - 1 - k.toNat) with c | c
  · rw [c] at q3
    obtain ⟨l, e1, -⟩ := zbl_m h1
    rw [e1] at q3
    have := (ho B true _ hP q3).1
    rw [if_pos rfl] at this
    omega
  · obtain ⟨n, hn⟩ : ∃ n, zbd m - 1 - k.toNat = n + 1 := ⟨_, (Nat.succ_pred_eq_of_pos c).symm⟩
    rw [hn, List.replicate_succ] at q3
    refine ⟨by omega, by omega, ?_⟩
    rw [show zbd m - 1 - k'.toNat = n from by omega]
    exact (ho B false _ hP q3).2
theorem zGy_0 {k v i : Int} (h : zGz ro cs nx fc lc bt ch ru ab tk bl ck wh ins bl' ck' wh' ins' k) (ho : zOb ro cs nx fc lc bt ch ru ab tk bl' ck' wh' ins' bl2 ck2 wh2 ins2 r) (hr : r ≠ 0) (hi : i = 0) (hv : v = 1) : zGy ro cs nx fc lc bt ch ru ab tk bl ck wh ins bl2 ck2 wh2 ins2 k i v := fun B m R hP h1 h2 hR => by
  obtain ⟨q1, q2, q3⟩ := h B m R hP h1 h2 hR
  rcases Nat.eq_zero_or_pos (zbd m - 1 - k.toNat) with c | c
  · rw [c] at q3
    obtain ⟨l, e1, e2⟩ := zbl_m h1
    rw [e1] at q3
    have q4 := (ho B true _ hP q3).2
    have ek : (k - i).toNat = zbd m - 1 := by omega
    refine ⟨by omega, by omega, by omega, by rw [ek, ← e2]; exact q4, ?_⟩
    have q := zbd_2 h1
    rw [hv, ek]
    have p : 0 < 2 ^ (zbd m - 1) := Nat.two_pow_pos _
    have e3 : 2 ^ zbd m = 2 * 2 ^ (zbd m - 1) := by rw [← Nat.pow_succ']; congr 1; have := zbd_0 h1; omega
    have : m / 2 ^ (zbd m - 1) = 1 := by rw [Nat.div_eq_of_lt_le] <;> omega
    rw [this]
    rfl
  · obtain ⟨n, hn⟩ : ∃ n, zbd m - 1 - k.toNat = n + 1 := ⟨_, (Nat.succ_pred_eq_of_pos c).symm⟩
    rw [hn, List.replicate_succ] at q3
    have := (ho B false _ hP q3).1
    rw [if_neg (by decide)] at this
    omega
theorem zGy_x {k v i : Int} (h : zGz ro cs nx fc lc bt ch ru ab tk bl ck wh ins bl' ck' wh' ins' k) (hx : 31 ≤ k ∨ bl' ≤ 0) : zGy ro cs nx fc lc bt ch ru ab tk bl ck wh ins bl2 ck2 wh2 ins2 k i v := fun B m R hP h1 h2 hR => by
  obtain ⟨q1, q2, q3⟩ := h B m R hP h1 h2 hR
  have q4 := zRd_l q3
  have := zbd_0 h1
  rw [List.length_append, List.length_append, zbl_l] at q4
  omega
theorem zsl1b {v z y r : Int32} (e1 : z = v <<< (1 &&& 31)) (e2 : y = z ||| r) (h0 : 0 ≤ v.toInt) (h1 : v.toInt < 1073741824) (hr : r.toInt = 0 ∨ r.toInt = 1) : y.toInt = 2 * v.toInt + r.toInt := by
  have ev := ztoi v
  have er := ztoi r
  have ey := ztoi y
  have vb : v.toBitVec.toNat = v.toInt.toNat := by split at ev <;> omega
  have rb : r.toBitVec.toNat = r.toInt.toNat := by split at er <;> omega
  have ez : z.toBitVec.toNat = 2 * v.toInt.toNat := by
    rw [e1, Int32.toBitVec_shiftLeft]
    have : ((1 &&& 31 : Int32).toBitVec.smod 32) = 1#32 := by decide
    rw [this]
    rw [BitVec.shiftLeft_eq', BitVec.toNat_shiftLeft, vb]
    have : (1#32 : BitVec 32).toNat = 1 := by decide
    rw [this, Nat.shiftLeft_eq, Nat.pow_one, Nat.mod_eq_of_lt (by omega)]
    omega
  have eo : y.toBitVec.toNat = 2 * v.toInt.toNat + r.toInt.toNat := by
    rw [e2, Int32.toBitVec_or, BitVec.toNat_or, ez, rb]
    rcases hr with c | c
    · rw [c]; show 2 * _ ||| 0 = _; rw [Nat.or_zero]; rfl
    · rw [c]
      show 2 * v.toInt.toNat ||| 1 = _
      have := Nat.two_pow_add_eq_or_of_lt (i := 1) (b := 1) (by decide) v.toInt.toNat
      rw [Nat.pow_one] at this
      omega
  split at ey <;> omega
theorem zGy_s {k i i' : Int} {v z v' r : Int32} (h : zGy ro cs nx fc lc bt ch ru ab tk bl ck wh ins bl' ck' wh' ins' k i v.toInt) (ho : zOb ro cs nx fc lc bt ch ru ab tk bl' ck' wh' ins' bl2 ck2 wh2 ins2 r.toInt) (hi : i < k) (hi' : i' = i + 1) (e1 : z = v <<< (1 &&& 31)) (e2 : v' = z ||| r) : zGy ro cs nx fc lc bt ch ru ab tk bl ck wh ins bl2 ck2 wh2 ins2 k i' v'.toInt := fun B m R hP h1 h2 hR => by
  obtain ⟨q1, q2, q3, q4, q5⟩ := h B m R hP h1 h2 hR
  obtain ⟨n, hn⟩ : ∃ n, (k - i).toNat = n + 1 := ⟨(k - i).toNat - 1, by omega⟩
  rw [hn] at q4 q5
  have q6 := ho B (m.testBit n) _ hP q4
  have en : (k - i').toNat = n := by omega
  have hb := zbd_2 h1
  have hv : v.toInt < 1073741824 := by
    have : 2 ^ zbd m ≤ 2 ^ (n + 1) * 1073741824 := by
      have e : (1073741824 : Nat) = 2 ^ 30 := by decide
      rw [e, ← Nat.pow_add]
      exact Nat.pow_le_pow_right (by decide) (by omega)
    have : m / 2 ^ (n + 1) < 1073741824 := by rw [Nat.div_lt_iff_lt_mul (Nat.two_pow_pos _), Nat.mul_comm]; omega
    omega
  have hr : r.toInt = ((m.testBit n).toNat : Int) := by
    rw [q6.1]
    cases m.testBit n <;> rfl
  have hr2 : r.toInt = 0 ∨ r.toInt = 1 := by rw [hr]; cases m.testBit n <;> simp
  refine ⟨q1, by omega, by omega, by rw [en]; exact q6.2, ?_⟩
  rw [en, zsl1b e1 e2 (by rw [q5]; exact Int.natCast_nonneg _) hv hr2, q5, hr, Nat.toNat_testBit, Nat.pow_succ, ← Nat.div_div_eq_div_mul]
  omega
theorem zGm_e {k i v : Int} (h : zGy ro cs nx fc lc bt ch ru ab tk bl ck wh ins bl' ck' wh' ins' k i v) (hi : k ≤ i) (hr : r = v) : zGm ro cs nx fc lc bt ch ru ab tk bl ck wh ins bl' ck' wh' ins' r := fun B m R hP h1 h2 hR => by
  obtain ⟨q1, q2, q3, q4, q5⟩ := h B m R hP h1 h2 hR
  rw [show (k - i).toNat = 0 from by omega] at q4 q5
  rw [Nat.pow_zero, Nat.div_one] at q5
  exact ⟨hr.trans q5, q4⟩
end ZRD
def zrL (ms : List Nat) : List Bool := (ms.map zGa).flatten
def zrO (ms : List Nat) : Prop := ∀ m ∈ ms, 0 < m ∧ zbd m ≤ 31
theorem zrL_c {m : Nat} {ms : List Nat} : zrL (m :: ms) = zGa m ++ zrL ms := rfl
theorem zrL_a {ms ns : List Nat} : zrL (ms ++ ns) = zrL ms ++ zrL ns := by unfold zrL; rw [List.map_append, List.flatten_append]
theorem zrL_d {ms : List Nat} {i : Nat} (h : i < ms.length) : zrL (ms.drop i) = zGa ms[i] ++ zrL (ms.drop (i + 1)) := by
  rw [List.drop_eq_getElem_cons h]; rfl
def zNx (ro cs nx fc lc bt : Nat → Int32) (ch ru ab tk bl ck wh ins bl' ck' wh' ins' pl i : Int) : Prop := ∀ (B : Nat → List Bool) (ms : List Nat) (R : List Bool), zPB ro cs nx fc lc bt ch ru ab tk B → zrO ms → (ms.length : Int) = pl → zRr fc nx B bl ck wh ins (zrL ms ++ R) → 0 ≤ i ∧ i ≤ ms.length ∧ zRr fc nx B bl' ck' wh' ins' (zrL (ms.drop (ms.length - i.toNat)) ++ R)
def zNo (ro cs nx fc lc bt : Nat → Int32) (ch ru ab tk bl ck wh ins bl' ck' wh' ins' pl nu nu' pc' pl' pa' r : Int) : Prop := ∀ (B : Nat → List Bool) (ms : List Nat) (R : List Bool), zPB ro cs nx fc lc bt ch ru ab tk B → zrO ms → (ms.length : Int) = pl → zRr fc nx B bl ck wh ins (zrL ms ++ R) → (R = [] → r = 0) ∧ ∀ (a b : Nat) (R' : List Bool), R = zGa a ++ (zGa b ++ R') → 0 < a → 0 < b → zbd a ≤ 31 → zbd b ≤ 31 → -1 ≤ nu → nu + a ≤ 1000 → r = 1 ∧ nu' = nu + a ∧ pc' = b ∧ pl' = b ∧ pa' = -1 ∧ zRr fc nx B bl' ck' wh' ins' R'
def zNp (ro cs nx fc lc bt : Nat → Int32) (ch ru ab tk bl ck wh ins bl' ck' wh' ins' pl pa pl' pa' r : Int) : Prop := ∀ (B : Nat → List Bool) (m : Nat) (R : List Bool), zPB ro cs nx fc lc bt ch ru ab tk B → 0 < m → zbd m ≤ 31 → zRr fc nx B bl ck wh ins (zGa m ++ R) → 0 < pl → -1 ≤ pa → pa + m ≤ 2000 → r = pa + m ∧ pa' = pa + m ∧ pl' = pl - 1 ∧ zRr fc nx B bl' ck' wh' ins' R
theorem zGa_p {m : Nat} (h : 0 < m) : 0 < (zGa m).length := by rw [zGa_l h]; have := zbd_0 h; omega
section ZNX
variable {ro cs nx fc lc bt : Nat → Int32} {ch ru ab tk bl ck wh ins bl' ck' wh' ins' bl2 ck2 wh2 ins2 bl3 ck3 wh3 ins3 r r2 r3 : Int} {R : List Bool} {B : Nat → List Bool} {pl i i' nu nu' pc' pl' pa pa' : Int}
theorem zNx_0 (h : i = pl) : zNx ro cs nx fc lc bt ch ru ab tk bl ck wh ins bl ck wh ins pl i := fun B ms R hP h1 h2 hR => by
  refine ⟨by omega, by omega, ?_⟩
  rw [show ms.length - i.toNat = 0 from by omega, List.drop_zero]
  exact hR
theorem zNx_s (h : zNx ro cs nx fc lc bt ch ru ab tk bl ck wh ins bl' ck' wh' ins' pl i) (hg : zGm ro cs nx fc lc bt ch ru ab tk bl' ck' wh' ins' bl2 ck2 wh2 ins2 r) (hi : 0 < i) (hi' : i' = i - 1) : zNx ro cs nx fc lc bt ch ru ab tk bl ck wh ins bl2 ck2 wh2 ins2 pl i' := fun B ms R hP h1 h2 hR => by
  obtain ⟨q1, q2, q3⟩ := h B ms R hP h1 h2 hR
  have hl : ms.length - i.toNat < ms.length := by omega
  rw [zrL_d hl, List.append_assoc] at q3
  have q4 := h1 _ (List.getElem_mem hl)
  have q5 := hg B _ _ hP q4.1 q4.2 q3
  refine ⟨by omega, by omega, ?_⟩
  rw [show ms.length - i'.toNat = ms.length - i.toNat + 1 from by omega]
  exact q5.2
theorem zNx_e (h : zNx ro cs nx fc lc bt ch ru ab tk bl ck wh ins bl' ck' wh' ins' pl i) (hi : i ≤ 0) (ms : List Nat) (hP : zPB ro cs nx fc lc bt ch ru ab tk B) (h1 : zrO ms) (h2 : (ms.length : Int) = pl) (hR : zRr fc nx B bl ck wh ins (zrL ms ++ R)) : zRr fc nx B bl' ck' wh' ins' R := by
  obtain ⟨q1, q2, q3⟩ := h B ms R hP h1 h2 hR
  rw [show ms.length - i.toNat = ms.length from by omega, List.drop_length] at q3
  exact q3
theorem zNo_z (h : zNx ro cs nx fc lc bt ch ru ab tk bl ck wh ins bl' ck' wh' ins' pl i) (hi : i ≤ 0) (hb : bl' = 0) (hr : r = 0) : zNo ro cs nx fc lc bt ch ru ab tk bl ck wh ins bl2 ck2 wh2 ins2 pl nu nu' pc' pl' pa' r := fun B ms R hP h1 h2 hR => by
  have q := zNx_e h hi ms hP h1 h2 hR
  have q2 := zRd_l q
  refine ⟨fun _ => hr, fun a b R' e ha hb2 _ _ _ _ => ?_⟩
  have := zGa_p ha
  rw [e, List.length_append] at q2
  omega
theorem zNo_1 {N N' G : Int32} (h : zNx ro cs nx fc lc bt ch ru ab tk bl ck wh ins bl' ck' wh' ins' pl i) (hi : i ≤ 0) (hb : bl' ≠ 0) (hg1 : zGm ro cs nx fc lc bt ch ru ab tk bl' ck' wh' ins' bl2 ck2 wh2 ins2 G.toInt) (hg2 : zGm ro cs nx fc lc bt ch ru ab tk bl2 ck2 wh2 ins2 bl3 ck3 wh3 ins3 r3) (en : N' = N + G) (h1 : pc' = r3) (h2 : pl' = r3) (h3 : pa' = -1) (hr : r = 1) : zNo ro cs nx fc lc bt ch ru ab tk bl ck wh ins bl3 ck3 wh3 ins3 pl N.toInt N'.toInt pc' pl' pa' r := fun B ms R hP g1 g2 hR => by
  have q := zNx_e h hi ms hP g1 g2 hR
  have q2 := zRd_l q
  refine ⟨fun e => ?_, fun a b R' e ha hb2 h4 h5 h6 h7 => ?_⟩
  · rw [e] at q2; exact absurd q2 hb
  · rw [e] at q
    have q3 := hg1 B _ _ hP ha h4 q
    have q4 := hg2 B _ _ hP hb2 h5 q3.2
    have q5 := zadd (x := N) rfl q3.1 en (by omega) (by omega)
    exact ⟨hr, q5, h1.trans q4.1, h2.trans q4.1, h3, q4.2⟩
theorem zNp_1 {N N' G L L' : Int32} (hg : zGm ro cs nx fc lc bt ch ru ab tk bl ck wh ins bl' ck' wh' ins' G.toInt) (en : N' = N + G) (el : L' = L - 1) (hr : r = N'.toInt) : zNp ro cs nx fc lc bt ch ru ab tk bl ck wh ins bl' ck' wh' ins' L.toInt N.toInt L'.toInt N'.toInt r := fun B m R hP h1 h2 hR h3 h4 h5 => by
  have q3 := hg B _ _ hP h1 h2 hR
  have q5 := zadd (x := N) rfl q3.1 en (by omega) (by omega)
  have q6 := zsub (x := L) rfl (show (1 : Int32).toInt = 1 from by decide) el (by have := L.toInt_lt; omega) (by have := L.toInt_lt; omega)
  exact ⟨hr.trans q5, q5, q6, q3.2⟩
theorem zNp_0 (h : pl ≤ 0) : zNp ro cs nx fc lc bt ch ru ab tk bl ck wh ins bl' ck' wh' ins' pl pa pl' pa' r := fun B m R hP h1 h2 hR h3 => by omega
end ZNX
def zUi (f f' : Nat → Int32) (k : Nat) (v : Int) : Prop := ∀ q : Nat, (f' q).toInt = if q = k then v else (f q).toInt
theorem zUi_i {f f' : Nat → Int32} {k : Nat} {x : Int32} {v : Int} (e : f' = upd f k x) (hv : x.toInt = v) : zUi f f' k v := fun q => by
  rw [e]
  by_cases c : q = k
  · rw [if_pos c, c, pk_us, hv]
  · rw [if_neg c, pk_un c]
theorem zPB_0 {ro cs nx fc lc bt : Nat → Int32} {ch ru ab tk : Int} (h1 : ∀ j : Nat, j < 1250 → ro j = 0) (h2 : ∀ j : Nat, j < 400 → bt j = 0) (h3 : ch = 0) (h4 : ru = 0) (h5 : ab = 0) (h6 : tk = 0) : zPB ro cs nx fc lc bt ch ru ab tk (fun _ => []) := by
  have z : ∀ n, zsu (fun _ => 0) n = 0 := fun n => by
    induction n with
    | zero => rfl
    | succ n ih => show zsu (fun _ => 0) n + 0 = 0; rw [ih]
  refine ⟨fun id hid => by rw [h2 id hid]; rfl, by rw [h5]; show (0 : Int) = ((zsu (fun _ => 0) 400 : Nat) : Int); rw [z]; rfl, fun id j _ hj => ?_, fun id _ hj => ?_, fun id j _ _ _ _ hj => ?_, fun id i _ hi => ?_, fun p _ hp => ?_, ?_, by omega, by omega, by omega⟩
  · exact absurd hj (Nat.not_lt_zero _)
  · exact absurd hj (Nat.not_lt_zero _)
  · exact absurd hj (Nat.not_lt_zero _)
  · exact absurd hi (Nat.not_lt_zero _)
  · unfold zRb
    rw [h1 _ (by omega)]
    exact BitVec.getLsbD_zero
  · rw [h6]; show (0 : Int) = ((zsu (fun _ => 0) 400 : Nat) : Int); rw [z]; rfl
theorem zPB_c {ro cs nx fc lc bt ro' cs' nx' fc' lc' bt' : Nat → Int32} {ch ru ab tk ch' ru' ab' tk' : Int} {B : Nat → List Bool} (h : zPB ro cs nx fc lc bt ch ru ab tk B) (hc : ch ≤ 833) (hr : ru ≤ 1250) (e0 : ∀ j : Nat, j < 1250 → ro' j = ro j) (e1 : ∀ j : Nat, j < 833 → cs' j = cs j) (e2 : ∀ j : Nat, j < 833 → nx' j = nx j) (e3 : ∀ j : Nat, j < 400 → fc' j = fc j) (e4 : ∀ j : Nat, j < 400 → lc' j = lc j) (e5 : ∀ j : Nat, j < 400 → bt' j = bt j) (g1 : ch' = ch) (g2 : ru' = ru) (g3 : ab' = ab) (g4 : tk' = tk) : zPB ro' cs' nx' fc' lc' bt' ch' ru' ab' tk' B := by
  subst g1; subst g2; subst g3; subst g4
  obtain ⟨a1, a2, h1, h2, h3, h4, h5, h6⟩ := h
  have kc : ∀ id, id < 400 → ∀ j, j < znc (B id).length → zcc fc' nx' id j = zcc fc nx id j := fun id hid => zcc_c (m := fun i => znc (B i).length) (fun j hj => ⟨fun _ => e3 id hid, fun _ => e2 _ (by have := h1 id j hid hj; omega)⟩)
  have sc : ∀ id, id < 400 → ∀ j, j < znc (B id).length → zsp cs' fc' nx' id j = zsp cs fc nx id j := fun id hid j hj => by
    unfold zsp
    rw [kc id hid j hj, e1 _ (by have := h1 id j hid hj; omega)]
  refine ⟨fun id hid => by rw [e5 id hid]; exact a1 id hid, a2, fun id j hid hj => by rw [kc id hid j hj, sc id hid j hj]; exact h1 id j hid hj, fun id hid hj => by rw [e4 id hid, kc id hid _ (by show _ < znc (B id).length; exact Nat.sub_lt hj (by decide))]; exact h2 id hid hj, fun id j id' j' k1 k2 k3 k4 k5 => by rw [sc id k1 j k3, sc id' k2 j' k4]; exact h3 id j id' j' k1 k2 k3 k4 k5, fun id i hid hi => ?_, fun p k1 k2 => ?_, h6⟩
  · have hz := zck_lt hi
    rw [sc id hid _ hz, ← h4 id i hid hi]
    unfold zRb
    have := h1 id _ hid hz
    have := zck_b i
    have := zrm_s (zck i)
    rw [e0 _ (by omega)]
  · rw [← h5 p k1 k2]
    unfold zRb
    rw [e0 _ (by omega)]
def zTm (t : Nat → Int) (w : Int) : Nat → Nat
  | 0 => 0
  | k + 1 => if t k = w then zTm t w k + 1 else zTm t w k
def zLp (t : Nat → Int) (w : Int) : Nat → Int
  | 0 => -1
  | k + 1 => if t k = w then (k : Int) else zLp t w k
def zPn (t : Nat → Int) (w : Int) : Nat → List Nat
  | 0 => []
  | k + 1 => if t k = w then zPn t w k ++ [((k : Int) - zLp t w k).toNat] else zPn t w k
def zLd (T : Nat → Nat → Int) (w : Int) : Nat → Int
  | 0 => -1
  | d + 1 => if 0 < zTm (T d) w 1024 then (d : Int) else zLd T w d
def zPq (T : Nat → Nat → Int) (w : Int) : Nat → List Bool
  | 0 => []
  | d + 1 => if 0 < zTm (T d) w 1024 then zPq T w d ++ (zGa ((d : Int) - zLd T w d).toNat ++ (zGa (zTm (T d) w 1024) ++ zrL (zPn (T d) w 1024))) else zPq T w d
def zHn (T : Nat → Nat → Int) (w : Int) : Nat → Nat
  | 0 => 0
  | d + 1 => if 0 < zTm (T d) w 1024 then zHn T w d + 1 else zHn T w d
section ZTX
variable {t : Nat → Int} {T : Nat → Nat → Int} {w : Int} {k d : Nat}
theorem zLp_b : -1 ≤ zLp t w k ∧ zLp t w k < k := by
  induction k with
  | zero => exact ⟨Int.le_refl _, (show (-1 : Int) < ((0 : Nat) : Int) from by decide)⟩
  | succ k ih =>
    show -1 ≤ (if t k = w then (k : Int) else zLp t w k) ∧ (if t k = w then (k : Int) else zLp t w k) < _
    split <;> omega
theorem zLd_b : -1 ≤ zLd T w d ∧ zLd T w d < d := by
  induction d with
  | zero => exact ⟨Int.le_refl _, (show (-1 : Int) < ((0 : Nat) : Int) from by decide)⟩
  | succ k ih =>
    show -1 ≤ (if 0 < zTm (T k) w 1024 then (k : Int) else zLd T w k) ∧ (if 0 < zTm (T k) w 1024 then (k : Int) else zLd T w k) < _
    split <;> omega
theorem zTm_b : zTm t w k ≤ k := by
  induction k with
  | zero => exact Nat.le_refl _
  | succ k ih => show (if t k = w then zTm t w k + 1 else zTm t w k) ≤ _; split <;> omega
theorem zPn_l : (zPn t w k).length = zTm t w k := by
  induction k with
  | zero => rfl
  | succ k ih =>
    show (if t k = w then _ else _ : List Nat).length = if t k = w then zTm t w k + 1 else zTm t w k
    split
    · rw [List.length_append, List.length_singleton, ih]
    · exact ih
theorem zPn_o : ∀ m ∈ zPn t w k, 0 < m ∧ m ≤ k := by
  induction k with
  | zero => intro m hm; exact absurd hm List.not_mem_nil
  | succ k ih =>
    intro m hm
    have hm : m ∈ (if t k = w then zPn t w k ++ [((k : Int) - zLp t w k).toNat] else zPn t w k) := hm
    split at hm
    · rcases List.mem_append.mp hm with q | q
      · have := ih m q; omega
      · have := zLp_b (t := t) (w := w) (k := k)
        rw [List.mem_singleton] at q
        omega
    · have := ih m hm; omega
theorem zPn_s : ((zPn t w k).sum : Int) = zLp t w k + 1 := by
  induction k with
  | zero => rfl
  | succ k ih =>
    show ((if t k = w then zPn t w k ++ [((k : Int) - zLp t w k).toNat] else zPn t w k : List Nat).sum : Int) = (if t k = w then (k : Int) else zLp t w k) + 1
    split
    · have := zLp_b (t := t) (w := w) (k := k)
      rw [List.sum_append, List.sum_cons, List.sum_nil]
      omega
    · exact ih
theorem zbd_k {m : Nat} (h : m ≤ 2048) : zbd m ≤ 31 := zbd_le (by omega)
theorem zPn_r (h : k ≤ 1024) : zrO (zPn t w k) := fun m hm => by
  have := zPn_o m hm
  exact ⟨this.1, zbd_k (by omega)⟩
theorem zPs_y (h : 0 < zTm (T d) w 1024) : zPq T w (d + 1) = zPq T w d ++ (zGa ((d : Int) - zLd T w d).toNat ++ (zGa (zTm (T d) w 1024) ++ zrL (zPn (T d) w 1024))) := if_pos h
theorem zPs_n (h : ¬ 0 < zTm (T d) w 1024) : zPq T w (d + 1) = zPq T w d := if_neg h
theorem zLd_y (h : 0 < zTm (T d) w 1024) : zLd T w (d + 1) = d := if_pos h
theorem zLd_n (h : ¬ 0 < zTm (T d) w 1024) : zLd T w (d + 1) = zLd T w d := if_neg h
theorem zHn_y (h : 0 < zTm (T d) w 1024) : zHn T w (d + 1) = zHn T w d + 1 := if_pos h
theorem zHn_n (h : ¬ 0 < zTm (T d) w 1024) : zHn T w (d + 1) = zHn T w d := if_neg h
theorem zPs_p {D : Nat} (h : d ≤ D) : ∃ R, zPq T w D = zPq T w d ++ R := by
  induction D with
  | zero => rw [show d = 0 from by omega]; exact ⟨[], rfl⟩
  | succ D ih =>
    by_cases c : d = D + 1
    · subst c; exact ⟨[], (List.append_nil _).symm⟩
    · obtain ⟨R, hR⟩ := ih (by omega)
      by_cases q : 0 < zTm (T D) w 1024
      · rw [zPs_y q, hR, List.append_assoc]; exact ⟨_, rfl⟩
      · rw [zPs_n q]; exact ⟨R, hR⟩
theorem zPs_z {D : Nat} (h : d ≤ D) (hz : ∀ e, d ≤ e → e < D → ¬ 0 < zTm (T e) w 1024) : zPq T w D = zPq T w d ∧ zLd T w D = zLd T w d ∧ zHn T w D = zHn T w d := by
  induction D with
  | zero => rw [show d = 0 from by omega]; exact ⟨rfl, rfl, rfl⟩
  | succ D ih =>
    by_cases c : d = D + 1
    · subst c; exact ⟨rfl, rfl, rfl⟩
    · have q := hz D (by omega) (by omega)
      rw [zPs_n q, zLd_n q, zHn_n q]
      exact ih (by omega) (fun e h1 h2 => hz e h1 (by omega))
theorem zPs_sp {D : Nat} {R : List Bool} (h : d ≤ D) (e : zPq T w D = zPq T w d ++ R) : (R = [] ∧ ∀ e, d ≤ e → e < D → ¬ 0 < zTm (T e) w 1024) ∨ ∃ d' R', d ≤ d' ∧ d' < D ∧ (∀ e, d ≤ e → e < d' → ¬ 0 < zTm (T e) w 1024) ∧ 0 < zTm (T d') w 1024 ∧ R = zGa ((d' : Int) - zLd T w d).toNat ++ (zGa (zTm (T d') w 1024) ++ (zrL (zPn (T d') w 1024) ++ R')) ∧ zPq T w D = zPq T w (d' + 1) ++ R' := by
  obtain ⟨n, hn⟩ : ∃ n, D = d + n := ⟨D - d, by omega⟩
  induction n generalizing d with
  | zero =>
    have : D = d := by omega
    subst this
    exact Or.inl ⟨List.append_cancel_left (by rw [List.append_nil]; exact e.symm), fun e h1 h2 => by omega⟩
  | succ n ih =>
    by_cases q : 0 < zTm (T d) w 1024
    · obtain ⟨R', hR'⟩ := zPs_p (T := T) (w := w) (d := d + 1) (D := D) (by omega)
      refine Or.inr ⟨d, R', Nat.le_refl _, by omega, fun e h1 h2 => by omega, q, ?_, hR'⟩
      rw [zPs_y q, e, List.append_assoc] at hR'
      have := List.append_cancel_left hR'
      rw [this, List.append_assoc, List.append_assoc]
    · have e2 : zPq T w D = zPq T w (d + 1) ++ R := by rw [zPs_n q]; exact e
      rcases ih (by omega) e2 (by omega) with ⟨r1, r2⟩ | ⟨d', R', r1, r2, r3, r4, r5, r6⟩
      · refine Or.inl ⟨r1, fun e h1 h2 => ?_⟩
        by_cases c : e = d
        · subst c; exact q
        · exact r2 e (by omega) h2
      · refine Or.inr ⟨d', R', by omega, r2, fun e h1 h2 => ?_, r4, ?_, r6⟩
        · by_cases c : e = d
          · subst c; exact q
          · exact r3 e (by omega) h2
        · rw [zLd_n q] at r5; exact r5
end ZTX
def zTo (on : Nat → Int32) (T : Nat → Nat → Int) : Nat → Nat → Int := fun d k => if (on d).toInt ≠ 0 then T d k else 0
theorem zTm_z {w : Int} (h : w ≠ 0) : ∀ {k : Nat}, zTm (fun _ => 0) w k = 0 := by
  intro k
  induction k with
  | zero => rfl
  | succ k ih => show (if (0 : Int) = w then _ else zTm (fun _ => 0) w k) = 0; rw [if_neg (fun e => h e.symm)]; exact ih
theorem zTo_y {on : Nat → Int32} {T : Nat → Nat → Int} {d : Nat} (h : (on d).toInt ≠ 0) : zTo on T d = T d := funext fun k => if_pos h
theorem zTo_n {on : Nat → Int32} {T : Nat → Nat → Int} {d : Nat} (h : (on d).toInt = 0) : zTo on T d = fun _ => 0 := funext fun k => if_neg (fun q => q h)
theorem zTo_z {on : Nat → Int32} {T : Nat → Nat → Int} {d : Nat} {w : Int} (hw : w ≠ 0) (h : (on d).toInt = 0 ∨ ¬ 0 < zTm (T d) w 1024) : ¬ 0 < zTm (zTo on T d) w 1024 := by
  by_cases c : (on d).toInt = 0
  · rw [zTo_n c, zTm_z hw]; omega
  · rw [zTo_y c]; rcases h with h | h
    · exact absurd h c
    · exact h
def zRp (fc nx : Nat → Int32) (B : Nat → List Bool) (bl ck wh ins nu pl : Int) (T : Nat → Nat → Int) (w : Int) (D d : Nat) : Prop := ∃ (ms : List Nat) (R : List Bool), zrO ms ∧ (ms.length : Int) = pl ∧ zRr fc nx B bl ck wh ins (zrL ms ++ R) ∧ zPq T w D = zPq T w d ++ R ∧ nu = zLd T w d ∧ d ≤ D
theorem zRp_n {ro cs nx fc lc bt : Nat → Int32} {ch ru ab tk bl ck wh ins bl' ck' wh' ins' pl nu nu' pc' pl' pa' r w : Int} {B : Nat → List Bool} {T : Nat → Nat → Int} {D d : Nat} (hP : zPB ro cs nx fc lc bt ch ru ab tk B) (hD : D ≤ 120) (h : zRp fc nx B bl ck wh ins nu pl T w D d) (hn : zNo ro cs nx fc lc bt ch ru ab tk bl ck wh ins bl' ck' wh' ins' pl nu nu' pc' pl' pa' r) : (r = 0 ∧ ∀ e, d ≤ e → e < D → ¬ 0 < zTm (T e) w 1024) ∨ (r = 1 ∧ ∃ d' R', d ≤ d' ∧ d' < D ∧ (∀ e, d ≤ e → e < d' → ¬ 0 < zTm (T e) w 1024) ∧ 0 < zTm (T d') w 1024 ∧ nu' = d' ∧ pc' = zTm (T d') w 1024 ∧ pl' = zTm (T d') w 1024 ∧ pa' = -1 ∧ zRr fc nx B bl' ck' wh' ins' (zrL (zPn (T d') w 1024) ++ R') ∧ zPq T w D = zPq T w (d' + 1) ++ R') := by
  obtain ⟨ms, R, h1, h2, h3, h4, h5, h6⟩ := h
  obtain ⟨n1, n2⟩ := hn B ms R hP h1 h2 h3
  rcases zPs_sp h6 h4 with ⟨r1, r2⟩ | ⟨d', R', r1, r2, r3, r4, r5, r6⟩
  · exact Or.inl ⟨n1 r1, r2⟩
  · have b1 := zLd_b (T := T) (w := w) (d := d)
    have b2 := zTm_b (t := T d') (w := w) (k := 1024)
    obtain ⟨m1, m2, m3, m4, m5, m6⟩ := n2 _ _ _ r5 (by omega) r4 (zbd_k (by omega)) (zbd_k (by omega)) (by omega) (by omega)
    exact Or.inr ⟨m1, d', R', r1, r2, r3, r4, by omega, m3, m4, m5, m6, r6⟩
def zCH (ro cs nx fc lc bt : Nat → Int32) (ch ru ab tk : Int) (ro2 cs2 nx2 fc2 lc2 bt2 : Nat → Int32) (ch2 ru2 ab2 tk2 : Int) (h2 l2 on : Nat → Int32) (bl ck wh ins nu pl D : Int) (id : Nat) (B B2 : Nat → List Bool) (T : Nat → Nat → Int) (w : Int) : Prop :=
  zPB ro cs nx fc lc bt ch ru ab tk B ∧ zPB ro2 cs2 nx2 fc2 lc2 bt2 ch2 ru2 ab2 tk2 B2 ∧ B2 id = [] ∧ (h2 id).toInt = 0 ∧ (l2 id).toInt = 0 ∧ zRr fc nx B bl ck wh ins (zPq T w D.toNat) ∧ nu = -1 ∧ pl = 0 ∧ 0 ≤ D ∧ D ≤ 120 ∧ w ≠ 0 ∧ id < 400 ∧ zcs (zuf B2 id (zPq (zTo on T) w D.toNat)) ≤ 40000
def zCo (ro cs nx fc lc bt : Nat → Int32) (ch ru ab tk : Int) (ro2 cs2 nx2 fc2 lc2 bt2 : Nat → Int32) (ch2 ru2 ab2 tk2 : Int) (h2 l2 on : Nat → Int32) (bl ck wh ins nu pl D : Int) (id : Nat) (ro3 cs3 nx3 fc3 lc3 bt3 : Nat → Int32) (ch3 ru3 ab3 tk3 : Int) (h3 l3 : Nat → Int32) (bl3 ck3 wh3 ins3 nu3 pl3 i any : Int) : Prop := ∀ (B B2 : Nat → List Bool) (T : Nat → Nat → Int) (w : Int), zCH ro cs nx fc lc bt ch ru ab tk ro2 cs2 nx2 fc2 lc2 bt2 ch2 ru2 ab2 tk2 h2 l2 on bl ck wh ins nu pl D id B B2 T w → ∃ d : Nat, i ≤ d ∧ d ≤ D.toNat ∧ zRp fc nx B bl3 ck3 wh3 ins3 nu3 pl3 T w D.toNat d ∧ zPB ro3 cs3 nx3 fc3 lc3 bt3 ch3 ru3 ab3 tk3 (zuf B2 id (zPq (zTo on T) w d)) ∧ zUi l2 l3 id (zLd (zTo on T) w d + 1) ∧ zUi h2 h3 id (zHn (zTo on T) w d) ∧ any = if 0 < zHn (zTo on T) w d then 1 else 0
def zCi (ro cs nx fc lc bt : Nat → Int32) (ch ru ab tk : Int) (ro2 cs2 nx2 fc2 lc2 bt2 : Nat → Int32) (ch2 ru2 ab2 tk2 : Int) (h2 l2 on : Nat → Int32) (bl ck wh ins nu pl D : Int) (id : Nat) (ro3 cs3 nx3 fc3 lc3 bt3 : Nat → Int32) (ch3 ru3 ab3 tk3 : Int) (h3 l3 : Nat → Int32) (bl3 ck3 wh3 ins3 nu3 pl3 i j pa3 pc3 ah : Int) : Prop := ∀ (B B2 : Nat → List Bool) (T : Nat → Nat → Int) (w : Int), zCH ro cs nx fc lc bt ch ru ab tk ro2 cs2 nx2 fc2 lc2 bt2 ch2 ru2 ab2 tk2 h2 l2 on bl ck wh ins nu pl D id B B2 T w → ∃ (d : Nat) (R : List Bool), i ≤ d ∧ d < D.toNat ∧ nu3 = d ∧ (on d).toInt ≠ 0 ∧ 0 < zTm (T d) w 1024 ∧ pc3 = zTm (T d) w 1024 ∧ pl3 = (zTm (T d) w 1024 : Int) - j ∧ 0 ≤ j ∧ j ≤ zTm (T d) w 1024 ∧ pa3 = ah ∧ ah = (((zPn (T d) w 1024).take j.toNat).sum : Int) - 1 ∧ zRr fc nx B bl3 ck3 wh3 ins3 (zrL ((zPn (T d) w 1024).drop j.toNat) ++ R) ∧ zPq T w D.toNat = zPq T w (d + 1) ++ R ∧ zPB ro3 cs3 nx3 fc3 lc3 bt3 ch3 ru3 ab3 tk3 (zuf B2 id (zPq (zTo on T) w d ++ (zGa ((d : Int) - zLd (zTo on T) w d).toNat ++ (zGa (zTm (T d) w 1024) ++ zrL ((zPn (T d) w 1024).take j.toNat))))) ∧ zUi l2 l3 id (d + 1) ∧ zUi h2 h3 id (zHn (zTo on T) w d + 1)
def zCf (ro cs nx fc lc bt : Nat → Int32) (ch ru ab tk : Int) (ro2 cs2 nx2 fc2 lc2 bt2 : Nat → Int32) (ch2 ru2 ab2 tk2 : Int) (h2 l2 on : Nat → Int32) (bl ck wh ins nu pl D : Int) (id : Nat) (ro3 cs3 nx3 fc3 lc3 bt3 : Nat → Int32) (ch3 ru3 ab3 tk3 : Int) (h3 l3 : Nat → Int32) (r : Int) : Prop := ∀ (B B2 : Nat → List Bool) (T : Nat → Nat → Int) (w : Int), zCH ro cs nx fc lc bt ch ru ab tk ro2 cs2 nx2 fc2 lc2 bt2 ch2 ru2 ab2 tk2 h2 l2 on bl ck wh ins nu pl D id B B2 T w → zPB ro3 cs3 nx3 fc3 lc3 bt3 ch3 ru3 ab3 tk3 (zuf B2 id (zPq (zTo on T) w D.toNat)) ∧ zUi l2 l3 id (zLd (zTo on T) w D.toNat + 1) ∧ zUi h2 h3 id (zHn (zTo on T) w D.toNat) ∧ r = if 0 < zHn (zTo on T) w D.toNat then 1 else 0
section ZCO
variable {ro cs nx fc lc bt ro2 cs2 nx2 fc2 lc2 bt2 ro3 cs3 nx3 fc3 lc3 bt3 ro4 cs4 nx4 fc4 lc4 bt4 h2 l2 on h3 l3 h4 l4 : Nat → Int32} {ch ru ab tk ch2 ru2 ab2 tk2 ch3 ru3 ab3 tk3 ch4 ru4 ab4 tk4 bl ck wh ins nu pl D bl3 ck3 wh3 ins3 nu3 pl3 bl4 ck4 wh4 ins4 nu4 pl4 i i' any any' r j j' pa3 pc3 pa4 pc4 ah ah' : Int} {id : Nat}
theorem zUi_rf {f : Nat → Int32} {k : Nat} {v : Int} (h : (f k).toInt = v) : zUi f f k v := fun q => by
  by_cases c : q = k
  · rw [if_pos c, c, h]
  · rw [if_neg c]
theorem zUi_e {f g : Nat → Int32} {k : Nat} {v v' : Int} (h : zUi f g k v) (e : v' = v) : zUi f g k v' := by rw [e]; exact h
theorem zUi_t {f g h : Nat → Int32} {k : Nat} {u v : Int} (h1 : zUi f g k u) (h2 : zUi g h k v) : zUi f h k v := fun q => by
  rw [h2 q]
  by_cases c : q = k
  · rw [if_pos c, if_pos c]
  · rw [if_neg c, if_neg c, h1 q, if_neg c]
theorem zUi_k {f g : Nat → Int32} {k : Nat} {v : Int} (h : zUi f g k v) : (g k).toInt = v := by rw [h k, if_pos rfl]
theorem zHn_b {T : Nat → Nat → Int} {w : Int} : ∀ {d : Nat}, zHn T w d ≤ d := by
  intro d
  induction d with
  | zero => exact Nat.le_refl _
  | succ d ih => show (if 0 < zTm (T d) w 1024 then zHn T w d + 1 else zHn T w d) ≤ _; split <;> omega
theorem zCo_0 (hi : i = 0) (ha : any = 0) : zCo ro cs nx fc lc bt ch ru ab tk ro2 cs2 nx2 fc2 lc2 bt2 ch2 ru2 ab2 tk2 h2 l2 on bl ck wh ins nu pl D id ro2 cs2 nx2 fc2 lc2 bt2 ch2 ru2 ab2 tk2 h2 l2 bl ck wh ins nu pl i any := fun B B2 T w h => by
  obtain ⟨a1, a2, a3, a4, a5, a6, a7, a8, a9, a10, a11, a12, a13⟩ := h
  refine ⟨0, by omega, Nat.zero_le _, ⟨[], zPq T w D.toNat, fun m hm => absurd hm List.not_mem_nil, by rw [a8]; rfl, a6, rfl, by rw [a7]; rfl, Nat.zero_le _⟩, ?_, zUi_rf (by rw [a5]; rfl), zUi_rf (by rw [a4]; rfl), by rw [ha]; rfl⟩
  show zPB ro2 cs2 nx2 fc2 lc2 bt2 ch2 ru2 ab2 tk2 (zuf B2 id [])
  rw [← a3, zuf_i]
  exact a2
theorem zCo_n (h : zCo ro cs nx fc lc bt ch ru ab tk ro2 cs2 nx2 fc2 lc2 bt2 ch2 ru2 ab2 tk2 h2 l2 on bl ck wh ins nu pl D id ro3 cs3 nx3 fc3 lc3 bt3 ch3 ru3 ab3 tk3 h3 l3 bl3 ck3 wh3 ins3 nu3 pl3 i any) (hn : zNo ro cs nx fc lc bt ch ru ab tk bl3 ck3 wh3 ins3 bl4 ck4 wh4 ins4 pl3 nu3 nu4 pc4 pl4 pa4 r) (hr : r ≠ 0) (ho : 0 ≤ nu4 → nu4 < D → (on nu4.toNat).toInt = 0) (hi : i' = i + 1) : zCo ro cs nx fc lc bt ch ru ab tk ro2 cs2 nx2 fc2 lc2 bt2 ch2 ru2 ab2 tk2 h2 l2 on bl ck wh ins nu pl D id ro3 cs3 nx3 fc3 lc3 bt3 ch3 ru3 ab3 tk3 h3 l3 bl4 ck4 wh4 ins4 nu4 pl4 i' any := fun B B2 T w hh => by
  obtain ⟨d, b1, b2, b3, b4, b5, b6, b7⟩ := h B B2 T w hh
  obtain ⟨a1, a2, a3, a4, a5, a6, a7, a8, a9, a10, a11, a12, a13⟩ := hh
  rcases zRp_n a1 (by omega) b3 hn with ⟨c1, -⟩ | ⟨-, d', R', c1, c2, c3, c4, c5, c6, c7, c8, c9, c10⟩
  · exact absurd c1 hr
  · have o1 := ho (by omega) (by omega)
    rw [show nu4.toNat = d' from by omega] at o1
    have z1 := zPs_z (T := zTo on T) (w := w) (d := d) (D := d' + 1) (by omega) (fun e e1 e2 => by
      by_cases q : e = d'
      · subst q; exact zTo_z a11 (Or.inl o1)
      · exact zTo_z a11 (Or.inr (c3 e e1 (by omega))))
    refine ⟨d' + 1, by omega, by omega, ⟨zPn (T d') w 1024, R', zPn_r (Nat.le_refl _), by rw [zPn_l]; exact c7.symm, c9, c10, by rw [zLd_y c4]; exact c5, by omega⟩, ?_, ?_, ?_, ?_⟩
    · rw [z1.1]; exact b4
    · rw [z1.2.1]; exact b5
    · rw [z1.2.2]; exact b6
    · rw [z1.2.2]; exact b7
theorem zCf_n (h : zCo ro cs nx fc lc bt ch ru ab tk ro2 cs2 nx2 fc2 lc2 bt2 ch2 ru2 ab2 tk2 h2 l2 on bl ck wh ins nu pl D id ro3 cs3 nx3 fc3 lc3 bt3 ch3 ru3 ab3 tk3 h3 l3 bl3 ck3 wh3 ins3 nu3 pl3 i any) (hn : zNo ro cs nx fc lc bt ch ru ab tk bl3 ck3 wh3 ins3 bl4 ck4 wh4 ins4 pl3 nu3 nu4 pc4 pl4 pa4 r) (hr : r = 0) (ha : any' = any) : zCf ro cs nx fc lc bt ch ru ab tk ro2 cs2 nx2 fc2 lc2 bt2 ch2 ru2 ab2 tk2 h2 l2 on bl ck wh ins nu pl D id ro3 cs3 nx3 fc3 lc3 bt3 ch3 ru3 ab3 tk3 h3 l3 any' := fun B B2 T w hh => by
  obtain ⟨d, b1, b2, b3, b4, b5, b6, b7⟩ := h B B2 T w hh
  obtain ⟨a1, a2, a3, a4, a5, a6, a7, a8, a9, a10, a11, a12, a13⟩ := hh
  rcases zRp_n a1 (by omega) b3 hn with ⟨-, c1⟩ | ⟨c1, -⟩
  · have z1 := zPs_z (T := zTo on T) (w := w) (d := d) (D := D.toNat) b2 (fun e e1 e2 => zTo_z a11 (Or.inr (c1 e e1 e2)))
    rw [z1.1, z1.2.1, z1.2.2, ha]
    exact ⟨b4, b5, b6, b7⟩
  · omega
theorem zCf_i (h : zCo ro cs nx fc lc bt ch ru ab tk ro2 cs2 nx2 fc2 lc2 bt2 ch2 ru2 ab2 tk2 h2 l2 on bl ck wh ins nu pl D id ro3 cs3 nx3 fc3 lc3 bt3 ch3 ru3 ab3 tk3 h3 l3 bl3 ck3 wh3 ins3 nu3 pl3 i any) (hi : 120 ≤ i) (ha : any' = any) : zCf ro cs nx fc lc bt ch ru ab tk ro2 cs2 nx2 fc2 lc2 bt2 ch2 ru2 ab2 tk2 h2 l2 on bl ck wh ins nu pl D id ro3 cs3 nx3 fc3 lc3 bt3 ch3 ru3 ab3 tk3 h3 l3 any' := fun B B2 T w hh => by
  obtain ⟨d, b1, b2, b3, b4, b5, b6, b7⟩ := h B B2 T w hh
  obtain ⟨a1, a2, a3, a4, a5, a6, a7, a8, a9, a10, a11, a12, a13⟩ := hh
  rw [show D.toNat = d from by omega, ha]
  exact ⟨b4, b5, b6, b7⟩
theorem zCi_0 (h : zCo ro cs nx fc lc bt ch ru ab tk ro2 cs2 nx2 fc2 lc2 bt2 ch2 ru2 ab2 tk2 h2 l2 on bl ck wh ins nu pl D id ro3 cs3 nx3 fc3 lc3 bt3 ch3 ru3 ab3 tk3 h3 l3 bl3 ck3 wh3 ins3 nu3 pl3 i any) (hn : zNo ro cs nx fc lc bt ch ru ab tk bl3 ck3 wh3 ins3 bl4 ck4 wh4 ins4 pl3 nu3 nu4 pc4 pl4 pa4 r) (hr : r ≠ 0) (ho : (on nu4.toNat).toInt ≠ 0) (hid : id < 400)
    (s1 : 0 ≤ (l3 id).toInt → (l3 id).toInt ≤ nu4 → nu4 ≤ 1000 → 0 < pc4 → zAp ro3 cs3 nx3 fc3 lc3 bt3 ch3 ru3 ab3 tk3 ro4 cs4 nx4 fc4 lc4 bt4 ch4 ru4 ab4 tk4 id (zGa (nu4 + 1 - (l3 id).toInt).toNat ++ zGa pc4.toNat)) (s2 : 0 ≤ nu4 → nu4 ≤ 1000 → zUi l3 l4 id (nu4 + 1)) (s3 : 0 ≤ (h3 id).toInt → (h3 id).toInt ≤ 1000 → zUi h3 h4 id ((h3 id).toInt + 1)) (hj : j = 0) (hah : ah = -1) : zCi ro cs nx fc lc bt ch ru ab tk ro2 cs2 nx2 fc2 lc2 bt2 ch2 ru2 ab2 tk2 h2 l2 on bl ck wh ins nu pl D id ro4 cs4 nx4 fc4 lc4 bt4 ch4 ru4 ab4 tk4 h4 l4 bl4 ck4 wh4 ins4 nu4 pl4 i j pa4 pc4 ah := fun B B2 T w hh => by
  obtain ⟨d, b1, b2, b3, b4, b5, b6, b7⟩ := h B B2 T w hh
  obtain ⟨a1, a2, a3, a4, a5, a6, a7, a8, a9, a10, a11, a12, a13⟩ := hh
  rcases zRp_n a1 (by omega) b3 hn with ⟨c1, -⟩ | ⟨-, d', R', c1, c2, c3, c4, c5, c6, c7, c8, c9, c10⟩
  · exact absurd c1 hr
  · rw [show nu4.toNat = d' from by omega] at ho
    have z1 := zPs_z (T := zTo on T) (w := w) (d := d) (D := d') (by omega) (fun e e1 e2 => zTo_z a11 (Or.inr (c3 e e1 (by omega))))
    have l1 := zUi_k b5
    have h1 := zUi_k b6
    have lb := zLd_b (T := zTo on T) (w := w) (d := d)
    have hb := zHn_b (T := zTo on T) (w := w) (d := d)
    have q1 := s1 (by omega) (by omega) (by omega) (by omega)
    rw [show nu4 + 1 - (l3 id).toInt = (d' : Int) - zLd (zTo on T) w d' from by rw [z1.2.1]; omega, show pc4.toNat = zTm (T d') w 1024 from by omega] at q1
    have q2 := q1 _ b4 a12
    rw [zuf_s, zuf_z, ← z1.1] at q2
    have c4' : 0 < zTm (zTo on T d') w 1024 := by rw [zTo_y ho]; exact c4
    have pre := zPs_p (T := zTo on T) (w := w) (d := d' + 1) (D := D.toNat) (by omega)
    obtain ⟨X, hX⟩ := pre
    rw [zPs_y c4', zTo_y ho] at hX
    have q3 := q2 (Nat.le_trans (zcs_m a12 (by rw [hX]; simp only [List.length_append]; omega)) a13)
    subst hj
    refine ⟨d', R', by omega, c2, c5, ho, c4, c6, by omega, Int.le_refl _, by omega, by omega, by rw [hah]; rfl, c9, c10, ?_, zUi_t b5 (zUi_e (s2 (by omega) (by omega)) (by omega)), zUi_t b6 (zUi_e (s3 (by omega) (by omega)) (by rw [h1, z1.2.2]))⟩
    show zPB ro4 cs4 nx4 fc4 lc4 bt4 ch4 ru4 ab4 tk4 (zuf B2 id (zPq (zTo on T) w d' ++ (zGa ((d' : Int) - zLd (zTo on T) w d').toNat ++ (zGa (zTm (T d') w 1024) ++ []))))
    rw [List.append_nil]
    exact q3
theorem zCi_s (h : zCi ro cs nx fc lc bt ch ru ab tk ro2 cs2 nx2 fc2 lc2 bt2 ch2 ru2 ab2 tk2 h2 l2 on bl ck wh ins nu pl D id ro3 cs3 nx3 fc3 lc3 bt3 ch3 ru3 ab3 tk3 h3 l3 bl3 ck3 wh3 ins3 nu3 pl3 i j pa3 pc3 ah) (hj : j < pc3) (hn : zNp ro cs nx fc lc bt ch ru ab tk bl3 ck3 wh3 ins3 bl4 ck4 wh4 ins4 pl3 pa3 pl4 pa4 r) (hid : id < 400) {P A G : Int32} (hP : P.toInt = r) (hA : A.toInt = ah) (eG : G = P - A)
    (s1 : 0 < G.toInt → zAp ro3 cs3 nx3 fc3 lc3 bt3 ch3 ru3 ab3 tk3 ro4 cs4 nx4 fc4 lc4 bt4 ch4 ru4 ab4 tk4 id (zGa G.toInt.toNat)) (hj' : j' = j + 1) (hah : ah' = r) : zCi ro cs nx fc lc bt ch ru ab tk ro2 cs2 nx2 fc2 lc2 bt2 ch2 ru2 ab2 tk2 h2 l2 on bl ck wh ins nu pl D id ro4 cs4 nx4 fc4 lc4 bt4 ch4 ru4 ab4 tk4 h3 l3 bl4 ck4 wh4 ins4 nu3 pl4 i j' pa4 pc3 ah' := fun B B2 T w hh => by
  obtain ⟨d, R, b1, b2, b3, b4, b5, b6, b7, b8, b9, b10, b11, b12, b13, b14, b15, b16⟩ := h B B2 T w hh
  obtain ⟨a1, a2, a3, a4, a5, a6, a7, a8, a9, a10, a11, a12, a13⟩ := hh
  have hl : j.toNat < (zPn (T d) w 1024).length := by rw [zPn_l]; omega
  have hm := zPn_r (t := T d) (w := w) (Nat.le_refl 1024) _ (List.getElem_mem hl)
  rw [zrL_d hl, List.append_assoc] at b12
  have ts : (zPn (T d) w 1024).take (j.toNat + 1) = (zPn (T d) w 1024).take j.toNat ++ [(zPn (T d) w 1024)[j.toNat]] := by rw [List.take_succ, List.getElem?_eq_getElem hl]; rfl
  have ss : ((zPn (T d) w 1024).take (j.toNat + 1)).sum ≤ (zPn (T d) w 1024).sum := by
    conv => rhs; rw [← List.take_append_drop (j.toNat + 1) (zPn (T d) w 1024), List.sum_append]
    omega
  have sp := zPn_s (t := T d) (w := w) (k := 1024)
  have lb := zLp_b (t := T d) (w := w) (k := 1024)
  have s2 : ((zPn (T d) w 1024).take (j.toNat + 1)).sum = ((zPn (T d) w 1024).take j.toNat).sum + (zPn (T d) w 1024)[j.toNat] := by rw [ts, List.sum_append, List.sum_cons, List.sum_nil, Nat.add_zero]
  obtain ⟨n1, n2, n3, n4⟩ := hn B _ _ a1 hm.1 hm.2 b12 (by omega) (by omega) (by omega)
  have g1 := zsub hP hA eG (by omega) (by omega)
  have q1 := s1 (by omega) _ b14 a12
  rw [zuf_s, zuf_z, show G.toInt.toNat = (zPn (T d) w 1024)[j.toNat] from by omega] at q1
  have ez : zrL ((zPn (T d) w 1024).take (j.toNat + 1)) = zrL ((zPn (T d) w 1024).take j.toNat) ++ zGa (zPn (T d) w 1024)[j.toNat] := by
    rw [ts, zrL_a, zrL_c]
    show _ ++ (_ ++ []) = _
    rw [List.append_nil]
  have c4' : 0 < zTm (zTo on T d) w 1024 := by rw [zTo_y b4]; exact b5
  obtain ⟨X, hX⟩ := zPs_p (T := zTo on T) (w := w) (d := d + 1) (D := D.toNat) (by omega)
  rw [zPs_y c4', zTo_y b4] at hX
  have hd : zrL (zPn (T d) w 1024) = zrL ((zPn (T d) w 1024).take (j.toNat + 1)) ++ zrL ((zPn (T d) w 1024).drop (j.toNat + 1)) := by rw [← zrL_a, List.take_append_drop]
  rw [hd, ez] at hX
  have q3 := q1 (Nat.le_trans (zcs_m a12 (by rw [hX]; simp only [List.length_append]; omega)) a13)
  refine ⟨d, R, b1, b2, b3, b4, b5, b6, by omega, by omega, by omega, by omega, ?_, ?_, b13, ?_, b15, b16⟩
  · rw [show j'.toNat = j.toNat + 1 from by omega, s2]; omega
  · rw [show j'.toNat = j.toNat + 1 from by omega]; exact n4
  · rw [show j'.toNat = j.toNat + 1 from by omega, ez]
    simp only [List.append_assoc] at q3 ⊢
    exact q3
theorem zCo_i (h : zCi ro cs nx fc lc bt ch ru ab tk ro2 cs2 nx2 fc2 lc2 bt2 ch2 ru2 ab2 tk2 h2 l2 on bl ck wh ins nu pl D id ro3 cs3 nx3 fc3 lc3 bt3 ch3 ru3 ab3 tk3 h3 l3 bl3 ck3 wh3 ins3 nu3 pl3 i j pa3 pc3 ah) (hj : pc3 ≤ j) (hi : i' = i + 1) (ha : any = 1) : zCo ro cs nx fc lc bt ch ru ab tk ro2 cs2 nx2 fc2 lc2 bt2 ch2 ru2 ab2 tk2 h2 l2 on bl ck wh ins nu pl D id ro3 cs3 nx3 fc3 lc3 bt3 ch3 ru3 ab3 tk3 h3 l3 bl3 ck3 wh3 ins3 nu3 pl3 i' any := fun B B2 T w hh => by
  obtain ⟨d, R, b1, b2, b3, b4, b5, b6, b7, b8, b9, b10, b11, b12, b13, b14, b15, b16⟩ := h B B2 T w hh
  have ej : j.toNat = (zPn (T d) w 1024).length := by rw [zPn_l]; omega
  have c4' : 0 < zTm (zTo on T d) w 1024 := by rw [zTo_y b4]; exact b5
  rw [ej, List.drop_length] at b12
  rw [ej, List.take_length] at b14
  refine ⟨d + 1, by omega, by omega, ⟨[], R, fun m hm => absurd hm List.not_mem_nil, by show ((0 : Nat) : Int) = pl3; omega, b12, b13, by rw [zLd_y b5]; exact b3, by omega⟩, ?_, ?_, ?_, ?_⟩
  · rw [zPs_y c4', zTo_y b4]; exact b14
  · rw [zLd_y c4']; exact b15
  · rw [zHn_y c4']; exact zUi_e b16 (by omega)
  · rw [zHn_y c4', if_pos (by omega)]; exact ha
end ZCO
def zIo (on : Nat → Int32) (n : Int) (p : Int32) (r : Int) : Prop := (r = 0 ∨ r = 1) ∧ (r = 1 ↔ (0 ≤ p.toInt ∧ p.toInt < n ∧ (on p.toNatClampNeg).toInt ≠ 0))
theorem zIo_i {on : Nat → Int32} {n r : Int} {p z : Int32} (hr : r = 0 ∨ r = 1) (h : (0 ≤ p.toInt ∧ p.toInt < n ∧ z = on p.toNatClampNeg ∧ ((r = 1 ∧ z.toInt ≠ 0) ∨ (r = 0 ∧ z.toInt = 0))) ∨ (r = 0 ∧ (p.toInt < 0 ∨ n ≤ p.toInt))) : zIo on n p r := by
  refine ⟨hr, ?_⟩
  rcases h with ⟨h1, h2, h3, h4⟩ | ⟨h1, h2⟩
  · rw [h3] at h4; omega
  · omega
theorem zIo_1 {on : Nat → Int32} {n r : Int} {p : Int32} (h : zIo on n p r) (hr : r ≠ 0) : (on p.toNatClampNeg).toInt ≠ 0 := by
  have := h.1; exact (h.2.mp (by omega)).2.2
theorem zIo_0 {on : Nat → Int32} {n r : Int} {p : Int32} (h : zIo on n p r) (hr : r = 0) : 0 ≤ p.toInt → p.toInt < n → (on p.toNatClampNeg).toInt = 0 := fun a b => by
  by_cases c : (on p.toNatClampNeg).toInt = 0
  · exact c
  · have := h.2.mpr ⟨a, b, c⟩; omega
def zRv (on : Nat → Int32) (n : Int) (p : Int32) (r : Int) (f f3 : Nat → Int32) (v : Int) : Prop := zIo on n p r ∧ ((r = 1 ∧ zUi f f3 p.toNatClampNeg v) ∨ (r = 0 ∧ f3 = f))
theorem zRv_1 {on : Nat → Int32} {n r v : Int} {p x : Int32} {f f3 : Nat → Int32} (h : zIo on n p r) (hr : r ≠ 0) (e : f3 = upd f p.toNatClampNeg x) (hx : x.toInt = v) {r' : Int} (hr' : r' = 1) : zRv on n p r' f f3 v := by
  have e1 : r' = r := by have := h.1; omega
  rw [e1]
  exact ⟨h, Or.inl ⟨by omega, zUi_i e hx⟩⟩
theorem zRv_0 {on : Nat → Int32} {n r v : Int} {p : Int32} {f : Nat → Int32} (h : zIo on n p r) (hr : r = 0) {r' : Int} (hr' : r' = 0) : zRv on n p r' f f v := by
  rw [hr', ← hr]
  exact ⟨h, Or.inr ⟨hr, rfl⟩⟩
theorem zRv_e {on : Nat → Int32} {n r r' v : Int} {p : Int32} {f f3 : Nat → Int32} (h : zRv on n p r f f3 v) (e : r' = r) : zRv on n p r' f f3 v := by rw [e]; exact h
def zVo (s : Nat → Int64) (i fr : Nat → Int32) (n : Int) (V : List Int) : Prop := zSrt s n ∧ (V.length : Int) = n ∧ n ≤ 400 ∧ (∀ a : Nat, (a : Int) < n → 0 ≤ (i a).toInt ∧ V[(i a).toInt.toNat]? = some (s a).toInt) ∧ (∀ id : Nat, (id : Int) < n → ∃ a : Nat, (a : Int) < n ∧ (i a).toInt = id) ∧ (∀ j : Nat, j < 400 → fr j = 0)
section ZVO
variable {s s' : Nat → Int64} {i i' fr fr' : Nat → Int32} {n n' w r p : Int} {V : List Int}
theorem zVo_m (h : zVo s i fr n V) : w ∈ V ↔ ∃ a : Nat, (a : Int) < n ∧ (s a).toInt = w := by
  obtain ⟨h1, h2, h3, h4, h5, h6⟩ := h
  constructor
  · intro hw
    obtain ⟨id, hid, e⟩ := List.getElem_of_mem hw
    obtain ⟨a, q1, q2⟩ := h5 id (by omega)
    have q3 := (h4 a q1).2
    rw [q2, Int.toNat_natCast, List.getElem?_eq_getElem hid, e] at q3
    exact ⟨a, q1, (Option.some.inj q3).symm⟩
  · rintro ⟨a, q1, q2⟩
    rw [← q2]
    exact List.mem_of_getElem? (h4 a q1).2
theorem zVo_nd (h : zVo s i fr n V) : V.Nodup := by
  obtain ⟨h1, h2, h3, h4, h5, h6⟩ := h
  unfold List.Nodup
  rw [List.pairwise_iff_getElem]
  intro j k hj hk hjk e
  obtain ⟨a, q1, q2⟩ := h5 j (by omega)
  obtain ⟨b, r1, r2⟩ := h5 k (by omega)
  have q3 := (h4 a q1).2
  have r3 := (h4 b r1).2
  rw [q2, Int.toNat_natCast, List.getElem?_eq_getElem hj] at q3
  rw [r2, Int.toNat_natCast, List.getElem?_eq_getElem hk] at r3
  have e1 := Option.some.inj q3
  have e2 := Option.some.inj r3
  by_cases c : a = b
  · subst c; omega
  · exact zSrt_ne h1 q1 r1 c (by rw [← e1, ← e2, e])
def zIf (V : List Int) (w r : Int) : Prop := (r = -1 ∧ w ∉ V) ∨ (0 ≤ r ∧ V[r.toNat]? = some w)
theorem zIf_i {P : Int32} (h : zVo s i fr n V) (h1 : zRf s n w P.toInt) (h2 : 0 ≤ P.toInt ∧ P.toInt < n → r = (i P.toNatClampNeg).toInt) (h3 : P.toInt = -1 → r = -1) : zIf V w r := by
  rcases h1 h.1 with ⟨q1, q2⟩ | ⟨q1, q2, q3⟩
  · refine Or.inl ⟨h3 q1, fun hw => ?_⟩
    obtain ⟨a, a1, a2⟩ := (zVo_m h).mp hw
    exact q2 a a1 a2
  · have q4 := h2 ⟨q1, q2⟩
    have q5 : P.toNatClampNeg = P.toInt.toNat := rfl
    have q6 := h.2.2.2.1 P.toInt.toNat (by omega)
    rw [q5] at q4
    rw [← q4] at q6
    exact Or.inr ⟨q6.1, by rw [q6.2, q3]⟩
theorem zVo_i (h : zVo s i fr n V) (hn : n < 400) (hw : w ∉ V) (hi : zIns s s' i i' n w) (e : n' = n + 1) : zVo s' i' fr n' (V ++ [w]) := by
  have h0 := h
  obtain ⟨h1, h2, h3, h4, h5, h6⟩ := h
  subst e
  obtain ⟨p, p1, p2, p3, p4, p5, p6⟩ := hi
  have q2 := p2 h1
  have ne : ∀ a : Nat, (a : Int) < n → (s a).toInt ≠ w := fun a ha e => hw ((zVo_m h0).mpr ⟨a, ha, e⟩)
  have cs : ∀ a : Nat, (a : Int) < n + 1 → (a < p ∧ s' a = s a ∧ i' a = i a) ∨ (a = p) ∨ (∃ b, a = b + 1 ∧ p ≤ b ∧ (b : Int) < n ∧ s' a = s b ∧ i' a = i b) := fun a ha => by
    rcases Nat.lt_trichotomy a p with c | c | c
    · exact Or.inl ⟨c, p3 a c⟩
    · exact Or.inr (Or.inl c)
    · obtain ⟨b, hb⟩ : ∃ b, a = b + 1 := ⟨a - 1, by omega⟩
      have := p6 b (by omega) (by omega)
      exact Or.inr (Or.inr ⟨b, hb, by omega, by omega, by rw [hb]; exact this⟩)
  refine ⟨fun a b hab hb => ?_, by rw [List.length_append, List.length_singleton]; omega, by omega, fun a ha => ?_, fun id hid => ?_, h6⟩
  · rcases cs a (by omega) with ⟨c1, c2, -⟩ | c1 | ⟨a', c1, c2, c3, c4, -⟩ <;> rcases cs b hb with ⟨d1, d2, -⟩ | d1 | ⟨b', d1, d2, d3, d4, -⟩
    · rw [c2, d2]; exact h1 a b hab (by omega)
    · rw [c2, d1, p4]; exact q2.1 a (by omega)
    · rw [c2, d4]; exact h1 a b' (by omega) d3
    · omega
    · omega
    · rw [c1, d4, p4]
      have := q2.2 b' (by omega) d3
      have := ne b' d3
      omega
    · omega
    · omega
    · rw [c4, d4]; exact h1 a' b' (by omega) d3
  · rcases cs a ha with ⟨c1, c2, c3⟩ | c1 | ⟨a', c1, c2, c3, c4, c5⟩
    · have q := h4 a (by omega)
      have hl : (i a).toInt.toNat < V.length := by
        rcases Nat.lt_or_ge (i a).toInt.toNat V.length with e | e
        · exact e
        · rw [List.getElem?_eq_none e] at q; exact absurd q.2 (by simp)
      rw [c2, c3, List.getElem?_append_left hl]
      exact q
    · rw [c1, p4, p5]
      refine ⟨by omega, ?_⟩
      rw [show n.toNat = V.length from by omega, List.getElem?_append_right (Nat.le_refl _), Nat.sub_self]
      rfl
    · have q := h4 a' c3
      have hl : (i a').toInt.toNat < V.length := by
        rcases Nat.lt_or_ge (i a').toInt.toNat V.length with e | e
        · exact e
        · rw [List.getElem?_eq_none e] at q; exact absurd q.2 (by simp)
      rw [c4, c5, List.getElem?_append_left hl]
      exact q
  · by_cases c : (id : Int) = n
    · exact ⟨p, by omega, by rw [p5]; omega⟩
    · obtain ⟨a, a1, a2⟩ := h5 id (by omega)
      by_cases d : a < p
      · exact ⟨a, by omega, by rw [(p3 a d).2]; exact a2⟩
      · exact ⟨a + 1, by omega, by rw [(p6 a (by omega) a1).2]; exact a2⟩
theorem zfl {q : Int → Bool} : ∀ {V : List Int} {f : Nat → Int32} {k : Nat}, k ≤ V.length → (∀ j : Nat, (hj : j < k) → j < V.length → ((f j).toInt = -1 ↔ V[j]?.any q = false)) → zcn f k = ((V.take k).filter q).length := by
  intro V f k
  induction k with
  | zero => intro _ _; rfl
  | succ k ih =>
    intro hk hf
    have h1 := ih (by omega) (fun j hj hl => hf j (by omega) hl)
    have h2 := hf k (by omega) (by omega)
    have hl : k < V.length := by omega
    rw [List.getElem?_eq_getElem hl] at h2
    have e : V.take (k + 1) = V.take k ++ [V[k]] := by rw [List.take_succ, List.getElem?_eq_getElem hl]; rfl
    rw [e, List.filter_append, List.length_append, ← h1]
    show zcn f k + (if (f k).toInt = -1 then 0 else 1) = _
    cases hq : q V[k]
    · have : (f k).toInt = -1 := h2.mpr hq
      rw [if_pos this, List.filter_cons_of_neg (by rw [hq]; decide)]
      rfl
    · have : ¬ (f k).toInt = -1 := fun c => by have := h2.mp c; change q V[k] = false at this; rw [hq] at this; exact absurd this (by decide)
      rw [if_neg this, List.filter_cons_of_pos hq]
      rfl
theorem zfg {q : Int → Bool} {V : List Int} {k : Nat} (hk : k < V.length) (hq : q V[k] = true) : (V.filter q)[((V.take k).filter q).length]? = some V[k] := by
  have e : V = V.take k ++ V[k] :: V.drop (k + 1) := by rw [← List.drop_eq_getElem_cons hk, List.take_append_drop]
  have e2 : V.filter q = (V.take k).filter q ++ V[k] :: (V.drop (k + 1)).filter q := by
    conv => lhs; rw [e, List.filter_append]
    rw [List.filter_cons_of_pos hq]
  rw [e2, List.getElem?_append_right (Nat.le_refl _), Nat.sub_self]
  rfl
theorem zcn_sj {f : Nat → Int32} : ∀ {k m : Nat}, m < zcn f k → ∃ a, a < k ∧ (f a).toInt ≠ -1 ∧ zcn f a = m := by
  intro k
  induction k with
  | zero => intro m h; exact absurd h (Nat.not_lt_zero _)
  | succ k ih =>
    intro m h
    have h : m < zcn f k + (if (f k).toInt = -1 then 0 else 1) := h
    by_cases c : m < zcn f k
    · obtain ⟨a, a1, a2⟩ := ih c; exact ⟨a, by omega, a2⟩
    · by_cases d : (f k).toInt = -1
      · rw [if_pos d] at h; omega
      · rw [if_neg d] at h; exact ⟨k, by omega, d, by omega⟩
theorem zVo_p (h : zVo s i fr n V) : ((List.range n.toNat).map (fun a => (s a).toInt)).Perm V := by
  have hn : ((List.range n.toNat).map (fun a => (s a).toInt)).Nodup := by
    unfold List.Nodup
    rw [List.pairwise_iff_getElem]
    intro j k hj hk hjk
    rw [List.getElem_map, List.getElem_map, List.getElem_range, List.getElem_range]
    rw [List.length_map, List.length_range] at hj hk
    exact zSrt_ne h.1 (by omega) (by omega) (by omega)
  rw [List.perm_ext_iff_of_nodup hn (zVo_nd h)]
  intro w
  rw [zVo_m h, List.mem_map]
  constructor
  · rintro ⟨a, a1, a2⟩
    rw [List.mem_range] at a1
    exact ⟨a, by omega, a2⟩
  · rintro ⟨a, a1, a2⟩
    exact ⟨a, by rw [List.mem_range]; omega, a2⟩
theorem zVo_c {q : Int → Bool} {fr0 : Nat → Int32} (h : zVo s i fr0 n V) (hf : ∀ j : Nat, j < V.length → ((fr j).toInt = -1 ↔ V[j]?.any q = false)) (hc : zClo fr s s' i i' n n') (hz : ∀ j : Nat, j < 400 → fr' j = 0) : zVo s' i' fr' n' (V.filter q) := by
  have h0 := h
  obtain ⟨h1, h2, h3, h4, h5, h6⟩ := h
  obtain ⟨g, b, ⟨c1, c2, c3⟩, d1, d2, d3⟩ := hc
  have hk : ∀ k, k ≤ V.length → zcn fr k = ((V.take k).filter q).length := fun k hk => zfl hk (fun j _ hl => hf j hl)
  have hn : n.toNat = V.length := by omega
  have en : n' = ((V.filter q).length : Int) := by rw [c1, hn, hk _ (Nat.le_refl _), List.take_length]
  have il : ∀ a : Nat, (a : Int) < n → (i a).toInt.toNat < V.length := fun a ha => by
    have q1 := h4 a ha
    rcases Nat.lt_or_ge (i a).toInt.toNat V.length with e | e
    · exact e
    · rw [List.getElem?_eq_none e] at q1; exact absurd q1.2 (by simp)
  have iv : ∀ a : Nat, (ha : (a : Int) < n) → V[(i a).toInt.toNat]'(il a ha) = (s a).toInt := fun a ha => by
    have q1 := (h4 a ha).2
    rw [List.getElem?_eq_getElem (il a ha)] at q1
    exact Option.some.inj q1
  have gi : ∀ a : Nat, (a : Int) < n → (g (i a).toNatClampNeg).toInt = if (fr (i a).toInt.toNat).toInt = -1 then -1 else (zcn fr (i a).toInt.toNat : Int) := fun a ha => by
    have := il a ha
    exact c2 _ (by show (((i a).toInt.toNat : Nat) : Int) < n; omega)
  have gk : ∀ a : Nat, (a : Int) < n → ((g (i a).toNatClampNeg).toInt = -1 ↔ q (s a).toInt = false) := fun a ha => by
    have f1 := hf _ (il a ha)
    rw [List.getElem?_eq_getElem (il a ha)] at f1
    change _ ↔ q (V[(i a).toInt.toNat]'(il a ha)) = false at f1
    rw [iv a ha] at f1
    rw [gi a ha, ← f1]
    constructor
    · intro e
      by_cases c : (fr (i a).toInt.toNat).toInt = -1
      · exact c
      · rw [if_neg c] at e; omega
    · intro e; rw [if_pos e]
  have cG : zcn (fun q => g (i q).toNatClampNeg) n.toNat = (V.filter q).length := by
    have hp := zVo_p h0
    have z1 := zfl (q := q) (V := (List.range n.toNat).map (fun a => (s a).toInt)) (f := fun q => g (i q).toNatClampNeg) (k := n.toNat) (by rw [List.length_map, List.length_range]; exact Nat.le_refl _) (fun j hj _ => by
      rw [List.getElem?_map, List.getElem?_range hj]
      exact gk j (by omega))
    rw [z1, List.take_of_length_le (by rw [List.length_map, List.length_range]; exact Nat.le_refl _)]
    exact (hp.filter q).length_eq
  have sj : ∀ m : Nat, (m : Int) < n' → ∃ a : Nat, (a : Int) < n ∧ (g (i a).toNatClampNeg).toInt ≠ -1 ∧ zcn (fun q => g (i q).toNatClampNeg) a = m := fun m hm => by
    obtain ⟨a, a1, a2, a3⟩ := zcn_sj (f := fun q => g (i q).toNatClampNeg) (k := n.toNat) (m := m) (by omega)
    exact ⟨a, by omega, a2, a3⟩
  refine ⟨fun a b hab hb => ?_, en.symm, ?_, fun a ha => ?_, fun id hid => ?_, hz⟩
  · obtain ⟨x, x1, x2, x3⟩ := sj a (by omega)
    obtain ⟨y, y1, y2, y3⟩ := sj b hb
    have xy : x < y := by
      rcases Nat.lt_or_ge x y with c | c
      · exact c
      · have := zcn_le (f := fun q => g (i q).toNatClampNeg) c; omega
    have e1 := (d2 x x1 x2).1
    have e2 := (d2 y y1 y2).1
    rw [x3] at e1
    rw [y3] at e2
    rw [e1, e2]
    exact h1 x y xy y1
  · have := List.length_filter_le q V; omega
  · obtain ⟨x, x1, x2, x3⟩ := sj a ha
    have e1 := d2 x x1 x2
    rw [x3] at e1
    rw [e1.1, e1.2]
    have e2 := gi x x1
    have nk : ¬ (fr (i x).toInt.toNat).toInt = -1 := fun c => by rw [if_pos c] at e2; exact x2 e2
    rw [if_neg nk] at e2
    have qs : q (s x).toInt = true := by
      cases hq : q (s x).toInt
      · exact absurd ((gk x x1).mpr hq) x2
      · rfl
    rw [e2]
    refine ⟨by omega, ?_⟩
    rw [Int.toNat_natCast, hk _ (Nat.le_of_lt (il x x1)), zfg (il x x1) (by rw [iv x x1]; exact qs), iv x x1]
  · obtain ⟨k, k1, k2, k3⟩ := zcn_sj (f := fr) (k := n.toNat) (m := id) (by omega)
    obtain ⟨x, x1, x2⟩ := h5 k (by omega)
    have e2 := gi x x1
    rw [x2, Int.toNat_natCast, if_neg k2, k3] at e2
    have x3 : (g (i x).toNatClampNeg).toInt ≠ -1 := by rw [e2]; omega
    have e1 := d2 x x1 x3
    have lt := zcn_lt (f := fun q => g (i q).toNatClampNeg) (a := x) (b := n.toNat) (by omega) x3
    exact ⟨zcn (fun q => g (i q).toNatClampNeg) x, by omega, by rw [e1.2, e2]⟩
end ZVO
theorem zga_g {n : Nat} (h : 0 < n) : ((zGa n).length : Int) = zgam n := by
  rw [zGa_l h]
  unfold zgam
  rw [zdig_p (by omega), Int.toNat_natCast]
  have := zbd_p h
  omega
theorem zPs_sl {on : Nat → Int32} {T : Nat → Nat → Int} {w : Int} (hw : w ≠ 0) : ∀ d : Nat, zSl ((zPq (zTo on T) w d).length : Int) (zLd (zTo on T) w d) ((zPq T w d).length : Int) (zLd T w d) := by
  intro d
  induction d with
  | zero => exact ⟨Int.le_refl _, Int.le_refl _, Or.inl rfl⟩
  | succ d ih =>
    have b1 := zLd_b (T := T) (w := w) (d := d)
    have b2 := zLd_b (T := zTo on T) (w := w) (d := d)
    by_cases c : 0 < zTm (T d) w 1024
    · have e1 : ((zPq T w (d + 1)).length : Int) = (zPq T w d).length + zgam ((d : Int) - zLd T w d) + zgam (zTm (T d) w 1024 : Nat) + (zrL (zPn (T d) w 1024)).length := by
        rw [zPs_y c]
        simp only [List.length_append]
        have g1 := zga_g (n := ((d : Int) - zLd T w d).toNat) (by omega)
        have g2 := zga_g c
        rw [show ((((d : Int) - zLd T w d).toNat : Nat) : Int) = (d : Int) - zLd T w d from by omega] at g1
        omega
      by_cases o : (on d).toInt = 0
      · have n0 := zTo_z (T := T) (w := w) hw (Or.inl o)
        rw [zPs_n n0, zLd_n n0, e1, zLd_y c]
        refine zSl_skip ih b1.2 (by omega) ?_
        have : 0 < (zPn (T d) w 1024).length := by rw [zPn_l]; exact c
        have hm := zPn_r (t := T d) (w := w) (Nat.le_refl 1024) _ (List.getElem_mem this)
        have e := zrL_d (ms := zPn (T d) w 1024) this
        rw [List.drop_zero] at e
        rw [e, List.length_append]
        have := zGa_p hm.1
        omega
      · have c' : 0 < zTm (zTo on T d) w 1024 := by rw [zTo_y o]; exact c
        have e2 : ((zPq (zTo on T) w (d + 1)).length : Int) = (zPq (zTo on T) w d).length + zgam ((d : Int) - zLd (zTo on T) w d) + zgam (zTm (T d) w 1024 : Nat) + (zrL (zPn (T d) w 1024)).length := by
          rw [zPs_y c', zTo_y o]
          simp only [List.length_append]
          have g1 := zga_g (n := ((d : Int) - zLd (zTo on T) w d).toNat) (by omega)
          have g2 := zga_g c
          rw [show ((((d : Int) - zLd (zTo on T) w d).toNat : Nat) : Int) = (d : Int) - zLd (zTo on T) w d from by omega] at g1
          omega
        rw [e1, e2, zLd_y c, zLd_y c']
        exact (zSl_take ih b1.2 (by omega) (Int.le_refl _)).1
    · have n0 := zTo_z (on := on) (T := T) (w := w) hw (Or.inr c)
      rw [zPs_n n0, zLd_n n0, zPs_n c, zLd_n c]
      exact ih
theorem zPs_le {on : Nat → Int32} {T : Nat → Nat → Int} {w : Int} (hw : w ≠ 0) (d : Nat) : (zPq (zTo on T) w d).length ≤ (zPq T w d).length := by
  have := (zPs_sl (on := on) (T := T) hw d).1; omega
theorem zHn_0 {T : Nat → Nat → Int} {w : Int} : ∀ {d : Nat}, zHn T w d = 0 → zPq T w d = [] ∧ zLd T w d = -1 := by
  intro d
  induction d with
  | zero => intro _; exact ⟨rfl, rfl⟩
  | succ d ih =>
    intro h
    by_cases c : 0 < zTm (T d) w 1024
    · rw [zHn_y c] at h; omega
    · rw [zHn_n c] at h; rw [zPs_n c, zLd_n c]; exact ih h
def zBv (T : Nat → Nat → Int) (V : List Int) (D : Nat) : Nat → List Bool := fun id => (V[id]?).elim [] (fun w => zPq T w D)
def zHv (T : Nat → Nat → Int) (V : List Int) (D : Nat) (id : Nat) : Int := (V[id]?).elim 0 (fun w => (zHn T w D : Int))
def zLv (T : Nat → Nat → Int) (V : List Int) (D : Nat) (id : Nat) : Int := (V[id]?).elim 0 (fun w => zLd T w D + 1)
def zTv (T : Nat → Nat → Int) (V : List Int) (D : Nat) : Prop := ∀ d, d < D → (∀ k : Nat, T d k = 0 ∨ T d k ∈ V) ∧ ∀ k : Nat, 1024 ≤ k → T d k = 0
def zKl (s : Nat → Int64) (i fr : Nat → Int32) (n : Int) (ro cs nx fc lc bt : Nat → Int32) (ch ru ab tk : Int) (h l : Nat → Int32) (D : Int) (T : Nat → Nat → Int) (V : List Int) : Prop := zVo s i fr n V ∧ (∀ x ∈ V, x ≠ 0) ∧ zPB ro cs nx fc lc bt ch ru ab tk (zBv T V D.toNat) ∧ zcs (zBv T V D.toNat) ≤ 40000 ∧ (∀ id : Nat, id < 400 → (h id).toInt = zHv T V D.toNat id ∧ (l id).toInt = zLv T V D.toNat id) ∧ 0 ≤ D ∧ D ≤ 120 ∧ zTv T V D.toNat
def zkp (on : Nat → Int32) (T : Nat → Nat → Int) (D : Int) : Int → Bool := fun w => decide (0 < zHn (zTo on T) w D.toNat)
def zYd (s : Nat → Int64) (i fr : Nat → Int32) (n : Int) (ro cs nx fc lc bt : Nat → Int32) (ch ru ab tk : Int) (h l on : Nat → Int32) (D : Int) (fr3 ro3 cs3 nx3 fc3 lc3 bt3 : Nat → Int32) (ch3 ru3 ab3 tk3 : Int) (h3 l3 : Nat → Int32) (id kept : Int) : Prop := ∀ (T : Nat → Nat → Int) (V : List Int), zKl s i fr n ro cs nx fc lc bt ch ru ab tk h l D T V → 0 ≤ id ∧ id ≤ n ∧ kept = (((V.take id.toNat).filter (zkp on T D)).length : Int) ∧ zPB ro3 cs3 nx3 fc3 lc3 bt3 ch3 ru3 ab3 tk3 (zBv (zTo on T) ((V.take id.toNat).filter (zkp on T D)) D.toNat) ∧ (∀ k : Nat, k < 400 → (h3 k).toInt = zHv (zTo on T) ((V.take id.toNat).filter (zkp on T D)) D.toNat k ∧ (l3 k).toInt = zLv (zTo on T) ((V.take id.toNat).filter (zkp on T D)) D.toNat k) ∧ zcs (zBv (zTo on T) ((V.take id.toNat).filter (zkp on T D)) D.toNat) ≤ zsu (fun j => zco (zBv T V D.toNat j).length) id.toNat ∧ (∀ j : Nat, j < V.length → ((fr3 j).toInt = -1 ↔ ((j : Int) < id ∧ V[j]?.any (zkp on T D) = false)))
theorem zTm_p {t : Nat → Int} {w : Int} {k : Nat} (h : t k = w) : ∀ {n : Nat}, k < n → 0 < zTm t w n := by
  intro n
  induction n with
  | zero => intro c; omega
  | succ n ih =>
    intro c
    show 0 < if t n = w then zTm t w n + 1 else zTm t w n
    by_cases e : k = n
    · subst e; rw [if_pos h]; omega
    · have := ih (by omega); split <;> omega
theorem zHn_p {T : Nat → Nat → Int} {w : Int} {d : Nat} (h : 0 < zTm (T d) w 1024) : ∀ {D : Nat}, d < D → 0 < zHn T w D := by
  intro D
  induction D with
  | zero => intro c; omega
  | succ D ih =>
    intro c
    by_cases e : d = D
    · subst e; rw [zHn_y h]; omega
    · have := ih (by omega)
      show 0 < if 0 < zTm (T D) w 1024 then zHn T w D + 1 else zHn T w D
      split <;> omega
theorem zTv_o {on : Nat → Int32} {T : Nat → Nat → Int} {V : List Int} {D : Int} (h : zTv T V D.toNat) : zTv (zTo on T) (V.filter (zkp on T D)) D.toNat := fun d hd => by
  obtain ⟨h1, h2⟩ := h d hd
  by_cases o : (on d).toInt = 0
  · rw [zTo_n o]; exact ⟨fun _ => Or.inl rfl, fun _ _ => rfl⟩
  · rw [zTo_y o]
    refine ⟨fun k => ?_, h2⟩
    rcases h1 k with c | c
    · exact Or.inl c
    · by_cases z : T d k = 0
      · exact Or.inl z
      · refine Or.inr (List.mem_filter.mpr ⟨c, decide_eq_true ?_⟩)
        refine zHn_p (d := d) ?_ hd
        rw [zTo_y o]
        refine zTm_p (k := k) rfl ?_
        rcases Nat.lt_or_ge k 1024 with q | q
        · exact q
        · exact absurd (h2 k q) z
section ZYD
variable {s s3 : Nat → Int64} {i i3 fr fr3 fr4 ro cs nx fc lc bt ro3 cs3 nx3 fc3 lc3 bt3 ro4 cs4 nx4 fc4 lc4 bt4 h l on h3 l3 h4 l4 : Nat → Int32} {n ch ru ab tk ch3 ru3 ab3 tk3 ch4 ru4 ab4 tk4 D id id' kept kept' r bl ck wh ins nu pl n3 : Int} {T : Nat → Nat → Int} {V : List Int}
theorem zBv_a {K : List Int} {w : Int} {d : Nat} : zBv T (K ++ [w]) d = zuf (zBv T K d) K.length (zPq T w d) := funext fun k => by
  unfold zBv
  rcases Nat.lt_trichotomy k K.length with c | c | c
  · rw [zuf_n (by omega), List.getElem?_append_left c]
  · rw [c, zuf_s, List.getElem?_append_right (Nat.le_refl _), Nat.sub_self]; rfl
  · rw [zuf_n (by omega), List.getElem?_eq_none (by rw [List.length_append, List.length_singleton]; omega), List.getElem?_eq_none (by omega)]
theorem zHv_a {K : List Int} {w : Int} {d k : Nat} : zHv T (K ++ [w]) d k = if k = K.length then (zHn T w d : Int) else zHv T K d k := by
  unfold zHv
  rcases Nat.lt_trichotomy k K.length with c | c | c
  · rw [if_neg (by omega), List.getElem?_append_left c]
  · rw [if_pos c, c, List.getElem?_append_right (Nat.le_refl _), Nat.sub_self]; rfl
  · rw [if_neg (by omega), List.getElem?_eq_none (by rw [List.length_append, List.length_singleton]; omega), List.getElem?_eq_none (by omega)]
theorem zLv_a {K : List Int} {w : Int} {d k : Nat} : zLv T (K ++ [w]) d k = if k = K.length then zLd T w d + 1 else zLv T K d k := by
  unfold zLv
  rcases Nat.lt_trichotomy k K.length with c | c | c
  · rw [if_neg (by omega), List.getElem?_append_left c]
  · rw [if_pos c, c, List.getElem?_append_right (Nat.le_refl _), Nat.sub_self]; rfl
  · rw [if_neg (by omega), List.getElem?_eq_none (by rw [List.length_append, List.length_singleton]; omega), List.getElem?_eq_none (by omega)]
theorem zBv_n {K : List Int} {d k : Nat} (hk : K.length ≤ k) : zBv T K d k = [] ∧ zHv T K d k = 0 ∧ zLv T K d k = 0 := by
  unfold zBv zHv zLv
  rw [List.getElem?_eq_none hk]
  exact ⟨rfl, rfl, rfl⟩
theorem zYd_0 (h1 : zPB ro3 cs3 nx3 fc3 lc3 bt3 ch3 ru3 ab3 tk3 (fun _ => [])) (h2 : ∀ j : Nat, j < 400 → h3 j = 0) (h3' : ∀ j : Nat, j < 400 → l3 j = 0) (hi : id = 0) (hk : kept = 0) (hn : 0 ≤ n) : zYd s i fr n ro cs nx fc lc bt ch ru ab tk h l on D fr ro3 cs3 nx3 fc3 lc3 bt3 ch3 ru3 ab3 tk3 h3 l3 id kept := fun T V hh => by
  subst hi; subst hk
  have e : ∀ k, zBv (zTo on T) ((V.take (0 : Int).toNat).filter (zkp on T D)) D.toNat k = [] ∧ zHv (zTo on T) ((V.take (0 : Int).toNat).filter (zkp on T D)) D.toNat k = 0 ∧ zLv (zTo on T) ((V.take (0 : Int).toNat).filter (zkp on T D)) D.toNat k = 0 := fun k => zBv_n (Nat.zero_le _)
  have e2 : zBv (zTo on T) ((V.take (0 : Int).toNat).filter (zkp on T D)) D.toNat = fun _ => [] := funext fun k => (e k).1
  refine ⟨Int.le_refl _, hn, rfl, by rw [e2]; exact h1, fun k hk => ?_, ?_, fun j hj => ?_⟩
  · rw [(e k).2.1, (e k).2.2, h2 k hk, h3' k hk]; exact ⟨rfl, rfl⟩
  · rw [e2]
    have := zPC_tk h1
    have t0 := h1.2.2.2.2.2.2.2.1
    have : zcs (fun _ => []) = 0 := by
      unfold zcs
      have z : ∀ m, zsu (fun _ => zco ([] : List Bool).length) m = 0 := fun m => by
        induction m with
        | zero => rfl
        | succ m ih => show zsu (fun _ => zco ([] : List Bool).length) m + 0 = 0; rw [ih]
      exact z 400
    rw [this]
    exact Nat.zero_le _
  · have hz := hh.1.2.2.2.2.2 j (by have := hh.1.2.1; have := hh.1.2.2.1; omega)
    rw [hz]
    constructor
    · intro q; exact absurd q (by decide)
    · intro q; omega
theorem zYd_s {I : Int32} (hy : zYd s i fr n ro cs nx fc lc bt ch ru ab tk h l on D fr3 ro3 cs3 nx3 fc3 lc3 bt3 ch3 ru3 ab3 tk3 h3 l3 I.toInt kept) (hlt : I.toInt < n) (ho : zW (0 ≤ I.toInt → I.toInt ≤ 399 → ∀ B : Nat → List Bool, zPB ro cs nx fc lc bt ch ru ab tk B → zRr fc nx B bl ck wh ins (B I.toNatClampNeg))) (hnu : nu = -1) (hpl : pl = 0) {k : Nat} (hk : (k : Int) = kept)
    (hc : zCf ro cs nx fc lc bt ch ru ab tk ro3 cs3 nx3 fc3 lc3 bt3 ch3 ru3 ab3 tk3 h3 l3 on bl ck wh ins nu pl D k ro4 cs4 nx4 fc4 lc4 bt4 ch4 ru4 ab4 tk4 h4 l4 r) (hr : (r ≠ 0 ∧ kept' = kept + 1 ∧ fr4 = fr3) ∨ (r = 0 ∧ kept' = kept ∧ fr4 = upd fr3 I.toNatClampNeg (-1))) (hi : id' = I.toInt + 1) : zYd s i fr n ro cs nx fc lc bt ch ru ab tk h l on D fr4 ro4 cs4 nx4 fc4 lc4 bt4 ch4 ru4 ab4 tk4 h4 l4 id' kept' := fun T V hh => by
  obtain ⟨y1, y2, y3, y4, y5, y6, y7⟩ := hy T V hh
  obtain ⟨v1, v2, v3, v4, v5, v6, v7, v8⟩ := hh
  have n1 := v1.2.1
  have n2 := v1.2.2.1
  have eI : I.toNatClampNeg = I.toInt.toNat := rfl
  have hl : I.toInt.toNat < V.length := by omega
  have tk1 : V.take id'.toNat = V.take I.toInt.toNat ++ [V[I.toInt.toNat]] := by rw [show id'.toNat = I.toInt.toNat + 1 from by omega, List.take_succ, List.getElem?_eq_getElem hl]; rfl
  have wz := v2 _ (List.getElem_mem hl)
  have eB : zBv T V D.toNat I.toInt.toNat = zPq T V[I.toInt.toNat] D.toNat := by unfold zBv; rw [List.getElem?_eq_getElem hl]; rfl
  have kl : ((V.take I.toInt.toNat).filter (zkp on T D)).length ≤ I.toInt.toNat := by
    have := List.length_filter_le (zkp on T D) (V.take I.toInt.toNat)
    rw [List.length_take] at this
    omega
  have ek : k = ((V.take I.toInt.toNat).filter (zkp on T D)).length := by omega
  have bn := zBv_n (T := zTo on T) (K := (V.take I.toInt.toNat).filter (zkp on T D)) (d := D.toNat) (k := k) (by omega)
  have hR := ho y1 (by omega) _ v3
  rw [eI, eB] at hR
  have z0 : zco ([] : List Bool).length = 0 := rfl
  have cu := zcs_u (B := zBv (zTo on T) ((V.take I.toInt.toNat).filter (zkp on T D)) D.toNat) (k := k) (l := zPq (zTo on T) V[I.toInt.toNat] D.toNat) (by omega)
  rw [bn.1, z0] at cu
  have le1 := zco_m (zPs_le (on := on) (T := T) wz D.toNat)
  have s1 : zsu (fun j => zco (zBv T V D.toNat j).length) id'.toNat = zsu (fun j => zco (zBv T V D.toNat j).length) I.toInt.toNat + zco (zPq T V[I.toInt.toNat] D.toNat).length := by
    rw [show id'.toNat = I.toInt.toNat + 1 from by omega]
    show _ + zco (zBv T V D.toNat I.toInt.toNat).length = _
    rw [eB]
  have s2 : zsu (fun j => zco (zBv T V D.toNat j).length) id'.toNat ≤ zcs (zBv T V D.toNat) := by
    have mono : ∀ a b, a ≤ b → zsu (fun j => zco (zBv T V D.toNat j).length) a ≤ zsu (fun j => zco (zBv T V D.toNat j).length) b := fun a b hab => by
      induction b with
      | zero => rw [show a = 0 from by omega]; exact Nat.le_refl _
      | succ b ih =>
        by_cases c : a = b + 1
        · rw [c]; exact Nat.le_refl _
        · have := ih (by omega)
          show _ ≤ zsu (fun j => zco (zBv T V D.toNat j).length) b + _
          omega
    exact mono _ _ (by omega)
  obtain ⟨f1, f2, f3, f4⟩ := hc (zBv T V D.toNat) (zBv (zTo on T) ((V.take I.toInt.toNat).filter (zkp on T D)) D.toNat) T V[I.toInt.toNat] ⟨v3, y4, bn.1, by rw [(y5 k (by omega)).1, bn.2.1], by rw [(y5 k (by omega)).2, bn.2.2], hR, hnu, hpl, v6, v7, wz, by omega, by omega⟩
  by_cases c : 0 < zHn (zTo on T) V[I.toInt.toNat] D.toNat
  · rw [if_pos c] at f4
    have hp : zkp on T D V[I.toInt.toNat] = true := decide_eq_true c
    have eK : (V.take id'.toNat).filter (zkp on T D) = (V.take I.toInt.toNat).filter (zkp on T D) ++ [V[I.toInt.toNat]] := by rw [tk1, List.filter_append, List.filter_cons_of_pos hp]; rfl
    rcases hr with ⟨-, r2, r3⟩ | ⟨r1, -⟩
    · rw [eK, zBv_a, ← ek]
      refine ⟨by omega, by omega, by rw [List.length_append, List.length_singleton]; omega, f1, fun q hq => ?_, by omega, fun j hj => ?_⟩
      · rw [zHv_a, zLv_a, f2 q, f3 q, ← ek]
        by_cases d : q = k
        · rw [if_pos d, if_pos d, if_pos d, if_pos d]; exact ⟨rfl, rfl⟩
        · rw [if_neg d, if_neg d, if_neg d, if_neg d]; exact y5 q hq
      · rw [r3, y7 j hj]
        constructor
        · intro q; exact ⟨by omega, q.2⟩
        · intro q
          refine ⟨?_, q.2⟩
          by_cases d : j = I.toInt.toNat
          · have q2 := q.2
            rw [d, List.getElem?_eq_getElem hl] at q2
            change zkp on T D V[I.toInt.toNat] = false at q2
            rw [hp] at q2; exact absurd q2 (by decide)
          · have := q.1; omega
    · omega
  · rw [if_neg c] at f4
    have hp : zkp on T D V[I.toInt.toNat] = false := decide_eq_false c
    have eK : (V.take id'.toNat).filter (zkp on T D) = (V.take I.toInt.toNat).filter (zkp on T D) := by rw [tk1, List.filter_append, List.filter_cons_of_neg (by rw [hp]; decide)]; exact List.append_nil _
    have z1 := zHn_0 (T := zTo on T) (w := V[I.toInt.toNat]) (d := D.toNat) (by omega)
    rcases hr with ⟨r1, -⟩ | ⟨-, r2, r3⟩
    · omega
    · rw [z1.1, ← bn.1, zuf_i] at f1
      rw [eK]
      refine ⟨by omega, by omega, by omega, f1, fun q hq => ?_, by omega, fun j hj => ?_⟩
      · rw [f2 q, f3 q]
        by_cases d : q = k
        · rw [if_pos d, if_pos d, d, bn.2.1, bn.2.2, z1.2]
          exact ⟨by omega, by omega⟩
        · rw [if_neg d, if_neg d]; exact y5 q hq
      · rw [r3, eI]
        by_cases d : j = I.toInt.toNat
        · rw [d, pk_us, List.getElem?_eq_getElem hl]
          exact ⟨fun _ => ⟨by omega, hp⟩, fun _ => by decide⟩
        · rw [pk_un d, y7 j hj]
          constructor
          · intro q; exact ⟨by omega, q.2⟩
          · intro q; exact ⟨by omega, q.2⟩
def zYf (s : Nat → Int64) (i fr : Nat → Int32) (n : Int) (ro cs nx fc lc bt : Nat → Int32) (ch ru ab tk : Int) (h l on : Nat → Int32) (D : Int) (s3 : Nat → Int64) (i3 fr3 : Nat → Int32) (n3 : Int) (ro3 cs3 nx3 fc3 lc3 bt3 : Nat → Int32) (ch3 ru3 ab3 tk3 : Int) (h3 l3 : Nat → Int32) (r : Int) : Prop := ∀ (T : Nat → Nat → Int) (V : List Int), zKl s i fr n ro cs nx fc lc bt ch ru ab tk h l D T V → zKl s3 i3 fr3 n3 ro3 cs3 nx3 fc3 lc3 bt3 ch3 ru3 ab3 tk3 h3 l3 D (zTo on T) (V.filter (zkp on T D)) ∧ r = (zcs (zBv T V D.toNat) : Int) - zcs (zBv (zTo on T) (V.filter (zkp on T D)) D.toNat)
theorem zYf_e {K K3 R : Int32} (hy : zYd s i fr n ro cs nx fc lc bt ch ru ab K.toInt h l on D fr3 ro3 cs3 nx3 fc3 lc3 bt3 ch3 ru3 ab3 tk3 h3 l3 id kept) (hi : n ≤ id) (hc : zClo fr3 s s3 i i3 n n3) (hz : ∀ j : Nat, j < 400 → fr4 j = 0) (hcp : ∀ B : Nat → List Bool, zPB ro3 cs3 nx3 fc3 lc3 bt3 ch3 ru3 ab3 tk3 B → zPB ro4 cs4 nx4 fc4 lc4 bt4 ch4 ru4 ab4 K3.toInt B) (hh4 : ∀ j : Nat, j < 400 → h4 j = h3 j) (hl4 : ∀ j : Nat, j < 400 → l4 j = l3 j) (eR : R = K - K3) : zYf s i fr n ro cs nx fc lc bt ch ru ab K.toInt h l on D s3 i3 fr4 n3 ro4 cs4 nx4 fc4 lc4 bt4 ch4 ru4 ab4 K3.toInt h4 l4 R.toInt := fun T V hh => by
  obtain ⟨y1, y2, y3, y4, y5, y6, y7⟩ := hy T V hh
  obtain ⟨v1, v2, v3, v4, v5, v6, v7, v8⟩ := hh
  have n1 := v1.2.1
  have n2 := v1.2.2.1
  have et : V.take id.toNat = V := List.take_of_length_le (by omega)
  rw [et] at y3 y4 y5 y6
  have P := hcp _ y4
  have t1 := zPC_tk v3
  have t2 := zPC_tk P
  have z : zsu (fun j => zco (zBv T V D.toNat j).length) id.toNat ≤ zcs (zBv T V D.toNat) := by
    have := zsu_0 (F := fun j => zco (zBv T V D.toNat j).length) (m := id.toNat) (n := 400) (by omega) (fun q q1 _ => by rw [(zBv_n (T := T) (K := V) (d := D.toNat) (k := q) (by omega)).1]; rfl)
    unfold zcs; omega
  have s9 := zsub t1 t2 eR (by omega) (by omega)
  refine ⟨⟨zVo_c v1 (fun j hj => ?_) hc hz, fun x hx => v2 x (List.mem_filter.mp hx).1, P, by omega, fun q hq => ?_, v6, v7, zTv_o v8⟩, s9⟩
  · rw [y7 j hj]
    exact ⟨fun q => q.2, fun q => ⟨by omega, q⟩⟩
  · rw [hh4 q hq, hl4 q hq]; exact y5 q hq
end ZYD
