def zCd (s : Nat → Int32) (n : Int) (L : List Int) : Prop := n = (L.length : Int) ∧ ∀ j : Nat, j < L.length → (s j).toInt = L.getD j 0
theorem zCd_0 {s : Nat → Int32} {n : Int} (h : n = 0) : zCd s n [] := ⟨by rw [h]; rfl, fun j hj => by simp at hj⟩
theorem zCd_p {s : Nat → Int32} {n m v : Int} {L : List Int} {N V : Int32} (h : zCd s n L) (hN : N.toInt = n) (hV : V.toInt = v) (hm : m = n + 1) : zCd (upd s N.toNatClampNeg V) m (L ++ [v]) := by
  obtain ⟨h1, h2⟩ := h
  have q : N.toNatClampNeg = L.length := by have q : N.toNatClampNeg = N.toInt.toNat := rfl; omega
  refine ⟨by rw [List.length_append, List.length_singleton, hm, h1]; rfl, fun j hj => ?_⟩
  rw [List.length_append, List.length_singleton] at hj
  by_cases c : j = L.length
  · rw [q, c, pk_us, hV]
    simp
  · rw [q, pk_un c, h2 j (by omega)]
    have hj2 : j < L.length := by omega
    simp [List.getElem?_append_left hj2]
theorem zCd_u {s t : Nat → Int32} {n m : Int} {L : List Int} (h : zCd s n L) (h' : zCd t m L) : n = m ∧ ∀ j : Nat, (j : Int) < n → s j = t j := by
  refine ⟨by rw [h.1, h'.1], fun j hj => zeqi.mpr ?_⟩
  have q := h.1
  rw [h.2 j (by omega), h'.2 j (by omega)]
def zdl (e : Int) : Int := if e.tdiv 1000 ≤ 4 then 1 else if e.tdiv 1000 = 5 ∨ e.tdiv 1000 = 8 ∨ e.tdiv 1000 = 9 ∨ e.tdiv 1000 = 11 then -1 else 0
def zds (p : Int × Int) (e : Int) : Int × Int := (p.1 + zdl e, max p.2 (p.1 + zdl e))
def zdp (L : List Int) : Int × Int := L.foldl zds (0, 0)
theorem zdp_a {L : List Int} {e : Int} : zdp (L ++ [e]) = zds (zdp L) e := by unfold zdp; rw [List.foldl_append]; rfl
theorem zdl_b (e : Int) : -1 ≤ zdl e ∧ zdl e ≤ 1 := by unfold zdl; split <;> (try split) <;> omega
theorem zdp_f : ∀ (L : List Int) (p : Int × Int), p.1 ≤ p.2 → p.1 - L.length ≤ (L.foldl zds p).1 ∧ (L.foldl zds p).1 ≤ p.1 + L.length ∧ (L.foldl zds p).1 ≤ (L.foldl zds p).2 := by
  intro L
  induction L with
  | nil => intro p hp; exact ⟨by simp, by simp, hp⟩
  | cons e L ih =>
    intro p hp
    have q := zdl_b e
    have h := ih (zds p e) (by show p.1 + zdl e ≤ max p.2 (p.1 + zdl e); omega)
    have e1 : (zds p e).1 = p.1 + zdl e := rfl
    rw [e1] at h
    rw [List.foldl_cons, List.length_cons]
    omega
theorem zdp_b (L : List Int) : - (L.length : Int) ≤ (zdp L).1 ∧ (zdp L).1 ≤ (L.length : Int) ∧ (zdp L).1 ≤ (zdp L).2 := by
  have h := zdp_f L (0, 0) (Int.le_refl _)
  unfold zdp
  have e : ((0, 0) : Int × Int).1 = 0 := rfl
  rw [e] at h
  omega
abbrev zQs : Type := (Nat → Int32) × Int × Int
def zCe (q : zQs) (n : Int) (L : List Int) : Prop := n = (L.length : Int) ∧ zCd q.1 n L ∧ q.2.1 = (zdp L).1 ∧ q.2.2 = (zdp L).2
theorem zCe_0 {q : zQs} {n : Int} (h : n = 0) (h1 : q.2.1 = 0) (h2 : q.2.2 = 0) : zCe q n [] := ⟨by rw [h]; rfl, zCd_0 h, h1, h2⟩
theorem zdl_l {k l : Int} (hk : 1 ≤ k ∧ k ≤ 4) (hl : 0 ≤ l ∧ l ≤ 999) : zdl (1000 * k + l) = 1 := by
  unfold zdl
  rw [Int.tdiv_eq_ediv_of_nonneg (by omega), if_pos (by omega)]
theorem zdl_j {k l : Int} (hk : k = 5 ∨ k = 8 ∨ k = 9 ∨ k = 11) (hl : 0 ≤ l ∧ l ≤ 999) : zdl (1000 * k + l) = -1 := by
  unfold zdl
  rw [Int.tdiv_eq_ediv_of_nonneg (by omega), if_neg (by omega), if_pos (by omega)]
theorem zCe_l {s s' : Nat → Int32} {n n' m m' k l : Int} {D D' : Int32} {L : List Int} (h : zCe (s, D.toInt, m) n L) (hc : zCd s' n' (L ++ [1000 * k + l])) (e : D' = D + 1) (hn : n < 270) (hm : (m' = m ∧ D'.toInt ≤ m) ∨ (m' = D'.toInt ∧ m ≤ D'.toInt)) (hk : 1 ≤ k ∧ k ≤ 4) (hl : 0 ≤ l ∧ l ≤ 999) : zCe (s', D'.toInt, m') n' (L ++ [1000 * k + l]) := by
  obtain ⟨h1, h2, h3, h4⟩ := h
  have h3 : D.toInt = (zdp L).1 := h3
  have h4 : m = (zdp L).2 := h4
  have b := zdp_b L
  have q := zadd rfl (by decide : (1 : Int32).toInt = 1) e (by omega) (by omega)
  refine ⟨hc.1, hc, ?_, ?_⟩
  · rw [zdp_a, zds, zdl_l hk hl]; show D'.toInt = _; omega
  · rw [zdp_a, zds, zdl_l hk hl]; show m' = max _ _; omega
theorem zCe_j {s s' : Nat → Int32} {n n' m k l : Int} {D D' : Int32} {L : List Int} (h : zCe (s, D.toInt, m) n L) (hc : zCd s' n' (L ++ [1000 * k + l])) (e : D' = D - 1) (hn : n < 270) (hk : k = 5 ∨ k = 8 ∨ k = 9 ∨ k = 11) (hl : 0 ≤ l ∧ l ≤ 999) : zCe (s', D'.toInt, m) n' (L ++ [1000 * k + l]) := by
  obtain ⟨h1, h2, h3, h4⟩ := h
  have h3 : D.toInt = (zdp L).1 := h3
  have h4 : m = (zdp L).2 := h4
  have b := zdp_b L
  have q := zsub rfl (by decide : (1 : Int32).toInt = 1) e (by omega) (by omega)
  refine ⟨hc.1, hc, ?_, ?_⟩
  · rw [zdp_a, zds, zdl_j hk hl]; show D'.toInt = _; omega
  · rw [zdp_a, zds, zdl_j hk hl]; show m = max _ _; omega
theorem zCe_z {s s' : Nat → Int32} {n n' d m w l : Int} (h : ∀ L : List Int, zCd s n L → n < 270 → zCd s' n' (L ++ [1000 * w + l])) (hw : zdl (1000 * w + l) = 0) : ∀ L : List Int, zCe (s, d, m) n L → n < 270 → zCe (s', d, m) n' (L ++ [1000 * w + l]) := fun L hL hn => by
  obtain ⟨h1, h2, h3, h4⟩ := hL
  have h3 : d = (zdp L).1 := h3
  have h4 : m = (zdp L).2 := h4
  have b := zdp_b L
  have hc := h L h2 hn
  refine ⟨hc.1, hc, ?_, ?_⟩
  · rw [zdp_a, zds, hw]; show d = _; omega
  · rw [zdp_a, zds, hw]; show m = max _ _; omega
theorem ztd {x z : Int32} (e : z = x / 1000) : z.toInt = x.toInt.tdiv 1000 := by
  rw [e, Int32.toInt_div_of_ne_right _ _ (by decide)]
  rfl
theorem ztk0 {M : List Int} {j : Nat} (h : j < M.length) : M.take (j + 1) = M.take j ++ [M.getD j 0] := by
  rw [List.take_succ, List.getElem?_eq_getElem h]
  simp [List.getD, List.getElem?_eq_getElem h]
def zDk (cd : Nat → Int32) (n k d m : Int) : Prop := ∀ K : List Int, zCd cd n K → zdp (K.take k.toNat) = (d, m)
theorem zDk_0 {cd : Nat → Int32} {n k d m : Int} (hk : k = 0) (hd : d = 0) (hm : m = 0) : zDk cd n k d m := fun K _ => by subst hk; subst hd; subst hm; rfl
theorem zDk_s {cd : Nat → Int32} {n d m d' m' k' : Int} {k z w : Int32} (h : zDk cd n k.toInt d m) (h0 : 0 ≤ k.toInt) (hn : k.toInt < n) (e : z = cd k.toNatClampNeg) (ew : w = z / 1000) (hd : (w.toInt ≤ 4 ∧ d' = d + 1) ∨ (4 < w.toInt ∧ (w.toInt = 5 ∨ w.toInt = 8 ∨ w.toInt = 9 ∨ w.toInt = 11) ∧ d' = d - 1) ∨ (4 < w.toInt ∧ ¬ (w.toInt = 5 ∨ w.toInt = 8 ∨ w.toInt = 9 ∨ w.toInt = 11) ∧ d' = d)) (hm : (m' = m ∧ d' ≤ m) ∨ (m' = d' ∧ m ≤ d')) (hk : k' = k.toInt + 1) : zDk cd n k' d' m' := fun K hK => by
  have q : k.toNatClampNeg = k.toInt.toNat := rfl
  have l1 := hK.1
  have lt : k.toInt.toNat < K.length := by omega
  have el : z.toInt = K.getD k.toInt.toNat 0 := by rw [e]; exact hK.2 k.toInt.toNat lt
  have et : K.take (k.toInt.toNat + 1) = K.take k.toInt.toNat ++ [z.toInt] := by
    rw [ztk0 lt, ← el]
  rw [hk, show (k.toInt + 1).toNat = k.toInt.toNat + 1 from by omega, et, zdp_a, h K hK]
  have ez := ztd ew
  have ed : zdl z.toInt = d' - d := by
    unfold zdl
    rw [← ez]
    rcases hd with hd | hd | hd
    · rw [if_pos hd.1]; omega
    · rw [if_neg (by omega), if_pos hd.2.1]; omega
    · rw [if_neg (by omega), if_neg hd.2.1]; omega
  show (d + zdl z.toInt, max m (d + zdl z.toInt)) = (d', m')
  rw [ed]
  have e1 : d + (d' - d) = d' := by omega
  rw [e1]
  have e2 : max m d' = m' := by omega
  rw [e2]
theorem zDk_e {cd : Nat → Int32} {n k d m : Int} (h : zDk cd n k d m) (hk : n ≤ k) (K : List Int) (hK : zCd cd n K) : m = (zdp K).2 := by
  have q := h K hK
  rw [List.take_of_length_le (by have := hK.1; omega)] at q
  rw [q]
def zDv (f : Nat → Int32) (p i v : Int) : Prop := (∀ j : Nat, p ≤ (j : Int) → (j : Int) < i → 48 ≤ (f j).toInt ∧ (f j).toInt ≤ 57) ∧ v = zvl f p (i - p).toNat
theorem zDv_0 {f : Nat → Int32} {p i v : Int} (h : i ≤ p) (hv : v = 0) : zDv f p i v := ⟨fun j a b => by omega, by rw [hv, show (i - p).toNat = 0 from by omega]; rfl⟩
theorem zDv_s {f : Nat → Int32} {n p v w r j : Int} {i : Int32} (hb : zTy f n) (h : zDv f p i.toInt v) (ha : 0 ≤ i.toInt ∧ i.toInt < n → r = (f i.toNatClampNeg &&& 255).toInt) (hn : i.toInt < n) (hd : 48 ≤ r ∧ r ≤ 57) (hp : 0 ≤ p) (hi : p ≤ i.toInt) (hw : w = 10 * v + r - 48) (hj : j = i.toInt + 1) : zDv f p j w := by
  have q1 := ha ⟨by omega, hn⟩
  rw [zand256] at q1
  have q2 : i.toNatClampNeg = i.toInt.toNat := rfl
  have q3 := hb i.toNatClampNeg (by omega)
  have q4 : (f i.toNatClampNeg).toInt = r := by omega
  refine ⟨fun k a b => ?_, ?_⟩
  · by_cases c : (k : Int) < i.toInt
    · exact h.1 k a c
    · rw [show k = i.toNatClampNeg from by omega, q4]; exact hd
  · rw [hw, h.2, show (j - p).toNat = (i.toInt - p).toNat + 1 from by omega]
    show _ = 10 * zvl f p (i.toInt - p).toNat + (f (p.toNat + (i.toInt - p).toNat)).toInt - 48
    rw [show p.toNat + (i.toInt - p).toNat = i.toNatClampNeg from by omega, q4]
theorem zvl_n {f : Nat → Int32} {p : Int} : ∀ k : Nat, (∀ j : Nat, j < k → 48 ≤ (f (p.toNat + j)).toInt) → 0 ≤ zvl f p k := by
  intro k
  induction k with
  | zero => intro _; exact Int.le_refl 0
  | succ k ih =>
    intro h
    have q1 := ih (fun j hj => h j (by omega))
    have q2 := h k (by omega)
    show 0 ≤ 10 * zvl f p k + (f (p.toNat + k)).toInt - 48
    omega
theorem zvl_0 {f : Nat → Int32} {p e m : Int} (h : zDgs f p e m) : 0 ≤ zvl f p (e - p).toNat ∨ p < 0 := by
  by_cases c : p < 0
  · exact Or.inr c
  · exact Or.inl (zvl_n _ (fun j hj => (h.2.2 (p.toNat + j) (by omega) (by omega)).1))
def zDr (f : Nat → Int32) (p e m r : Int) : Prop := (r = -1 ∧ ¬ zDgs f p e m) ∨ (r = zvl f p (e - p).toNat ∧ zDgs f p e m)
theorem zDr_y {f : Nat → Int32} {p e m i v : Int} (h : zDv f p i v) (hi : e ≤ i) (hi2 : i ≤ e) (h1 : p < e) (h2 : e - p ≤ m) : zDr f p e m v := by
  have q : i = e := by omega
  subst q
  exact Or.inr ⟨h.2, h1, h2, h.1⟩
theorem zDr_n {f : Nat → Int32} {p e m r : Int} (hr : r = -1) (h : e ≤ p ∨ m < e - p) : zDr f p e m r := Or.inl ⟨hr, fun q => by have q1 := q.1; have q2 := q.2.1; omega⟩
theorem zDr_d {f : Nat → Int32} {n p e m r x : Int} {i : Int32} (hr : r = -1) (ha : 0 ≤ i.toInt ∧ i.toInt < n → x = (f i.toNatClampNeg &&& 255).toInt) (hn : i.toInt < n) (hi0 : 0 ≤ i.toInt) (hi : p ≤ i.toInt) (he : i.toInt < e) (hd : x < 48 ∨ 57 < x) : zDr f p e m r := Or.inl ⟨hr, fun q => by
  have q1 := ha ⟨hi0, hn⟩
  rw [zand256] at q1
  have q2 : i.toNatClampNeg = i.toInt.toNat := rfl
  have q3 := q.2.2 i.toNatClampNeg (by omega) (by omega)
  omega⟩
def zW (f : Nat → Int32) (n so st be fa dn : Int) : Prop := (so = 265 ∧ fa ≠ 0) ∨ (so ≠ 265 ∧ fa = 0 ∧ -1 ≤ dn ∧ dn ≤ 600 ∧ 0 ≤ st ∧ st ≤ n ∧ zLk f n st so be)
section ZW
variable {f : Nat → Int32} {n so st be fa dn so' st' be' fa' dn' k p : Int}
theorem zW_f (h : zW f n so st be fa dn) (hn : n ≤ 600) (e4 : so' = 265) (e7 : fa ≠ 0 → fa' = fa) (e8 : fa = 0 → 1 ≤ k → k ≤ 4 → 0 ≤ p → p ≤ 700 → fa' ≠ 0) (hk : 1 ≤ k ∧ k ≤ 4) (hp : so ≠ 265 → 0 ≤ st → st ≤ n → 0 ≤ p ∧ p ≤ 700) : zW f n so' st' be' fa' dn' := by
  refine Or.inl ⟨e4, ?_⟩
  rcases h with h | ⟨h1, h2, h3, h4, h5, h6, h7⟩
  · rw [e7 h.2]; exact h.2
  · have q := hp h1 h5 h6
    exact e8 h2 hk.1 hk.2 q.1 q.2
theorem zLk_n (h : zLk f n p k be) (hk : k ≠ 256) : be ≤ n := by
  rcases h with h | ⟨h1, h2, e, h3, h4⟩ | h | h
  · omega
  · have he : e ≤ n := by have q := h3.2.2.2; omega
    rcases h4 with h4 | ⟨_, h4⟩
    · omega
    rcases h4 with h4 | ⟨_, h4⟩
    · omega
    rcases h4 with h4 | ⟨_, h4⟩
    · omega
    rcases h4 with h4 | ⟨_, h4⟩
    · omega
    rcases h4 with ⟨c, b1, b2, b3, b4⟩ | h4
    · have q := b2.1; omega
    · omega
  · have q := h.2.2.1.2.1; omega
  · omega
theorem zLk_k (h : zLk f n p k be) : k ≠ 265 := by
  rcases h with h | ⟨h1, h2, e, h3, h4⟩ | h | h
  · omega
  · rcases h4 with h4 | ⟨_, h4⟩
    · omega
    rcases h4 with h4 | ⟨_, h4⟩
    · omega
    rcases h4 with h4 | ⟨_, h4⟩
    · omega
    rcases h4 with h4 | ⟨_, h4⟩
    · omega
    rcases h4 with ⟨c, b1, b2, b3, b4⟩ | h4
    · rcases b4 with b4 | b4 <;> omega
    · omega
  · omega
  · have q := Int.emod_lt_of_pos (f p.toNat).toInt (show (0 : Int) < 256 by omega); omega
def zNx (f : Nat → Int32) (n so be fa dn so' st' be' fa' : Int) : Prop := (so = 265 ∨ dn ≠ -1 → so' = 265) ∧ (dn = -1 → fa' = fa) ∧ (fa ≠ 0 → fa' = fa) ∧ (dn ≠ -1 → fa = 0 → 0 ≤ dn → dn ≤ 700 → fa' ≠ 0) ∧ (0 ≤ be → be ≤ 602 → so ≠ 265 ∧ dn = -1 → zBl f n be st' ∧ zLk f n st' so' be')
theorem zW_n (h : zW f n so st be fa dn) (hn : n ≤ 600) (hx : zNx f n so be fa dn so' st' be' fa') (he : so ≠ 256) : zW f n so' st' be' fa' dn := by
  obtain ⟨x1, x2, x3, x4, x5⟩ := hx
  rcases h with h | ⟨h1, h2, h3, h4, h5, h6, h7⟩
  · exact Or.inl ⟨x1 (Or.inl h.1), by rw [x3 h.2]; exact h.2⟩
  · by_cases c : dn = -1
    · have a1 := zLk_n h7 he
      have a2 := zLk_b h7
      have a3 := x5 (by omega) (by omega) ⟨h1, c⟩
      have a4 := a3.1.1
      have a5 := a3.1.2.2.2
      exact Or.inr ⟨zLk_k a3.2, by rw [x2 c]; exact h2, h3, h4, by omega, by omega, a3.2⟩
    · exact Or.inl ⟨x1 (Or.inr c), x4 c h2 (by omega) (by omega)⟩
theorem zW_x {Z : Prop} (h : zW f n so st be fa dn) (hn : n ≤ 600) (hx : 0 ≤ be → be ≤ 602 → so ≠ 265 ∧ dn = -1 → Z) (hg : so ≠ 265 ∧ dn = -1) (he : so ≠ 256) : Z := by
  rcases h with h | ⟨h1, h2, h3, h4, h5, h6, h7⟩
  · exact absurd h.1 hg.1
  · have a1 := zLk_n h7 he
    have a2 := zLk_b h7
    exact hx (by omega) (by omega) hg
end ZW
theorem zRe_0 {f : Nat → Int32} {n p e : Int} (h : zRe f n p e) (hp : 0 ≤ p) (ht : ¬ (p < n ∧ zTok (f p.toNat).toInt)) : e = p := by
  obtain ⟨h1, h2, h3, h4⟩ := h
  by_cases c : p < e
  · exact absurd ⟨by omega, h2 p.toNat (by omega) (by omega)⟩ ht
  · omega
theorem zDgs_0 {f : Nat → Int32} {p e m : Int} (h : e ≤ p) : ¬ zDgs f p e m := fun q => by have q1 := q.1; omega
theorem zSpl_d {f : Nat → Int32} {p e m l : Int} {s : Nat} (hp : 0 ≤ p) (h : zSpl f p e s l) (hl : 0 < l) (hc : 57 < zCs s 0) : ¬ zDgs f p e m := fun q => by
  have q1 := q.2.2 p.toNat (by omega) (by have q0 := q.1; omega)
  have q2 := h.2 0 (by omega)
  rw [Nat.add_zero, zor32 (by unfold zTok; omega)] at q2
  have q3 : zSml (f p.toNat).toInt = (f p.toNat).toInt := by unfold zSml; rw [if_neg (by omega)]
  have q4 : zCs s ((0 : Nat) : Int) = zCs s 0 := rfl
  omega
theorem zLk_d {f : Nat → Int32} {n p k b e m : Int} (hp : 0 ≤ p) (h : zLk f n p k b) (hk : k ≠ 257) (hr : zRe f n p e) : ¬ zDgs f p e m := by
  rcases h with h | ⟨h1, h2, e', h3, h4⟩ | h | h
  · exact zDgs_0 (by have q := zRe_0 hr hp (fun q => by omega); omega)
  · have q := zRe_u hp hr h3
    subst q
    rcases h4 with h4 | ⟨_, h4⟩
    · exact zSpl_d hp h4.1 (by omega) (by decide)
    rcases h4 with h4 | ⟨_, h4⟩
    · exact zSpl_d hp h4.1 (by omega) (by decide)
    rcases h4 with h4 | ⟨_, h4⟩
    · exact zSpl_d hp h4.1 (by omega) (by decide)
    rcases h4 with h4 | ⟨_, h4⟩
    · exact zSpl_d hp h4.1 (by omega) (by decide)
    rcases h4 with ⟨c, b1, b2, b3, b4⟩ | h4
    · rcases b4 with b4 | b4
      · exact zSpl_d hp b4.1 (by omega) (by decide)
      · exact zSpl_d hp b4.2.1 (by omega) (by decide)
    · exact absurd h4.2.1 hk
  · exact zDgs_0 (by have q := zRe_0 hr hp (fun q => h.2.1 q.2); omega)
  · exact zDgs_0 (by have q := zRe_0 hr hp (fun q => h.2.1 q.2); omega)
theorem zLk_s {f : Nat → Int32} {n p k b v : Int} (hb : zTy f n) (hp : 0 ≤ p) (h : zLk f n p k b) (h0 : 0 ≤ v) (h1 : v ≤ 127) (hv : v ≠ 46) (ht : ¬ zTok v) : (k = v ↔ zSc f n p v) ∧ (k = v → b = p + 1) := by
  rcases h with h | ⟨h2, h3, e, h4, h5⟩ | h | h
  · exact ⟨⟨fun e => by omega, fun e => by have q := e.1; omega⟩, fun e => by omega⟩
  · have hk : 257 ≤ k := by
      rcases h5 with h5 | ⟨_, h5⟩
      · omega
      rcases h5 with h5 | ⟨_, h5⟩
      · omega
      rcases h5 with h5 | ⟨_, h5⟩
      · omega
      rcases h5 with h5 | ⟨_, h5⟩
      · omega
      rcases h5 with ⟨c, b1, b2, b3, b4⟩ | h5
      · rcases b4 with b4 | b4 <;> omega
      · omega
    exact ⟨⟨fun e => by omega, fun e => absurd (e.2 ▸ h3) ht⟩, fun e => by omega⟩
  · refine ⟨⟨fun e => by omega, fun e => ?_⟩, fun e => by omega⟩
    have q := h.2.2.1.1
    have q2 := e.2
    omega
  · have q := hb p.toNat (by omega)
    refine ⟨⟨fun e => ⟨h.1, by omega⟩, fun e => ?_⟩, fun _ => h.2.2.2.2⟩
    have q2 := e.2
    omega
def zRi (f : Nat → Int32) (n p least r so' st' be' : Int) : Prop := (so' = 265 ∧ (zIni f n p none ∨ ∃ v d, zIni f n p (some (v, d)) ∧ v < least)) ∨ (so' ≠ 265 ∧ zIni f n p (some (r, st')) ∧ least ≤ r ∧ zLk f n st' so' be')
section ZRi
variable {f : Nat → Int32} {n p k b least r v so' st' be' q e : Int}
theorem zRi_a (hb : zTy f n) (hp : 0 ≤ p) (h : zLk f n p k b) (hk : k = 45) (hq : q = b) (hr : zRe f n q e) (hd : zDr f q e 9 v) (hv : v = -1) (hs : so' = 265) : zRi f n p least r so' st' be' := by
  have a := zLk_s hb hp h (v := 45) (by omega) (by omega) (by omega) (by unfold zTok; omega)
  rcases hd with hd | hd
  · exact Or.inl ⟨hs, Or.inl ⟨q, e, Or.inl ⟨a.1.mp hk, by rw [hq]; exact a.2 hk⟩, hr, Or.inr ⟨hd.2, rfl⟩⟩⟩
  · have q1 := zvl_0 hd.2
    have q2 := zLk_b h
    omega
theorem zRi_b (hb : zTy f n) (hp : 0 ≤ p) (h : zLk f n p k b) (hk : k = 257) (hq : q = p) (hr : zRe f n q e) (hd : zDr f q e 9 v) (hv : v = -1) (hs : so' = 265) : zRi f n p least r so' st' be' := by
  have a := zLk_s hb hp h (v := 45) (by omega) (by omega) (by omega) (by unfold zTok; omega)
  rcases hd with hd | hd
  · exact Or.inl ⟨hs, Or.inl ⟨q, e, Or.inr ⟨fun y => by have y1 := a.1.mpr y; omega, hq⟩, hr, Or.inr ⟨hd.2, rfl⟩⟩⟩
  · have q1 := zvl_0 hd.2
    have q2 := zLk_b h
    omega
theorem zRi_c (hb : zTy f n) (hp : 0 ≤ p) (h : zLk f n p k b) (hk : k ≠ 257) (hk2 : k ≠ 45) (hq : q = p) (hr : zRe f n q e) (hs : so' = 265) : zRi f n p least r so' st' be' := by
  have a := zLk_s hb hp h (v := 45) (by omega) (by omega) (by omega) (by unfold zTok; omega)
  subst hq
  exact Or.inl ⟨hs, Or.inl ⟨q, e, Or.inr ⟨fun y => hk2 (a.1.mpr y), rfl⟩, hr, Or.inr ⟨zLk_d hp h hk hr, rfl⟩⟩⟩
theorem zRi_i (hb : zTy f n) (hp : 0 ≤ p) (h : zLk f n p k b) (hk : (k = 45 ∧ q = b) ∨ (k = 257 ∧ q = p)) (hr : zRe f n q e) (hd : zDr f q e 9 v) (hv : v ≠ -1) {d : Int} (hl : zBl f n e d) (hx : (k = 45 ∧ r = - v) ∨ (k ≠ 45 ∧ r = v)) : zIni f n p (some (r, d)) := by
  have a := zLk_s hb hp h (v := 45) (by omega) (by omega) (by omega) (by unfold zTok; omega)
  rcases hd with hd | hd
  · exact absurd hd.1 hv
  rcases hk with ⟨hk, hq⟩ | ⟨hk, hq⟩
  · refine ⟨q, e, Or.inl ⟨a.1.mp hk, by rw [hq]; exact a.2 hk⟩, hr, Or.inl ⟨hd.2, d, hl, Or.inl ⟨a.1.mp hk, ?_⟩⟩⟩
    rw [← hd.1, show r = - v by omega]
  · have hn : ¬ zSc f n p 45 := fun y => by have y1 := a.1.mpr y; omega
    refine ⟨q, e, Or.inr ⟨hn, hq⟩, hr, Or.inl ⟨hd.2, d, hl, Or.inr ⟨hn, ?_⟩⟩⟩
    rw [← hd.1, show r = v by omega]
end ZRi
theorem zW_n2 {f : Nat → Int32} {n so st be be2 fa dn so' st' be' fa' : Int} (h : zW f n so st be fa dn) (hn : n ≤ 600) (hx : zNx f n so be2 fa dn so' st' be' fa') (hb : so ≠ 265 → 0 ≤ be2 ∧ be2 ≤ n) : zW f n so' st' be' fa' dn := by
  obtain ⟨x1, x2, x3, x4, x5⟩ := hx
  rcases h with h | ⟨h1, h2, h3, h4, h5, h6, h7⟩
  · exact Or.inl ⟨x1 (Or.inl h.1), by rw [x3 h.2]; exact h.2⟩
  · by_cases c : dn = -1
    · have a1 := hb h1
      have a3 := x5 (by omega) (by omega) ⟨h1, c⟩
      have a4 := a3.1.1
      have a5 := a3.1.2.2.2
      exact Or.inr ⟨zLk_k a3.2, by rw [x2 c]; exact h2, h3, h4, by omega, by omega, a3.2⟩
    · exact Or.inl ⟨x1 (Or.inr c), x4 c h2 (by omega) (by omega)⟩
theorem zBl_x {f : Nat → Int32} {n : Int} : ∀ k : Nat, ∀ p : Int, 0 ≤ p → (n - p).toNat = k → ∃ d, zBl f n p d := by
  intro k
  induction k with
  | zero => intro p hp hk; exact ⟨p, by omega, zBq_0 (by omega), fun h => by omega, Or.inr rfl⟩
  | succ k ih =>
    intro p hp hk
    by_cases c : zBk (f p.toNat).toInt
    · obtain ⟨d, h1, h2, h3, h4⟩ := ih (p + 1) (by omega) (by omega)
      refine ⟨d, by omega, fun j a b => ?_, h3, Or.inl (by omega)⟩
      by_cases e : (j : Int) = p
      · rw [show j = p.toNat from by omega]; exact c
      · exact h2 j (by omega) b
    · exact ⟨p, by omega, zBq_0 (by omega), fun _ => c, Or.inr rfl⟩
theorem zW_g {f : Nat → Int32} {n so st be fa dn : Int} (h : zW f n so st be fa dn) (hg : so ≠ 265) : fa = 0 ∧ -1 ≤ dn ∧ dn ≤ 600 ∧ 0 ≤ st ∧ st ≤ n ∧ zLk f n st so be := by
  rcases h with h | ⟨h1, h2, h3, h4, h5, h6, h7⟩
  · exact absurd h.1 hg
  · exact ⟨h2, h3, h4, h5, h6, h7⟩
theorem zvl_u {f : Nat → Int32} {p : Int} : ∀ k : Nat, (∀ j : Nat, j < k → 48 ≤ (f (p.toNat + j)).toInt ∧ (f (p.toNat + j)).toInt ≤ 57) → zvl f p k < 10 ^ k := by
  intro k
  induction k with
  | zero => intro _; exact (by decide : (0 : Int) < 1)
  | succ k ih =>
    intro h
    have q1 := ih (fun j hj => h j (by omega))
    have q2 := h k (by omega)
    show 10 * zvl f p k + (f (p.toNat + k)).toInt - 48 < 10 ^ (k + 1)
    rw [Int.pow_succ]
    omega
theorem zIni_b {f : Nat → Int32} {n p v d : Int} (hp : 0 ≤ p) (h : zIni f n p (some (v, d))) : -1000000000 < v := by
  obtain ⟨q, e, h1, h2, h3⟩ := h
  have hq : 0 ≤ q := by rcases h1 with h1 | h1 <;> omega
  rcases h3 with ⟨h3, d', h4, h5⟩ | ⟨h3, h4⟩
  · have a1 := zvl_u (f := f) (p := q) (e - q).toNat (fun j hj => h3.2.2 (q.toNat + j) (by omega) (by omega))
    have a2 := zvl_n (f := f) (p := q) (e - q).toNat (fun j hj => (h3.2.2 (q.toNat + j) (by omega) (by omega)).1)
    have a3 : (10 : Int) ^ (e - q).toNat ≤ 1000000000 := by
      have key : ∀ i : Nat, i ≤ 9 → (10 : Int) ^ i ≤ 1000000000 := by decide
      have h6 := h3.2.1
      exact key _ (by omega)
    rcases h5 with ⟨_, h5⟩ | ⟨_, h5⟩ <;> (cases h5; omega)
  · cases h4
theorem zrm {f : Nat → Int32} {n a lv qt least b0 s0 s1 dn s2 p b2 v s3 q b3 s4 p2 b4 w s5 q2 b5 s6 p3 b6 : Int} {L : List Int} (tb : zTy f n) (ha : 0 ≤ a) (hb0 : b0 = a + 1) (hn : a < n) (h6 : n ≤ 600) (g : s0 ≠ 265 ∧ dn = -1) (hl : least = -1000000000)
    (t1 : lv < 40 → s1 = s0) (t2 : 40 ≤ lv → s1 = 265)
    (n1 : s1 = 265 ∨ dn ≠ -1 → s2 = 265) (n5 : 0 ≤ b0 → b0 ≤ 602 → s1 ≠ 265 ∧ dn = -1 → zBl f n b0 p ∧ zLk f n p s2 b2)
    (r0 : s2 = 265 ∨ dn ≠ -1 → s3 = 265) (r1 : s2 ≠ 265 ∧ dn = -1 → zRi f n p least v s3 q b3)
    (k0 : s3 = 265 ∨ dn ≠ -1 → s4 = 265) (k1 : s3 ≠ 264 → s4 = 265) (k3 : s3 ≠ 265 ∧ dn = -1 → s3 = 264 → zBl f n b3 p2 ∧ zLk f n p2 s4 b4)
    (u0 : s4 = 265 ∨ dn ≠ -1 → s5 = 265) (u1 : s4 ≠ 265 ∧ dn = -1 → zRi f n p2 v w s5 q2 b5)
    (m0 : s5 = 265 ∨ dn ≠ -1 → s6 = 265) (m1 : s5 ≠ 93 → s6 = 265) (m3 : s5 ≠ 265 ∧ dn = -1 → s5 = 93 → zBl f n b5 p3 ∧ zLk f n p3 s6 b6) :
    (s6 = 265 ∧ zMrk f n a lv qt L none) ∨ (s6 ≠ 265 ∧ lv < 40 ∧ zMrk f n a lv qt L (some (p3, lv + 1, qt, L ++ [4000 + lv], false))) := by
  subst hl
  have bad : s1 = 265 → s6 = 265 := fun e => m0 (Or.inl (u0 (Or.inl (k0 (Or.inl (r0 (Or.inl (n1 (Or.inl e)))))))))
  have bad3 : s3 = 265 → s6 = 265 := fun e => m0 (Or.inl (u0 (Or.inl (k0 (Or.inl e)))))
  by_cases c : 40 ≤ lv
  · exact Or.inl ⟨bad (t2 c), Or.inl ⟨c, rfl⟩⟩
  have hs1 := t1 (by omega)
  have a1 := n5 (by omega) (by omega) ⟨by omega, g.2⟩
  have k2 := zLk_k a1.2
  have hp := a1.1.1
  subst hb0
  rcases r1 ⟨k2, g.2⟩ with ⟨e3, x⟩ | ⟨e3, x, x2, x3⟩
  · refine Or.inl ⟨bad3 e3, Or.inr ⟨by omega, ?_⟩⟩
    rcases x with x | ⟨v', d', x, y⟩
    · exact ⟨p, none, a1.1, x, Or.inl ⟨rfl, rfl⟩⟩
    · have y2 := zIni_b (by omega) x
      omega
  have hq := zIni_p (by omega) x
  have dd : s3 = 264 ↔ (q < n ∧ zDd f n q) := by
    rcases x3 with x3 | ⟨h1, h2, e, h3, h4⟩ | x3 | x3
    · exact ⟨fun e => by omega, fun e => by omega⟩
    · have hk : s3 ≠ 264 := by
        rcases h4 with h4 | ⟨_, h4⟩
        · omega
        rcases h4 with h4 | ⟨_, h4⟩
        · omega
        rcases h4 with h4 | ⟨_, h4⟩
        · omega
        rcases h4 with h4 | ⟨_, h4⟩
        · omega
        rcases h4 with ⟨c, b1, b2, b3, b4⟩ | h4
        · rcases b4 with b4 | b4 <;> omega
        · omega
      refine ⟨fun e => absurd e hk, fun e => ?_⟩
      have q := e.2.1
      rw [q] at h2
      exact absurd h2 (by unfold zTok; omega)
    · exact ⟨fun _ => ⟨x3.1, x3.2.2.1⟩, fun _ => x3.2.2.2.1⟩
    · have q := Int.emod_lt_of_pos (f q.toNat).toInt (show (0 : Int) < 256 by omega)
      exact ⟨fun e => by omega, fun e => absurd e.2 x3.2.2.1⟩
  by_cases c4 : s3 = 264
  · have a2 := k3 ⟨e3, g.2⟩ c4
    have k4 := zLk_k a2.2
    have hb3 : b3 = q + 2 := by
      have y := dd.mp c4
      rcases x3 with x3 | ⟨h1, h2, e, h3, h4⟩ | x3 | x3
      · omega
      · have q := y.2.1
        rw [q] at h2
        exact absurd h2 (by unfold zTok; omega)
      · exact x3.2.2.2.2
      · exact absurd y.2 x3.2.2.1
    subst hb3
    have hp2 := a2.1.1
    rcases u1 ⟨k4, g.2⟩ with ⟨e5, y⟩ | ⟨e5, y, y2, y3⟩
    · refine Or.inl ⟨m0 (Or.inl e5), Or.inr ⟨by omega, p, some (v, q), a1.1, x, Or.inr ⟨v, q, rfl, Or.inr ⟨dd.mp c4, ?_⟩⟩⟩⟩
      rcases y with y | ⟨v', d', y, z⟩
      · exact ⟨p2, none, a2.1, y, Or.inl ⟨rfl, rfl⟩⟩
      · exact ⟨p2, some (v', d'), a2.1, y, Or.inr ⟨v', d', rfl, Or.inl ⟨fun o => by have o1 := o.1; omega, rfl⟩⟩⟩
    have hq2 := zIni_p (by omega) y
    have b := zLk_s tb (by omega) y3 (v := 93) (by omega) (by omega) (by omega) (by unfold zTok; omega)
    by_cases c6 : s5 = 93
    · have a3 := m3 ⟨e5, g.2⟩ c6
      have hb5 := b.2 c6
      subst hb5
      exact Or.inr ⟨zLk_k a3.2, by omega, Or.inr ⟨by omega, p, some (v, q), a1.1, x, Or.inr ⟨v, q, rfl, Or.inr ⟨dd.mp c4, p2, some (w, q2), a2.1, y, Or.inr ⟨w, q2, rfl, Or.inr ⟨⟨y2, b.1.mp c6⟩, p3, a3.1, rfl⟩⟩⟩⟩⟩⟩
    · exact Or.inl ⟨m1 c6, Or.inr ⟨by omega, p, some (v, q), a1.1, x, Or.inr ⟨v, q, rfl, Or.inr ⟨dd.mp c4, p2, some (w, q2), a2.1, y, Or.inr ⟨w, q2, rfl, Or.inl ⟨fun o => c6 (b.1.mpr o.2), rfl⟩⟩⟩⟩⟩⟩
  · exact Or.inl ⟨m0 (Or.inl (u0 (Or.inl (k1 c4)))), Or.inr ⟨by omega, p, some (v, q), a1.1, x, Or.inr ⟨v, q, rfl, Or.inl ⟨fun o => c4 (dd.mpr o), rfl⟩⟩⟩⟩
theorem zLk_t {f : Nat → Int32} {n a b : Int} (h : zLk f n a 257 b) : a < n ∧ zRe f n a b := by
  rcases h with h | ⟨h1, h2, e, h3, h4⟩ | h | h
  · omega
  · refine ⟨h1, ?_⟩
    rcases h4 with h4 | ⟨_, h4⟩
    · omega
    rcases h4 with h4 | ⟨_, h4⟩
    · omega
    rcases h4 with h4 | ⟨_, h4⟩
    · omega
    rcases h4 with h4 | ⟨_, h4⟩
    · omega
    rcases h4 with ⟨c, b1, b2, b3, b4⟩ | h4
    · rcases b4 with b4 | b4 <;> omega
    · rw [h4.2.2]; exact h3
  · omega
  · have q := Int.emod_lt_of_pos (f a.toNat).toInt (show (0 : Int) < 256 by omega); omega
section ZRt
variable {f : Nat → Int32} {n a lv qt b0 s0 s1 dn s2 c b2 s3 d b3 : Int} {L : List Int}
theorem zrt_a (tb : zTy f n) (ha : 0 ≤ a) (h6 : n ≤ 600) (hk : zLk f n a s0 b0) (h0 : s0 = 257) (g : s0 ≠ 265 ∧ dn = -1) (t1 : lv < 40 → s1 = s0) (t2 : 40 ≤ lv → s1 = 265) (n1 : s1 = 265 ∨ dn ≠ -1 → s2 = 265) (n5 : 0 ≤ b0 → b0 ≤ 602 → s1 ≠ 265 ∧ dn = -1 → zBl f n b0 c ∧ zLk f n c s2 b2) (hs : s2 ≠ 42) :
    (s2 = 265 ∧ zTkn f n a lv qt L none) ∨ (s2 ≠ 265 ∧ lv < 40 ∧ zTkn f n a lv qt L (some (c, lv + 1, qt, L ++ [1000 + lv], true))) := by
  subst h0
  by_cases q : 40 ≤ lv
  · exact Or.inl ⟨n1 (Or.inl (t2 q)), Or.inl ⟨q, rfl⟩⟩
  have e1 := t1 (by omega)
  have k1 := zLk_t hk
  have k2 := k1.2.1
  have k3 := k1.2.2.2.2
  have a1 := n5 (by omega) (by omega) ⟨by omega, g.2⟩
  have a2 := a1.1.1
  have b := zLk_s tb (by omega) a1.2 (v := 42) (by omega) (by omega) (by omega) (by unfold zTok; omega)
  exact Or.inr ⟨zLk_k a1.2, by omega, Or.inr ⟨by omega, b0, c, k1.2, a1.1, Or.inr ⟨fun y => hs (b.1.mpr y), rfl⟩⟩⟩
theorem zrt_b (tb : zTy f n) (ha : 0 ≤ a) (h6 : n ≤ 600) (hk : zLk f n a s0 b0) (h0 : s0 = 257) (g : s0 ≠ 265 ∧ dn = -1) (t1 : lv < 40 → s1 = s0) (t2 : 40 ≤ lv → s1 = 265) (n1 : s1 = 265 ∨ dn ≠ -1 → s2 = 265) (n5 : 0 ≤ b0 → b0 ≤ 602 → s1 ≠ 265 ∧ dn = -1 → zBl f n b0 c ∧ zLk f n c s2 b2) (hs : s2 = 42) (m5 : 0 ≤ b2 → b2 ≤ 602 → s2 ≠ 265 ∧ dn = -1 → zBl f n b2 d ∧ zLk f n d s3 b3) :
    s3 ≠ 265 ∧ lv < 40 ∧ zTkn f n a lv qt L (some (d, lv + 1, qt, L ++ [2000 + lv], true)) := by
  subst h0
  by_cases q : 40 ≤ lv
  · have := n1 (Or.inl (t2 q)); omega
  have e1 := t1 (by omega)
  have k1 := zLk_t hk
  have k2 := k1.2.1
  have k3 := k1.2.2.2.2
  have a1 := n5 (by omega) (by omega) ⟨by omega, g.2⟩
  have a2 := a1.1.1
  have b := zLk_s tb (by omega) a1.2 (v := 42) (by omega) (by omega) (by omega) (by unfold zTok; omega)
  have b1 := b.2 hs
  have b3 := (b.1.mp hs).1
  subst b1
  have a3 := m5 (by omega) (by omega) ⟨by omega, g.2⟩
  exact ⟨zLk_k a3.2, by omega, Or.inr ⟨by omega, b0, c, k1.2, a1.1, Or.inl ⟨b.1.mp hs, d, a3.1, rfl⟩⟩⟩
end ZRt
