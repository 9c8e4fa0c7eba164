def zAtw (ta : Nat → Int32) (d w : Int) : Int → Prop := fun p => (ta (1024 * d + p).toNat).toInt = w + 1
def zHw (ta ti bo : Nat → Int32) (d w : Int) : Prop := zSm (zAtw ta d w) 0 (ti d.toNat).toInt ∨ zSm (zAtw ta d w) 512 (512 + (bo d.toNat).toInt)
def zT0 (to : Nat → Int32) (L : Int) : Prop := ∀ w : Nat, (w : Int) < L → (to w).toInt = 0
def zTa (to ta : Nat → Int32) (W d k : Int) : Prop := ∀ w : Nat, (w : Int) < W → 0 ≤ (to w).toInt ∧ (to w).toInt ≤ k ∧ (0 < (to w).toInt ↔ zSm (zAtw ta d w) 0 k)
def zTb (to ta : Nat → Int32) (W d T k : Int) : Prop := ∀ w : Nat, (w : Int) < W → 0 ≤ (to w).toInt ∧ (to w).toInt ≤ k ∧ (0 < (to w).toInt ↔ (zSm (zAtw ta d w) 0 T ∨ zSm (zAtw ta d w) 512 k))
def zTc (to ta ti bo : Nat → Int32) (W d : Int) : Prop := ∀ w : Nat, (w : Int) < W → (0 < (to w).toInt ↔ zHw ta ti bo d w)
section ZT
variable {to ta ti bo : Nat → Int32} {W W' L L' d k k' T v : Int} {i x : Int32}
theorem zT0_0 (h : L ≤ 0) : zT0 to L := fun w q => by omega
theorem zT0_s (h : zT0 to L) (hi : i.toInt = L) (h0 : 0 ≤ L) (hx : x.toInt = 0) (e : L' = L + 1) : zT0 (upd to i.toNatClampNeg x) L' := fun w q => by
  have ei := zclamp (x := i) (by omega)
  by_cases c : w = i.toNatClampNeg
  · subst c; rw [pk_us]; exact hx
  · rw [pk_un c]; exact h w (by omega)
theorem zTa_0 (h : zT0 to L) (e : W ≤ L) (hk : k = 0) : zTa to ta W d k := fun w q => by
  have h1 := h w (by omega)
  exact ⟨by omega, by omega, zWi_0 (by omega) (by omega)⟩
theorem zTa_n (h : zTa to ta W d k) (hv : (ta (1024 * d + k).toNat).toInt ≤ 0) (e : k' = k + 1) : zTa to ta W d k' := fun w q => by
  obtain ⟨h1, h2, h3⟩ := h w q
  exact ⟨h1, by omega, zWi_n h3 (fun c => by have c2 : (ta (1024 * d + k).toNat).toInt = w + 1 := c; omega) rfl e⟩
theorem zTa_y (h : zTa to ta W d k) (hv : (ta (1024 * d + k).toNat).toInt = v) (hi : i.toInt = v - 1) (hv0 : 0 < v) (hx : i.toInt < W → x.toInt = (to i.toNatClampNeg).toInt + 1) (hk : 0 ≤ k) (e : k' = k + 1) : zTa (upd to i.toNatClampNeg x) ta W d k' := fun w q => by
  have ei := zclamp (x := i) (by omega)
  obtain ⟨h1, h2, h3⟩ := h w q
  by_cases c : w = i.toNatClampNeg
  · subst c
    rw [pk_us]
    have h4 := hx (by omega)
    exact ⟨by omega, by omega, zWi_y (p := k) (show (ta (1024 * d + k).toNat).toInt = _ + 1 by omega) (by omega) (by omega) e⟩
  · rw [pk_un c]
    exact ⟨h1, by omega, zWi_n h3 (fun c2 => by have c3 : (ta (1024 * d + k).toNat).toInt = w + 1 := c2; omega) rfl e⟩
theorem zTb_0 (h : zTa to ta W d k) (e : k = T) (ht : T ≤ 512) (e2 : k' = 512) : zTb to ta W d T k' := fun w q => by
  obtain ⟨h1, h2, h3⟩ := h w q
  exact ⟨h1, by omega, zWj_0 h3 e (by omega)⟩
theorem zTb_n (h : zTb to ta W d T k) (hv : (ta (1024 * d + k).toNat).toInt ≤ 0) (e : k' = k + 1) : zTb to ta W d T k' := fun w q => by
  obtain ⟨h1, h2, h3⟩ := h w q
  exact ⟨h1, by omega, zWj_n h3 (fun c => by have c2 : (ta (1024 * d + k).toNat).toInt = w + 1 := c; omega) rfl e⟩
theorem zTb_y (h : zTb to ta W d T k) (hv : (ta (1024 * d + k).toNat).toInt = v) (hi : i.toInt = v - 1) (hv0 : 0 < v) (hx : i.toInt < W → x.toInt = (to i.toNatClampNeg).toInt + 1) (hk : 512 ≤ k) (e : k' = k + 1) : zTb (upd to i.toNatClampNeg x) ta W d T k' := fun w q => by
  have ei := zclamp (x := i) (by omega)
  obtain ⟨h1, h2, h3⟩ := h w q
  by_cases c : w = i.toNatClampNeg
  · subst c
    rw [pk_us]
    have h4 := hx (by omega)
    exact ⟨by omega, by omega, zWj_y (p := k) (show (ta (1024 * d + k).toNat).toInt = _ + 1 by omega) (by omega) (by omega) e⟩
  · rw [pk_un c]
    exact ⟨h1, by omega, zWj_n h3 (fun c2 => by have c3 : (ta (1024 * d + k).toNat).toInt = w + 1 := c2; omega) rfl e⟩
theorem zTc_of (h : zTb to ta W d T k) (e1 : T = (ti d.toNat).toInt) (e2 : k = 512 + (bo d.toNat).toInt) : zTc to ta ti bo W d := fun w q => by
  subst e1; subst e2
  exact (h w q).2.2
end ZT
def zHo (he on ta ti bo : Nat → Int32) (W D : Int) : Prop := ∀ w : Nat, (w : Int) < W → 0 ≤ (he w).toInt ∧ (he w).toInt ≤ D ∧ ∀ d : Int, 0 ≤ d → d < D → (on d.toNat).toInt ≠ 0 → zHw ta ti bo d w → 1 ≤ (he w).toInt
def zHi (he h0 of : Nat → Int32) (W j : Int) : Prop := ∀ w : Nat, (w : Int) < W → ((w : Int) < j → ((0 < (of w).toInt ∧ (he w).toInt = (h0 w).toInt + 1) ∨ ((of w).toInt ≤ 0 ∧ (he w).toInt = (h0 w).toInt))) ∧ (j ≤ (w : Int) → he w = h0 w)
section ZH
variable {he h0 of on ta ti bo : Nat → Int32} {W L D D' j j' : Int} {i x : Int32}
theorem zHo_0 (h : zT0 he L) (e : W ≤ L) (hd : D = 0) : zHo he on ta ti bo W D := fun w q => by
  have h1 := h w (by omega)
  exact ⟨by omega, by omega, fun d h2 h3 => by omega⟩
theorem zHo_n (h : zHo he on ta ti bo W D) (hn : (on D.toNat).toInt = 0) (e : D' = D + 1) : zHo he on ta ti bo W D' := fun w q => by
  subst e
  obtain ⟨h1, h2, h3⟩ := h w q
  refine ⟨h1, by omega, fun d g1 g2 g3 g4 => ?_⟩
  by_cases c : d = D
  · subst c; exact absurd hn g3
  · exact h3 d g1 (by omega) g3 g4
theorem zHi_0 (e : j ≤ 0) : zHi h0 h0 of W j := fun w _ => ⟨fun q => by omega, fun _ => rfl⟩
theorem zHi_at (h : zHi he h0 of W j) (hi : i.toInt = j) (h1 : 0 ≤ j) (h2 : j < W) : he i.toNatClampNeg = h0 i.toNatClampNeg := by
  have ei := zclamp (x := i) (by omega)
  exact (h _ (by omega)).2 (by omega)
theorem zHi_s (h : zHi he h0 of W j) (hi : i.toInt = j) (h1 : 0 ≤ j) (hx : (0 < (of i.toNatClampNeg).toInt ∧ x.toInt = (h0 i.toNatClampNeg).toInt + 1) ∨ ((of i.toNatClampNeg).toInt ≤ 0 ∧ x.toInt = (h0 i.toNatClampNeg).toInt)) (e : j' = j + 1) : zHi (upd he i.toNatClampNeg x) h0 of W j' := fun w q => by
  subst e
  have ei := zclamp (x := i) (by omega)
  by_cases c : w = i.toNatClampNeg
  · subst c
    rw [pk_us]
    exact ⟨fun _ => hx, fun g => by omega⟩
  · rw [pk_un c]
    obtain ⟨g1, g2⟩ := h w q
    exact ⟨fun g => g1 (by omega), fun g => g2 (by omega)⟩
theorem zHo_s (h : zHo h0 on ta ti bo W D) (hi : zHi he h0 of W j) (e : W ≤ j) (ht : zTc of ta ti bo W D) (ed : D' = D + 1) : zHo he on ta ti bo W D' := fun w q => by
  subst ed
  obtain ⟨h1, h2, h3⟩ := h w q
  have h4 := (hi w q).1 (by omega)
  refine ⟨by omega, by omega, fun d g1 g2 g3 g4 => ?_⟩
  by_cases c : d = D
  · subst c
    have h5 := (ht w q).mpr g4
    omega
  · have h5 := h3 d g1 (by omega) g3 g4
    omega
theorem zHo_get (h : zHo he on ta ti bo W D) (ht : zTc of ta ti bo W j) (h0 : 0 ≤ i.toInt) (hi : i.toInt < W) (g1 : 0 ≤ j) (g2 : j < D) (g3 : (on j.toNat).toInt ≠ 0) (g4 : 0 < (of i.toNatClampNeg).toInt) : 1 ≤ (he i.toNatClampNeg).toInt := by
  have ei := zclamp (x := i) (by omega)
  exact (h _ (by omega)).2.2 j g1 g2 g3 ((ht _ (by omega)).mp g4)
end ZH
