theorem zp_z {ta : Nat → Int32} {d w : Int} {k : Nat} (h : (zp ta d w k).1 = 0) (hk : k ≤ 1024 := by decide) : (zp ta d w k).2.1 = 0 := by
  induction k with
  | zero => rfl
  | succ k ih =>
    have b := zp_b (ta := ta) (d := d) (w := w) (k := k) (by omega)
    by_cases c : (ta (1024 * d + k).toNat).toInt = w + 1
    · rw [zp_y c] at h
      dsimp only at h
      omega
    · rw [zp_n c] at h ⊢
      exact ih h (by omega)
theorem zp_cm {ta : Nat → Int32} {d w : Int} {j k : Nat} (h : j ≤ k) : (zp ta d w j).1 ≤ (zp ta d w k).1 := by
  induction k with
  | zero => rw [show j = 0 by omega]; exact Int.le_refl _
  | succ k ih =>
    by_cases e : j = k + 1
    · rw [e]; exact Int.le_refl _
    · have h1 := ih (by omega)
      by_cases c : (ta (1024 * d + k).toNat).toInt = w + 1
      · rw [zp_y c]; dsimp only; omega
      · rw [zp_n c]; exact h1
def zM0 (su ld : Nat → Int32) (L : Int) : Prop := ∀ w : Nat, (w : Int) < L → (su w).toInt = 0 ∧ (ld w).toInt = -1
def zM1 (su ld ta ke : Nat → Int32) (W d : Int) : Prop := ∀ w : Nat, (w : Int) < W → (su w).toInt = (zB ta ke w d.toNat).1 ∧ (ld w).toInt = (zB ta ke w d.toNat).2
def zM3 (of lp su ta ke : Nat → Int32) (W d k : Int) : Prop := ∀ w : Nat, (w : Int) < W → (of w).toInt = (zp ta d w k.toNat).1 ∧ (lp w).toInt = (zp ta d w k.toNat).2.2 ∧ (su w).toInt = (zB ta ke w d.toNat).1 + (zp ta d w k.toNat).2.1
def zM4 (of su ld ta ke : Nat → Int32) (W d j : Int) : Prop := ∀ w : Nat, (w : Int) < W → (of w).toInt = (zp ta d w 1024).1 ∧ ((w : Int) < j → (su w).toInt = (zB ta ke w (d.toNat + 1)).1 ∧ (ld w).toInt = (zB ta ke w (d.toNat + 1)).2) ∧ (j ≤ (w : Int) → (su w).toInt = (zB ta ke w d.toNat).1 + (zp ta d w 1024).2.1 ∧ (ld w).toInt = (zB ta ke w d.toNat).2)
section ZMe
variable {of lp su ld su0 ta ke : Nat → Int32} {W L L' d d' k k' j j' v r : Int} {i x y z : Int32}
theorem zM0_0 (h : L ≤ 0) : zM0 su ld L := fun w q => by omega
theorem zM0_s (h : zM0 su ld L) (hi : i.toInt = L) (h0 : 0 ≤ L) (hx : x.toInt = 0) (hy : y.toInt = -1) (e : L' = L + 1) : zM0 (upd su i.toNatClampNeg x) (upd ld i.toNatClampNeg y) L' := fun w q => by
  have ei := zclamp (x := i) (by omega)
  by_cases c : w = i.toNatClampNeg
  · subst c; rw [pk_us, pk_us]; exact ⟨hx, hy⟩
  · rw [pk_un c, pk_un c]; exact h w (by omega)
theorem zM1_0 (h : zM0 su ld L) (e : W ≤ L) (hd : d = 0) : zM1 su ld ta ke W d := fun w q => by
  subst hd
  exact h w (by omega)
theorem zM1_n (h : zM1 su ld ta ke W d) (h0 : 0 ≤ d) (hk : (ke d.toNat).toInt = 0) (e : d' = d + 1) : zM1 su ld ta ke W d' := fun w q => by
  subst e
  rw [show (d + 1).toNat = d.toNat + 1 by omega, zB_n (by rw [zcnw_0 hk]; omega)]
  exact h w q
theorem zM3_0 (h : zM1 su ld ta ke W d) (h2 : zM0 of lp L) (e : W ≤ L) (hk : k = 0) : zM3 of lp su ta ke W d k := fun w q => by
  subst hk
  obtain ⟨h3, h4⟩ := h2 w (by omega)
  exact ⟨h3, h4, by rw [(h w q).1]; exact (Int.add_zero _).symm⟩
theorem zM3_n (h : zM3 of lp su ta ke W d k) (h0 : 0 ≤ k) (hv : (ta (1024 * d + k).toNat).toInt ≤ 0) (e : k' = k + 1) : zM3 of lp su ta ke W d k' := fun w q => by
  subst e
  rw [show (k + 1).toNat = k.toNat + 1 by omega, zp_n (by rw [show ((k.toNat : Nat) : Int) = k by omega]; omega)]
  exact h w q
theorem zM3_y (h : zM3 of lp su ta ke W d k) (h0 : 0 ≤ k) (hv : (ta (1024 * d + k).toNat).toInt = v) (hv0 : 0 < v) (hi : i.toInt = v - 1) (hx : i.toInt < W → x.toInt = (of i.toNatClampNeg).toInt + 1) (hy : i.toInt < W → y.toInt = (su i.toNatClampNeg).toInt + zgam (k - (lp i.toNatClampNeg).toInt)) (hz : z.toInt = k) (e : k' = k + 1) : zM3 (upd of i.toNatClampNeg x) (upd lp i.toNatClampNeg z) (upd su i.toNatClampNeg y) ta ke W d k' := fun w q => by
  subst e
  have ei := zclamp (x := i) (by omega)
  have ek : ((k.toNat : Nat) : Int) = k := by omega
  rw [show (k + 1).toNat = k.toNat + 1 by omega]
  obtain ⟨h1, h2, h3⟩ := h w q
  by_cases c : w = i.toNatClampNeg
  · subst c
    rw [pk_us, pk_us, pk_us, zp_y (by rw [ek]; omega), hx (by omega), hy (by omega), hz, h1, h2, h3]
    dsimp only
    rw [ek]
    exact ⟨rfl, rfl, by omega⟩
  · rw [pk_un c, pk_un c, pk_un c, zp_n (by rw [ek]; omega)]
    exact ⟨h1, h2, h3⟩
theorem zM4_0 (h : zM3 of lp su ta ke W d k) (hk : k = 1024) (h1 : zM1 su0 ld ta ke W d) (hj : j ≤ 0) : zM4 of su ld ta ke W d j := fun w q => by
  subst hk
  obtain ⟨g1, g2, g3⟩ := h w q
  exact ⟨g1, fun c => by omega, fun _ => ⟨g3, (h1 w q).2⟩⟩
theorem zM4_n (h : zM4 of su ld ta ke W d j) (h0 : 0 ≤ j) (hd : 0 ≤ d) (hk : (ke d.toNat).toInt ≠ 0) (hi : i.toInt = j) (ho : (of i.toNatClampNeg).toInt = 0) (e : j' = j + 1) : zM4 of su ld ta ke W d j' := fun w q => by
  subst e
  have ei := zclamp (x := i) (by omega)
  obtain ⟨g1, g2, g3⟩ := h w q
  refine ⟨g1, fun c => ?_, fun c => g3 (by omega)⟩
  by_cases c2 : (w : Int) < j
  · exact g2 c2
  · have ew : w = i.toNatClampNeg := by omega
    obtain ⟨g4, g5⟩ := g3 (by omega)
    have ed : ((d.toNat : Nat) : Int) = d := by omega
    have z0 : (zp ta d w 1024).1 = 0 := by rw [← g1, ew]; exact ho
    have zs : (zp ta d w 1024).2.1 = 0 := zp_z (k := 1024) z0
    rw [zB_n (by rw [zcnw_p hk, ed]; omega), g4, g5, zs]
    exact ⟨by omega, rfl⟩
theorem zM4_y (h : zM4 of su ld ta ke W d j) (h0 : 0 ≤ j) (hd : 0 ≤ d) (hk : (ke d.toNat).toInt ≠ 0) (hi : i.toInt = j) (hj : j < W) (ho : (of i.toNatClampNeg).toInt ≠ 0) (hy : y.toInt = (su i.toNatClampNeg).toInt + (zgam (d - (ld i.toNatClampNeg).toInt) + zgam (of i.toNatClampNeg).toInt)) (hz : z.toInt = d) (e : j' = j + 1) : zM4 of (upd su i.toNatClampNeg y) (upd ld i.toNatClampNeg z) ta ke W d j' := fun w q => by
  subst e
  have ei := zclamp (x := i) (by omega)
  have ed : ((d.toNat : Nat) : Int) = d := by omega
  obtain ⟨g1, g2, g3⟩ := h w q
  by_cases c : w = i.toNatClampNeg
  · subst c
    rw [pk_us, pk_us]
    obtain ⟨g4, g5⟩ := g3 (by omega)
    have p1 := zp_b (ta := ta) (d := d) (w := (i.toNatClampNeg : Nat)) (k := 1024) (Nat.le_refl _)
    refine ⟨g1, fun _ => ?_, fun c2 => by omega⟩
    have ec : zcnw ta ke (i.toNatClampNeg : Nat) d.toNat = (zp ta d (i.toNatClampNeg : Nat) 1024).1 := by rw [zcnw_p hk, ed]
    rw [zB_y (by rw [ec]; omega), hy, hz, ec, ed, g4, g5, g1]
    exact ⟨by dsimp only; omega, rfl⟩
  · rw [pk_un c, pk_un c]
    exact ⟨g1, fun c2 => g2 (by omega), fun c2 => g3 (by omega)⟩
theorem zM1_s (h : zM4 of su ld ta ke W d j) (hj : W ≤ j) (hd : 0 ≤ d) (e : d' = d + 1) : zM1 su ld ta ke W d' := fun w q => by
  subst e
  rw [show (d + 1).toNat = d.toNat + 1 by omega]
  exact (h w q).2.1 (by omega)
def zTs (su : Nat → Int32) (j s : Int) : Prop := ∀ w : Nat, (w : Int) < j → (su w).toInt ≤ s
theorem zTs_0 (h : j ≤ 0) : zTs su j r := fun w q => by omega
theorem zTs_s {s s' : Int} (h : zTs su j s) (hi : i.toInt = j) (h0 : 0 ≤ j) (h1 : s ≤ s') (h2 : (su i.toNatClampNeg).toInt ≤ s') (e : j' = j + 1) : zTs su j' s' := fun w q => by
  have ei := zclamp (x := i) (by omega)
  by_cases c : w = i.toNatClampNeg
  · subst c; exact h2
  · have := h w (by omega); omega
theorem zTk_of (h : zM1 su ld ta ke W d) (ht : zTs su j r) (e : W ≤ j) : zTk ta ke W d r := fun w q => by
  rw [← (h w q).1]
  exact ht w (by omega)
theorem zM1_g (h : zM1 su ld ta ke W d) (h0 : 0 ≤ i.toInt) (hi : i.toInt < W) (hd0 : 0 ≤ d) (hd : d ≤ 120) : 0 ≤ (su i.toNatClampNeg).toInt ∧ (su i.toNatClampNeg).toInt ≤ 2585520 := by
  have ei := zclamp (x := i) h0
  have b := zB_b (ta := ta) (ke := ke) (w := (i.toNatClampNeg : Nat)) (n := d.toNat) (by omega)
  rw [(h i.toNatClampNeg (by omega)).1]
  omega
theorem zM3_g (h : zM3 of lp su ta ke W d k) (h0 : 0 ≤ i.toInt) (hi : i.toInt < W) (hd0 : 0 ≤ d) (hd : d ≤ 119) (hk0 : 0 ≤ k) (hk : k ≤ 1024) : 0 ≤ (su i.toNatClampNeg).toInt ∧ (su i.toNatClampNeg).toInt ≤ 2585520 ∧ 0 ≤ (of i.toNatClampNeg).toInt ∧ (of i.toNatClampNeg).toInt ≤ 1024 ∧ -1 ≤ (lp i.toNatClampNeg).toInt ∧ (lp i.toNatClampNeg).toInt < k := by
  have ei := zclamp (x := i) h0
  obtain ⟨g1, g2, g3⟩ := h i.toNatClampNeg (by omega)
  have b := zB_b (ta := ta) (ke := ke) (w := (i.toNatClampNeg : Nat)) (n := d.toNat) (by omega)
  have p1 := zp_b (ta := ta) (d := d) (w := (i.toNatClampNeg : Nat)) (k := k.toNat) (by omega)
  rw [g1, g2, g3]
  omega
theorem zM4_g (h : zM4 of su ld ta ke W d j) (h0 : 0 ≤ i.toInt) (hi : i.toInt < W) (hj : i.toInt = j) (hd0 : 0 ≤ d) (hd : d ≤ 119) : 0 ≤ (su i.toNatClampNeg).toInt ∧ (su i.toNatClampNeg).toInt ≤ 2585520 ∧ 0 ≤ (of i.toNatClampNeg).toInt ∧ (of i.toNatClampNeg).toInt ≤ 1024 ∧ -1 ≤ (ld i.toNatClampNeg).toInt ∧ (ld i.toNatClampNeg).toInt < d := by
  have ei := zclamp (x := i) h0
  obtain ⟨g1, g2, g3⟩ := h i.toNatClampNeg (by omega)
  obtain ⟨g4, g5⟩ := g3 (by omega)
  have b := zB_b (ta := ta) (ke := ke) (w := (i.toNatClampNeg : Nat)) (n := d.toNat) (by omega)
  have p1 := zp_b (ta := ta) (d := d) (w := (i.toNatClampNeg : Nat)) (k := 1024) (Nat.le_refl _)
  rw [g1, g4, g5]
  omega
end ZMe
section ZTd
variable {ta ke ta' ke' he : Nat → Int32} {n W K K' w la L L' d0 r : Int} {i x : Int32}
theorem zSb_k (h : zSb ta ke ta' ke' n) (h0 : 0 ≤ i.toInt) (hx : x.toInt = 0) : zSb ta ke ta' (upd ke' i.toNatClampNeg x) n := fun d hd => by
  by_cases c : d = i.toNatClampNeg
  · subst c; rw [pk_us]; exact Or.inl hx
  · rw [pk_un c]; exact h d hd
theorem zSb_row {q : Int32} (h : zSb ta ke ta' ke' n) (h0 : 0 ≤ q.toInt) (hk : (ke' q.toNatClampNeg).toInt = 0) (hi : 1024 * q.toInt ≤ i.toInt) (hi2 : i.toInt < 1024 * q.toInt + 1024) : zSb ta ke (upd ta' i.toNatClampNeg x) ke' n := fun d hd => by
  have eq := zclamp (x := q) h0
  have ei := zclamp (x := i) (by omega)
  by_cases c : d = q.toNatClampNeg
  · subst c; exact Or.inl hk
  · rcases h d hd with g | ⟨g1, g2⟩
    · exact Or.inl g
    · exact Or.inr ⟨g1, fun j hj => by rw [pk_un (by omega)]; exact g2 j hj⟩
def zHc (he ta : Nat → Int32) (W K : Int) : Prop := ∀ w : Nat, (w : Int) < W → 0 ≤ (he w).toInt ∧ (he w).toInt ≤ K ∧ ∀ k : Int, 0 ≤ k → k < K → (ta k.toNat).toInt = w + 1 → 1 ≤ (he w).toInt
def zHd (he ta : Nat → Int32) (W K : Int) : Prop := ∀ w : Nat, (w : Int) < W → ∀ k : Int, 0 ≤ k → k < K → (ta k.toNat).toInt = w + 1 → 1 ≤ (he w).toInt
theorem zHc_0 (h : zT0 he L) (e : W ≤ L) (hk : K = 0) : zHc he ta W K := fun w q => by
  have h1 := h w (by omega)
  exact ⟨by omega, by omega, fun k g1 g2 => by omega⟩
theorem zHc_n (h : zHc he ta W K) (hv : (ta K.toNat).toInt ≤ 0) (e : K' = K + 1) : zHc he ta W K' := fun w q => by
  obtain ⟨h1, h2, h3⟩ := h w q
  refine ⟨h1, by omega, fun k g1 g2 g3 => ?_⟩
  by_cases c : k = K
  · subst c; omega
  · exact h3 k g1 (by omega) g3
theorem zHc_y {v : Int} (h : zHc he ta W K) (hK : 0 ≤ K) (hv : (ta K.toNat).toInt = v) (hv0 : 0 < v) (hi : i.toInt = v - 1) (hx : i.toInt < W → x.toInt = (he i.toNatClampNeg).toInt + 1) (e : K' = K + 1) : zHc (upd he i.toNatClampNeg x) ta W K' := fun w q => by
  have ei := zclamp (x := i) (by omega)
  obtain ⟨h1, h2, h3⟩ := h w q
  by_cases c : w = i.toNatClampNeg
  · subst c
    have h4 := hx (by omega)
    rw [pk_us]
    exact ⟨by omega, by omega, fun k _ _ _ => by omega⟩
  · rw [pk_un c]
    refine ⟨h1, by omega, fun k g1 g2 g3 => ?_⟩
    by_cases c2 : k = K
    · subst c2; omega
    · exact h3 k g1 (by omega) g3
theorem zHd_of (h : zHc he ta W K) (e : r ≤ K) : zHd he ta W r := fun w q k g1 g2 => (h w q).2.2 k g1 (by omega)
def zRn (ta ta' : Nat → Int32) (w la K : Int) : Prop := ∀ k : Nat, ((k : Int) < K → ((ta k).toInt = la + 1 → (ta' k).toInt = w + 1) ∧ ((ta k).toInt ≠ la + 1 → ta' k = ta k)) ∧ (K ≤ (k : Int) → ta' k = ta k)
theorem zRn_0 (h : K ≤ 0) : zRn ta ta w la K := fun k => ⟨fun q => by omega, fun _ => rfl⟩
theorem zRn_at (h : zRn ta ta' w la K) (hi : i.toInt = K) (h0 : 0 ≤ K) : ta' i.toNatClampNeg = ta i.toNatClampNeg := by
  have ei := zclamp (x := i) (by omega)
  exact (h _).2 (by omega)
theorem zRn_n (h : zRn ta ta' w la K) (hi : i.toInt = K) (h0 : 0 ≤ K) (hv : (ta i.toNatClampNeg).toInt ≠ la + 1) (e : K' = K + 1) : zRn ta ta' w la K' := fun k => by
  have ei := zclamp (x := i) (by omega)
  obtain ⟨g1, g2⟩ := h k
  refine ⟨fun q => ?_, fun q => g2 (by omega)⟩
  by_cases c : k = i.toNatClampNeg
  · subst c; exact ⟨fun q2 => absurd q2 hv, fun _ => g2 (by omega)⟩
  · exact g1 (by omega)
theorem zRn_y (h : zRn ta ta' w la K) (hi : i.toInt = K) (h0 : 0 ≤ K) (hv : (ta i.toNatClampNeg).toInt = la + 1) (hx : x.toInt = w + 1) (e : K' = K + 1) : zRn ta (upd ta' i.toNatClampNeg x) w la K' := fun k => by
  have ei := zclamp (x := i) (by omega)
  obtain ⟨g1, g2⟩ := h k
  by_cases c : k = i.toNatClampNeg
  · subst c
    rw [pk_us]
    exact ⟨fun _ => ⟨fun _ => hx, fun q2 => absurd hv q2⟩, fun q => by omega⟩
  · rw [pk_un c]
    exact ⟨fun q => g1 (by omega), fun q => g2 (by omega)⟩
theorem zRn_iff (h : zRn ta ta' w la K) (hd : zHd he ta W K) (hw : (he w.toNat).toInt ≤ 0) (hw0 : 0 ≤ w) (hwW : w < W) (hla : la = W - 1) {k : Int} (k0 : 0 ≤ k) (kK : k < K) {v : Int} (v0 : 0 ≤ v) (vW : v < W - 1) : ((ta' k.toNat).toInt = v + 1 ↔ (ta k.toNat).toInt = (if v = w then la else v) + 1) := by
  obtain ⟨g1, g2⟩ := (h k.toNat).1 (by omega)
  have hno : (ta k.toNat).toInt ≠ w + 1 := fun q => by
    have := hd w.toNat (by omega) k k0 kK (by rw [show ((w.toNat : Nat) : Int) = w by omega]; exact q)
    omega
  by_cases c : (ta k.toNat).toInt = la + 1
  · have g3 := g1 c
    by_cases e : v = w
    · rw [if_pos e]; omega
    · rw [if_neg e]; omega
  · have g3 : (ta' k.toNat).toInt = (ta k.toNat).toInt := by rw [g2 c]
    by_cases e : v = w
    · rw [if_pos e]; omega
    · rw [if_neg e]; omega
theorem zJ_drop (h : zJ ta ke W n) (hr : zRn ta ta' w la (1024 * n)) (hd : zHd he ta W (1024 * n)) (hw : (he w.toNat).toInt ≤ 0) (hw0 : 0 ≤ w) (hwW : w < W) (hla : la = W - 1) (n0 : 0 ≤ n) : zJ ta' ke (W - 1) n := fun v hv => by
  have e := zB_congr (ta := ta') (ta' := ta) (ke := ke) (ke' := ke) (w := v) (v := if (v : Int) = w then la else v) (n := n.toNat) (fun d hd9 => ⟨rfl, fun j hj => zRn_iff hr hd hw hw0 hwW hla (by omega) (by omega) (by omega) (by omega)⟩)
  rw [e]
  by_cases c : (v : Int) = w
  · rw [if_pos c]
    have := h la.toNat (by omega)
    rwa [show ((la.toNat : Nat) : Int) = la by omega] at this
  · rw [if_neg c]
    exact h v (by omega)
theorem zHd_drop {q : Int32} (hr : zRn ta ta' w la K) (hd : zHd he ta W K) (hw : (he w.toNat).toInt ≤ 0) (hw0 : 0 ≤ w) (hwW : w < W) (hla : la = W - 1) (hq : q.toInt = w) (hx : x = he la.toNat) : zHd (upd he q.toNatClampNeg x) ta' (W - 1) K := fun v hv k k0 kK e => by
  have eq := zclamp (x := q) (by omega)
  have e2 := (zRn_iff hr hd hw hw0 hwW hla k0 kK (v := v) (by omega) (by omega)).mp e
  by_cases c : v = q.toNatClampNeg
  · subst c
    rw [pk_us, hx]
    rw [if_pos (by omega)] at e2
    exact hd la.toNat (by omega) k k0 kK (by rw [show ((la.toNat : Nat) : Int) = la by omega]; exact e2)
  · rw [pk_un c]
    rw [if_neg (by omega)] at e2
    exact hd v (by omega) k k0 kK e2
end ZTd
section ZLo
variable {ta ke : Nat → Int32} {w d d' k k' f f' l L b : Int} {n : Nat}
theorem zSl_d (h : zSl L l (zB ta ke w n).1 (zB ta ke w n).2) (hn : n < 120) : zSl L l (zB ta ke w (n + 1)).1 (zB ta ke w (n + 1)).2 := by
  have b1 := zB_b (ta := ta) (ke := ke) (w := w) (n := n) (by omega)
  have p1 := zp_b (ta := ta) (d := n) (w := w) (k := 1024) (Nat.le_refl _)
  by_cases c : 0 < zcnw ta ke w n
  · have c2 : zcnw ta ke w n ≤ (zp ta n w 1024).1 := by
      by_cases k0 : (ke n).toInt = 0
      · rw [zcnw_0 k0]; omega
      · rw [zcnw_p k0]; exact Int.le_refl _
    rw [zB_y c]
    exact zSl_skip h (by omega) c (by omega)
  · rw [zB_n c]; exact h
theorem zSl_t {m : Int} (h : zSl L l (zB ta ke w d.toNat).1 (zB ta ke w d.toNat).2) (hd0 : 0 ≤ d) (hn : d < 120) (hk : (ke d.toNat).toInt ≠ 0) (hm : 0 < m) (hc : m ≤ (zp ta d w 1024).1) : zSl (L + zgam (d - l) + zgam m + (zp ta d w 1024).2.1) d (zB ta ke w (d.toNat + 1)).1 (zB ta ke w (d.toNat + 1)).2 ∧ L + zgam (d - l) + zgam m + (zp ta d w 1024).2.1 ≤ (zB ta ke w (d.toNat + 1)).1 := by
  have ed : ((d.toNat : Nat) : Int) = d := by omega
  have b1 := zB_b (ta := ta) (ke := ke) (w := w) (n := d.toNat) (by omega)
  have ec : zcnw ta ke w d.toNat = (zp ta d w 1024).1 := by rw [zcnw_p hk, ed]
  have t := zSl_take (s := (zp ta d w 1024).2.1) h (d := d) (by omega) hm hc
  rw [zB_y (by rw [ec]; omega), ec, ed]
  exact ⟨t.1, t.1.1⟩
theorem zti_0 (h : f ≤ 0) (hk : k ≤ 0) : f ≤ (zp ta d w k.toNat).1 := by
  rw [show k.toNat = 0 by omega]; exact h
theorem zti_y (h : f ≤ (zp ta d w k.toNat).1) (h0 : 0 ≤ k) (hv : (ta (1024 * d + k).toNat).toInt = w + 1) (e : k' = k + 1) (ef : f' = f + 1) : f' ≤ (zp ta d w k'.toNat).1 := by
  subst e; subst ef
  rw [show (k + 1).toNat = k.toNat + 1 by omega, zp_y (by rw [show ((k.toNat : Nat) : Int) = k by omega]; exact hv)]
  dsimp only
  omega
theorem zti_m (h : f ≤ (zp ta d w k.toNat).1) (e : k ≤ k') (h0 : 0 ≤ k) (h1 : k' ≤ 1024) (ef : f' = f) : f' ≤ (zp ta d w k'.toNat).1 := by
  subst ef
  have := zp_cm (ta := ta) (d := d) (w := w) (j := k.toNat) (k := k'.toNat) (by omega)
  omega
theorem zpl_y {g : Int} (h : f = b + (zp ta d w k.toNat).2.1 ∧ l = (zp ta d w k.toNat).2.2) (h0 : 0 ≤ k) (hv : (ta (1024 * d + k).toNat).toInt = w + 1) (e : k' = k + 1) (ef : f' = f + zgam (k - l)) (eg : g = k) : f' = b + (zp ta d w k'.toNat).2.1 ∧ g = (zp ta d w k'.toNat).2.2 := by
  subst e; subst ef; rw [eg]
  rw [show (k + 1).toNat = k.toNat + 1 by omega, zp_y (by rw [show ((k.toNat : Nat) : Int) = k by omega]; exact hv)]
  dsimp only
  rw [show ((k.toNat : Nat) : Int) = k by omega, ← h.2]
  omega
theorem zpl_n {g : Int} (h : f = b + (zp ta d w k.toNat).2.1 ∧ l = (zp ta d w k.toNat).2.2) (h0 : 0 ≤ k) (hv : ¬ (ta (1024 * d + k).toNat).toInt = w + 1) (e : k' = k + 1) (ef : f' = f) (eg : g = l) : f' = b + (zp ta d w k'.toNat).2.1 ∧ g = (zp ta d w k'.toNat).2.2 := by
  subst e; rw [ef, eg]
  rw [show (k + 1).toNat = k.toNat + 1 by omega, zp_n (by rw [show ((k.toNat : Nat) : Int) = k by omega]; exact hv)]
  exact h
theorem zpl_0 {g : Int} (hk : k = 0) (ef : f = b) (eg : g = -1) : f = b + (zp ta d w k.toNat).2.1 ∧ g = (zp ta d w k.toNat).2.2 := by
  subst hk; subst ef; subst eg
  exact ⟨(Int.add_zero _).symm, rfl⟩
end ZLo
