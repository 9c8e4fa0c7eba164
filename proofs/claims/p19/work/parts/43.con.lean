def zdig (x : Int) : Int := if x ≤ 0 then 0 else (Nat.log2 x.toNat : Int) + 1
def zgam (x : Int) : Int := 2 * zdig x - 1
theorem zdig_0 {x : Int} (h : x ≤ 0) : zdig x = 0 := if_pos h
theorem zdig_p {x : Int} (h : 0 < x) : zdig x = (Nat.log2 x.toNat : Int) + 1 := if_neg (by omega)
theorem zdig_half {x : Int} (h : 0 < x) : zdig x = zdig (x / 2) + 1 := by
  rw [zdig_p h]
  by_cases h1 : x = 1
  · subst h1
    rw [zdig_0 (by decide), show Nat.log2 (1 : Int).toNat = 0 from by decide]
    rfl
  · rw [zdig_p (by omega), Nat.log2_def, if_pos (by omega), show (x / 2).toNat = x.toNat / 2 by omega]
    omega
theorem zdig_1 {x : Int} (h : 0 < x) : 1 ≤ zdig x := by rw [zdig_p h]; omega
theorem zdig_n (x : Int) : 0 ≤ zdig x := by
  by_cases h : 0 < x
  · have := zdig_1 h; omega
  · rw [zdig_0 (by omega)]; exact Int.le_refl 0
theorem zdig_lt {x : Int} {k : Nat} (h0 : 0 < x) (h : x < 2 ^ k) : zdig x ≤ k := by
  rw [zdig_p h0]
  have h2 : x.toNat < 2 ^ k := by
    have h3 : ((2 ^ k : Nat) : Int) = (2 : Int) ^ k := by push_cast; rfl
    omega
  have h1 := (Nat.log2_lt (n := x.toNat) (k := k) (by omega)).mpr h2
  omega
theorem zdig_self {x : Int} (h0 : 0 < x) : x < 2 ^ (zdig x).toNat := by
  rw [zdig_p h0]
  have h1 := Nat.lt_log2_self (n := x.toNat)
  have h4 : ((x.toNat.log2 : Int) + 1).toNat = x.toNat.log2 + 1 := by omega
  rw [h4]
  have h3 : ((2 ^ (x.toNat.log2 + 1) : Nat) : Int) = (2 : Int) ^ (x.toNat.log2 + 1) := by push_cast; rfl
  omega
theorem zdig_31 (x : Int32) : zdig x.toInt ≤ 31 := by
  by_cases h : 0 < x.toInt
  · exact zdig_lt (k := 31) h (by have := zhi x; omega)
  · rw [zdig_0 (by omega)]; decide
theorem zpow_le {a b : Nat} (h : a ≤ b) : (2 : Int) ^ a ≤ 2 ^ b := by
  have h1 : (2 : Nat) ^ a ≤ 2 ^ b := Nat.pow_le_pow_right (by decide) h
  exact_mod_cast h1
theorem zdig_mono {x y : Int} (h : x ≤ y) : zdig x ≤ zdig y := by
  by_cases h0 : 0 < x
  · have h1 := zdig_self (x := y) (by omega)
    have h2 := zdig_lt (x := x) (k := (zdig y).toNat) h0 (by omega)
    have h3 := zdig_n y
    omega
  · rw [zdig_0 (by omega)]; exact zdig_n y
theorem zgam_mono {x y : Int} (h : x ≤ y) : zgam x ≤ zgam y := by have := zdig_mono h; unfold zgam; omega
theorem zgam_1 {x : Int} (h : 0 < x) : 1 ≤ zgam x := by have := zdig_1 h; unfold zgam; omega
theorem zgam_21 {x : Int} (h : 0 < x) (h2 : x < 2048) : zgam x ≤ 21 := by have := zdig_lt (k := 11) h (by omega); unfold zgam; omega
theorem zgam_add {a b : Int} (ha : 0 < a) (hb : 0 < b) : zgam (a + b) ≤ zgam a + zgam b + 1 := by
  have h1 := zdig_self ha
  have h2 := zdig_self hb
  have n1 := zdig_1 ha
  have n2 := zdig_1 hb
  have key : zdig (a + b) ≤ max (zdig a) (zdig b) + 1 := by
    have h3 := zpow_le (a := (zdig a).toNat) (b := (max (zdig a) (zdig b)).toNat) (by omega)
    have h4 := zpow_le (a := (zdig b).toNat) (b := (max (zdig a) (zdig b)).toNat) (by omega)
    have h5 : (2 : Int) ^ ((max (zdig a) (zdig b)).toNat + 1) = 2 ^ (max (zdig a) (zdig b)).toNat * 2 := Int.pow_succ ..
    have h6 := zdig_lt (x := a + b) (k := (max (zdig a) (zdig b)).toNat + 1) (by omega) (by omega)
    omega
  unfold zgam
  omega
/-- of one document's row: how often, the bits of the places, the last place -/
def zp (ta : Nat → Int32) (d w : Int) : Nat → Int × Int × Int
  | 0 => (0, 0, -1)
  | k + 1 => if (ta (1024 * d + k).toNat).toInt = w + 1 then ((zp ta d w k).1 + 1, (zp ta d w k).2.1 + zgam (k - (zp ta d w k).2.2), (k : Int)) else zp ta d w k
theorem zp_y {ta : Nat → Int32} {d w : Int} {k : Nat} (h : (ta (1024 * d + k).toNat).toInt = w + 1) : zp ta d w (k + 1) = ((zp ta d w k).1 + 1, (zp ta d w k).2.1 + zgam (k - (zp ta d w k).2.2), (k : Int)) := if_pos h
theorem zp_n {ta : Nat → Int32} {d w : Int} {k : Nat} (h : ¬ (ta (1024 * d + k).toNat).toInt = w + 1) : zp ta d w (k + 1) = zp ta d w k := if_neg h
theorem zp_b {ta : Nat → Int32} {d w : Int} {k : Nat} (hk : k ≤ 1024) : 0 ≤ (zp ta d w k).1 ∧ (zp ta d w k).1 ≤ k ∧ (zp ta d w k).1 ≤ (zp ta d w k).2.1 ∧ (zp ta d w k).2.1 ≤ 21 * k ∧ -1 ≤ (zp ta d w k).2.2 ∧ (zp ta d w k).2.2 < k := by
  induction k with
  | zero =>
    show (0 : Int) ≤ 0 ∧ (0 : Int) ≤ ((0 : Nat) : Int) ∧ (0 : Int) ≤ 0 ∧ (0 : Int) ≤ 21 * ((0 : Nat) : Int) ∧ (-1 : Int) ≤ -1 ∧ (-1 : Int) < ((0 : Nat) : Int)
    omega
  | succ k ih =>
    obtain ⟨h1, h2, h3, h4, h5, h6⟩ := ih (by omega)
    by_cases h : (ta (1024 * d + k).toNat).toInt = w + 1
    · rw [zp_y h]
      have g1 := zgam_1 (x := k - (zp ta d w k).2.2) (by omega)
      have g2 := zgam_21 (x := k - (zp ta d w k).2.2) (by omega) (by omega)
      exact ⟨by dsimp only; omega, by dsimp only; omega, by dsimp only; omega, by dsimp only; omega, by dsimp only; omega, by dsimp only; omega⟩
    · rw [zp_n h]
      exact ⟨h1, by omega, h3, by omega, h5, by omega⟩
theorem zp_mono {ta : Nat → Int32} {d w : Int} {j k : Nat} (h : j ≤ k) (hk : k ≤ 1024) : (zp ta d w j).2.1 ≤ (zp ta d w k).2.1 := by
  induction k with
  | zero => rw [show j = 0 by omega]; exact Int.le_refl _
  | succ k ih =>
    by_cases e : j = k + 1
    · rw [e]; exact Int.le_refl _
    · have h1 := ih (by omega) (by omega)
      by_cases h : (ta (1024 * d + k).toNat).toInt = w + 1
      · rw [zp_y h]
        have h2 := zp_b (ta := ta) (d := d) (w := w) (k := k) (by omega)
        have g1 := zgam_1 (x := k - (zp ta d w k).2.2) (by omega)
        dsimp only
        omega
      · rw [zp_n h]; exact h1
theorem zp_congr {ta ta' : Nat → Int32} {d w v : Int} {k : Nat} (h : ∀ j : Nat, j < k → ((ta (1024 * d + j).toNat).toInt = w + 1 ↔ (ta' (1024 * d + j).toNat).toInt = v + 1)) : zp ta d w k = zp ta' d v k := by
  induction k with
  | zero => rfl
  | succ k ih =>
    have h1 := ih (fun j hj => h j (by omega))
    by_cases c : (ta (1024 * d + k).toNat).toInt = w + 1
    · rw [zp_y c, zp_y ((h k (by omega)).mp c), h1]
    · rw [zp_n c, zp_n (fun q => c ((h k (by omega)).mpr q)), h1]
def zcnw (ta ke : Nat → Int32) (w : Int) (d : Nat) : Int := if (ke d).toInt = 0 then 0 else (zp ta d w 1024).1
/-- a word's bits in the documents below n, and the last document -/
def zB (ta ke : Nat → Int32) (w : Int) : Nat → Int × Int
  | 0 => (0, -1)
  | d + 1 => if 0 < zcnw ta ke w d then ((zB ta ke w d).1 + zgam (d - (zB ta ke w d).2) + zgam (zcnw ta ke w d) + (zp ta d w 1024).2.1, (d : Int)) else zB ta ke w d
section ZB
variable {ta ta' ke ke' : Nat → Int32} {w v : Int} {d n : Nat}
theorem zcnw_0 (h : (ke d).toInt = 0) : zcnw ta ke w d = 0 := if_pos h
theorem zcnw_p (h : (ke d).toInt ≠ 0) : zcnw ta ke w d = (zp ta d w 1024).1 := if_neg h
theorem zcnw_b : 0 ≤ zcnw ta ke w d ∧ zcnw ta ke w d ≤ 1024 := by
  have h := zp_b (ta := ta) (d := d) (w := w) (k := 1024) (Nat.le_refl _)
  by_cases c : (ke d).toInt = 0
  · rw [zcnw_0 c]; omega
  · rw [zcnw_p c]; omega
theorem zB_y (h : 0 < zcnw ta ke w d) : zB ta ke w (d + 1) = ((zB ta ke w d).1 + zgam (d - (zB ta ke w d).2) + zgam (zcnw ta ke w d) + (zp ta d w 1024).2.1, (d : Int)) := if_pos h
theorem zB_n (h : ¬ 0 < zcnw ta ke w d) : zB ta ke w (d + 1) = zB ta ke w d := if_neg h
theorem zB_b (hn : n ≤ 120) : 0 ≤ (zB ta ke w n).1 ∧ (zB ta ke w n).1 ≤ 21546 * n ∧ -1 ≤ (zB ta ke w n).2 ∧ (zB ta ke w n).2 < n := by
  induction n with
  | zero =>
    show (0 : Int) ≤ 0 ∧ (0 : Int) ≤ 21546 * ((0 : Nat) : Int) ∧ (-1 : Int) ≤ -1 ∧ (-1 : Int) < ((0 : Nat) : Int)
    omega
  | succ n ih =>
    obtain ⟨h1, h2, h3, h4⟩ := ih (by omega)
    have h5 := zcnw_b (ta := ta) (ke := ke) (w := w) (d := n)
    have h6 := zp_b (ta := ta) (d := n) (w := w) (k := 1024) (Nat.le_refl _)
    by_cases c : 0 < zcnw ta ke w n
    · rw [zB_y c]
      have g1 := zgam_1 (x := n - (zB ta ke w n).2) (by omega)
      have g2 := zgam_21 (x := n - (zB ta ke w n).2) (by omega) (by omega)
      have g3 := zgam_1 (x := zcnw ta ke w n) c
      have g4 := zgam_21 (x := zcnw ta ke w n) c (by omega)
      exact ⟨by dsimp only; omega, by dsimp only; omega, by dsimp only; omega, by dsimp only; omega⟩
    · rw [zB_n c]
      exact ⟨h1, by omega, h3, by omega⟩
theorem zB_mono {m : Nat} (h : m ≤ n) (hn : n ≤ 120) : (zB ta ke w m).1 ≤ (zB ta ke w n).1 := by
  induction n with
  | zero => rw [show m = 0 by omega]; exact Int.le_refl _
  | succ n ih =>
    by_cases e : m = n + 1
    · rw [e]; exact Int.le_refl _
    · have h1 := ih (by omega) (by omega)
      by_cases c : 0 < zcnw ta ke w n
      · rw [zB_y c]
        have h2 := zB_b (ta := ta) (ke := ke) (w := w) (n := n) (by omega)
        have h6 := zp_b (ta := ta) (d := n) (w := w) (k := 1024) (Nat.le_refl _)
        have g1 := zgam_1 (x := n - (zB ta ke w n).2) (by omega)
        have g3 := zgam_1 (x := zcnw ta ke w n) c
        dsimp only
        omega
      · rw [zB_n c]; exact h1
theorem zB_congr (h : ∀ d : Nat, d < n → ke d = ke' d ∧ ∀ j : Nat, j < 1024 → ((ta (1024 * (d : Int) + j).toNat).toInt = w + 1 ↔ (ta' (1024 * (d : Int) + j).toNat).toInt = v + 1)) : zB ta ke w n = zB ta' ke' v n := by
  induction n with
  | zero => rfl
  | succ n ih =>
    have h1 := ih (fun d hd => h d (by omega))
    obtain ⟨h2, h3⟩ := h n (by omega)
    have h4 := zp_congr (ta := ta) (ta' := ta') (d := n) (w := w) (v := v) (k := 1024) h3
    have h5 : zcnw ta ke w n = zcnw ta' ke' v n := by unfold zcnw; rw [h2, h4]
    by_cases c : 0 < zcnw ta ke w n
    · rw [zB_y c, zB_y (by rw [← h5]; exact c), h1, h4, h5]
    · rw [zB_n c, zB_n (by rw [← h5]; exact c), h1]
end ZB
def zSl (L l B b : Int) : Prop := L ≤ B ∧ l ≤ b ∧ (l = b ∨ L + zgam (b - l) + 1 ≤ B)
theorem zSl_skip {L l B b d c s : Int} (h : zSl L l B b) (hb : b < d) (hc : 0 < c) (hs : 1 ≤ s) : zSl L l (B + zgam (d - b) + zgam c + s) d := by
  obtain ⟨h1, h2, h3⟩ := h
  have g1 := zgam_1 (x := d - b) (by omega)
  have g2 := zgam_1 hc
  refine ⟨by omega, by omega, Or.inr ?_⟩
  rcases h3 with h3 | h3
  · subst h3; omega
  · by_cases e : l = b
    · subst e; omega
    · have g3 := zgam_add (a := d - b) (b := b - l) (by omega) (by omega)
      rw [show d - b + (b - l) = d - l by omega] at g3
      omega
theorem zSl_take {L l B b d n c s : Int} (h : zSl L l B b) (hb : b < d) (hn : 0 < n) (hc : n ≤ c) : zSl (L + zgam (d - l) + zgam n + s) d (B + zgam (d - b) + zgam c + s) d ∧ L + zgam (d - l) ≤ B + zgam (d - b) ∧ zgam n ≤ zgam c := by
  obtain ⟨h1, h2, h3⟩ := h
  have g1 := zgam_mono hc
  have g2 : L + zgam (d - l) ≤ B + zgam (d - b) := by
    by_cases e : l = b
    · subst e; omega
    · have g3 := zgam_add (a := d - b) (b := b - l) (by omega) (by omega)
      rw [show d - b + (b - l) = d - l by omega] at g3
      omega
  exact ⟨⟨by omega, Int.le_refl _, Or.inl rfl⟩, g2, g1⟩
/-- some documents are gone, the others are as they were -/
def zSb (ta ke ta' ke' : Nat → Int32) (n : Int) : Prop := ∀ d : Nat, (d : Int) < n → (ke' d).toInt = 0 ∨ (ke' d = ke d ∧ ∀ j : Nat, j < 1024 → ta' (1024 * (d : Int) + j).toNat = ta (1024 * (d : Int) + j).toNat)
theorem zSb_rf {ta ke : Nat → Int32} {n : Int} : zSb ta ke ta ke n := fun _ _ => Or.inr ⟨rfl, fun _ _ => rfl⟩
theorem zB_sub {ta ke ta' ke' : Nat → Int32} {w : Int} {n : Nat} (h : zSb ta ke ta' ke' n) (hn : n ≤ 120) : zSl (zB ta' ke' w n).1 (zB ta' ke' w n).2 (zB ta ke w n).1 (zB ta ke w n).2 := by
  induction n with
  | zero => exact ⟨Int.le_refl _, Int.le_refl _, Or.inl rfl⟩
  | succ n ih =>
    have h1 := ih (fun d hd => h d (by omega)) (by omega)
    have b1 := zB_b (ta := ta) (ke := ke) (w := w) (n := n) (by omega)
    have p1 := zp_b (ta := ta) (d := n) (w := w) (k := 1024) (Nat.le_refl _)
    have skip : ¬ 0 < zcnw ta' ke' w n → zSl (zB ta' ke' w (n + 1)).1 (zB ta' ke' w (n + 1)).2 (zB ta ke w (n + 1)).1 (zB ta ke w (n + 1)).2 := fun q => by
      rw [zB_n q]
      by_cases c : 0 < zcnw ta ke w n
      · have c2 : zcnw ta ke w n ≤ (zp ta n w 1024).1 := by
          by_cases k0 : (ke n).toInt = 0
          · rw [zcnw_0 k0]; omega
          · rw [zcnw_p k0]; exact Int.le_refl _
        rw [zB_y c]
        exact zSl_skip h1 (by omega) c (by omega)
      · rw [zB_n c]; exact h1
    rcases h n (by omega) with h2 | ⟨h2, h3⟩
    · exact skip (by rw [zcnw_0 h2]; omega)
    · have h4 := zp_congr (ta := ta') (ta' := ta) (d := n) (w := w) (v := w) (k := 1024) (fun j hj => by rw [h3 j hj])
      have h5 : zcnw ta' ke' w n = zcnw ta ke w n := by unfold zcnw; rw [h2, h4]
      by_cases c : 0 < zcnw ta' ke' w n
      · rw [zB_y c, zB_y (by rw [← h5]; exact c), h4, h5]
        exact (zSl_take h1 (by omega) (by omega) (Int.le_refl _)).1
      · exact skip c
/-- every word's bits fit -/
def zJ (ta ke : Nat → Int32) (W n : Int) : Prop := ∀ w : Nat, (w : Int) < W → (zB ta ke w n.toNat).1 ≤ 40000
def zTk (ta ke : Nat → Int32) (W n r : Int) : Prop := ∀ w : Nat, (w : Int) < W → (zB ta ke w n.toNat).1 ≤ r
theorem zJ_of {ta ke : Nat → Int32} {W n r : Int} (h : zTk ta ke W n r) (hr : r ≤ 40000) : zJ ta ke W n := fun w hw => Int.le_trans (h w hw) hr
theorem zJ_sub {ta ke ta' ke' : Nat → Int32} {W n : Int} (h : zJ ta ke W n) (hs : zSb ta ke ta' ke' n) (h0 : 0 ≤ n) (hn : n ≤ 120) : zJ ta' ke' W n := fun w hw => Int.le_trans (zB_sub (w := w) (n := n.toNat) (fun d hd => hs d (by omega)) (by omega)).1 (h w hw)
theorem zJ_eq {ta ke ta' ke' : Nat → Int32} {W n m : Int} (h : zJ ta ke W n) (h1 : zEq ta ta' (1024 * n)) (h2 : zEq ke ke' m) (hm : n ≤ m) (h0 : 0 ≤ n) : zJ ta' ke' W n := fun w hw => by
  rw [← zB_congr (ta := ta) (ke := ke) (ta' := ta') (ke' := ke') (w := w) (v := w) (n := n.toNat) (fun d hd => ⟨(h2 d (by omega)).symm, fun j hj => by rw [h1 (1024 * (d : Int) + j).toNat (by omega)]⟩)]
  exact h w hw
