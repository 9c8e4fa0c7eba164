abbrev zi (k : ClassId) (n : Nat) (f : Nat → Int32) : va_E := .inl (k, n, .inl f)
def zIn (f : Nat → Int32) (n i : Int) : Prop := 0 ≤ i ∧ i < n ∧ zTok (f i.toNat).toInt
def zSml (b : Int) : Int := if 65 ≤ b ∧ b ≤ 90 then b + 32 else b
def zLt (f : Nat → Int32) (p : Int) (k : Nat) : Int := zSml (f (p.toNat + k)).toInt
def zVl (b : Int) : Prop := (48 ≤ b ∧ b ≤ 57) ∨ (97 ≤ b ∧ b ≤ 122)
def zRaw (f : Nat → Int32) (n p : Int) (m : Nat) : Prop := m ≤ 12 ∧ (∀ k : Nat, k < m → zIn f n (p + k)) ∧ (m = 12 ∨ ¬ zIn f n (p + m))
def zhd (L : Nat → Int) : Nat → Bool
  | 0 => false
  | k + 1 => zhd L k || decide (L k ≤ 57)
def zies (L : Nat → Int) (m : Nat) : Bool := decide (5 ≤ m ∧ L (m - 1) = 115 ∧ L (m - 2) = 101 ∧ L (m - 3) = 105)
def zing (L : Nat → Int) (m : Nat) : Bool := decide (6 ≤ m ∧ L (m - 1) = 103 ∧ L (m - 2) = 110 ∧ L (m - 3) = 105)
def zed (L : Nat → Int) (m : Nat) : Bool := decide (5 ≤ m ∧ L (m - 1) = 100 ∧ L (m - 2) = 101)
def zes (L : Nat → Int) (m : Nat) : Bool := decide (4 ≤ m ∧ L (m - 1) = 115 ∧ L (m - 2) ≠ 115 ∧ L (m - 2) ≠ 117 ∧ L (m - 2) ≠ 105)
def zshm (L : Nat → Int) (m : Nat) : Nat := if zhd L m = true then m else if zies L m = true then m - 2 else if zing L m = true then m - 3 else if zed L m = true then m - 2 else if zes L m = true then m - 1 else m
def zshl (L : Nat → Int) (m k : Nat) : Int := if zhd L m = false ∧ zies L m = true ∧ k = m - 3 then 121 else L k
def zdt (b : Int) : Int := if 97 ≤ b then b - 86 else b - 47
def zpk (L : Nat → Int) (m : Nat) : Nat → Int
  | 0 => 0
  | i + 1 => 37 * zpk L m i + (if i < m then zdt (L i) else 0)
def zWrd (f : Nat → Int32) (p : Int) (m : Nat) : Int := zpk (zshl (zLt f p) m) (zshm (zLt f p) m) 12
def zFW (f : Nat → Int32) (n x : Int) : Prop := (x = 0 ∧ ∀ i : Int, ¬ zIn f n i) ∨ (∃ (p : Int) (m : Nat), zIn f n p ∧ (∀ j : Int, j < p → ¬ zIn f n j) ∧ zRaw f n p m ∧ x = zWrd f p m)
theorem zRaw_u {f : Nat → Int32} {n p : Int} {m m' : Nat} (h : zRaw f n p m) (h' : zRaw f n p m') : m = m' := by
  obtain ⟨a1, a2, a3⟩ := h
  obtain ⟨b1, b2, b3⟩ := h'
  rcases Nat.lt_trichotomy m m' with c | c | c
  · rcases a3 with q | q
    · omega
    · exact absurd (b2 m c) q
  · exact c
  · rcases b3 with q | q
    · omega
    · exact absurd (a2 m' c) q
theorem zhd_c {L L' : Nat → Int} : ∀ {m : Nat}, (∀ k, k < m → L k = L' k) → zhd L m = zhd L' m := by
  intro m
  induction m with
  | zero => intro _; rfl
  | succ m ih =>
    intro h
    show (zhd L m || decide (L m ≤ 57)) = (zhd L' m || decide (L' m ≤ 57))
    rw [ih (fun k hk => h k (by omega)), h m (by omega)]
theorem zies_c {L L' : Nat → Int} {m : Nat} (h : ∀ k, k < m → L k = L' k) : zies L m = zies L' m := by
  unfold zies
  by_cases c : 5 ≤ m
  · rw [h (m - 1) (by omega), h (m - 2) (by omega), h (m - 3) (by omega)]
  · have e : ∀ q : Prop, (5 ≤ m ∧ q) ↔ False := fun q => ⟨fun x => c x.1, fun x => x.elim⟩
    simp only [e]
theorem zing_c {L L' : Nat → Int} {m : Nat} (h : ∀ k, k < m → L k = L' k) : zing L m = zing L' m := by
  unfold zing
  by_cases c : 6 ≤ m
  · rw [h (m - 1) (by omega), h (m - 2) (by omega), h (m - 3) (by omega)]
  · have e : ∀ q : Prop, (6 ≤ m ∧ q) ↔ False := fun q => ⟨fun x => c x.1, fun x => x.elim⟩
    simp only [e]
theorem zed_c {L L' : Nat → Int} {m : Nat} (h : ∀ k, k < m → L k = L' k) : zed L m = zed L' m := by
  unfold zed
  by_cases c : 5 ≤ m
  · rw [h (m - 1) (by omega), h (m - 2) (by omega)]
  · have e : ∀ q : Prop, (5 ≤ m ∧ q) ↔ False := fun q => ⟨fun x => c x.1, fun x => x.elim⟩
    simp only [e]
theorem zes_c {L L' : Nat → Int} {m : Nat} (h : ∀ k, k < m → L k = L' k) : zes L m = zes L' m := by
  unfold zes
  by_cases c : 4 ≤ m
  · rw [h (m - 1) (by omega), h (m - 2) (by omega)]
  · have e : ∀ q : Prop, (4 ≤ m ∧ q) ↔ False := fun q => ⟨fun x => c x.1, fun x => x.elim⟩
    simp only [e]
theorem zshm_c {L L' : Nat → Int} {m : Nat} (h : ∀ k, k < m → L k = L' k) : zshm L m = zshm L' m := by
  unfold zshm
  rw [zhd_c h, zies_c h, zing_c h, zed_c h, zes_c h]
theorem zshl_c {L L' : Nat → Int} {m : Nat} (h : ∀ k, k < m → L k = L' k) {k : Nat} (hk : k < m) : zshl L m k = zshl L' m k := by
  unfold zshl
  rw [zhd_c h, zies_c h, h k hk]
theorem zshm_le {L : Nat → Int} {m : Nat} : zshm L m ≤ m := by
  unfold zshm
  repeat' split
  all_goals omega
theorem zshm_pos {L : Nat → Int} {m : Nat} (h : 1 ≤ m) : 1 ≤ zshm L m := by
  unfold zshm
  split
  · omega
  · split
    · rename_i c; unfold zies at c; have q := of_decide_eq_true c; omega
    · split
      · rename_i c; unfold zing at c; have q := of_decide_eq_true c; omega
      · split
        · rename_i c; unfold zed at c; have q := of_decide_eq_true c; omega
        · split
          · rename_i c; unfold zes at c; have q := of_decide_eq_true c; omega
          · omega
theorem zpk_c {L L' : Nat → Int} {m : Nat} (h : ∀ k, k < m → L k = L' k) : ∀ i : Nat, zpk L m i = zpk L' m i := by
  intro i
  induction i with
  | zero => rfl
  | succ i ih =>
    show 37 * zpk L m i + (if i < m then zdt (L i) else 0) = 37 * zpk L' m i + (if i < m then zdt (L' i) else 0)
    rw [ih]
    by_cases c : i < m
    · rw [h i c]
    · rw [if_neg c, if_neg c]
theorem zdt_v {b : Int} (h : zVl b) : 1 ≤ zdt b ∧ zdt b ≤ 36 := by
  unfold zdt
  unfold zVl at h
  split <;> omega
theorem zdt_i {b c : Int} (h : zVl b) (h' : zVl c) (e : zdt b = zdt c) : b = c := by
  unfold zdt at e
  unfold zVl at h h'
  split at e <;> split at e <;> omega
theorem zpk_b {L : Nat → Int} {m : Nat} (h : ∀ k, k < m → zVl (L k)) : ∀ i : Nat, 0 ≤ zpk L m i := by
  intro i
  induction i with
  | zero => exact Int.le_refl 0
  | succ i ih =>
    show 0 ≤ 37 * zpk L m i + (if i < m then zdt (L i) else 0)
    by_cases c : i < m
    · rw [if_pos c]; have q := zdt_v (h i c); omega
    · rw [if_neg c]; omega
theorem zpk_i {L L' : Nat → Int} {m m' : Nat} (h : ∀ k, k < m → zVl (L k)) (h' : ∀ k, k < m' → zVl (L' k)) : ∀ i : Nat, zpk L m i = zpk L' m' i → ∀ k, k < i → (k < m ↔ k < m') ∧ (k < m → L k = L' k) := by
  intro i
  induction i with
  | zero => intro _ k hk; omega
  | succ i ih =>
    intro e k hk
    have e : 37 * zpk L m i + (if i < m then zdt (L i) else 0) = 37 * zpk L' m' i + (if i < m' then zdt (L' i) else 0) := e
    by_cases c : i < m
    · by_cases c' : i < m'
      · rw [if_pos c, if_pos c'] at e
        have q := zdt_v (h i c); have q' := zdt_v (h' i c')
        have e1 : zpk L m i = zpk L' m' i := by omega
        have e2 : zdt (L i) = zdt (L' i) := by omega
        by_cases hki : k = i
        · rw [hki]; exact ⟨⟨fun _ => c', fun _ => c⟩, fun _ => zdt_i (h i c) (h' i c') e2⟩
        · exact ih e1 k (by omega)
      · rw [if_pos c, if_neg c'] at e
        have q := zdt_v (h i c)
        omega
    · by_cases c' : i < m'
      · rw [if_neg c, if_pos c'] at e
        have q' := zdt_v (h' i c')
        omega
      · rw [if_neg c, if_neg c'] at e
        by_cases hki : k = i
        · rw [hki]; exact ⟨⟨fun x => absurd x c, fun x => absurd x c'⟩, fun x => absurd x c⟩
        · exact ih (by omega) k (by omega)
theorem zpk_e {L L' : Nat → Int} {m m' : Nat} (h : ∀ k, k < m → zVl (L k)) (h' : ∀ k, k < m' → zVl (L' k)) (hm : m ≤ 12) (hm' : m' ≤ 12) (e : zpk L m 12 = zpk L' m' 12) : m = m' ∧ ∀ k, k < m → L k = L' k := by
  have q := zpk_i h h' 12 e
  constructor
  · rcases Nat.lt_trichotomy m m' with c | c | c
    · have q1 := (q m (by omega)).1; omega
    · exact c
    · have q1 := (q m' (by omega)).1; omega
  · intro k hk
    exact (q k (by omega)).2 hk
theorem zpk_u {L : Nat → Int} {m : Nat} (h : ∀ k, k < m → zVl (L k)) : ∀ i : Nat, zpk L m i < 37 ^ i := by
  intro i
  induction i with
  | zero => exact (by decide : (0 : Int) < 1)
  | succ i ih =>
    show 37 * zpk L m i + (if i < m then zdt (L i) else 0) < 37 ^ (i + 1)
    rw [Int.pow_succ]
    by_cases c : i < m
    · rw [if_pos c]; have q := zdt_v (h i c); omega
    · rw [if_neg c]; omega
theorem zpk_p {L : Nat → Int} {m : Nat} (h : ∀ k, k < m → zVl (L k)) (hm : 1 ≤ m) : ∀ i : Nat, 1 ≤ i → 1 ≤ zpk L m i := by
  intro i
  induction i with
  | zero => intro q; omega
  | succ i ih =>
    intro _
    show 1 ≤ 37 * zpk L m i + (if i < m then zdt (L i) else 0)
    by_cases c0 : i = 0
    · rw [c0, if_pos (show 0 < m by omega)]; have q := zdt_v (h 0 (by omega)); have q2 : zpk L m 0 = 0 := rfl; omega
    · have q := ih (by omega)
      by_cases c : i < m
      · rw [if_pos c]; have q2 := zdt_v (h i c); omega
      · rw [if_neg c]; omega
theorem zSml_v {b : Int} (h : zTok b) : zVl (zSml b) := by
  unfold zSml zVl
  unfold zTok at h
  split <;> omega
theorem zLt_v {f : Nat → Int32} {n p : Int} {k : Nat} (h : zIn f n (p + k)) (hp : 0 ≤ p) : zVl (zLt f p k) := by
  unfold zLt
  have e : p.toNat + k = (p + k).toNat := by omega
  rw [e]
  exact zSml_v h.2.2
theorem zsh_v {L : Nat → Int} {m : Nat} (h : ∀ k, k < m → zVl (L k)) : ∀ k, k < zshm L m → zVl (zshl L m k) := by
  intro k hk
  have q := zshm_le (L := L) (m := m)
  unfold zshl
  split
  · unfold zVl; omega
  · exact h k (by omega)
theorem zIn_i {f : Nat → Int32} {n : Int} {x z : Int32} (e : z = f x.toNatClampNeg) (h0 : 0 ≤ x.toInt) (h1 : x.toInt < n) (h2 : (48 ≤ z.toInt ∧ z.toInt ≤ 57) ∨ (97 ≤ z.toInt ∧ z.toInt ≤ 122) ∨ (65 ≤ z.toInt ∧ z.toInt ≤ 90)) : zIn f n x.toInt := ⟨h0, h1, by rw [e] at h2; exact h2⟩
theorem zIn_n {f : Nat → Int32} {n : Int} {x z : Int32} (e : z = f x.toNatClampNeg) (h2 : ¬ ((48 ≤ z.toInt ∧ z.toInt ≤ 57) ∨ (97 ≤ z.toInt ∧ z.toInt ≤ 122) ∨ (65 ≤ z.toInt ∧ z.toInt ≤ 90))) : ¬ zIn f n x.toInt := fun h => h2 (by rw [e]; exact h.2.2)
theorem zIn_o {f : Nat → Int32} {n i : Int} (h : i < 0 ∨ n ≤ i) : ¬ zIn f n i := fun q => by have q1 := q.1; have q2 := q.2.1; omega
theorem zSml_y {b r : Int} (h1 : 65 ≤ b) (h2 : b ≤ 90) (h : r = b + 32) : r = zSml b := by unfold zSml; rw [if_pos ⟨h1, h2⟩, h]
theorem zSml_n {b : Int} (h : b < 65 ∨ 90 < b) : b = zSml b := by unfold zSml; rw [if_neg (by omega)]
def zRl (f : Nat → Int32) (n p : Int) (lt : Nat → Int32) (i : Int) : Prop := ∀ k : Nat, (k : Int) < i → zIn f n (p + k) ∧ (lt k).toInt = zLt f p k
theorem zRl_0 {f lt : Nat → Int32} {n p i : Int} (h : i ≤ 0) : zRl f n p lt i := fun k hk => by omega
theorem zRl_s {f lt : Nat → Int32} {n p i j : Int} {k : Nat} {y : Int32} (h : zRl f n p lt i) (h0 : 0 ≤ p) (hi : 0 ≤ i) (hk : (k : Int) = i) (hq : zIn f n (p + i) ∧ y.toInt = zSml (f (p + i).toNat).toInt) (hj : j = i + 1) : zRl f n p (upd lt k (vp_nar .byte y)) j := by
  intro w hw
  by_cases c : w = k
  · rw [c, hk]
    refine ⟨hq.1, ?_⟩
    have hv := zSml_v hq.1.2.2
    have e : (upd lt k (vp_nar .byte y) k) = vp_nar .byte y := pk_us
    rw [e, vp_nar_byte, zi2b rfl rfl (by unfold zVl at hv; omega) (by unfold zVl at hv; omega), hq.2]
    unfold zLt
    rw [show p.toNat + k = (p + i).toNat from by omega]
  · have q := h w (by omega)
    rw [pk_un c]
    exact q
theorem zRl_e {f lt : Nat → Int32} {n p i j : Int} (h : zRl f n p lt i) (e : j = i) : zRl f n p lt j := by rw [e]; exact h
theorem zNi_e {f : Nat → Int32} {n a b : Int} (h : ¬ zIn f n a) (e : b = a) : ¬ zIn f n b := by rw [e]; exact h
theorem zIn_e {f : Nat → Int32} {n a b : Int} (h : zIn f n a) (e : b = a) : zIn f n b := by rw [e]; exact h
theorem zhd_0 {L : Nat → Int} {i : Int} (h : i ≤ 0) : zhd L i.toNat = false := by rw [show i.toNat = 0 from by omega]; rfl
theorem zhd_s {f : Nat → Int32} {i z : Int32} {j : Int} (h : zhd (fun k => (f k).toInt) i.toInt.toNat = false) (e : z = f i.toNatClampNeg) (hz : 57 < z.toInt) (h0 : 0 ≤ i.toInt) (hj : j = i.toInt + 1) : zhd (fun k => (f k).toInt) j.toNat = false := by
  rw [show j.toNat = i.toInt.toNat + 1 from by omega]
  show (zhd (fun k => (f k).toInt) i.toInt.toNat || decide ((f i.toInt.toNat).toInt ≤ 57)) = false
  have q : z = f i.toInt.toNat := e
  rw [h, ← q, decide_eq_false (by omega)]
  rfl
theorem zhd_k {L : Nat → Int} {k : Nat} (h : L k ≤ 57) : ∀ m : Nat, k < m → zhd L m = true := by
  intro m
  induction m with
  | zero => intro q; omega
  | succ m ih =>
    intro q
    show (zhd L m || decide (L m ≤ 57)) = true
    by_cases c : k = m
    · rw [← c, decide_eq_true h, Bool.or_true]
    · rw [ih (by omega), Bool.true_or]
theorem zhd_t {f : Nat → Int32} {i z : Int32} {m : Int} (e : z = f i.toNatClampNeg) (hz : z.toInt ≤ 57) (h0 : 0 ≤ i.toInt) (hm : i.toInt < m) : zhd (fun k => (f k).toInt) m.toNat = true :=
  zhd_k (k := i.toNatClampNeg) (by rw [← e]; exact hz) m.toNat (by have q : i.toNatClampNeg = i.toInt.toNat := rfl; omega)
theorem zhd_e {L : Nat → Int} {i j : Int} (h : zhd L i.toNat = false) (e : j = i) : zhd L j.toNat = false := by rw [e]; exact h
def zCrT : List (List Int) := [[105, 101, 115], [105, 110, 103], [101, 100], [115], [115, 115], [117, 115], [105, 115]]
def zCr (s : Nat) (k : Int) : Int := (zCrT.getD s []).getD k.toNat 0
theorem zcr9 {s : Nat} {x z8 z12 z13 : Int32} (hs : s < 7) (e8 : z8 = (zSbyt.getD s []).getD x.toNatClampNeg 0) (e12 : z12 = z8 &&& 255) (e13 : z13 = (z12.toUInt32 % 65536).toInt32) (h1 : x.toNatClampNeg < 3) : z13.toInt = zCr s x.toInt := by
  have key : ∀ s, s < 7 → ∀ n, n < 3 → ((((zSbyt.getD s []).getD n 0) &&& 255).toUInt32 % 65536).toInt32.toInt = (zCrT.getD s []).getD n 0 := by decide +kernel
  rw [e13, e12, e8]
  exact key s hs x.toNatClampNeg h1
def zEb (f : Nat → Int32) (a n : Int) (s : Nat) : Prop := ∀ k : Nat, (k : Int) < n → (f (a.toNat + k)).toInt = zCr s k
section ZEb
variable {f : Nat → Int32} {a b n j k : Int} {s : Nat} {z y : Int32}
theorem zEb_0 (h : n ≤ 0) : zEb f a n s := fun k hk => by omega
theorem zEb_s (h : zEb f a n s) (e : z = f y.toNatClampNeg) (ey : y.toInt = a + n) (hr : z.toInt = zCr s n) (ha : 0 ≤ a) (hn : 0 ≤ n) (hj : j = n + 1) : zEb f a j s := fun w hw => by
  by_cases c : (w : Int) < n
  · exact h w c
  · have q : y.toNatClampNeg = a.toNat + w := by have q : y.toNatClampNeg = y.toInt.toNat := rfl; omega
    rw [← q, ← e, hr, show (w : Int) = n from by omega]
theorem zEb_e (h : zEb f a n s) (e : b = a) (e2 : j = n) : zEb f b j s := by rw [e, e2]; exact h
theorem zEb_n (h : zEb f a n s) (e : z = f y.toNatClampNeg) (ey : y.toInt = a + k) (ha : 0 ≤ a) (hk : 0 ≤ k) (hn : k < n) (hr : z.toInt ≠ zCr s k) : False := by
  have q := h k.toNat (by omega)
  have q2 : y.toNatClampNeg = a.toNat + k.toNat := by have q : y.toNatClampNeg = y.toInt.toNat := rfl; omega
  rw [← q2, ← e, show ((k.toNat : Nat) : Int) = k from by omega] at q
  exact hr q
end ZEb
section ZSh
variable {f : Nat → Int32} {m : Int}
theorem zEb1 {s : Nat} (hm : 1 ≤ m) : zEb f (m - 1) 1 s ↔ (f (m.toNat - 1)).toInt = zCr s 0 := by
  constructor
  · intro h
    have q := h 0 (by omega)
    rw [show (m - 1).toNat + 0 = m.toNat - 1 from by omega] at q
    exact q
  · intro h k hk
    rw [show k = 0 from by omega, show (m - 1).toNat + 0 = m.toNat - 1 from by omega]
    exact h
theorem zEb2 {s : Nat} (hm : 2 ≤ m) : zEb f (m - 2) 2 s ↔ (f (m.toNat - 2)).toInt = zCr s 0 ∧ (f (m.toNat - 1)).toInt = zCr s 1 := by
  constructor
  · intro h
    have q := h 0 (by omega)
    have q1 := h 1 (by omega)
    rw [show (m - 2).toNat + 0 = m.toNat - 2 from by omega] at q
    rw [show (m - 2).toNat + 1 = m.toNat - 1 from by omega] at q1
    exact ⟨q, q1⟩
  · intro h k hk
    by_cases c : k = 0
    · rw [c, show (m - 2).toNat + 0 = m.toNat - 2 from by omega]; exact h.1
    · rw [show k = 1 from by omega, show (m - 2).toNat + 1 = m.toNat - 1 from by omega]; exact h.2
theorem zEb3 {s : Nat} (hm : 3 ≤ m) : zEb f (m - 3) 3 s ↔ (f (m.toNat - 3)).toInt = zCr s 0 ∧ (f (m.toNat - 2)).toInt = zCr s 1 ∧ (f (m.toNat - 1)).toInt = zCr s 2 := by
  constructor
  · intro h
    have q := h 0 (by omega)
    have q1 := h 1 (by omega)
    have q2 := h 2 (by omega)
    rw [show (m - 3).toNat + 0 = m.toNat - 3 from by omega] at q
    rw [show (m - 3).toNat + 1 = m.toNat - 2 from by omega] at q1
    rw [show (m - 3).toNat + 2 = m.toNat - 1 from by omega] at q2
    exact ⟨q, q1, q2⟩
  · intro h k hk
    by_cases c : k = 0
    · rw [c, show (m - 3).toNat + 0 = m.toNat - 3 from by omega]; exact h.1
    · by_cases c1 : k = 1
      · rw [c1, show (m - 3).toNat + 1 = m.toNat - 2 from by omega]; exact h.2.1
      · rw [show k = 2 from by omega, show (m - 3).toNat + 2 = m.toNat - 1 from by omega]; exact h.2.2
theorem zies_t (h5 : 5 ≤ m) (h : 3 ≤ m ∧ zEb f (m - 3) 3 0) : zies (fun k => (f k).toInt) m.toNat = true := by
  have q := (zEb3 h.1).mp h.2
  exact decide_eq_true ⟨by omega, q.2.2, q.2.1, q.1⟩
theorem zies_f (h : m < 5 ∨ ¬ (3 ≤ m ∧ zEb f (m - 3) 3 0)) : zies (fun k => (f k).toInt) m.toNat = false := by
  refine decide_eq_false (fun q => ?_)
  rcases h with c | c
  · omega
  · exact c ⟨by omega, (zEb3 (by omega)).mpr ⟨q.2.2.2, q.2.2.1, q.2.1⟩⟩
theorem zing_t (h5 : 6 ≤ m) (h : 3 ≤ m ∧ zEb f (m - 3) 3 1) : zing (fun k => (f k).toInt) m.toNat = true := by
  have q := (zEb3 h.1).mp h.2
  exact decide_eq_true ⟨by omega, q.2.2, q.2.1, q.1⟩
theorem zing_f (h : m < 6 ∨ ¬ (3 ≤ m ∧ zEb f (m - 3) 3 1)) : zing (fun k => (f k).toInt) m.toNat = false := by
  refine decide_eq_false (fun q => ?_)
  rcases h with c | c
  · omega
  · exact c ⟨by omega, (zEb3 (by omega)).mpr ⟨q.2.2.2, q.2.2.1, q.2.1⟩⟩
theorem zed_t (h5 : 5 ≤ m) (h : 2 ≤ m ∧ zEb f (m - 2) 2 2) : zed (fun k => (f k).toInt) m.toNat = true := by
  have q := (zEb2 h.1).mp h.2
  exact decide_eq_true ⟨by omega, q.2, q.1⟩
theorem zed_f (h : m < 5 ∨ ¬ (2 ≤ m ∧ zEb f (m - 2) 2 2)) : zed (fun k => (f k).toInt) m.toNat = false := by
  refine decide_eq_false (fun q => ?_)
  rcases h with c | c
  · omega
  · exact c ⟨by omega, (zEb2 (by omega)).mpr ⟨q.2.2, q.2.1⟩⟩
theorem zes_t (h4 : 4 ≤ m) (h : 1 ≤ m ∧ zEb f (m - 1) 1 3) (h1 : ¬ (2 ≤ m ∧ zEb f (m - 2) 2 4)) (h2 : ¬ (2 ≤ m ∧ zEb f (m - 2) 2 5)) (h3 : ¬ (2 ≤ m ∧ zEb f (m - 2) 2 6)) : zes (fun k => (f k).toInt) m.toNat = true := by
  have q := (zEb1 h.1).mp h.2
  exact decide_eq_true ⟨by omega, q, fun c => h1 ⟨by omega, (zEb2 (by omega)).mpr ⟨c, q⟩⟩, fun c => h2 ⟨by omega, (zEb2 (by omega)).mpr ⟨c, q⟩⟩, fun c => h3 ⟨by omega, (zEb2 (by omega)).mpr ⟨c, q⟩⟩⟩
theorem zes_f (h : m < 4 ∨ ¬ (1 ≤ m ∧ zEb f (m - 1) 1 3) ∨ (2 ≤ m ∧ zEb f (m - 2) 2 4) ∨ (2 ≤ m ∧ zEb f (m - 2) 2 5) ∨ (2 ≤ m ∧ zEb f (m - 2) 2 6)) : zes (fun k => (f k).toInt) m.toNat = false := by
  refine decide_eq_false (fun q => ?_)
  rcases h with c | c | c | c | c
  · omega
  · exact c ⟨by omega, (zEb1 (by omega)).mpr q.2.1⟩
  · exact q.2.2.1 ((zEb2 c.1).mp c.2).1
  · exact q.2.2.2.1 ((zEb2 c.1).mp c.2).1
  · exact q.2.2.2.2 ((zEb2 c.1).mp c.2).1
end ZSh
section ZSm
variable {L : Nat → Int} {m n : Int}
theorem zsm1 (a : zhd L m.toNat = true) (h0 : 0 ≤ m) (e : n = m) : n = (zshm L m.toNat : Int) := by unfold zshm; rw [if_pos a]; omega
theorem zsm2 (a : zhd L m.toNat = false) (b : zies L m.toNat = true) (h0 : 2 ≤ m) (e : n = m - 2) : n = (zshm L m.toNat : Int) := by unfold zshm; rw [if_neg (by rw [a]; decide), if_pos b]; omega
theorem zsm3 (a : zhd L m.toNat = false) (b : zies L m.toNat = false) (c : zing L m.toNat = true) (h0 : 3 ≤ m) (e : n = m - 3) : n = (zshm L m.toNat : Int) := by unfold zshm; rw [if_neg (by rw [a]; decide), if_neg (by rw [b]; decide), if_pos c]; omega
theorem zsm4 (a : zhd L m.toNat = false) (b : zies L m.toNat = false) (c : zing L m.toNat = false) (d : zed L m.toNat = true) (h0 : 2 ≤ m) (e : n = m - 2) : n = (zshm L m.toNat : Int) := by unfold zshm; rw [if_neg (by rw [a]; decide), if_neg (by rw [b]; decide), if_neg (by rw [c]; decide), if_pos d]; omega
theorem zsm5 (a : zhd L m.toNat = false) (b : zies L m.toNat = false) (c : zing L m.toNat = false) (d : zed L m.toNat = false) (g : zes L m.toNat = true) (h0 : 1 ≤ m) (e : n = m - 1) : n = (zshm L m.toNat : Int) := by unfold zshm; rw [if_neg (by rw [a]; decide), if_neg (by rw [b]; decide), if_neg (by rw [c]; decide), if_neg (by rw [d]; decide), if_pos g]; omega
theorem zsm6 (a : zhd L m.toNat = false) (b : zies L m.toNat = false) (c : zing L m.toNat = false) (d : zed L m.toNat = false) (g : zes L m.toNat = false) (h0 : 0 ≤ m) (e : n = m) : n = (zshm L m.toNat : Int) := by unfold zshm; rw [if_neg (by rw [a]; decide), if_neg (by rw [b]; decide), if_neg (by rw [c]; decide), if_neg (by rw [d]; decide), if_neg (by rw [g]; decide)]; omega
theorem zsl1 (a : zhd L m.toNat = true) (k : Nat) : L k = zshl L m.toNat k := by unfold zshl; rw [if_neg (fun q => by rw [a] at q; exact absurd q.1 (by decide))]
theorem zsl3 (b : zies L m.toNat = false) (k : Nat) : L k = zshl L m.toNat k := by unfold zshl; rw [if_neg (fun q => by rw [b] at q; exact absurd q.2.1 (by decide))]
theorem zsl2 {f : Nat → Int32} {y : Int32} (a : zhd (fun k => (f k).toInt) m.toNat = false) (b : zies (fun k => (f k).toInt) m.toNat = true) (ey : y.toInt = m - 3) (h0 : 3 ≤ m) (k : Nat) : (upd f y.toNatClampNeg (vp_nar .byte 121) k).toInt = zshl (fun k => (f k).toInt) m.toNat k := by
  have q : y.toNatClampNeg = m.toNat - 3 := by have q : y.toNatClampNeg = y.toInt.toNat := rfl; omega
  unfold zshl
  by_cases c : k = m.toNat - 3
  · rw [if_pos ⟨a, b, c⟩, c, q, pk_us]; decide
  · rw [if_neg (fun w => c w.2.2), q, pk_un c]
end ZSm
theorem zand8 {b : Int32} (h : zTok b.toInt) : (b &&& 255).toInt = b.toInt := by
  have h0 : 0 ≤ b.toInt ∧ b.toInt ≤ 122 := by unfold zTok at h; omega
  have h1 := znat (x := b) h0.1
  have h2 : (b &&& 255).toBitVec.toNat = b.toBitVec.toNat &&& 255 := rfl
  have h3 : b.toBitVec.toNat &&& 255 = b.toBitVec.toNat % 256 := Nat.and_two_pow_sub_one_eq_mod b.toBitVec.toNat 8
  have h5 := zofnat (x := b &&& 255) rfl (by omega)
  omega
theorem zWrd_pos {f : Nat → Int32} {n p : Int} {m : Nat} (h : zRaw f n p m) (hp : zIn f n p) : 1 ≤ zWrd f p m := by
  have hm : 1 ≤ m := by
    rcases Nat.eq_zero_or_pos m with c | c
    · rcases h.2.2 with q | q
      · omega
      · rw [c] at q; exact absurd (show zIn f n (p + ((0 : Nat) : Int)) by rw [Int.ofNat_zero, Int.add_zero]; exact hp) q
    · exact c
  exact zpk_p (zsh_v (fun k hk => zLt_v (h.2.1 k hk) hp.1)) (zshm_pos hm) 12 (by omega)
theorem zFW_u {f : Nat → Int32} {n x y : Int} (h : zFW f n x) (h' : zFW f n y) : x = y := by
  rcases h with ⟨e, h⟩ | ⟨p, m, a1, a2, a3, a4⟩ <;> rcases h' with ⟨e', h'⟩ | ⟨p', m', b1, b2, b3, b4⟩
  · rw [e, e']
  · exact absurd b1 (h p')
  · exact absurd a1 (h' p)
  · have ep : p = p' := by
      rcases Int.lt_trichotomy p p' with c | c | c
      · exact absurd a1 (b2 p c)
      · exact c
      · exact absurd b1 (a2 p' c)
    subst ep
    rw [a4, b4, zRaw_u a3 b3]
theorem zbm64 {x : Int} (h1 : -9223372036854775808 ≤ x) (h2 : x ≤ 9223372036854775807) : x.bmod (2 ^ 64) = x := by
  have e : ((2 ^ 64 : Nat) : Int) = 18446744073709551616 := by decide
  exact Int.bmod_eq_of_le (by rw [e]; omega) (by rw [e]; omega)
theorem zLm {a y : Int64} (e : y = a * 37) (h0 : 0 ≤ a.toInt) (h1 : a.toInt ≤ 177917621779460412) : y.toInt = 37 * a.toInt := by
  rw [e, Int64.toInt_mul, show (37 : Int64).toInt = 37 from by decide, zbm64 (by omega) (by omega)]
  omega
theorem zLa {a b y : Int64} (e : y = a + b) (h0 : 0 ≤ a.toInt) (h1 : a.toInt ≤ 6582952005840035244) (h2 : 0 ≤ b.toInt) (h3 : b.toInt ≤ 36) : y.toInt = a.toInt + b.toInt := by
  rw [e, Int64.toInt_add, zbm64 (by omega) (by omega)]
def zpV (f : Nat → Int32) (m : Int) : Prop := ∀ k : Nat, (k : Int) < m → zVl (f k).toInt
theorem zpk_m {L : Nat → Int} {m i : Nat} (h : ∀ k, k < m → zVl (L k)) (hi : i ≤ 11) : 0 ≤ zpk L m i ∧ zpk L m i ≤ 177917621779460412 := by
  refine ⟨zpk_b h i, ?_⟩
  have q := zpk_u h i
  have q2 : (37 : Int) ^ i ≤ 37 ^ 11 := by
    have key : ∀ i : Nat, i ≤ 11 → (37 : Int) ^ i ≤ 37 ^ 11 := by decide
    exact key i hi
  have q3 : (37 : Int) ^ 11 = 177917621779460413 := by decide
  omega
theorem zpk_0 {f : Nat → Int32} {m i : Int} {w : Int64} (e : w.toInt = 0) (hi : i ≤ 0) : zpV f m → w.toInt = zpk (fun k => (f k).toInt) m.toNat i.toNat := fun _ => by rw [show i.toNat = 0 from by omega, e]; rfl
theorem zpk_s0 {f : Nat → Int32} {m i j : Int} {w y : Int64} (h : zpV f m → w.toInt = zpk (fun k => (f k).toInt) m.toNat i.toNat) (e : y = w * 37) (h0 : 0 ≤ i) (h1 : i ≤ 11) (hm : m ≤ i) (hj : j = i + 1) : zpV f m → y.toInt = zpk (fun k => (f k).toInt) m.toNat j.toNat := fun hv => by
  have q := h hv
  have b := zpk_m (L := fun k => (f k).toInt) (m := m.toNat) (i := i.toNat) (fun k hk => hv k (by omega)) (by omega)
  rw [zLm e (by omega) (by omega), q, show j.toNat = i.toNat + 1 from by omega]
  show _ = 37 * zpk (fun k => (f k).toInt) m.toNat i.toNat + (if i.toNat < m.toNat then zdt (f i.toNat).toInt else 0)
  rw [if_neg (by omega)]
  omega
theorem zpk_s1 {f : Nat → Int32} {m i j : Int} {w y b v : Int64} {z d : Int32} (h : zpV f m → w.toInt = zpk (fun k => (f k).toInt) m.toNat i.toNat) (e : y = w * 37) (eb : b = d.toInt64) (ev : v = y + b) (k : Nat) (hk : (k : Int) = i) (ez : z = f k) (hd : (97 ≤ z.toInt ∧ d.toInt = z.toInt - 86) ∨ (z.toInt < 97 ∧ d.toInt = z.toInt - 47)) (h0 : 0 ≤ i) (h1 : i ≤ 11) (hm : i < m) (hj : j = i + 1) : zpV f m → v.toInt = zpk (fun k => (f k).toInt) m.toNat j.toNat := fun hv => by
  have q := h hv
  have bb := zpk_m (L := fun k => (f k).toInt) (m := m.toNat) (i := i.toNat) (fun k hk => hv k (by omega)) (by omega)
  have hz := hv k (by omega)
  rw [← ez] at hz
  have ed : d.toInt = zdt z.toInt := by unfold zdt; rcases hd with c | c; · rw [if_pos c.1, c.2]
                                        · rw [if_neg (by omega), c.2]
  have hd2 := zdt_v hz
  have e1 := zLm e (by omega) (by omega)
  have e2 : b.toInt = d.toInt := by rw [eb, Int32.toInt_toInt64]
  have e3 := zLa ev (by omega) (by omega) (by omega) (by omega)
  rw [e3, e1, e2, q, show j.toNat = i.toNat + 1 from by omega]
  show _ = 37 * zpk (fun k => (f k).toInt) m.toNat i.toNat + (if i.toNat < m.toNat then zdt (f i.toNat).toInt else 0)
  rw [if_pos (by omega), ed, ez, show k = i.toNat from by omega]
theorem zpk_sA {f : Nat → Int32} {m i j : Int} {w y b v : Int64} {z z4 z7 d : Int32} (h : zpV f m → w.toInt = zpk (fun k => (f k).toInt) m.toNat i.toNat) (e : y = w * 37) (eb : b = d.toInt64) (ev : v = y + b) (k : Nat) (hk : (k : Int) = i) (ez : z = f k) (e4 : z4 = f k) (e7 : z7 = z4 - 97) (ed : d = z7 + 11) (hc : 97 ≤ z.toInt) (h0 : 0 ≤ i) (h1 : i ≤ 11) (hm : i < m) (hj : j = i + 1) : zpV f m → v.toInt = zpk (fun k => (f k).toInt) m.toNat j.toNat := fun hv => by
  have hz := hv k (by omega)
  rw [← ez] at hz
  rw [e4, ← ez] at e7
  have b7 := zsub rfl (by decide : (97 : Int32).toInt = 97) e7 (by unfold zVl at hz; omega) (by unfold zVl at hz; omega)
  have bd := zadd rfl (by decide : (11 : Int32).toInt = 11) ed (by unfold zVl at hz; omega) (by unfold zVl at hz; omega)
  exact zpk_s1 h e eb ev k hk ez (Or.inl ⟨hc, by omega⟩) h0 h1 hm hj hv
theorem zpk_sB {f : Nat → Int32} {m i j : Int} {w y b v : Int64} {z z4 z7 d : Int32} (h : zpV f m → w.toInt = zpk (fun k => (f k).toInt) m.toNat i.toNat) (e : y = w * 37) (eb : b = d.toInt64) (ev : v = y + b) (k : Nat) (hk : (k : Int) = i) (ez : z = f k) (e4 : z4 = f k) (e7 : z7 = z4 - 48) (ed : d = z7 + 1) (hc : z.toInt < 97) (h0 : 0 ≤ i) (h1 : i ≤ 11) (hm : i < m) (hj : j = i + 1) : zpV f m → v.toInt = zpk (fun k => (f k).toInt) m.toNat j.toNat := fun hv => by
  have hz := hv k (by omega)
  rw [← ez] at hz
  rw [e4, ← ez] at e7
  have b7 := zsub rfl (by decide : (48 : Int32).toInt = 48) e7 (by unfold zVl at hz; omega) (by unfold zVl at hz; omega)
  have bd := zadd rfl (by decide : (1 : Int32).toInt = 1) ed (by unfold zVl at hz; omega) (by unfold zVl at hz; omega)
  exact zpk_s1 h e eb ev k hk ez (Or.inr ⟨hc, by omega⟩) h0 h1 hm hj hv
theorem zwo9 {f a2 a6 : Nat → Int32} {n p l2 l6 r : Int} (h0 : 0 ≤ p) (b2 : 0 ≤ l2 ∧ l2 ≤ 12) (h1 : zRl f n p a2 l2) (h2 : l2 = 12 ∨ ¬ zIn f n (p + l2)) (h3 : l6 = (zshm (fun k => (a2 k).toInt) l2.toNat : Int)) (h4 : ∀ k, (a6 k).toInt = zshl (fun k => (a2 k).toInt) l2.toNat k) (h5 : zpV a6 l6 → r = zpk (fun k => (a6 k).toInt) l6.toNat 12) : ∃ m : Nat, zRaw f n p m ∧ r = zWrd f p m := by
  have e : ∀ k, k < l2.toNat → (fun k => (a2 k).toInt) k = zLt f p k := fun k hk => (h1 k (by omega)).2
  have hv : ∀ k, k < l2.toNat → zVl ((a2 k).toInt) := fun k hk => by rw [(h1 k (by omega)).2]; exact zLt_v (h1 k (by omega)).1 h0
  have hr : zRaw f n p l2.toNat := ⟨by omega, fun k hk => (h1 k (by omega)).1, by
    rcases h2 with c | c
    · exact Or.inl (by omega)
    · exact Or.inr (by rw [show ((l2.toNat : Nat) : Int) = l2 from by omega]; exact c)⟩
  refine ⟨l2.toNat, hr, ?_⟩
  have h6 := h5 (fun k hk => by rw [h4 k]; exact zsh_v (L := fun k => (a2 k).toInt) hv k (by omega))
  have hle := zshm_le (L := zLt f p) (m := l2.toNat)
  have hm : l6.toNat = zshm (zLt f p) l2.toNat := by rw [← zshm_c e]; omega
  rw [h6]
  unfold zWrd
  rw [hm]
  exact zpk_c (fun k hk => by rw [h4 k]; exact zshl_c e (by omega)) 12
theorem zNo_0 {f : Nat → Int32} {n i : Int} (h : i ≤ 0) : ∀ j : Int, j < i → ¬ zIn f n j := fun j hj q => by have q1 := q.1; omega
theorem zNo_s {f : Nat → Int32} {n i k : Int} (h : ∀ j : Int, j < i → ¬ zIn f n j) (h1 : ¬ zIn f n i) (e : k = i + 1) : ∀ j : Int, j < k → ¬ zIn f n j := fun j hj q => by
  by_cases c : j < i
  · exact h j c q
  · rw [show j = i from by omega] at q; exact h1 q
theorem zfw0 {f : Nat → Int32} {n i x : Int} (h : ∀ j : Int, j < i → ¬ zIn f n j) (hi : n ≤ i) (e : x = 0) : zFW f n x := Or.inl ⟨e, fun j q => h j (by have q1 := q.2.1; omega) q⟩
theorem zfw1 {f : Nat → Int32} {n i x : Int} (h : ∀ j : Int, j < i → ¬ zIn f n j) (h1 : zIn f n i) (h2 : ∃ m : Nat, zRaw f n i m ∧ x = zWrd f i m) : zFW f n x := by
  obtain ⟨m, a, b⟩ := h2
  exact Or.inr ⟨i, m, h1, h, a, b⟩
def zByt (v : Int32) (k : Nat) : Int := (v.toInt / 2 ^ k).bmod 256
theorem zbm8 {x y : Int} (h : x % 256 = y % 256) : x.bmod 256 = y.bmod 256 := by
  rw [Int.bmod_def, Int.bmod_def]
  have e : ((256 : Nat) : Int) = 256 := rfl
  rw [e, h]
theorem znar8 {z y : Int32} (e : z = y.toInt8.toInt32) : (vp_nar .byte z).toInt = y.toInt.bmod 256 := by
  have q : ∀ x : Int32, x.toInt8.toInt32.toInt = x.toInt.bmod 256 := fun x => by rw [Int8.toInt_toInt32, Int32.toInt_toInt8]
  rw [vp_nar_byte, q, e, q]
  exact Int.bmod_bmod
theorem ztoi (x : Int32) : x.toInt = if x.toBitVec.toNat < 2147483648 then (x.toBitVec.toNat : Int) else (x.toBitVec.toNat : Int) - 4294967296 := by
  have h1 : x.toInt = x.toBitVec.toInt := rfl
  rw [h1, BitVec.toInt_eq_toNat_cond]
  split <;> split <;> omega
theorem zbyU {v s z y : Int32} {k : Int} (e1 : z = (v.toUInt32 >>> (s.toUInt32 &&& Int32.toUInt32 31)).toInt32) (e2 : y = z.toInt8.toInt32) (hk : s.toInt = k) (h4 : k = 0 ∨ k = 8 ∨ k = 16 ∨ k = 24) : (vp_nar .byte y).toInt = zByt v k.toNat := by
  rw [znar8 e2]
  unfold zByt
  apply zbm8
  have hN : v.toBitVec.toNat < 4294967296 := v.toBitVec.isLt
  have hv := ztoi v
  have hz := ztoi z
  rcases h4 with c | c | c | c
  · have es : s = 0 := zeqi.mpr (by rw [hk, c]; decide)
    have h1 := pk_ushr v 0 0 (by decide)
    rw [es] at e1
    rw [← e1] at h1
    rw [c, hz, hv, h1]
    show _ = (_ / 2 ^ 0) % 256
    split <;> split <;> omega
  · have es : s = 8 := zeqi.mpr (by rw [hk, c]; decide)
    have h1 := pk_ushr v 8 8 (by decide)
    rw [es] at e1
    rw [← e1] at h1
    rw [c, hz, hv, h1]
    show _ = (_ / 2 ^ 8) % 256
    split <;> split <;> omega
  · have es : s = 16 := zeqi.mpr (by rw [hk, c]; decide)
    have h1 := pk_ushr v 16 16 (by decide)
    rw [es] at e1
    rw [← e1] at h1
    rw [c, hz, hv, h1]
    show _ = (_ / 2 ^ 16) % 256
    split <;> split <;> omega
  · have es : s = 24 := zeqi.mpr (by rw [hk, c]; decide)
    have h1 := pk_ushr v 24 24 (by decide)
    rw [es] at e1
    rw [← e1] at h1
    rw [c, hz, hv, h1]
    show _ = (_ / 2 ^ 24) % 256
    split <;> split <;> omega
theorem zbyS {v s z y : Int32} {k : Int} (e1 : z = v >>> (s &&& 31)) (e2 : y = z.toInt8.toInt32) (hk : s.toInt = k) (h4 : k = 0 ∨ k = 8 ∨ k = 16 ∨ k = 24) : (vp_nar .byte y).toInt = zByt v k.toNat := by
  rw [znar8 e2]
  unfold zByt
  rcases h4 with c | c | c | c
  · have es : s = 0 := zeqi.mpr (by rw [hk, c]; decide)
    rw [e1, es, pk_shr v _ 0 (by decide), c, Int.shiftRight_eq_div_pow]
    rfl
  · have es : s = 8 := zeqi.mpr (by rw [hk, c]; decide)
    rw [e1, es, pk_shr v _ 8 (by decide), c, Int.shiftRight_eq_div_pow]
    rfl
  · have es : s = 16 := zeqi.mpr (by rw [hk, c]; decide)
    rw [e1, es, pk_shr v _ 16 (by decide), c, Int.shiftRight_eq_div_pow]
    rfl
  · have es : s = 24 := zeqi.mpr (by rw [hk, c]; decide)
    rw [e1, es, pk_shr v _ 24 (by decide), c, Int.shiftRight_eq_div_pow]
    rfl
def zPut (f0 f : Nat → Int32) (o : Int) (v : Int32) (n : Int) : Prop := (∀ j : Nat, (j : Int) < n → (f j).toInt = if (j : Int) < o then (f0 j).toInt else zByt v (24 - 8 * ((j : Int) - o)).toNat) ∧ ∀ j : Nat, n ≤ (j : Int) → f j = f0 j
theorem zPut_0 {f : Nat → Int32} {o n : Int} {v : Int32} (h : n ≤ o) : zPut f f o v n := ⟨fun j hj => by rw [if_pos (by omega)], fun _ _ => rfl⟩
theorem zPut_s {f0 f : Nat → Int32} {o n m t : Int} {v x : Int32} {k : Nat} (h : zPut f0 f o v n) (hk : (k : Int) = n) (hx : x.toInt = zByt v t.toNat) (ht : t = 24 - 8 * (n - o)) (ho : o ≤ n) (hm : m = n + 1) : zPut f0 (upd f k x) o v m := ⟨fun j hj => by
  by_cases c : j = k
  · rw [c, pk_us, if_neg (by omega), hx, ht, hk]
  · rw [pk_un c]; exact h.1 j (by omega), fun j hj => by rw [pk_un (by omega)]; exact h.2 j (by omega)⟩
def zFed (f0 f : Nat → Int32) (o : Int) (a b c d e : Int32) : Prop := (∀ j : Nat, (j : Int) < o + 20 → (f j).toInt = if (j : Int) < o then (f0 j).toInt else if (j : Int) < o + 4 then zByt a (24 - 8 * ((j : Int) - o)).toNat else if (j : Int) < o + 8 then zByt b (24 - 8 * ((j : Int) - (o + 4))).toNat else if (j : Int) < o + 12 then zByt c (24 - 8 * ((j : Int) - (o + 8))).toNat else if (j : Int) < o + 16 then zByt d (24 - 8 * ((j : Int) - (o + 12))).toNat else zByt e (24 - 8 * ((j : Int) - (o + 16))).toNat) ∧ ∀ j : Nat, o + 20 ≤ (j : Int) → f j = f0 j
theorem zFed_5 {f0 f1 f2 f3 f4 f5 : Nat → Int32} {o o1 o2 o3 o4 n1 n2 n3 n4 n5 : Int} {a b c d e : Int32} (h1 : zPut f0 f1 o a n1) (h2 : zPut f1 f2 o1 b n2) (h3 : zPut f2 f3 o2 c n3) (h4 : zPut f3 f4 o3 d n4) (h5 : zPut f4 f5 o4 e n5) (q1 : n1 = o + 4) (q2 : n2 = o + 8) (q3 : n3 = o + 12) (q4 : n4 = o + 16) (q5 : n5 = o + 20) (p1 : o1 = o + 4) (p2 : o2 = o + 8) (p3 : o3 = o + 12) (p4 : o4 = o + 16) : zFed f0 f5 o a b c d e := by
  subst q1 q2 q3 q4 q5 p1 p2 p3 p4
  refine ⟨fun j hj => ?_, fun j hj => by rw [h5.2 j (by omega), h4.2 j (by omega), h3.2 j (by omega), h2.2 j (by omega), h1.2 j (by omega)]⟩
  rw [h5.1 j hj]
  by_cases c4 : (j : Int) < o + 16
  · rw [if_pos c4, h4.1 j c4]
    by_cases c3 : (j : Int) < o + 12
    · rw [if_pos c3, h3.1 j c3]
      by_cases c2 : (j : Int) < o + 8
      · rw [if_pos c2, h2.1 j c2]
        by_cases c1 : (j : Int) < o + 4
        · rw [if_pos c1, h1.1 j c1]
          by_cases c0 : (j : Int) < o
          · rw [if_pos c0, if_pos c0]
          · rw [if_neg c0, if_neg c0, if_pos c1]
        · rw [if_neg c1, if_neg (by omega), if_neg c1, if_pos c2]
      · rw [if_neg c2, if_neg (by omega), if_neg (by omega), if_neg c2, if_pos c3]
    · rw [if_neg c3, if_neg (by omega), if_neg (by omega), if_neg (by omega), if_neg c3, if_pos c4]
  · rw [if_neg c4, if_neg (by omega), if_neg (by omega), if_neg (by omega), if_neg (by omega), if_neg c4]
theorem zFed_u {f f' g g' : Nat → Int32} {o : Int} {a b c d e : Int32} (h : zFed f f' o a b c d e) (h' : zFed g g' o a b c d e) (q : ∀ j : Nat, f j = g j) : ∀ j : Nat, f' j = g' j := fun j => by
  by_cases c : (j : Int) < o + 20
  · apply zeqi.mpr
    rw [h.1 j c, h'.1 j c]
    by_cases c0 : (j : Int) < o
    · rw [if_pos c0, if_pos c0, q j]
    · rw [if_neg c0, if_neg c0]
  · rw [h.2 j (by omega), h'.2 j (by omega), q j]
theorem zByt_b (v : Int32) (k : Nat) : -128 ≤ zByt v k ∧ zByt v k ≤ 127 := by
  have h1 := Int.le_bmod (x := v.toInt / 2 ^ k) (m := 256) (by decide)
  have h2 := Int.bmod_lt (x := v.toInt / 2 ^ k) (m := 256) (by decide)
  unfold zByt
  omega
theorem zFed_b {f f' : Nat → Int32} {o : Int} {a b c d e : Int32} (h : zFed f f' o a b c d e) (q : ∀ j : Nat, (j : Int) < o → -128 ≤ (f j).toInt ∧ (f j).toInt ≤ 127) : ∀ j : Nat, (j : Int) < o + 20 → -128 ≤ (f' j).toInt ∧ (f' j).toInt ≤ 127 := fun j hj => by
  rw [h.1 j hj]
  repeat' split
  · exact q j (by assumption)
  all_goals exact zByt_b _ _
theorem zlcmp {x y : Int64} {z : Int32} (e0 : z = lg_cmp x y) : (z.toInt = 1 ∧ y.toInt < x.toInt) ∨ (z.toInt = 0 ∧ x.toInt = y.toInt) ∨ (z.toInt = -1 ∧ x.toInt < y.toInt) := by
  have e : z = if x > y then 1 else if x = y then 0 else -1 := e0
  by_cases c : x > y
  · rw [if_pos c] at e
    exact Or.inl ⟨by rw [e]; decide, Int64.lt_iff_toInt_lt.mp c⟩
  · rw [if_neg c] at e
    by_cases d : x = y
    · rw [if_pos d] at e
      exact Or.inr (Or.inl ⟨by rw [e]; decide, by rw [d]⟩)
    · rw [if_neg d] at e
      refine Or.inr (Or.inr ⟨by rw [e]; decide, ?_⟩)
      have q1 : ¬ (y.toInt < x.toInt) := fun q => c (Int64.lt_iff_toInt_lt.mpr q)
      have q2 : x.toInt ≠ y.toInt := fun q => d (Int64.toInt_inj.mp q)
      omega
def zSrt (s : Nat → Int64) (n : Int) : Prop := ∀ a b : Nat, a < b → (b : Int) < n → (s a).toInt < (s b).toInt
def zRk (s : Nat → Int64) (n w lo hi : Int) : Prop := zSrt s n → (∀ j : Nat, (j : Int) < lo → (s j).toInt < w) ∧ (∀ j : Nat, hi ≤ (j : Int) → (j : Int) < n → w ≤ (s j).toInt)
theorem zRk_0 {s : Nat → Int64} {n w lo hi : Int} (h1 : lo ≤ 0) (h2 : n ≤ hi) : zRk s n w lo hi := fun _ => ⟨fun j hj => by omega, fun j h3 h4 => by omega⟩
theorem zRk_a {s : Nat → Int64} {n w lo hi l : Int} {m : Int32} {y : Int64} (h : zRk s n w lo hi) (e : y = s m.toNatClampNeg) (hy : y.toInt < w) (h0 : 0 ≤ m.toInt) (hn : m.toInt < n) (hl : l = m.toInt + 1) : zRk s n w l hi := fun hs => by
  refine ⟨fun j hj => ?_, (h hs).2⟩
  have q : m.toNatClampNeg = m.toInt.toNat := rfl
  by_cases c : j = m.toNatClampNeg
  · rw [c, ← e]; exact hy
  · have q2 := hs j m.toNatClampNeg (by omega) (by omega)
    rw [← e] at q2
    omega
theorem zRk_b {s : Nat → Int64} {n w lo hi l : Int} {m : Int32} {y : Int64} (h : zRk s n w lo hi) (e : y = s m.toNatClampNeg) (hy : w ≤ y.toInt) (h0 : 0 ≤ m.toInt) (hl : l = m.toInt) : zRk s n w lo l := fun hs => by
  refine ⟨(h hs).1, fun j hj hn => ?_⟩
  have q : m.toNatClampNeg = m.toInt.toNat := rfl
  by_cases c : j = m.toNatClampNeg
  · rw [c, ← e]; exact hy
  · have q2 := hs m.toNatClampNeg j (by omega) hn
    rw [← e] at q2
    omega
theorem zRk_e {s : Nat → Int64} {n w lo hi l : Int} (h : zRk s n w lo hi) (e1 : lo = l) (e2 : hi = l) : zRk s n w l l := by subst e1; subst e2; exact h
def zRf (s : Nat → Int64) (n w r : Int) : Prop := zSrt s n → (r = -1 ∧ ∀ a : Nat, (a : Int) < n → (s a).toInt ≠ w) ∨ (0 ≤ r ∧ r < n ∧ (s r.toNat).toInt = w)
theorem zRf_1 {s : Nat → Int64} {n w l r : Int} (h : zRk s n w l l) (hl : n ≤ l) (hr : r = -1) : zRf s n w r := fun hs => Or.inl ⟨hr, fun a ha => by have q := (h hs).1 a (by omega); omega⟩
theorem zRf_2 {s : Nat → Int64} {n w : Int} {l : Int32} {y : Int64} (e : y = s l.toNatClampNeg) (hy : y.toInt = w) (h0 : 0 ≤ l.toInt) (h1 : l.toInt < n) : zRf s n w l.toInt := fun _ => Or.inr ⟨h0, h1, by rw [← hy, e]; rfl⟩
theorem zRf_3 {s : Nat → Int64} {n w r : Int} {l : Int32} {y : Int64} (h : zRk s n w l.toInt l.toInt) (e : y = s l.toNatClampNeg) (hy : y.toInt ≠ w) (h0 : 0 ≤ l.toInt) (h1 : l.toInt < n) (hr : r = -1) : zRf s n w r := fun hs => Or.inl ⟨hr, fun a ha => by
  have q : l.toNatClampNeg = l.toInt.toNat := rfl
  by_cases c : (a : Int) < l.toInt
  · have q1 := (h hs).1 a c; omega
  · by_cases d : a = l.toNatClampNeg
    · rw [d, ← e]; exact hy
    · have q1 := (h hs).2 l.toNatClampNeg (by omega) (by omega)
      have q2 := hs l.toNatClampNeg a (by omega) ha
      omega⟩
def zIns (s s' : Nat → Int64) (i i' : Nat → Int32) (n w : Int) : Prop := ∃ p : Nat, (p : Int) ≤ n ∧ zRk s n w p p ∧ (∀ j : Nat, j < p → s' j = s j ∧ i' j = i j) ∧ (s' p).toInt = w ∧ (i' p).toInt = n ∧ (∀ j : Nat, p ≤ j → (j : Int) < n → s' (j + 1) = s j ∧ i' (j + 1) = i j)
theorem zcpyL {α : Type} {f : Nat → α} {p n j : Nat} (h : j < p) : va_cpy f f p (p + 1) n j = f j := by
  unfold va_cpy
  rw [if_neg (by omega)]
theorem zcpyR {α : Type} {f : Nat → α} {p n j : Nat} (h : p ≤ j) (h2 : j < p + n) : va_cpy f f p (p + 1) n (j + 1) = f j := by
  unfold va_cpy
  rw [if_pos (by omega), show p + (j + 1 - (p + 1)) = j from by omega]
theorem zIns_i {s s1 s2 : Nat → Int64} {i i1 i2 : Nat → Int32} {n w : Int} {P A B C D N : Int32} {y : Int64} (e1 : s1 = va_cpy s s P.toNatClampNeg A.toNatClampNeg B.toNatClampNeg) (e2 : i1 = va_cpy i i P.toNatClampNeg C.toNatClampNeg D.toNatClampNeg) (e3 : s2 = vp_updL s1 P.toNatClampNeg y) (e4 : i2 = upd i1 P.toNatClampNeg N) (hr : zRk s n w P.toInt P.toInt) (hA : A.toInt = P.toInt + 1) (hB : B.toInt = n - P.toInt) (hC : C.toInt = P.toInt + 1) (hD : D.toInt = n - P.toInt) (hN : N.toInt = n) (hy : y.toInt = w) (h0 : 0 ≤ P.toInt) (h1 : P.toInt ≤ n) : zIns s s2 i i2 n w := by
  have qP : P.toNatClampNeg = P.toInt.toNat := rfl
  have qA : A.toNatClampNeg = P.toNatClampNeg + 1 := by have q : A.toNatClampNeg = A.toInt.toNat := rfl; omega
  have qC : C.toNatClampNeg = P.toNatClampNeg + 1 := by have q : C.toNatClampNeg = C.toInt.toNat := rfl; omega
  have qB : B.toNatClampNeg = B.toInt.toNat := rfl
  have qD : D.toNatClampNeg = D.toInt.toNat := rfl
  rw [qA] at e1
  rw [qC] at e2
  refine ⟨P.toNatClampNeg, by omega, ?_, fun j hj => ?_, ?_, ?_, fun j hj hn => ?_⟩
  · rw [show ((P.toNatClampNeg : Nat) : Int) = P.toInt from by omega]; exact hr
  · rw [e3, e4, pk_uLn (by omega), pk_un (by omega), e1, e2]
    exact ⟨zcpyL hj, zcpyL hj⟩
  · rw [e3, pk_uLs]; exact hy
  · rw [e4, pk_us]; exact hN
  · rw [e3, e4, pk_uLn (by omega), pk_un (by omega), e1, e2]
    exact ⟨zcpyR hj (by omega), zcpyR hj (by omega)⟩
def zcn (f : Nat → Int32) : Nat → Nat
  | 0 => 0
  | k + 1 => zcn f k + (if (f k).toInt = -1 then 0 else 1)
theorem zcn_le {f : Nat → Int32} : ∀ {a b : Nat}, a ≤ b → zcn f a ≤ zcn f b := by
  intro a b h
  induction b with
  | zero => rw [show a = 0 from by omega]; exact Nat.le_refl _
  | succ b ih =>
    by_cases c : a = b + 1
    · rw [c]; exact Nat.le_refl _
    · have q := ih (by omega)
      show zcn f a ≤ zcn f b + (if (f b).toInt = -1 then 0 else 1)
      omega
theorem zcn_lt {f : Nat → Int32} {a b : Nat} (h : a < b) (ha : (f a).toInt ≠ -1) : zcn f a < zcn f b := by
  have q := zcn_le (f := f) (show a + 1 ≤ b from h)
  have q2 : zcn f (a + 1) = zcn f a + 1 := by
    show zcn f a + (if (f a).toInt = -1 then 0 else 1) = _
    rw [if_neg ha]
  omega
theorem zcn_id {f : Nat → Int32} : ∀ a : Nat, zcn f a ≤ a := by
  intro a
  induction a with
  | zero => exact Nat.le_refl _
  | succ a ih =>
    show zcn f a + (if (f a).toInt = -1 then 0 else 1) ≤ a + 1
    split <;> omega
def zCl1 (f0 f : Nat → Int32) (k i : Int) : Prop := k = (zcn f0 i.toNat : Int) ∧ (∀ j : Nat, (j : Int) < i → (f j).toInt = if (f0 j).toInt = -1 then -1 else (zcn f0 j : Int)) ∧ (∀ j : Nat, i ≤ (j : Int) → f j = f0 j)
theorem zCl1_0 {f : Nat → Int32} {k i : Int} (hk : k = 0) (hi : i = 0) : zCl1 f f k i := by
  subst hk; subst hi
  exact ⟨rfl, fun j hj => by omega, fun _ _ => rfl⟩
theorem zCl1_e {f0 f : Nat → Int32} {k i a b : Int} (h : zCl1 f0 f k i) (e1 : a = k) (e2 : b = i) : zCl1 f0 f a b := by rw [e1, e2]; exact h
theorem zCl1_a {f0 f : Nat → Int32} {k j : Int} {i z : Int32} (h : zCl1 f0 f k i.toInt) (e : z = f i.toNatClampNeg) (hz : z.toInt = -1) (h0 : 0 ≤ i.toInt) (hj : j = i.toInt + 1) : zCl1 f0 f k j := by
  obtain ⟨a, b, c⟩ := h
  have q : i.toNatClampNeg = i.toInt.toNat := rfl
  have e0 : (f0 i.toInt.toNat).toInt = -1 := by rw [← c i.toInt.toNat (by omega), ← q, ← e]; exact hz
  refine ⟨?_, fun w hw => ?_, fun w hw => c w (by omega)⟩
  · rw [a, show j.toNat = i.toInt.toNat + 1 from by omega]
    show _ = ((zcn f0 i.toInt.toNat + (if (f0 i.toInt.toNat).toInt = -1 then 0 else 1) : Nat) : Int)
    rw [if_pos e0]
    rfl
  · by_cases d : w = i.toInt.toNat
    · rw [d, if_pos e0, c i.toInt.toNat (by omega)]; exact e0
    · exact b w (by omega)
theorem zCl1_b {f0 f : Nat → Int32} {k j k' : Int} {i z y : Int32} (h : zCl1 f0 f k i.toInt) (e : z = f i.toNatClampNeg) (hz : z.toInt ≠ -1) (hy : y.toInt = k) (h0 : 0 ≤ i.toInt) (hj : j = i.toInt + 1) (hk : k' = k + 1) : zCl1 f0 (upd f i.toNatClampNeg y) k' j := by
  obtain ⟨a, b, c⟩ := h
  have q : i.toNatClampNeg = i.toInt.toNat := rfl
  have e0 : (f0 i.toInt.toNat).toInt ≠ -1 := by rw [← c i.toInt.toNat (by omega), ← q, ← e]; exact hz
  refine ⟨?_, fun w hw => ?_, fun w hw => ?_⟩
  · rw [hk, a, show j.toNat = i.toInt.toNat + 1 from by omega]
    show _ = ((zcn f0 i.toInt.toNat + (if (f0 i.toInt.toNat).toInt = -1 then 0 else 1) : Nat) : Int)
    rw [if_neg e0]
    rfl
  · by_cases d : w = i.toNatClampNeg
    · rw [d, pk_us, hy, a, q, if_neg e0]
    · rw [pk_un d]; exact b w (by omega)
  · rw [pk_un (by omega)]; exact c w (by omega)
def zCl2 (g : Nat → Int32) (s0 s : Nat → Int64) (i0 i : Nat → Int32) (b p : Int) : Prop := b = (zcn (fun q => g (i0 q).toNatClampNeg) p.toNat : Int) ∧ (∀ q : Nat, (q : Int) < p → (g (i0 q).toNatClampNeg).toInt ≠ -1 → s (zcn (fun q => g (i0 q).toNatClampNeg) q) = s0 q ∧ i (zcn (fun q => g (i0 q).toNatClampNeg) q) = g (i0 q).toNatClampNeg) ∧ (∀ q : Nat, p ≤ (q : Int) → s q = s0 q ∧ i q = i0 q)
theorem zCl2_0 {g : Nat → Int32} {s : Nat → Int64} {i : Nat → Int32} {b p : Int} (hb : b = 0) (hp : p = 0) : zCl2 g s s i i b p := by
  subst hb; subst hp
  exact ⟨rfl, fun q hq => by omega, fun _ _ => ⟨rfl, rfl⟩⟩
theorem zCl2_e {g : Nat → Int32} {s0 s : Nat → Int64} {i0 i : Nat → Int32} {b p c : Int} (h : zCl2 g s0 s i0 i b p) (e : c = p) : zCl2 g s0 s i0 i b c := by rw [e]; exact h
theorem zCl2_a {g : Nat → Int32} {s0 s : Nat → Int64} {i0 i : Nat → Int32} {b j : Int} {p z y : Int32} (h : zCl2 g s0 s i0 i b p.toInt) (e : z = i p.toNatClampNeg) (ey : y = g z.toNatClampNeg) (hy : y.toInt = -1) (h0 : 0 ≤ p.toInt) (hj : j = p.toInt + 1) : zCl2 g s0 s i0 i b j := by
  obtain ⟨a, d, c⟩ := h
  have q : p.toNatClampNeg = p.toInt.toNat := rfl
  have e0 : (g (i0 p.toInt.toNat).toNatClampNeg).toInt = -1 := by rw [← (c p.toInt.toNat (by omega)).2, ← q, ← e, ← ey]; exact hy
  refine ⟨?_, fun w hw hk => ?_, fun w hw => c w (by omega)⟩
  · rw [a, show j.toNat = p.toInt.toNat + 1 from by omega]
    show _ = ((zcn (fun q => g (i0 q).toNatClampNeg) p.toInt.toNat + (if (g (i0 p.toInt.toNat).toNatClampNeg).toInt = -1 then 0 else 1) : Nat) : Int)
    rw [if_pos e0]
    rfl
  · by_cases f : w = p.toInt.toNat
    · rw [f] at hk; exact absurd e0 hk
    · exact d w (by omega) hk
theorem zCl2_b {g : Nat → Int32} {s0 s : Nat → Int64} {i0 i : Nat → Int32} {b' j : Int} {b p z y : Int32} {v : Int64} (h : zCl2 g s0 s i0 i b.toInt p.toInt) (e : z = i p.toNatClampNeg) (ey : y = g z.toNatClampNeg) (ev : v = s p.toNatClampNeg) (hy : y.toInt ≠ -1) (h0 : 0 ≤ p.toInt) (hj : j = p.toInt + 1) (hb : b' = b.toInt + 1) : zCl2 g s0 (vp_updL s b.toNatClampNeg v) i0 (upd i b.toNatClampNeg y) b' j := by
  obtain ⟨a, d, c⟩ := h
  have q : p.toNatClampNeg = p.toInt.toNat := rfl
  have qb : b.toNatClampNeg = b.toInt.toNat := rfl
  have e0 : y = g (i0 p.toInt.toNat).toNatClampNeg := by rw [← (c p.toInt.toNat (by omega)).2, ← q, ← e]; exact ey
  have en : (g (i0 p.toInt.toNat).toNatClampNeg).toInt ≠ -1 := by rw [← e0]; exact hy
  have bb : b.toNatClampNeg = zcn (fun q => g (i0 q).toNatClampNeg) p.toInt.toNat := by omega
  have hle := zcn_id (f := fun q => g (i0 q).toNatClampNeg) p.toInt.toNat
  refine ⟨?_, fun w hw hk => ?_, fun w hw => ?_⟩
  · rw [hb, a, show j.toNat = p.toInt.toNat + 1 from by omega]
    show _ = ((zcn (fun q => g (i0 q).toNatClampNeg) p.toInt.toNat + (if (g (i0 p.toInt.toNat).toNatClampNeg).toInt = -1 then 0 else 1) : Nat) : Int)
    rw [if_neg en]
    rfl
  · by_cases f : w = p.toInt.toNat
    · rw [f, ← bb, pk_uLs, pk_us, ev, q]
      exact ⟨(c p.toInt.toNat (by omega)).1, e0⟩
    · have hl := zcn_lt (f := fun q => g (i0 q).toNatClampNeg) (a := w) (b := p.toInt.toNat) (by omega) hk
      rw [pk_uLn (by omega), pk_un (by omega)]
      exact d w (by omega) hk
  · rw [pk_uLn (by omega), pk_un (by omega)]
    exact c w (by omega)
def zClo (f0 : Nat → Int32) (s0 s : Nat → Int64) (i0 i : Nat → Int32) (n m : Int) : Prop := ∃ (g : Nat → Int32) (b : Int), zCl1 f0 g m n ∧ zCl2 g s0 s i0 i b n
def zHas (s : Nat → Int64) (n y : Int) : Prop := ∃ a : Nat, (a : Int) < n ∧ (s a).toInt = y
def zSd (s : Nat → Int64) (i fr : Nat → Int32) (n : Int) : Prop := zSrt s n ∧ (∀ a : Nat, (a : Int) < n → 0 ≤ (i a).toInt ∧ (i a).toInt < n) ∧ (∀ a b : Nat, a < b → (b : Int) < n → (i a).toInt ≠ (i b).toInt) ∧ (∀ j : Nat, j < 10 → fr j = 0)
def zStp (on x n m r : Int) (Q Q' : Int → Prop) : Prop :=
  (x = 0 ∧ r = -1 ∧ m = n ∧ ∀ y, Q' y ↔ Q y)
  ∨ (x ≠ 0 ∧ ((on = 1 ∧ Q x) ∨ (on = 0 ∧ ¬ Q x)) ∧ r = n ∧ m = n ∧ ∀ y, Q' y ↔ Q y)
  ∨ (x ≠ 0 ∧ on = 1 ∧ ¬ Q x ∧ n = 10 ∧ r = -2 ∧ m = n ∧ ∀ y, Q' y ↔ Q y)
  ∨ (x ≠ 0 ∧ on = 1 ∧ ¬ Q x ∧ n < 10 ∧ r = n + 1 ∧ m = n + 1 ∧ ∀ y, Q' y ↔ (Q y ∨ y = x))
  ∨ (x ≠ 0 ∧ on = 0 ∧ Q x ∧ r = n - 1 ∧ m = n - 1 ∧ ∀ y, Q' y ↔ (Q y ∧ y ≠ x))
theorem zStp_u {on x n m r m' r' : Int} {Q Q' P P' : Int → Prop} (h : zStp on x n m r Q Q') (h' : zStp on x n m' r' P P') (e : ∀ y, Q y ↔ P y) : r = r' ∧ m = m' ∧ ∀ y, Q' y ↔ P' y := by
  have ex := e x
  rcases h with h | h | h | h | h <;> rcases h' with k | k | k | k | k
  · exact ⟨by rw [h.2.1, k.2.1], by rw [h.2.2.1, k.2.2.1], fun y => by rw [h.2.2.2 y, k.2.2.2 y]; exact e y⟩
  · exact absurd h.1 k.1
  · exact absurd h.1 k.1
  · exact absurd h.1 k.1
  · exact absurd h.1 k.1
  · exact absurd k.1 h.1
  · exact ⟨by rw [h.2.2.1, k.2.2.1], by rw [h.2.2.2.1, k.2.2.2.1], fun y => by rw [h.2.2.2.2 y, k.2.2.2.2 y]; exact e y⟩
  · rcases h.2.1 with c | c
    · exact absurd (ex.mp c.2) k.2.2.1
    · have q := k.2.1; omega
  · rcases h.2.1 with c | c
    · exact absurd (ex.mp c.2) k.2.2.1
    · have q := k.2.1; omega
  · rcases h.2.1 with c | c
    · have q := k.2.1; omega
    · exact absurd (ex.mpr k.2.2.1) c.2
  · exact absurd k.1 h.1
  · rcases k.2.1 with c | c
    · exact absurd (ex.mpr c.2) h.2.2.1
    · have q := h.2.1; omega
  · exact ⟨by rw [h.2.2.2.2.1, k.2.2.2.2.1], by rw [h.2.2.2.2.2.1, k.2.2.2.2.2.1], fun y => by rw [h.2.2.2.2.2.2 y, k.2.2.2.2.2.2 y]; exact e y⟩
  · have q := h.2.2.2.1; have q2 := k.2.2.2.1; omega
  · have q := h.2.1; have q2 := k.2.1; omega
  · exact absurd k.1 h.1
  · rcases k.2.1 with c | c
    · exact absurd (ex.mpr c.2) h.2.2.1
    · have q := h.2.1; omega
  · have q := h.2.2.2.1; have q2 := k.2.2.2.1; omega
  · exact ⟨by rw [h.2.2.2.2.1, k.2.2.2.2.1], by rw [h.2.2.2.2.2.1, k.2.2.2.2.2.1], fun y => by rw [h.2.2.2.2.2.2 y, k.2.2.2.2.2.2 y, e y]⟩
  · have q := h.2.1; have q2 := k.2.1; omega
  · exact absurd k.1 h.1
  · rcases k.2.1 with c | c
    · have q := h.2.1; omega
    · exact absurd (ex.mp h.2.2.1) c.2
  · have q := h.2.1; have q2 := k.2.1; omega
  · have q := h.2.1; have q2 := k.2.1; omega
  · exact ⟨by rw [h.2.2.2.1, k.2.2.2.1], by rw [h.2.2.2.2.1, k.2.2.2.2.1], fun y => by rw [h.2.2.2.2.2 y, k.2.2.2.2.2 y, e y]⟩
theorem zSd_ins {s s' : Nat → Int64} {i i' fr : Nat → Int32} {n x : Int} (h : zSd s i fr n) (hx : ¬ zHas s n x) (hi : zIns s s' i i' n x) : zSd s' i' fr (n + 1) ∧ ∀ y, zHas s' (n + 1) y ↔ (zHas s n y ∨ y = x) := by
  obtain ⟨h1, h2, h3, h4⟩ := h
  obtain ⟨p, hp, hr, ha, hb, hc, hd⟩ := hi
  have hr := hr h1
  have hgt : ∀ j : Nat, p ≤ j → (j : Int) < n → x < (s j).toInt := fun j q1 q2 => by
    have q := hr.2 j (by omega) q2
    have q3 : (s j).toInt ≠ x := fun e => hx ⟨j, q2, e⟩
    omega
  refine ⟨⟨fun a b hab hbn => ?_, fun a ha1 => ?_, fun a b hab hbn => ?_, h4⟩, fun y => ⟨?_, ?_⟩⟩
  · rcases Nat.lt_trichotomy b p with c | c | c
    · rw [(ha a (by omega)).1, (ha b c).1]; exact h1 a b hab (by omega)
    · subst c
      rw [(ha a hab).1, hb]
      exact hr.1 a (by omega)
    · have eb := (hd (b - 1) (by omega) (by omega)).1
      rw [show b - 1 + 1 = b from by omega] at eb
      rw [eb]
      rcases Nat.lt_trichotomy a p with d | d | d
      · rw [(ha a d).1]; exact h1 a (b - 1) (by omega) (by omega)
      · subst d; rw [hb]; exact hgt (b - 1) (by omega) (by omega)
      · have ea := (hd (a - 1) (by omega) (by omega)).1
        rw [show a - 1 + 1 = a from by omega] at ea
        rw [ea]; exact h1 (a - 1) (b - 1) (by omega) (by omega)
  · rcases Nat.lt_trichotomy a p with c | c | c
    · rw [(ha a c).2]; have q := h2 a (by omega); omega
    · subst c; omega
    · have ea := (hd (a - 1) (by omega) (by omega)).2
      rw [show a - 1 + 1 = a from by omega] at ea
      rw [ea]; have q := h2 (a - 1) (by omega); omega
  · rcases Nat.lt_trichotomy b p with c | c | c
    · rw [(ha a (by omega)).2, (ha b c).2]; exact h3 a b hab (by omega)
    · subst c
      rw [(ha a hab).2, hc]; have q := h2 a (by omega); omega
    · have eb := (hd (b - 1) (by omega) (by omega)).2
      rw [show b - 1 + 1 = b from by omega] at eb
      rw [eb]
      rcases Nat.lt_trichotomy a p with d | d | d
      · rw [(ha a d).2]; exact h3 a (b - 1) (by omega) (by omega)
      · subst d; rw [hc]; have q := h2 (b - 1) (by omega); omega
      · have ea := (hd (a - 1) (by omega) (by omega)).2
        rw [show a - 1 + 1 = a from by omega] at ea
        rw [ea]; exact h3 (a - 1) (b - 1) (by omega) (by omega)
  · rintro ⟨a, q1, q2⟩
    rcases Nat.lt_trichotomy a p with c | c | c
    · rw [(ha a c).1] at q2; exact Or.inl ⟨a, by omega, q2⟩
    · subst c; right; rw [← q2, hb]
    · have ea := (hd (a - 1) (by omega) (by omega)).1
      rw [show a - 1 + 1 = a from by omega] at ea
      rw [ea] at q2
      exact Or.inl ⟨a - 1, by omega, q2⟩
  · rintro (⟨a, q1, q2⟩ | q)
    · by_cases c : a < p
      · exact ⟨a, by omega, by rw [(ha a c).1]; exact q2⟩
      · exact ⟨a + 1, by omega, by rw [(hd a (by omega) q1).1]; exact q2⟩
    · exact ⟨p, by omega, by rw [hb, q]⟩
theorem zcn_one {f : Nat → Int32} {d N : Nat} (h1 : (f d).toInt = -1) (h2 : ∀ k, k < N → k ≠ d → (f k).toInt ≠ -1) : ∀ k, k ≤ N → zcn f k = if k ≤ d then k else k - 1 := by
  intro k
  induction k with
  | zero => intro _; rw [if_pos (Nat.zero_le d)]; rfl
  | succ k ih =>
    intro hk
    show zcn f k + (if (f k).toInt = -1 then 0 else 1) = _
    rw [ih (by omega)]
    by_cases c : k = d
    · rw [c, if_pos h1, if_pos (Nat.le_refl d), if_neg (by omega)]; omega
    · rw [if_neg (h2 k (by omega) c)]
      by_cases e : k < d
      · rw [if_pos (by omega), if_pos (by omega)]
      · rw [if_neg (by omega), if_neg (by omega)]; omega
theorem zSrt_ne {s : Nat → Int64} {n : Int} (h : zSrt s n) {a b : Nat} (ha : (a : Int) < n) (hb : (b : Int) < n) (hab : a ≠ b) : (s a).toInt ≠ (s b).toInt := by
  rcases Nat.lt_or_gt_of_ne hab with c | c
  · have q := h a b c hb; omega
  · have q := h b a c ha; omega
theorem zSd_rem {s s' : Nat → Int64} {i i' fr fr1 fr2 : Nat → Int32} {n m x : Int} {r : Nat} (h : zSd s i fr n) (hn : n ≤ 10) (hr : (r : Int) < n) (hx : (s r).toInt = x) (hf : fr1 = upd fr (i r).toNatClampNeg (-1)) (hc : zClo fr1 s s' i i' n m) (hz : ∀ j : Nat, j < 10 → fr2 j = 0) : m = n - 1 ∧ zSd s' i' fr2 m ∧ ∀ y, zHas s' m y ↔ (zHas s n y ∧ y ≠ x) := by
  obtain ⟨h1, h2, h3, h4⟩ := h
  obtain ⟨g, b, ⟨c1, c2, c3⟩, ⟨e1, e2, e3⟩⟩ := hc
  have hd := h2 r hr
  have qd : ∀ a : Nat, (a : Int) < n → ((i a).toNatClampNeg : Int) = (i a).toInt := fun a ha => zclamp (h2 a ha).1
  have k1 : (fr1 (i r).toNatClampNeg).toInt = -1 := by rw [hf, pk_us]; decide
  have k2 : ∀ k, k < n.toNat → k ≠ (i r).toNatClampNeg → (fr1 k).toInt ≠ -1 := fun k hk hne => by rw [hf, pk_un hne, h4 k (by omega)]; decide
  have z1 := zcn_one k1 k2
  have hinj : ∀ q : Nat, (q : Int) < n → q ≠ r → (i q).toInt ≠ (i r).toInt := fun q hq hne => by
    rcases Nat.lt_or_gt_of_ne hne with c | c
    · exact h3 q r c hr
    · exact fun e => h3 r q c hq e.symm
  have gr : (g (i r).toNatClampNeg).toInt = -1 := by rw [c2 _ (by have q := qd r hr; omega), if_pos k1]
  have gq : ∀ q : Nat, (q : Int) < n → q ≠ r → (g (i q).toNatClampNeg).toInt = (if (i q).toInt < (i r).toInt then (i q).toInt else (i q).toInt - 1) := fun q hq hne => by
    have q1 := qd q hq
    have q2 := qd r hr
    have q3 := hinj q hq hne
    have q4 := (h2 q hq)
    rw [c2 _ (by omega), if_neg (k2 _ (by omega) (by omega)), z1 _ (by omega)]
    by_cases c : (i q).toInt < (i r).toInt
    · rw [if_pos c, if_pos (by omega)]; omega
    · rw [if_neg c, if_neg (by omega)]; omega
  have g2 : ∀ q, q < n.toNat → q ≠ r → ((fun q => g (i q).toNatClampNeg) q).toInt ≠ -1 := fun q hq hne => by
    have q4 := (h2 q (by omega))
    have q5 := hinj q (by omega) hne
    show (g (i q).toNatClampNeg).toInt ≠ -1
    rw [gq q (by omega) hne]
    split <;> omega
  have z2 := zcn_one (f := fun q => g (i q).toNatClampNeg) (d := r) (N := n.toNat) gr g2
  have hm : m = n - 1 := by
    have q2 := qd r hr
    rw [c1, z1 n.toNat (Nat.le_refl _), if_neg (by omega)]
    omega
  have hq : ∀ a : Nat, (a : Int) < m → ∃ q : Nat, (q : Int) < n ∧ q ≠ r ∧ s' a = s q ∧ (i' a).toInt = (if (i q).toInt < (i r).toInt then (i q).toInt else (i q).toInt - 1) ∧ ((a < r ∧ q = a) ∨ (r ≤ a ∧ q = a + 1)) := fun a ha => by
    by_cases c : a < r
    · have q1 := e2 a (by omega) (g2 a (by omega) (by omega))
      rw [z2 a (by omega), if_pos (by omega)] at q1
      exact ⟨a, by omega, by omega, q1.1, by rw [q1.2]; exact gq a (by omega) (by omega), Or.inl ⟨c, rfl⟩⟩
    · have q1 := e2 (a + 1) (by omega) (g2 (a + 1) (by omega) (by omega))
      rw [z2 (a + 1) (by omega), if_neg (by omega), show a + 1 - 1 = a from by omega] at q1
      exact ⟨a + 1, by omega, by omega, q1.1, by rw [q1.2]; exact gq (a + 1) (by omega) (by omega), Or.inr ⟨by omega, rfl⟩⟩
  refine ⟨hm, ⟨fun a b' hab hbn => ?_, fun a ha => ?_, fun a b' hab hbn => ?_, hz⟩, fun y => ⟨?_, ?_⟩⟩
  · obtain ⟨qa, a1, a2, a3, a4, a5⟩ := hq a (by omega)
    obtain ⟨qb, b1, b2, b3, b4, b5⟩ := hq b' hbn
    rw [a3, b3]
    exact h1 qa qb (by omega) b1
  · obtain ⟨qa, a1, a2, a3, a4, a5⟩ := hq a ha
    have q4 := h2 qa a1
    have q5 := hinj qa a1 a2
    rw [a4]
    split <;> omega
  · obtain ⟨qa, a1, a2, a3, a4, a5⟩ := hq a (by omega)
    obtain ⟨qb, b1, b2, b3, b4, b5⟩ := hq b' hbn
    have q1 := h3 qa qb (by omega) b1
    have q2 := hinj qa a1 a2
    have q3 := hinj qb b1 b2
    rw [a4, b4]
    split <;> split <;> omega
  · rintro ⟨a, q1, q2⟩
    obtain ⟨qa, a1, a2, a3, a4, a5⟩ := hq a q1
    rw [a3] at q2
    refine ⟨⟨qa, a1, q2⟩, ?_⟩
    rw [← q2, ← hx]
    exact zSrt_ne h1 a1 hr a2
  · rintro ⟨⟨q, q1, q2⟩, q3⟩
    have hne : q ≠ r := fun e => q3 (by rw [← q2, e, hx])
    by_cases c : q < r
    · obtain ⟨qa, a1, a2, a3, a4, a5⟩ := hq q (by omega)
      have e : qa = q := by omega
      exact ⟨q, by omega, by rw [a3, e]; exact q2⟩
    · obtain ⟨qa, a1, a2, a3, a4, a5⟩ := hq (q - 1) (by omega)
      have e : qa = q := by omega
      exact ⟨q - 1, by omega, by rw [a3, e]; exact q2⟩
section ZSt
variable {s s' : Nat → Int64} {i i' fr fr1 fr2 f : Nat → Int32} {on x n m r l p : Int}
theorem zHas_c (e : ∀ j : Nat, s' j = s j ∧ i' j = i j) (y : Int) : zHas s' n y ↔ zHas s n y := ⟨fun ⟨a, q1, q2⟩ => ⟨a, q1, by rw [← (e a).1]; exact q2⟩, fun ⟨a, q1, q2⟩ => ⟨a, q1, by rw [(e a).1]; exact q2⟩⟩
theorem zSd_c (h : zSd s i fr n) (e : ∀ j : Nat, s' j = s j ∧ i' j = i j) : zSd s' i' fr n := by
  obtain ⟨h1, h2, h3, h4⟩ := h
  exact ⟨fun a b q1 q2 => by rw [(e a).1, (e b).1]; exact h1 a b q1 q2, fun a q => by rw [(e a).2]; exact h2 a q, fun a b q1 q2 => by rw [(e a).2, (e b).2]; exact h3 a b q1 q2, h4⟩
theorem zRf_n (h : zRf s n x p) (hs : zSrt s n) (hp : p = -1) : ¬ zHas s n x := fun ⟨a, q1, q2⟩ => by
  rcases h hs with c | c
  · exact c.2 a q1 q2
  · omega
theorem zRf_y (h : zRf s n x p) (hs : zSrt s n) (hp : p ≠ -1) : 0 ≤ p ∧ p < n ∧ (s p.toNat).toInt = x := by
  rcases h hs with c | c
  · exact absurd c.1 hp
  · exact c
theorem zst1 (hw : zFW f l x) (hx : x = 0) (hr : r = -1) (hm : m = n) (hs : zSd s i fr n) : zSd s i fr m ∧ ∃ x : Int, zFW f l x ∧ zStp on x n m r (zHas s n) (zHas s m) := by
  subst hm
  exact ⟨hs, x, hw, Or.inl ⟨hx, hr, rfl, fun _ => Iff.rfl⟩⟩
theorem zst2 (hw : zFW f l x) (hx : x ≠ 0) (hf : zRf s n x p) (hp : p = -1) (hon : on = 1) (hn : n = 10) (hr : r = -2) (hm : m = n) (e : ∀ j : Nat, s' j = s j ∧ i' j = i j) (hs : zSd s i fr n) : zSd s' i' fr m ∧ ∃ x : Int, zFW f l x ∧ zStp on x n m r (zHas s n) (zHas s' m) := by
  rw [hm]
  exact ⟨zSd_c hs e, x, hw, Or.inr (Or.inr (Or.inl ⟨hx, hon, zRf_n hf hs.1 hp, hn, hr, rfl, zHas_c e⟩))⟩
theorem zst3 (hw : zFW f l x) (hx : x ≠ 0) (hf : zRf s n x p) (hp : p = -1) (hon : on = 1) (hn : n < 10) (hr : r = n + 1) (hm : m = n + 1) (e : zIns s s' i i' n x) (hs : zSd s i fr n) : zSd s' i' fr m ∧ ∃ x : Int, zFW f l x ∧ zStp on x n m r (zHas s n) (zHas s' m) := by
  rw [hm]
  have q := zSd_ins hs (zRf_n hf hs.1 hp) e
  exact ⟨q.1, x, hw, Or.inr (Or.inr (Or.inr (Or.inl ⟨hx, hon, zRf_n hf hs.1 hp, hn, hr, rfl, q.2⟩)))⟩
theorem zst4 (hw : zFW f l x) (hx : x ≠ 0) (hf : zRf s n x p) (hc : (on = 1 ∧ p ≠ -1) ∨ (on = 0 ∧ p = -1)) (hr : r = n) (hm : m = n) (hs : zSd s i fr n) : zSd s i fr m ∧ ∃ x : Int, zFW f l x ∧ zStp on x n m r (zHas s n) (zHas s m) := by
  rw [hm]
  refine ⟨hs, x, hw, Or.inr (Or.inl ⟨hx, ?_, hr, rfl, fun _ => Iff.rfl⟩)⟩
  rcases hc with c | c
  · have q := zRf_y hf hs.1 c.2
    exact Or.inl ⟨c.1, p.toNat, by omega, q.2.2⟩
  · exact Or.inr ⟨c.1, zRf_n hf hs.1 c.2⟩
theorem zst6 {P D : Int32} (hw : zFW f l x) (hx : x ≠ 0) (hf : zRf s n x P.toInt) (hp : P.toInt ≠ -1) (hon : on = 0) (hn : n ≤ 10) (hD : 0 ≤ P.toInt ∧ P.toInt < n → D.toInt = (i P.toNatClampNeg).toInt) (h1 : 0 ≤ D.toInt ∧ D.toInt < n → fr1 = upd fr D.toNatClampNeg (-1)) (hc : zClo fr1 s s' i i' n m) (hz : ∀ j : Nat, j < 10 → fr2 j = 0) (hr : r = m) (hs : zSd s i fr n) : zSd s' i' fr2 m ∧ ∃ x : Int, zFW f l x ∧ zStp on x n m r (zHas s n) (zHas s' m) := by
  have q := zRf_y hf hs.1 hp
  have qP : P.toNatClampNeg = P.toInt.toNat := rfl
  have eD : D = i P.toNatClampNeg := zeqi.mpr (hD ⟨q.1, q.2.1⟩)
  have q2 := hs.2.1 P.toNatClampNeg (by omega)
  have e1 := h1 (by rw [eD]; exact q2)
  rw [eD] at e1
  have k := zSd_rem (r := P.toNatClampNeg) hs hn (by omega) q.2.2 e1 hc hz
  refine ⟨k.2.1, x, hw, Or.inr (Or.inr (Or.inr (Or.inr ⟨hx, hon, ⟨P.toNatClampNeg, by omega, q.2.2⟩, by rw [hr]; exact k.1, k.1, k.2.2⟩)))⟩
end ZSt
def zNt (f : Nat → Int32) (a b : Int) : Prop := ∀ j : Nat, a ≤ (j : Int) → (j : Int) < b → ¬ zTok (f j).toInt
theorem zNt_0 {f : Nat → Int32} {a b : Int} (h : b ≤ a) : zNt f a b := fun j q1 q2 => by omega
theorem zNt_s {f : Nat → Int32} {a c : Int} {k z : Int32} (h : zNt f a k.toInt) (e : z = f k.toNatClampNeg) (hz : ¬ zTok z.toInt) (h0 : 0 ≤ k.toInt) (hc : c = k.toInt + 1) : zNt f a c := fun j q1 q2 => by
  by_cases d : (j : Int) < k.toInt
  · exact h j q1 d
  · have q : j = k.toNatClampNeg := by have q : k.toNatClampNeg = k.toInt.toNat := rfl; omega
    rw [q, ← e]; exact hz
def zAt (f : Nat → Int32) (a b : Int) : Prop := ∀ j : Nat, a ≤ (j : Int) → (j : Int) < b → zTok (f j).toInt
theorem zAt_0 {f : Nat → Int32} {a b : Int} (h : b ≤ a) : zAt f a b := fun j q1 q2 => by omega
theorem zAt_s {f : Nat → Int32} {a c : Int} {k z : Int32} (h : zAt f a k.toInt) (e : z = f k.toNatClampNeg) (hz : zTok z.toInt) (h0 : 0 ≤ k.toInt) (hc : c = k.toInt + 1) : zAt f a c := fun j q1 q2 => by
  by_cases d : (j : Int) < k.toInt
  · exact h j q1 d
  · have q : j = k.toNatClampNeg := by have q : k.toNatClampNeg = k.toInt.toNat := rfl; omega
    rw [q, ← e]; exact hz
def zTkb (f : Nat → Int32) (p q : Int) (w : Nat → Int32) (n : Int) : Prop := zAt f p q → ∀ k : Nat, (k : Int) < n → (w k).toInt = zLt f p k
theorem zTkb_0 {f w : Nat → Int32} {p q n : Int} (h : n ≤ 0) : zTkb f p q w n := fun _ k hk => by omega
theorem zTkb_s {f w : Nat → Int32} {p q n m : Int} {k z r y : Int32} {c : Nat} (h : zTkb f p q w n) (e : z = f k.toNatClampNeg) (er : r.toInt = zSml z.toInt) (ey : y = r.toInt8.toInt32) (hc : (c : Int) = n) (hk : k.toInt = p + n) (hq : k.toInt < q) (h0 : 0 ≤ p) (hn : 0 ≤ n) (hm : m = n + 1) : zTkb f p q (upd w c (vp_nar .byte y)) m := fun ht j hj => by
  have qk : k.toNatClampNeg = k.toInt.toNat := rfl
  have hz : zTok z.toInt := by rw [e]; exact ht k.toNatClampNeg (by omega) (by omega)
  have hv := zSml_v hz
  by_cases d : j = c
  · have h8 : (vp_nar .byte y).toInt = r.toInt := by
      rw [vp_nar_byte, zi2b rfl rfl (by rw [zi2b rfl ey (by rw [er]; unfold zVl at hv; omega) (by rw [er]; unfold zVl at hv; omega), er]; unfold zVl at hv; omega) (by rw [zi2b rfl ey (by rw [er]; unfold zVl at hv; omega) (by rw [er]; unfold zVl at hv; omega), er]; unfold zVl at hv; omega), zi2b rfl ey (by rw [er]; unfold zVl at hv; omega) (by rw [er]; unfold zVl at hv; omega)]
    rw [d, pk_us, h8, er, e]
    unfold zLt
    rw [show k.toNatClampNeg = p.toNat + c from by omega]
  · rw [pk_un d]; exact h ht j (by omega)
theorem zIn_c {f g : Nat → Int32} {n i : Int} (h : ∀ j : Nat, (j : Int) < n → f j = g j) : zIn f n i ↔ zIn g n i := by
  unfold zIn
  constructor
  · rintro ⟨a, b, c⟩
    exact ⟨a, b, by rw [← h i.toNat (by omega)]; exact c⟩
  · rintro ⟨a, b, c⟩
    exact ⟨a, b, by rw [h i.toNat (by omega)]; exact c⟩
theorem zFW_c {f g : Nat → Int32} {n x : Int} (h : ∀ j : Nat, (j : Int) < n → f j = g j) (hf : zFW f n x) : zFW g n x := by
  rcases hf with ⟨e, q⟩ | ⟨p, m, a1, a2, a3, a4⟩
  · exact Or.inl ⟨e, fun i hi => q i ((zIn_c h).mpr hi)⟩
  · refine Or.inr ⟨p, m, (zIn_c h).mp a1, fun j hj hi => a2 j hj ((zIn_c h).mpr hi), ⟨a3.1, fun k hk => (zIn_c h).mp (a3.2.1 k hk), ?_⟩, ?_⟩
    · rcases a3.2.2 with q | q
      · exact Or.inl q
      · exact Or.inr (fun hi => q ((zIn_c h).mpr hi))
    · have e : ∀ k, k < m → zLt f p k = zLt g p k := fun k hk => by
        have q := a3.2.1 k hk
        unfold zLt
        rw [h (p.toNat + k) (by have q1 := q.1; have q2 := q.2.1; have q3 := a1.1; omega)]
      rw [a4]
      unfold zWrd
      rw [zshm_c e]
      exact zpk_c (fun k hk => zshl_c e (by have q := zshm_le (L := zLt g p) (m := m); omega)) 12
