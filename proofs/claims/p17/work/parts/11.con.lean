def zMe (f : Nat → Int32) (n a b c l : Int) : Prop := l ≤ n ∧ (f (n - 1).toNat).toInt = c ∧ (b = 0 ∨ (f (n - 2).toNat).toInt = b) ∧ (a = 0 ∨ (f (n - 3).toNat).toInt = a)
theorem zgt {f : Nat → Int32} {n c : Int} {i z : Int32} (e : z = f i.toNatClampNeg) (h : i.toInt = n) (hc : z.toInt = c) : (f n.toNat).toInt = c := by
  have q : i.toNatClampNeg = n.toNat := by have q : i.toNatClampNeg = i.toInt.toNat := rfl; omega
  rw [← q, ← e]; exact hc
section ZMe
variable {f : Nat → Int32} {n a b c l : Int} {i z : Int32}
theorem zMe_n0 (h : n < l) : ¬ zMe f n a b c l := fun q => by have q1 := q.1; omega
theorem zMe_n1 (e : z = f i.toNatClampNeg) (hi : i.toInt = n - 1) (h : z.toInt ≠ c) : ¬ zMe f n a b c l := fun q => h ((zgt e hi rfl).symm.trans q.2.1)
theorem zMe_n2 (e : z = f i.toNatClampNeg) (hi : i.toInt = n - 2) (h : z.toInt ≠ b) (h0 : b ≠ 0) : ¬ zMe f n a b c l := fun q => by
  rcases q.2.2.1 with d | d
  · exact h0 d
  · exact h ((zgt e hi rfl).symm.trans d)
theorem zMe_n3 (e : z = f i.toNatClampNeg) (hi : i.toInt = n - 3) (h : z.toInt ≠ a) (h0 : a ≠ 0) : ¬ zMe f n a b c l := fun q => by
  rcases q.2.2.2 with d | d
  · exact h0 d
  · exact h ((zgt e hi rfl).symm.trans d)
end ZMe
section ZMs
variable {f : Nat → Int32} {m : Int}
theorem zmt (k : Nat) (h : (k : Int) ≤ m) : (m - k).toNat = m.toNat - k := by omega
theorem zmies_t (h : zMe f m 105 101 115 5) : zies (fun k => (f k).toInt) m.toNat = true := by
  obtain ⟨h1, h2, h3, h4⟩ := h
  rw [show (m - 1).toNat = m.toNat - 1 from by omega] at h2
  rw [show (m - 2).toNat = m.toNat - 2 from by omega] at h3
  rw [show (m - 3).toNat = m.toNat - 3 from by omega] at h4
  exact decide_eq_true ⟨by omega, h2, h3.resolve_left (by decide), h4.resolve_left (by decide)⟩
theorem zmies_f (h : ¬ zMe f m 105 101 115 5) : zies (fun k => (f k).toInt) m.toNat = false := by
  refine decide_eq_false (fun q => h ⟨by omega, ?_, Or.inr ?_, Or.inr ?_⟩)
  · rw [show (m - 1).toNat = m.toNat - 1 from by omega]; exact q.2.1
  · rw [show (m - 2).toNat = m.toNat - 2 from by omega]; exact q.2.2.1
  · rw [show (m - 3).toNat = m.toNat - 3 from by omega]; exact q.2.2.2
theorem zming_t (h : zMe f m 105 110 103 6) : zing (fun k => (f k).toInt) m.toNat = true := by
  obtain ⟨h1, h2, h3, h4⟩ := h
  rw [show (m - 1).toNat = m.toNat - 1 from by omega] at h2
  rw [show (m - 2).toNat = m.toNat - 2 from by omega] at h3
  rw [show (m - 3).toNat = m.toNat - 3 from by omega] at h4
  exact decide_eq_true ⟨by omega, h2, h3.resolve_left (by decide), h4.resolve_left (by decide)⟩
theorem zming_f (h : ¬ zMe f m 105 110 103 6) : zing (fun k => (f k).toInt) m.toNat = false := by
  refine decide_eq_false (fun q => h ⟨by omega, ?_, Or.inr ?_, Or.inr ?_⟩)
  · rw [show (m - 1).toNat = m.toNat - 1 from by omega]; exact q.2.1
  · rw [show (m - 2).toNat = m.toNat - 2 from by omega]; exact q.2.2.1
  · rw [show (m - 3).toNat = m.toNat - 3 from by omega]; exact q.2.2.2
theorem zmed_t (h : zMe f m 0 101 100 5) : zed (fun k => (f k).toInt) m.toNat = true := by
  obtain ⟨h1, h2, h3, h4⟩ := h
  rw [show (m - 1).toNat = m.toNat - 1 from by omega] at h2
  rw [show (m - 2).toNat = m.toNat - 2 from by omega] at h3
  exact decide_eq_true ⟨by omega, h2, h3.resolve_left (by decide)⟩
theorem zmed_f (h : ¬ zMe f m 0 101 100 5) : zed (fun k => (f k).toInt) m.toNat = false := by
  refine decide_eq_false (fun q => h ⟨by omega, ?_, Or.inr ?_, Or.inl rfl⟩)
  · rw [show (m - 1).toNat = m.toNat - 1 from by omega]; exact q.2.1
  · rw [show (m - 2).toNat = m.toNat - 2 from by omega]; exact q.2.2
theorem zmes_t (h : zMe f m 0 0 115 4) (h1 : ¬ zMe f m 0 115 115 4) (h2 : ¬ zMe f m 0 117 115 4) (h3 : ¬ zMe f m 0 105 115 4) : zes (fun k => (f k).toInt) m.toNat = true := by
  obtain ⟨k1, k2, k3, k4⟩ := h
  have e1 : (m - 1).toNat = m.toNat - 1 := by omega
  have e2 : (m - 2).toNat = m.toNat - 2 := by omega
  refine decide_eq_true ⟨by omega, by rw [← e1]; exact k2, fun c => h1 ⟨k1, k2, Or.inr ?_, Or.inl rfl⟩, fun c => h2 ⟨k1, k2, Or.inr ?_, Or.inl rfl⟩, fun c => h3 ⟨k1, k2, Or.inr ?_, Or.inl rfl⟩⟩
  all_goals (rw [e2]; exact c)
theorem zmes_f (h : ¬ zMe f m 0 0 115 4 ∨ zMe f m 0 115 115 4 ∨ zMe f m 0 117 115 4 ∨ zMe f m 0 105 115 4) : zes (fun k => (f k).toInt) m.toNat = false := by
  refine decide_eq_false (fun q => ?_)
  have e1 : (m - 1).toNat = m.toNat - 1 := by omega
  have e2 : (m - 2).toNat = m.toNat - 2 := by omega
  rcases h with c | c | c | c
  · exact c ⟨by omega, by rw [e1]; exact q.2.1, Or.inl rfl, Or.inl rfl⟩
  · have d := c.2.2.1.resolve_left (by decide); rw [e2] at d; exact q.2.2.1 d
  · have d := c.2.2.1.resolve_left (by decide); rw [e2] at d; exact q.2.2.2.1 d
  · have d := c.2.2.1.resolve_left (by decide); rw [e2] at d; exact q.2.2.2.2 d
end ZMs
theorem zhd_m {f w : Nat → Int32} {p q n : Int} {i z : Int32} {j : Int} (h : zAt f p q → zhd (fun k => (w k).toInt) i.toInt.toNat = false) (ht : zTkb f p q w n) (e : z = w i.toNatClampNeg) (hz : z.toInt < 48 ∨ 57 < z.toInt) (h0 : 0 ≤ i.toInt) (hn : i.toInt < n) (hp : 0 ≤ p) (hq : p + n ≤ q) (hj : j = i.toInt + 1) : zAt f p q → zhd (fun k => (w k).toInt) j.toNat = false := fun ha => by
  have qi : i.toNatClampNeg = i.toInt.toNat := rfl
  have q1 := ht ha i.toNatClampNeg (by omega)
  have q2 : zVl (zLt f p i.toNatClampNeg) := by
    unfold zLt
    exact zSml_v (ha (p.toNat + i.toNatClampNeg) (by omega) (by omega))
  rw [← q1, ← e] at q2
  exact zhd_s (h ha) e (by unfold zVl at q2; omega) h0 hj
def zMw (f : Nat → Int32) (p q : Int) (w : Nat → Int32) (n : Int) : Prop := zAt f p q → 0 ≤ p → p ≤ q → ∃ m : Nat, p + m ≤ q ∧ m ≤ 12 ∧ (m = 12 ∨ p + m = q) ∧ n = (zshm (zLt f p) m : Int) ∧ ∀ k, k < zshm (zLt f p) m → (w k).toInt = zshl (zLt f p) m k
theorem zMw_i {f w w' : Nat → Int32} {p q l n : Int} (ht : zTkb f p q w l) (hb : 0 ≤ l ∧ l ≤ 12) (hl : p ≤ q → (l = 12 ∨ p + l = q) ∧ p + l ≤ q) (h1 : p ≤ q → zAt f p q → n = (zshm (fun k => (w k).toInt) l.toNat : Int)) (h2 : p ≤ q → zAt f p q → ∀ k, (w' k).toInt = zshl (fun k => (w k).toInt) l.toNat k) : zMw f p q w' n := fun ha h0 hpq => by
  have k1 := hl hpq
  have e : ∀ k, k < l.toNat → (fun k => (w k).toInt) k = zLt f p k := fun k hk => ht ha k (by omega)
  refine ⟨l.toNat, by omega, by omega, by omega, by rw [h1 hpq ha, zshm_c e], fun k hk => ?_⟩
  have q := zshm_le (L := zLt f p) (m := l.toNat)
  rw [h2 hpq ha k]
  exact zshl_c e (by omega)
def zTw (f : Nat → Int32) (n : Int) (w : Nat → Int32) (s : Int) : Prop := zFW f n (zpk (fun k => (w k).toInt) s.toNat 12) ∧ 1 ≤ zpk (fun k => (w k).toInt) s.toNat 12 ∧ (∀ k : Nat, (k : Int) < s → zVl (w k).toInt) ∧ 1 ≤ s ∧ s ≤ 12
theorem zTw_i {f w : Nat → Int32} {n a p q s : Int} (h0 : zNt f a p) (ha : a = 0) (h1 : p < n → zTok (f p.toNat).toInt) (hp : 0 ≤ p) (hpn : p < n) (hq : q ≤ n) (hpq : p ≤ q) (h2 : zAt f p q) (h3 : q < n → ¬ zTok (f q.toNat).toInt) (hw : zMw f p q w s) : zTw f n w s := by
  subst ha
  obtain ⟨m, a1, a2, a3, a4, a5⟩ := hw h2 hp hpq
  have hin : zIn f n p := ⟨hp, hpn, h1 hpn⟩
  have hfr : ∀ j : Int, j < p → ¬ zIn f n j := fun j hj c => h0 j.toNat (by omega) (by have c1 := c.1; omega) c.2.2
  have hr : zRaw f n p m := ⟨a2, fun k hk => ⟨by omega, by omega, h2 _ (by omega) (by omega)⟩, by
    rcases a3 with c | c
    · exact Or.inl c
    · right
      intro d
      rw [c] at d
      exact h3 d.2.1 d.2.2⟩
  have hv : ∀ k, k < m → zVl (zLt f p k) := fun k hk => zLt_v (hr.2.1 k hk) hp
  have e : zpk (fun k => (w k).toInt) s.toNat 12 = zWrd f p m := by
    unfold zWrd
    rw [show s.toNat = zshm (zLt f p) m from by omega]
    exact zpk_c (fun k hk => a5 k hk) 12
  have hm1 : 1 ≤ m := by
    rcases Nat.eq_zero_or_pos m with c | c
    · rcases hr.2.2 with d | d
      · omega
      · rw [c] at d; exact absurd (show zIn f n (p + ((0 : Nat) : Int)) by rw [Int.ofNat_zero, Int.add_zero]; exact hin) d
    · exact c
  refine ⟨Or.inr ⟨p, m, hin, hfr, hr, e⟩, by rw [e]; exact zWrd_pos hr hin, fun k hk => ?_, ?_, ?_⟩
  · rw [a5 k (by omega)]; exact zsh_v hv k (by omega)
  · have q := zshm_pos (L := zLt f p) hm1; omega
  · have q := zshm_le (L := zLt f p) (m := m); omega
theorem zNo_i {f : Nat → Int32} {n a p : Int} (h0 : zNt f a p) (ha : a = 0) (hp : n ≤ p) : ∀ i : Int, ¬ zIn f n i := fun i c => h0 i.toNat (by have c1 := c.1; omega) (by have c1 := c.1; have c2 := c.2.1; omega) c.2.2
def zSme (g : Nat → Int32) (a m : Int) (w : Nat → Int32) (n : Int) : Prop := m = n ∧ ∀ k : Nat, (k : Int) < m → g (a.toNat + k) = w k
def zSmk (g : Nat → Int32) (a : Int) (w : Nat → Int32) (k : Int) : Prop := ∀ j : Nat, (j : Int) < k → g (a.toNat + j) = w j
theorem zSmk_0 {g w : Nat → Int32} {a k : Int} (h : k ≤ 0) : zSmk g a w k := fun j hj => by omega
theorem zSmk_s {g w : Nat → Int32} {a j : Int} {k i y z : Int32} (h : zSmk g a w k.toInt) (e1 : y = g i.toNatClampNeg) (e2 : z = w k.toNatClampNeg) (hi : i.toInt = a + k.toInt) (ha : 0 ≤ a) (hk : 0 ≤ k.toInt) (hyz : y.toInt = z.toInt) (hj : j = k.toInt + 1) : zSmk g a w j := fun t ht => by
  by_cases c : (t : Int) < k.toInt
  · exact h t c
  · have q1 : k.toNatClampNeg = t := by have q : k.toNatClampNeg = k.toInt.toNat := rfl; omega
    have q2 : i.toNatClampNeg = a.toNat + t := by have q : i.toNatClampNeg = i.toInt.toNat := rfl; omega
    rw [← q2, ← e1]
    rw [← q1, ← e2]
    exact zeqi.mpr hyz
theorem zSme_n {g w : Nat → Int32} {a m n : Int} {k i y z : Int32} (e1 : y = g i.toNatClampNeg) (e2 : z = w k.toNatClampNeg) (hi : i.toInt = a + k.toInt) (ha : 0 ≤ a) (hk : 0 ≤ k.toInt) (hm : k.toInt < m) (hyz : y.toInt ≠ z.toInt) : ¬ zSme g a m w n := fun q => by
  have qk : k.toNatClampNeg = k.toInt.toNat := rfl
  have q2 : i.toNatClampNeg = a.toNat + k.toNatClampNeg := by have q : i.toNatClampNeg = i.toInt.toNat := rfl; omega
  have q3 := q.2 k.toNatClampNeg (by omega)
  rw [← q2, ← e1, ← e2] at q3
  exact hyz (by rw [q3])
theorem zSme_y {g w : Nat → Int32} {a m n k : Int} (h : zSmk g a w k) (hk : m ≤ k) (e : m = n) : zSme g a m w n := ⟨e, fun j hj => h j (by omega)⟩
theorem zSme_a {g w : Nat → Int32} {a b m n c : Int} (h : zSme g a m w n) (e : b = a) (e2 : c = m) : zSme g b c w n := by rw [e, e2]; exact h
def zkw (g sz : Nat → Int32) (j : Nat) : Int := zpk (fun k => (g (12 * j + k)).toInt) (sz j).toInt.toNat 12
def zQ (g sz : Nat → Int32) (n y : Int) : Prop := ∃ j : Nat, (j : Int) < n ∧ zkw g sz j = y
def zMs (g sz : Nat → Int32) (n : Int) : Prop := (∀ j : Nat, (j : Int) < n → 0 ≤ (sz j).toInt ∧ (sz j).toInt ≤ 12 ∧ ∀ k : Nat, (k : Int) < (sz j).toInt → zVl (g (12 * j + k)).toInt) ∧ ∀ a b : Nat, a < b → (b : Int) < n → zkw g sz a ≠ zkw g sz b
def zFn (g sz w : Nat → Int32) (s n : Int) : Prop := ∀ j : Nat, (j : Int) < n → ¬ zSme g (12 * (j : Int)) (sz j).toInt w s
theorem zFn_0 {g sz w : Nat → Int32} {s n : Int} (h : n ≤ 0) : zFn g sz w s n := fun j hj => by omega
theorem zFn_s {g sz w : Nat → Int32} {s j a : Int} {n z : Int32} (h : zFn g sz w s n.toInt) (e : z = sz n.toNatClampNeg) (hn : 0 ≤ n.toInt) (ha : a = 12 * n.toInt) (h1 : ¬ zSme g a z.toInt w s) (hj : j = n.toInt + 1) : zFn g sz w s j := fun t ht => by
  by_cases c : (t : Int) < n.toInt
  · exact h t c
  · have q : n.toNatClampNeg = t := by have q : n.toNatClampNeg = n.toInt.toNat := rfl; omega
    rw [← q, ← e, show (12 : Int) * ((n.toNatClampNeg : Nat) : Int) = a from by omega]
    exact h1
def zFd (g sz w : Nat → Int32) (s n r : Int) : Prop := (r = -1 ∧ zFn g sz w s n) ∨ (0 ≤ r ∧ r < n ∧ zSme g (12 * r) (sz r.toNat).toInt w s)
theorem zFd_n {g sz w : Nat → Int32} {s n k r : Int} (h : zFn g sz w s k) (hk : n ≤ k) (hr : r = -1) : zFd g sz w s n r := Or.inl ⟨hr, fun j hj => h j (by omega)⟩
theorem zFd_y {g sz w : Nat → Int32} {s n a : Int} {r z : Int32} (e : z = sz r.toNatClampNeg) (h : zSme g a z.toInt w s) (ha : a = 12 * r.toInt) (h0 : 0 ≤ r.toInt) (hn : r.toInt < n) : zFd g sz w s n r.toInt := Or.inr ⟨h0, hn, by
  have q : r.toNatClampNeg = r.toInt.toNat := rfl
  rw [← q, ← e, ← ha]; exact h⟩
section ZSp
variable {f g g' sz sz' w : Nat → Int32} {on x n m r l s p : Int}
theorem zFd_x (h : zFd g sz w s n p) (hp : p ≠ -1) : 0 ≤ p ∧ p < n ∧ zkw g sz p.toNat = zpk (fun k => (w k).toInt) s.toNat 12 := by
  rcases h with c | c
  · exact absurd c.1 hp
  · refine ⟨c.1, c.2.1, ?_⟩
    obtain ⟨d1, d2⟩ := c.2.2
    unfold zkw
    rw [d1]
    refine zpk_c (fun k hk => ?_) 12
    have q := d2 k (by omega)
    rw [show (12 * p).toNat = 12 * p.toNat from by omega] at q
    exact congrArg Int32.toInt q
theorem zFd_o (h : zFd g sz w s n p) (hp : p = -1) (hm : zMs g sz n) (hv : ∀ k : Nat, (k : Int) < s → zVl (w k).toInt) (hs : s ≤ 12) (h0 : 0 ≤ s) : ¬ zQ g sz n (zpk (fun k => (w k).toInt) s.toNat 12) := by
  rcases h with c | c
  · rintro ⟨j, hj, e⟩
    have q := hm.1 j hj
    have k := zpk_e (L := fun k => (g (12 * j + k)).toInt) (L' := fun k => (w k).toInt) (m := (sz j).toInt.toNat) (m' := s.toNat) (fun k hk => q.2.2 k (by omega)) (fun k hk => hv k (by omega)) (by omega) (by omega) e
    refine c.2 j hj ⟨by omega, fun k1 hk1 => ?_⟩
    rw [show (12 * (j : Int)).toNat = 12 * j from by omega]
    exact zeqi.mpr (k.2 k1 (by omega))
  · omega
theorem zsp1 (h : ∀ i : Int, ¬ zIn f l i) (hr : r = -1) (hm : m = n) (hs : zMs g sz n) : zMs g sz m ∧ ∃ x : Int, zFW f l x ∧ zStp on x n m r (zQ g sz n) (zQ g sz m) := by
  subst hm
  exact ⟨hs, 0, Or.inl ⟨rfl, h⟩, Or.inl ⟨rfl, hr, rfl, fun _ => Iff.rfl⟩⟩
theorem zsp2 (hw : zTw f l w s) (hf : zFd g sz w s n p) (hp : p = -1) (hon : on = 1) (hn : n = 10) (hr : r = -2) (hm : m = n) (hs : zMs g sz n) : zMs g sz m ∧ ∃ x : Int, zFW f l x ∧ zStp on x n m r (zQ g sz n) (zQ g sz m) := by
  subst hm
  obtain ⟨a1, a2, a3, a4, a5⟩ := hw
  exact ⟨hs, _, a1, Or.inr (Or.inr (Or.inl ⟨by omega, hon, zFd_o hf hp hs a3 a5 (by omega), hn, hr, rfl, fun _ => Iff.rfl⟩))⟩
theorem zsp4 (hw : zTw f l w s) (hf : zFd g sz w s n p) (hc : (on = 1 ∧ p ≠ -1) ∨ (on = 0 ∧ p = -1)) (hr : r = n) (hm : m = n) (hs : zMs g sz n) : zMs g sz m ∧ ∃ x : Int, zFW f l x ∧ zStp on x n m r (zQ g sz n) (zQ g sz m) := by
  subst hm
  obtain ⟨a1, a2, a3, a4, a5⟩ := hw
  refine ⟨hs, _, a1, Or.inr (Or.inl ⟨by omega, ?_, hr, rfl, fun _ => Iff.rfl⟩)⟩
  rcases hc with c | c
  · have q := zFd_x hf c.2
    exact Or.inl ⟨c.1, p.toNat, by omega, q.2.2⟩
  · exact Or.inr ⟨c.1, zFd_o hf c.2 hs a3 a5 (by omega)⟩
end ZSp
def zC (f f' g : Nat → Int32) (a k : Int) : Prop := (∀ j : Nat, ¬ (a ≤ (j : Int) ∧ (j : Int) < a + k) → f' j = f j) ∧ ∀ i : Nat, (i : Int) < k → zVl (g i).toInt → f' (a.toNat + i) = g i
theorem zC_0 {f g : Nat → Int32} {a k : Int} (h : k ≤ 0) : zC f f g a k := ⟨fun _ _ => rfl, fun i hi => by omega⟩
theorem znar_v {z : Int32} (h : zVl z.toInt) : vp_nar .byte z = z := by
  apply zeqi.mpr
  rw [vp_nar_byte, zi2b rfl rfl (by unfold zVl at h; omega) (by unfold zVl at h; omega)]
theorem zC_s {f f' g : Nat → Int32} {a j : Int} {k y z : Int32} (h : zC f f' g a k.toInt) (e : z = g k.toNatClampNeg) (hy : y.toInt = a + k.toInt) (ha : 0 ≤ a) (hk : 0 ≤ k.toInt) (hj : j = k.toInt + 1) : zC f (upd f' y.toNatClampNeg (vp_nar .byte z)) g a j := by
  have qy : y.toNatClampNeg = y.toInt.toNat := rfl
  have qk : k.toNatClampNeg = k.toInt.toNat := rfl
  refine ⟨fun t ht => ?_, fun i hi hv => ?_⟩
  · rw [pk_un (by omega)]; exact h.1 t (by omega)
  · by_cases c : i = k.toNatClampNeg
    · rw [show a.toNat + i = y.toNatClampNeg from by omega, pk_us, e, ← c, znar_v hv]
    · rw [pk_un (by omega)]; exact h.2 i (by omega) hv
theorem zC_t {f f' : Nat → Int32} {a b j : Int} {k y z x : Int32} (h : zC f f' (fun i => f (b.toNat + i)) a k.toInt) (e : z = f' x.toNatClampNeg) (hx : x.toInt = b + k.toInt) (hab : a ≤ b) (hab2 : b = a ∨ a + 12 ≤ b) (hk2 : k.toInt < 12) (hy : y.toInt = a + k.toInt) (ha : 0 ≤ a) (hk : 0 ≤ k.toInt) (hj : j = k.toInt + 1) : zC f (upd f' y.toNatClampNeg (vp_nar .byte z)) (fun i => f (b.toNat + i)) a j := by
  refine zC_s h ?_ hy ha hk hj
  have qx : x.toNatClampNeg = x.toInt.toNat := rfl
  have qk : k.toNatClampNeg = k.toInt.toNat := rfl
  rw [e, h.1 _ (by omega)]
  show f _ = f _
  rw [show x.toNatClampNeg = b.toNat + k.toNatClampNeg from by omega]
theorem zC_e {f f' g : Nat → Int32} {a k b j : Int} (h : zC f f' g a k) (e : b = a) (e2 : j = k) : zC f f' g b j := by rw [e, e2]; exact h
theorem zkw_c {g g' sz sz' : Nat → Int32} {i j : Nat} (hs : sz' j = sz i) (hg : ∀ k : Nat, (k : Int) < (sz i).toInt → g' (12 * j + k) = g (12 * i + k)) : zkw g' sz' j = zkw g sz i := by
  unfold zkw
  rw [hs]
  refine zpk_c (fun k hk => ?_) 12
  show (g' (12 * j + k)).toInt = (g (12 * i + k)).toInt
  rw [hg k (by omega)]
section ZSq
variable {f g g' sz sz' w : Nat → Int32} {on x n m r l s p : Int}
theorem zsp3 {N S : Int32} (hw : zTw f l w s) (hf : zFd g sz w s n p) (hp : p = -1) (hon : on = 1) (hn : n < 10) (h0 : 0 ≤ n) (hr : r = n + 1) (hm : m = n + 1) (hc : zC g g' w (12 * n) s) (hz : sz' = upd sz N.toNatClampNeg S) (hN : N.toInt = n) (hS : S.toInt = s) (hs : zMs g sz n) : zMs g' sz' m ∧ ∃ x : Int, zFW f l x ∧ zStp on x n m r (zQ g sz n) (zQ g' sz' m) := by
  obtain ⟨a1, a2, a3, a4, a5⟩ := hw
  have ho := zFd_o hf hp hs a3 a5 (by omega)
  have qN : N.toNatClampNeg = n.toNat := by have q : N.toNatClampNeg = N.toInt.toNat := rfl; omega
  have es : ∀ j : Nat, (j : Int) < n → sz' j = sz j := fun j hj => by rw [hz, pk_un (by omega)]
  have eg : ∀ j : Nat, (j : Int) < n → ∀ k : Nat, k < 12 → g' (12 * j + k) = g (12 * j + k) := fun j hj k hk => hc.1 _ (by omega)
  have ek : ∀ j : Nat, (j : Int) < n → zkw g' sz' j = zkw g sz j := fun j hj => zkw_c (es j hj) (fun k hk => eg j hj k (by have q := (hs.1 j hj).2.1; omega))
  have esn : (sz' n.toNat).toInt = s := by rw [hz, qN, pk_us]; exact hS
  have egn : ∀ k : Nat, (k : Int) < s → g' (12 * n.toNat + k) = w k := fun k hk => by
    have q := hc.2 k hk (a3 k hk)
    rw [show (12 * n).toNat = 12 * n.toNat from by omega] at q
    exact q
  have en : zkw g' sz' n.toNat = zpk (fun k => (w k).toInt) s.toNat 12 := by
    unfold zkw
    rw [esn]
    refine zpk_c (fun k hk => ?_) 12
    show (g' (12 * n.toNat + k)).toInt = (w k).toInt
    rw [egn k (by omega)]
  refine ⟨⟨fun j hj => ?_, fun a b hab hb => ?_⟩, _, a1, Or.inr (Or.inr (Or.inr (Or.inl ⟨by omega, hon, ho, hn, hr, hm, fun y => ⟨?_, ?_⟩⟩)))⟩
  · by_cases c : (j : Int) < n
    · have q := hs.1 j c
      rw [es j c]
      exact ⟨q.1, q.2.1, fun k hk => by rw [eg j c k (by omega)]; exact q.2.2 k hk⟩
    · rw [show j = n.toNat from by omega, esn]
      exact ⟨by omega, a5, fun k hk => by rw [egn k hk]; exact a3 k hk⟩
  · by_cases c : (b : Int) < n
    · rw [ek a (by omega), ek b c]; exact hs.2 a b hab c
    · rw [show b = n.toNat from by omega, en, ek a (by omega)]
      exact fun q => ho ⟨a, by omega, q⟩
  · rintro ⟨j, hj, q⟩
    by_cases c : (j : Int) < n
    · rw [ek j c] at q; exact Or.inl ⟨j, c, q⟩
    · rw [show j = n.toNat from by omega, en] at q; exact Or.inr q.symm
  · rintro (⟨j, hj, q⟩ | q)
    · exact ⟨j, by omega, by rw [ek j hj]; exact q⟩
    · exact ⟨n.toNat, by omega, by rw [en, q]⟩
theorem zsp6 {P N S : Int32} (hw : zTw f l w s) (hf : zFd g sz w s n P.toInt) (hp : P.toInt ≠ -1) (hon : on = 0) (hr : r = m) (hm : m = n - 1) (hc : zC g g' (fun i => g ((12 * m).toNat + i)) (12 * P.toInt) 12) (hz : sz' = upd sz P.toNatClampNeg S) (hS : S = sz N.toNatClampNeg) (hN : N.toInt = m) (hs : zMs g sz n) : zMs g' sz' m ∧ ∃ x : Int, zFW f l x ∧ zStp on x n m r (zQ g sz n) (zQ g' sz' m) := by
  obtain ⟨a1, a2, a3, a4, a5⟩ := hw
  have q := zFd_x hf hp
  have qP : P.toNatClampNeg = P.toInt.toNat := rfl
  have qN : N.toNatClampNeg = m.toNat := by have q : N.toNatClampNeg = N.toInt.toNat := rfl; omega
  have es : ∀ j : Nat, j ≠ P.toNatClampNeg → sz' j = sz j := fun j hj => by rw [hz, pk_un hj]
  have esP : sz' P.toNatClampNeg = sz m.toNat := by rw [hz, pk_us, hS, qN]
  have eg : ∀ j : Nat, j ≠ P.toNatClampNeg → ∀ k : Nat, k < 12 → g' (12 * j + k) = g (12 * j + k) := fun j hj k hk => hc.1 _ (by omega)
  have egP : ∀ k : Nat, (k : Int) < (sz m.toNat).toInt → g' (12 * P.toNatClampNeg + k) = g (12 * m.toNat + k) := fun k hk => by
    have b := hs.1 m.toNat (by omega)
    have v := b.2.2 k hk
    have d := hc.2 k (by omega) (by show zVl (g ((12 * m).toNat + k)).toInt; rw [show (12 * m).toNat = 12 * m.toNat from by omega]; exact v)
    rw [show (12 * P.toInt).toNat = 12 * P.toNatClampNeg from by omega] at d
    rw [d]
    show g ((12 * m).toNat + k) = _
    rw [show (12 * m).toNat = 12 * m.toNat from by omega]
  have ek : ∀ j : Nat, (j : Int) < n → j ≠ P.toNatClampNeg → zkw g' sz' j = zkw g sz j := fun j hj hne => zkw_c (es j hne) (fun k hk => eg j hne k (by have b := (hs.1 j hj).2.1; omega))
  have ekP : zkw g' sz' P.toNatClampNeg = zkw g sz m.toNat := zkw_c esP egP
  have inj : ∀ a b : Nat, (a : Int) < n → (b : Int) < n → a ≠ b → zkw g sz a ≠ zkw g sz b := fun a b ha hb hab => by
    rcases Nat.lt_or_gt_of_ne hab with c | c
    · exact hs.2 a b c hb
    · exact fun e => hs.2 b a c ha e.symm
  have key : ∀ j : Nat, (j : Int) < m → ∃ i : Nat, (i : Int) < n ∧ i ≠ P.toNatClampNeg ∧ zkw g' sz' j = zkw g sz i ∧ ((j ≠ P.toNatClampNeg ∧ i = j) ∨ (j = P.toNatClampNeg ∧ i = m.toNat)) := fun j hj => by
    by_cases c : j = P.toNatClampNeg
    · exact ⟨m.toNat, by omega, by omega, by rw [c]; exact ekP, Or.inr ⟨c, rfl⟩⟩
    · exact ⟨j, by omega, c, ek j (by omega) c, Or.inl ⟨c, rfl⟩⟩
  refine ⟨⟨fun j hj => ?_, fun a b hab hb => ?_⟩, _, a1, Or.inr (Or.inr (Or.inr (Or.inr ⟨by omega, hon, ⟨P.toInt.toNat, by omega, q.2.2⟩, by omega, hm, fun y => ⟨?_, ?_⟩⟩)))⟩
  · by_cases c : j = P.toNatClampNeg
    · have b := hs.1 m.toNat (by omega)
      rw [c, esP]
      exact ⟨b.1, b.2.1, fun k hk => by rw [egP k hk]; exact b.2.2 k hk⟩
    · have b := hs.1 j (by omega)
      rw [es j c]
      exact ⟨b.1, b.2.1, fun k hk => by rw [eg j c k (by omega)]; exact b.2.2 k hk⟩
  · obtain ⟨i, i1, i2, i3, i4⟩ := key a (by omega)
    obtain ⟨j, j1, j2, j3, j4⟩ := key b hb
    rw [i3, j3]
    exact inj i j i1 j1 (by omega)
  · rintro ⟨j, hj, e⟩
    obtain ⟨i, i1, i2, i3, i4⟩ := key j hj
    rw [i3] at e
    refine ⟨⟨i, i1, e⟩, ?_⟩
    rw [← e, ← q.2.2]
    exact inj i _ i1 (by omega) (by omega)
  · rintro ⟨⟨i, i1, e⟩, hne⟩
    have c : i ≠ P.toNatClampNeg := fun c => hne (by rw [← e, c]; exact q.2.2)
    by_cases d : (i : Int) < m
    · exact ⟨i, d, by rw [ek i i1 c]; exact e⟩
    · refine ⟨P.toNatClampNeg, by omega, ?_⟩
      rw [ekP, ← e, show i = m.toNat from by omega]
end ZSq
