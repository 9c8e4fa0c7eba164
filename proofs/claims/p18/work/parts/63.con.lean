section ZM
variable {f : Nat → Int32} {n p h b k b' v : Int}
theorem zMl_s (hm : zMl f n p h b) (hv : v ≠ 46) (ht : ¬ zTok v) : (zSg f p h v ↔ zSc f n p v) ∧ (zSg f p h v → b = p + 1) := by
  rcases hm with ⟨a1, a2⟩ | ⟨a1, a2, a3, a4⟩ | ⟨a1, a2, a3, a4, a5⟩ | ⟨a1, a2, a3, a4, a5⟩
  · exact ⟨⟨fun y => by have := y.1; omega, fun y => by have := y.1; omega⟩, fun y => by have := y.1; omega⟩
  · exact ⟨⟨fun y => by have := y.1; omega, fun y => absurd (y.2 ▸ a2) ht⟩, fun y => by have := y.1; omega⟩
  · exact ⟨⟨fun y => by have := y.1; omega, fun y => absurd (y.2.symm.trans a3.1) hv⟩, fun y => by have := y.1; omega⟩
  · exact ⟨⟨fun y => ⟨a1, y.2⟩, fun y => ⟨a4, y.2⟩⟩, fun _ => a5⟩
theorem zMl_d (hm : zMl f n p h b) : (h = 3 ↔ (p < n ∧ zDd f n p)) ∧ (h = 3 → b = p + 2) := by
  rcases hm with ⟨a1, a2⟩ | ⟨a1, a2, a3, a4⟩ | ⟨a1, a2, a3, a4, a5⟩ | ⟨a1, a2, a3, a4, a5⟩
  · exact ⟨⟨fun y => by omega, fun y => by omega⟩, fun y => by omega⟩
  · exact ⟨⟨fun y => by omega, fun y => by
      have q := y.2.1
      rw [q] at a2
      exact absurd a2 (by unfold zTok; omega)⟩, fun y => by omega⟩
  · exact ⟨⟨fun _ => ⟨a1, a3⟩, fun _ => a4⟩, fun _ => a5⟩
  · exact ⟨⟨fun y => by omega, fun y => absurd y.2 a3⟩, fun y => by omega⟩
theorem zMl_1 (hm : zMl f n p h b) (h1 : h = 1) : p < n ∧ zTok (f p.toNat).toInt ∧ zRe f n p b := by
  rcases hm with ⟨a1, a2⟩ | ⟨a1, a2, a3, a4⟩ | ⟨a1, a2, a3, a4, a5⟩ | ⟨a1, a2, a3, a4, a5⟩
  · omega
  · exact ⟨a1, a2, a4⟩
  · omega
  · omega
theorem zMl_t (hm : zMl f n p h b) (h1 : h ≠ 1) : ¬ (p < n ∧ zTok (f p.toNat).toInt) := by
  rcases hm with ⟨a1, a2⟩ | ⟨a1, a2, a3, a4⟩ | ⟨a1, a2, a3, a4, a5⟩ | ⟨a1, a2, a3, a4, a5⟩
  · exact fun y => by omega
  · exact absurd a3 h1
  · exact fun y => a2 y.2
  · exact fun y => a2 y.2
theorem zMl_0 (hm : zMl f n p h b) : h = 0 ↔ n ≤ p := by
  rcases hm with ⟨a1, a2⟩ | ⟨a1, a2, a3, a4⟩ | ⟨a1, a2, a3, a4, a5⟩ | ⟨a1, a2, a3, a4, a5⟩ <;> omega
theorem zLk_w (hp : 0 ≤ p) (hm : zMl f n p h b) (h1 : h = 1) : zLk f n p k b' ↔ zKw f n p b k b' := by
  obtain ⟨a1, a2, a3⟩ := zMl_1 hm h1
  constructor
  · intro y
    rcases y with y | ⟨y1, y2, e, y3, y4⟩ | y | y
    · omega
    · have q := zRe_u hp y3 a3
      rw [q] at y4
      exact y4
    · exact absurd a2 y.2.1
    · exact absurd a2 y.2.1
  · exact fun y => Or.inr (Or.inl ⟨a1, a2, b, a3, y⟩)
theorem zLk_v (hm : zMl f n p h b) (hk : zLk f n p k b') (h1 : 257 ≤ k) (h2 : k ≠ 264) : h = 1 := by
  rcases Classical.em (h = 1) with c | c
  · exact c
  · have t := zMl_t hm c
    rcases hk with y | ⟨y1, y2, _⟩ | y | y
    · omega
    · exact absurd ⟨y1, y2⟩ t
    · omega
    · have q := Int.emod_lt_of_pos (f p.toNat).toInt (show (0 : Int) < 256 by omega); omega
theorem zSp_b {l l' : Int} {s s' : Nat} (h1 : zSpl f p b s l) (h2 : l ≠ l') : ¬ zSpl f p b s' l' := fun y => by
  have y1 := h1.1
  have y2 := y.1
  omega
theorem zSp_c {l : Int} {s s' : Nat} (h1 : zSpl f p b s l) (hl : 0 < l) (h2 : zCs s 0 ≠ zCs s' 0) : ¬ zSpl f p b s' l := fun y => by
  have y1 := h1.2 0 (by omega)
  have y2 := y.2 0 (by omega)
  exact h2 (y1.symm.trans y2)
theorem zKw_or : zKw f n p b 258 b' ↔ zSpl f p b 7 2 ∧ b' = b := by
  constructor
  · intro y
    rcases y with y | ⟨_, y⟩
    · exact ⟨y.1, y.2.2⟩
    rcases y with y | ⟨_, y⟩
    · omega
    rcases y with y | ⟨_, y⟩
    · omega
    rcases y with y | ⟨_, y⟩
    · omega
    rcases y with ⟨c, y1, y2, y3, y4⟩ | y
    · rcases y4 with y4 | y4 <;> omega
    · omega
  · exact fun y => Or.inl ⟨y.1, rfl, y.2⟩
theorem zKw_and : zKw f n p b 259 b' ↔ zSpl f p b 8 3 ∧ b' = b := by
  constructor
  · intro y
    rcases y with y | ⟨_, y⟩
    · omega
    rcases y with y | ⟨_, y⟩
    · exact ⟨y.1, y.2.2⟩
    rcases y with y | ⟨_, y⟩
    · omega
    rcases y with y | ⟨_, y⟩
    · omega
    rcases y with ⟨c, y1, y2, y3, y4⟩ | y
    · rcases y4 with y4 | y4 <;> omega
    · omega
  · exact fun y => Or.inr ⟨zSp_b y.1 (by decide), Or.inl ⟨y.1, rfl, y.2⟩⟩
theorem zKw_not : zKw f n p b 260 b' ↔ zSpl f p b 9 3 ∧ b' = b := by
  constructor
  · intro y
    rcases y with y | ⟨_, y⟩
    · omega
    rcases y with y | ⟨_, y⟩
    · omega
    rcases y with y | ⟨_, y⟩
    · exact ⟨y.1, y.2.2⟩
    rcases y with y | ⟨_, y⟩
    · omega
    rcases y with ⟨c, y1, y2, y3, y4⟩ | y
    · rcases y4 with y4 | y4 <;> omega
    · omega
  · exact fun y => Or.inr ⟨zSp_b y.1 (by decide), Or.inr ⟨zSp_c y.1 (by decide) (by decide), Or.inl ⟨y.1, rfl, y.2⟩⟩⟩
theorem zKw_near : zKw f n p b 261 b' ↔ zSpl f p b 10 4 ∧ b' = b := by
  constructor
  · intro y
    rcases y with y | ⟨_, y⟩
    · omega
    rcases y with y | ⟨_, y⟩
    · omega
    rcases y with y | ⟨_, y⟩
    · omega
    rcases y with y | ⟨_, y⟩
    · exact ⟨y.1, y.2.2⟩
    rcases y with ⟨c, y1, y2, y3, y4⟩ | y
    · rcases y4 with y4 | y4 <;> omega
    · omega
  · exact fun y => Or.inr ⟨zSp_b y.1 (by decide), Or.inr ⟨zSp_b y.1 (by decide), Or.inr ⟨zSp_b y.1 (by decide), Or.inl ⟨y.1, rfl, y.2⟩⟩⟩⟩
theorem zKw_fl (he : 0 ≤ b) {c : Int} (hc : zBl f n b c) : (zKw f n p b 262 b' ↔ zSpl f p b 11 5 ∧ zCo f n c ∧ b' = c + 1) ∧ (zKw f n p b 263 b' ↔ zSpl f p b 12 4 ∧ zCo f n c ∧ b' = c + 1) := by
  refine ⟨⟨fun y => ?_, fun y => ?_⟩, ⟨fun y => ?_, fun y => ?_⟩⟩
  · rcases y with y | ⟨_, y⟩
    · omega
    rcases y with y | ⟨_, y⟩
    · omega
    rcases y with y | ⟨_, y⟩
    · omega
    rcases y with y | ⟨_, y⟩
    · omega
    rcases y with ⟨d, y1, y2, y3, y4⟩ | y
    · have q := zBl_u he y1 hc
      subst q
      rcases y4 with y4 | y4
      · exact ⟨y4.1, y2, y3⟩
      · omega
    · omega
  · exact Or.inr ⟨zSp_b y.1 (by decide), Or.inr ⟨zSp_b y.1 (by decide), Or.inr ⟨zSp_b y.1 (by decide), Or.inr ⟨zSp_b y.1 (by decide), Or.inl ⟨c, hc, y.2.1, y.2.2, Or.inl ⟨y.1, rfl⟩⟩⟩⟩⟩⟩
  · rcases y with y | ⟨_, y⟩
    · omega
    rcases y with y | ⟨_, y⟩
    · omega
    rcases y with y | ⟨_, y⟩
    · omega
    rcases y with y | ⟨_, y⟩
    · omega
    rcases y with ⟨d, y1, y2, y3, y4⟩ | y
    · have q := zBl_u he y1 hc
      subst q
      rcases y4 with y4 | y4
      · omega
      · exact ⟨y4.2.1, y2, y3⟩
    · omega
  · exact Or.inr ⟨zSp_b y.1 (by decide), Or.inr ⟨zSp_b y.1 (by decide), Or.inr ⟨zSp_b y.1 (by decide), Or.inr ⟨zSp_c y.1 (by decide) (by decide), Or.inl ⟨c, hc, y.2.1, y.2.2, Or.inr ⟨zSp_b y.1 (by decide), y.1, rfl⟩⟩⟩⟩⟩⟩
theorem zMl_sp (hp : 0 ≤ p) (hm : zMl f n p h b) (h1 : h = 1) {s : Nat} {l : Int} : zSpl f p b s l ↔ zSpm f p b s l := zSpl_m (zMl_1 hm h1).2.2.2.1 hp
theorem zMl_b (hm : zMl f n p h b) (h1 : h = 1) : p ≤ b ∧ b ≤ n ∧ p < b := by
  obtain ⟨a1, a2, a3⟩ := zMl_1 hm h1
  have q := a3.2.2.1
  have q1 := a3.1
  have q2 := a3.2.2.2
  have q3 : p < b := by
    rcases Int.lt_or_le p b with c | c
    · exact c
    · have c2 : b = p := by omega
      subst c2
      exact absurd a2 (q a1)
  omega
theorem zmK {s : Nat} {l : Int} (hp : 0 ≤ p) (hm : zMl f n p h b) (hk : 257 ≤ k) (hk2 : k ≠ 264) (hw : ∀ b', zKw f n p b k b' ↔ zSpl f p b s l ∧ b' = b) : (h = 1 ∧ zSpm f p b s l ↔ zKd f n p k) ∧ (h = 1 ∧ zSpm f p b s l → zLk f n p k b) := by
  refine ⟨⟨fun y => ⟨b, (zLk_w hp hm y.1).mpr ((hw b).mpr ⟨(zMl_sp hp hm y.1).mpr y.2, rfl⟩)⟩, fun ⟨b', y⟩ => ?_⟩, fun y => (zLk_w hp hm y.1).mpr ((hw b).mpr ⟨(zMl_sp hp hm y.1).mpr y.2, rfl⟩)⟩
  have h1 := zLk_v hm y hk hk2
  exact ⟨h1, (zMl_sp hp hm h1).mp ((hw b').mp ((zLk_w hp hm h1).mp y)).1⟩
theorem zm_or (hp : 0 ≤ p) (hm : zMl f n p h b) : (h = 1 ∧ zSpm f p b 7 2 ↔ zKd f n p 258) ∧ (h = 1 ∧ zSpm f p b 7 2 → zLk f n p 258 b) := zmK (k := 258) (s := 7) (l := 2) hp hm (by decide) (by decide) (fun _ => zKw_or)
theorem zm_and (hp : 0 ≤ p) (hm : zMl f n p h b) : (h = 1 ∧ zSpm f p b 8 3 ↔ zKd f n p 259) ∧ (h = 1 ∧ zSpm f p b 8 3 → zLk f n p 259 b) := zmK (k := 259) (s := 8) (l := 3) hp hm (by decide) (by decide) (fun _ => zKw_and)
theorem zm_not (hp : 0 ≤ p) (hm : zMl f n p h b) : (h = 1 ∧ zSpm f p b 9 3 ↔ zKd f n p 260) ∧ (h = 1 ∧ zSpm f p b 9 3 → zLk f n p 260 b) := zmK (k := 260) (s := 9) (l := 3) hp hm (by decide) (by decide) (fun _ => zKw_not)
theorem zm_near (hp : 0 ≤ p) (hm : zMl f n p h b) : (h = 1 ∧ zSpm f p b 10 4 ↔ zKd f n p 261) ∧ (h = 1 ∧ zSpm f p b 10 4 → zLk f n p 261 b) := zmK (k := 261) (s := 10) (l := 4) hp hm (by decide) (by decide) (fun _ => zKw_near)
def zIf (f : Nat → Int32) (n p h b : Int) : Prop := h = 1 ∧ (zSpm f p b 11 5 ∨ zSpm f p b 12 4) ∧ zFc f n b
theorem zm_fl (hp : 0 ≤ p) (hm : zMl f n p h b) : zIf f n p h b ↔ zFl f n p := by
  constructor
  · rintro ⟨y1, y2, c, y3, y4⟩
    have hb := zMl_b hm y1
    have w := zKw_fl (p := p) (b' := c + 1) (show 0 ≤ b by omega) y3
    rcases y2 with y2 | y2
    · exact ⟨262, c + 1, (zLk_w hp hm y1).mpr (w.1.mpr ⟨(zMl_sp hp hm y1).mpr y2, y4, rfl⟩), Or.inl rfl⟩
    · exact ⟨263, c + 1, (zLk_w hp hm y1).mpr (w.2.mpr ⟨(zMl_sp hp hm y1).mpr y2, y4, rfl⟩), Or.inr rfl⟩
  · rintro ⟨kd, b', y, hk⟩
    have h1 := zLk_v hm y (by omega) (by omega)
    have hb := zMl_b hm h1
    obtain ⟨c, hc⟩ := zBl_x (f := f) (n := n) _ b (by omega) rfl
    have w := zKw_fl (p := p) (b' := b') (show 0 ≤ b by omega) hc
    have y2 := (zLk_w hp hm h1).mp y
    rcases hk with hk | hk
    · rw [hk] at y2
      have y3 := w.1.mp y2
      exact ⟨h1, Or.inl ((zMl_sp hp hm h1).mp y3.1), c, hc, y3.2.1⟩
    · rw [hk] at y2
      have y3 := w.2.mp y2
      exact ⟨h1, Or.inr ((zMl_sp hp hm h1).mp y3.1), c, hc, y3.2.1⟩
theorem zm_fs {c h1 b1 : Int} (hp : 0 ≤ p) (hm : zMl f n p h b) (y : zIf f n p h b) (hc : zBl f n b c) (hm2 : zMl f n c h1 b1) : b1 = c + 1 ∧ zLk f n p (if b - p = 5 then 262 else 263) b1 := by
  obtain ⟨y1, y2, d, y3, y4⟩ := y
  have hb := zMl_b hm y1
  have q := zBl_u (show 0 ≤ b by omega) y3 hc
  subst q
  have s := zMl_s (v := 58) hm2 (by decide) (by unfold zTok; omega)
  have e := s.2 (s.1.mpr ⟨y4.1, y4.2⟩)
  refine ⟨e, ?_⟩
  have w := zKw_fl (p := p) (b' := b1) (show 0 ≤ b by omega) y3
  rcases y2 with y2 | y2
  · rw [if_pos y2.1]
    exact (zLk_w hp hm y1).mpr (w.1.mpr ⟨(zMl_sp hp hm y1).mpr y2, y4, e⟩)
  · rw [if_neg (by have := y2.1; omega)]
    exact (zLk_w hp hm y1).mpr (w.2.mpr ⟨(zMl_sp hp hm y1).mpr y2, y4, e⟩)
def zBg (f : Nat → Int32) (p h b : Int) : Prop := (h = 1 ∧ ¬ zSpm f p b 7 2 ∧ ¬ zSpm f p b 8 3 ∧ ¬ zSpm f p b 10 4) ∨ zSg f p h 40 ∨ zSg f p h 91 ∨ zSg f p h 34
theorem zm_tk (hp : 0 ≤ p) (hm : zMl f n p h b) (h1 : h = 1) (g1 : ¬ zSpm f p b 7 2) (g2 : ¬ zSpm f p b 8 3) (g3 : ¬ zSpm f p b 10 4) (g4 : ¬ (h = 1 ∧ zSpm f p b 9 3)) (g5 : ¬ zFl f n p) : zLk f n p 257 b := by
  refine (zLk_w hp hm h1).mpr (Or.inr ⟨fun y => g1 ((zMl_sp hp hm h1).mp y), Or.inr ⟨fun y => g2 ((zMl_sp hp hm h1).mp y), Or.inr ⟨fun y => g4 ⟨h1, (zMl_sp hp hm h1).mp y⟩, Or.inr ⟨fun y => g3 ((zMl_sp hp hm h1).mp y), Or.inr ⟨fun y => g5 ((zm_fl hp hm).mp ⟨h1, ?_, y.2⟩), rfl, rfl⟩⟩⟩⟩⟩)
  rcases y.1 with z | z
  · exact Or.inl ((zMl_sp hp hm h1).mp z)
  · exact Or.inr ((zMl_sp hp hm h1).mp z)
theorem zm_nt (hp : 0 ≤ p) (hm : zMl f n p h b) (hx : ¬ (h = 1 ∧ ¬ zSpm f p b 7 2 ∧ ¬ zSpm f p b 8 3 ∧ ¬ zSpm f p b 10 4) ∨ (h = 1 ∧ zSpm f p b 9 3)) : ¬ ∃ b', zLk f n p 257 b' := fun ⟨b', y⟩ => by
  have h1 := zLk_v hm y (by decide) (by decide)
  have w := (zLk_w hp hm h1).mp y
  rcases w with w | ⟨w1, w⟩
  · omega
  rcases w with w | ⟨w2, w⟩
  · omega
  rcases w with w | ⟨w3, w⟩
  · omega
  rcases w with w | ⟨w4, w⟩
  · omega
  rcases hx with hx | hx
  · exact hx ⟨h1, fun z => w1 ((zMl_sp hp hm h1).mpr z), fun z => w2 ((zMl_sp hp hm h1).mpr z), fun z => w4 ((zMl_sp hp hm h1).mpr z)⟩
  · exact w3 ((zMl_sp hp hm h1).mpr hx.2)
theorem zm_sc (hm : zMl f n p h b) (hv : zSg f p h v) (hk : v = 34 ∨ v = 40 ∨ v = 91) : ∃ b', zLk f n p v b' := by
  have s := (zMl_s hm (v := v) (by omega) (by unfold zTok; omega)).1.mp hv
  refine ⟨p + 1, Or.inr (Or.inr (Or.inr ⟨s.1, ?_, ?_, ?_, rfl⟩))⟩
  · rw [s.2]; unfold zTok; omega
  · intro y; have := y.1; have := s.2; omega
  · rw [s.2]; omega
theorem zm_go (tb : zTy f n) (hp : 0 ≤ p) (hm : zMl f n p h b) : ((h = 1 ∧ zSpm f p b 8 3) ∨ zBg f p h b) ↔ zGo f n p := by
  constructor
  · intro y
    rcases y with y | y | y | y | y
    · exact ⟨259, (zm_and hp hm).1.mp y, by omega⟩
    · obtain ⟨y1, y2, y3, y4⟩ := y
      by_cases c : h = 1 ∧ zSpm f p b 9 3
      · exact ⟨260, (zm_not hp hm).1.mp c, by omega⟩
      · by_cases d : zFl f n p
        · obtain ⟨kd, b', d1, d2⟩ := d
          exact ⟨kd, ⟨b', d1⟩, by omega⟩
        · exact ⟨257, ⟨b, zm_tk hp hm y1 y2 y3 y4 c d⟩, by omega⟩
    · exact ⟨40, zm_sc hm y (by omega), by omega⟩
    · exact ⟨91, zm_sc hm y (by omega), by omega⟩
    · exact ⟨34, zm_sc hm y (by omega), by omega⟩
  · rintro ⟨k, ⟨b', y⟩, hk⟩
    have sg : ∀ v : Int, (v = 34 ∨ v = 40 ∨ v = 91) → k = v → zSg f p h v := fun v hv e => by
      have s := (zLk_s tb hp y (v := v) (by omega) (by omega) (by omega) (by unfold zTok; omega)).1.mp e
      exact (zMl_s hm (v := v) (by omega) (by unfold zTok; omega)).1.mpr s
    by_cases c : k = 34 ∨ k = 40 ∨ k = 91
    · rcases c with c | c | c
      · exact Or.inr (Or.inr (Or.inr (Or.inr (sg 34 (by omega) c))))
      · exact Or.inr (Or.inr (Or.inl (sg 40 (by omega) c)))
      · exact Or.inr (Or.inr (Or.inr (Or.inl (sg 91 (by omega) c))))
    · have h1 := zLk_v hm y (by omega) (by omega)
      by_cases d : k = 259
      · rw [d] at y
        exact Or.inl ((zm_and hp hm).1.mpr ⟨b', y⟩)
      · refine Or.inr (Or.inl ⟨h1, fun z => ?_, fun z => ?_, fun z => ?_⟩)
        · have e := (zLk_u hp ((zm_or hp hm).2 ⟨h1, z⟩) y).1; omega
        · have e := (zLk_u hp ((zm_and hp hm).2 ⟨h1, z⟩) y).1; omega
        · have e := (zLk_u hp ((zm_near hp hm).2 ⟨h1, z⟩) y).1; omega
theorem zm_end (hp : 0 ≤ p) (hm : zMl f n p h b) : h = 0 ↔ zKd f n p 256 := by
  rw [zMl_0 hm]
  constructor
  · exact fun y => ⟨p + 1, Or.inl ⟨y, rfl, rfl⟩⟩
  · rintro ⟨b', y⟩
    rcases y with y | ⟨y1, y2, e, y3, y4⟩ | y | y
    · exact y.1
    · exfalso
      rcases y4 with y | ⟨_, y⟩
      · omega
      rcases y with y | ⟨_, y⟩
      · omega
      rcases y with y | ⟨_, y⟩
      · omega
      rcases y with y | ⟨_, y⟩
      · omega
      rcases y with ⟨d, y1, y2, y3, y4⟩ | y
      · rcases y4 with y4 | y4 <;> omega
      · omega
    · omega
    · have q := Int.emod_lt_of_pos (f p.toNat).toInt (show (0 : Int) < 256 by omega); omega
end ZM
