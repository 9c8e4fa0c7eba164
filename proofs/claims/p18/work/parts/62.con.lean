theorem zts_1 {f : Nat → Int32} {p : Int} {k : Nat} (h : zTok (f (p + k).toNat).toInt) (h2 : k = 0 ∨ ¬ zTok (f (p + k - 1).toNat).toInt) : zts f p (k + 1) = zts f p k + 1 := by
  show _ + (if _ then (1 : Int) else 0) = _
  rw [if_pos]
  refine ⟨by unfold zTok at h; omega, ?_⟩
  rcases h2 with h2 | h2
  · exact Or.inl h2
  · exact Or.inr (by unfold zTok at h2; omega)
theorem zts_0 {f : Nat → Int32} {p : Int} {k : Nat} (h : ¬ (zTok (f (p + k).toNat).toInt ∧ (k = 0 ∨ ¬ zTok (f (p + k - 1).toNat).toInt))) : zts f p (k + 1) = zts f p k := by
  show _ + (if _ then (1 : Int) else 0) = _
  rw [if_neg, Int.add_zero]
  intro q
  refine h ⟨by unfold zTok; have q1 := q.1; omega, ?_⟩
  rcases q.2 with h2 | h2
  · exact Or.inl h2
  · exact Or.inr (by unfold zTok; omega)
theorem zts_m {f : Nat → Int32} {p : Int} : ∀ {k j : Nat}, zts f p k ≤ zts f p (k + j) := by
  intro k j
  induction j with
  | zero => exact Int.le_refl _
  | succ j ih =>
    have q : zts f p (k + j) ≤ zts f p (k + (j + 1)) := by
      show zts f p (k + j) ≤ zts f p (k + j) + (if _ then (1 : Int) else 0)
      split <;> omega
    omega
def zStt (f : Nat → Int32) (n p : Int) : Prop := zIn f n p ∧ ¬ zIn f n (p - 1)
def zyF (f : Nat → Int32) (n so0 st0 be0 fa0 dn0 lv0 qt0 at' so fa qt : Int) : Prop := zTy f n → zW f n so0 st0 be0 fa0 dn0 → so0 = 34 → zW f n so st0 be0 fa dn0 ∧ (zyB so0 dn0 → so = 265) ∧ (40 ≤ lv0 → so = 265) ∧ (¬ zyB so0 dn0 → lv0 < 40 → (so = 265 ∧ ∀ L : List Int, zPhr f n st0 lv0 qt0 L none) ∨ (so = 34 ∧ st0 + 1 ≤ at' ∧ at' ≤ n ∧ (∀ j : Nat, st0 + 1 ≤ (j : Int) → (j : Int) < at' → (f j).toInt ≠ 34) ∧ qt = qt0 + zts f (st0 + 1) (at' - (st0 + 1)).toNat))
section ZF
variable {f : Nat → Int32} {n so st be fa dn lv qt ln so' st' be' fa' lv' qt' ln' so0 st0 be0 fa0 dn0 lv0 qt0 ln0 at1 at2 : Int} {s s' s0 : Nat → Int32}
theorem zyF_0 {s1 f1 : Int} (hn : n ≤ 600) (t0 : lv < 40 → s1 = so ∧ f1 = fa) (t1 : 40 ≤ lv → s1 = 265) (t2 : so = 265 → s1 = 265) (t3 : zW f n so st be fa dn → zW f n s1 st be f1 dn) (e0 : dn = -1 → so' = s1 ∧ fa' = f1) (e1 : dn ≠ -1 → so' = 265) (e2 : f1 ≠ 0 → fa' = f1) (e3 : dn ≠ -1 → f1 = 0 → 0 ≤ dn → dn ≤ 700 → fa' ≠ 0) (ha : at1 = be) (hq : qt' = qt) : zyF f n so st be fa dn lv qt at1 so' fa' qt' := fun tb hW hs => by
  have w1 := t3 hW
  have w2 : zW f n so' st be fa' dn := by
    by_cases c : dn = -1
    · rw [(e0 c).1, (e0 c).2]; exact w1
    · refine Or.inl ⟨e1 c, ?_⟩
      rcases w1 with w1 | ⟨a1, a2, a3, a4, a5⟩
      · rw [e2 w1.2]; exact w1.2
      · exact e3 c a2 (by omega) (by omega)
  refine ⟨w2, fun y => ?_, fun y => ?_, fun y l => Or.inr ?_⟩
  · rcases y with y | y
    · omega
    · exact e1 y
  · by_cases c : dn = -1
    · rw [(e0 c).1, t1 y]
    · exact e1 c
  · have g := zyB_n.mp y
    obtain ⟨_, _, _, q1, q2, q3⟩ := zW_g hW g.1
    obtain ⟨x34, xbe⟩ := zSc_y tb q1 q3 hs (by decide) (by decide) (by decide) (by unfold zTok; omega)
    have x1 := x34.1
    refine ⟨by rw [(e0 g.2).1, (t0 l).1, hs], by omega, by omega, fun j a b => by omega, ?_⟩
    rw [hq, show (at1 - (st + 1)).toNat = 0 from by omega]
    show qt = qt + 0
    omega
theorem zyF_a {r : Int} {c : Int32} (tb : zTy f n) (h : 0 ≤ c.toInt ∧ c.toInt < n → r = (f c.toNatClampNeg &&& 255).toInt) (h0 : 0 ≤ c.toInt) (hn : c.toInt < n) : r = 34 ↔ (f c.toInt.toNat).toInt = 34 := by
  have q2 := h ⟨h0, hn⟩
  have q3 : c.toNatClampNeg = c.toInt.toNat := rfl
  have q4 := tb c.toNatClampNeg (by omega)
  rw [zand256] at q2
  rw [← q3]
  omega
theorem zyF_t1 (tb : zTy f n) (hW : zW f n so0 st0 be0 fa0 dn0) (hs : so0 = 34) (hb : ¬ zyB so0 dn0) (h1 : st0 + 1 ≤ at1) (hn : at1 < n) : (zStt f n at1 → zts f (st0 + 1) (at1 + 1 - (st0 + 1)).toNat = zts f (st0 + 1) (at1 - (st0 + 1)).toNat + 1) ∧ (¬ zStt f n at1 → zts f (st0 + 1) (at1 + 1 - (st0 + 1)).toNat = zts f (st0 + 1) (at1 - (st0 + 1)).toNat) := by
  have g := zyB_n.mp hb
  obtain ⟨_, _, _, q1, q2, q3⟩ := zW_g hW g.1
  obtain ⟨x34, xbe⟩ := zSc_y tb q1 q3 hs (by decide) (by decide) (by decide) (by unfold zTok; omega)
  have e1 : (at1 + 1 - (st0 + 1)).toNat = (at1 - (st0 + 1)).toNat + 1 := by omega
  have e2 : st0 + 1 + (((at1 - (st0 + 1)).toNat : Nat) : Int) = at1 := by omega
  have e3 : ¬ zIn f n st0 := fun y => by
    have y1 := y.2.2
    rw [x34.2] at y1
    exact absurd y1 (by unfold zTok; omega)
  rw [e1]
  refine ⟨fun y => zts_1 (by rw [e2]; exact y.1.2.2) ?_, fun y => zts_0 (fun z => y ?_)⟩
  · by_cases c : at1 = st0 + 1
    · exact Or.inl (by omega)
    · refine Or.inr (fun z => y.2 ⟨by omega, by omega, ?_⟩)
      rw [e2] at z
      exact z
  · rw [e2] at z
    refine ⟨⟨by omega, hn, z.1⟩, fun z2 => ?_⟩
    rcases z.2 with z3 | z3
    · have z4 : at1 - 1 = st0 := by omega
      rw [z4] at z2
      exact e3 z2
    · exact z3 z2.2.2
theorem zyF_s (h : zyF f n so0 st0 be0 fa0 dn0 lv0 qt0 at1 so fa qt) (hs : so = 34) (hn : at1 < n) (hq : zTy f n → 0 ≤ at1 → (f at1.toNat).toInt ≠ 34) (hE : (zStt f n at1 ∧ qt' = qt + 1) ∨ (¬ zStt f n at1 ∧ qt' = qt)) (ea : at2 = at1 + 1) : zyF f n so0 st0 be0 fa0 dn0 lv0 qt0 at2 so fa qt' := fun tb hW h0 => by
  obtain ⟨w, h1, h2, h3⟩ := h tb hW h0
  refine ⟨w, h1, h2, fun y l => ?_⟩
  rcases h3 y l with x | ⟨x1, x2, x3, x4, x5⟩
  · exact Or.inl x
  · have g := zyB_n.mp y
    obtain ⟨_, _, _, q1, q2, q3⟩ := zW_g hW g.1
    have u := zyF_t1 tb hW h0 y x2 hn
    refine Or.inr ⟨x1, by omega, by omega, fun j a b => ?_, ?_⟩
    · by_cases c : (j : Int) = at1
      · have c2 := hq tb (by omega)
        rw [show at1.toNat = j from by omega] at c2
        exact c2
      · exact x4 j a (by omega)
    · rw [ea]
      rcases hE with hE | hE
      · rw [u.1 hE.1]; omega
      · rw [u.2 hE.1]; omega
theorem zyF_x {k : Int} (h : zyF f n so0 st0 be0 fa0 dn0 lv0 qt0 at1 so fa qt) (h6 : n ≤ 600) (hs : so = 34) (hn : at1 < n) (hst : zStt f n at1) (hq : 160 ≤ qt) (hf : zFb fa so' fa' k at1) (hk : 1 ≤ k ∧ k ≤ 4) : zyF f n so0 st0 be0 fa0 dn0 lv0 qt0 at2 so' fa' qt' := fun tb hW h0 => by
  obtain ⟨w, h1, h2, h3⟩ := h tb hW h0
  have h00 := hst.1.1
  refine ⟨zFb_W w h6 hf hk (fun _ _ _ => ⟨by omega, by omega⟩), fun _ => hf.1, fun _ => hf.1, fun y l => Or.inl ⟨hf.1, fun L => Or.inr ⟨l, ?_⟩⟩⟩
  rcases h3 y l with x | ⟨x1, x2, x3, x4, x5⟩
  · omega
  · have u := (zyF_t1 tb hW h0 y x2 hn).1 hst
    by_cases c : ∃ c, zQc f n (st0 + 1) c
    · obtain ⟨c, hc⟩ := c
      refine Or.inl ⟨c, hc, Or.inr ?_, rfl⟩
      obtain ⟨c1, c2, c3, c4⟩ := hc
      have g := zyB_n.mp y
      obtain ⟨_, _, _, q1, q2, q3⟩ := zW_g hW g.1
      have c5 : at1 < c := by
        rcases Int.lt_trichotomy at1 c with d | d | d
        · exact d
        · have d1 := hst.1.2.2
          rw [d, c3] at d1
          exact absurd d1 (by unfold zTok; omega)
        · exact absurd c3 (x4 c.toNat (by omega) (by omega))
      have m := zts_m (f := f) (p := st0 + 1) (k := (at1 + 1 - (st0 + 1)).toNat) (j := (c - (at1 + 1)).toNat)
      rw [show (at1 + 1 - (st0 + 1)).toNat + (c - (at1 + 1)).toNat = (c - (st0 + 1)).toNat from by omega] at m
      omega
    · exact Or.inr (Or.inr ⟨fun d hd => c ⟨d, hd⟩, rfl⟩)
def zyH (f : Nat → Int32) (n so st be fa dn ph fi at1 so' st' be' fa' : Int) : Prop := zTy f n → zW f n so st be fa dn → 0 ≤ at1 → at1 < n → zW f n so' st' be' fa' dn ∧ (zyB so dn → zyB so' dn) ∧ (¬ zyB so dn → (ph = fi ∧ zyB so' dn) ∨ (ph ≠ fi ∧ ¬ zyB so' dn ∧ zBl f n (at1 + 1) st'))
theorem zyH_f {ph fi s1 f1 b1 : Int} (h6 : n ≤ 600) (he : ph = fi) (hf : zFb fa s1 f1 1 at1) (hb : b1 = at1 + 1) (hx : zTy f n → zNx f n s1 b1 f1 dn so' st' be' fa') : zyH f n so st be fa dn ph fi at1 so' st' be' fa' := fun tb hW h0 hn => by
  have e1 := hf.1
  have w1 : zW f n s1 st be f1 dn := zFb_W hW h6 hf (by decide) (fun _ a b => ⟨by omega, by omega⟩)
  have w2 := zW_n2 w1 h6 (hx tb) (fun y => absurd e1 y)
  have e3 : zyB so' dn := Or.inl ((hx tb).1 (Or.inl e1))
  exact ⟨w2, fun _ => e3, fun _ => Or.inl ⟨he, e3⟩⟩
theorem zyH_n {ph fi b1 : Int} (h6 : n ≤ 600) (he : ph ≠ fi) (hb : b1 = at1 + 1) (hx : zTy f n → zNx f n so b1 fa dn so' st' be' fa') : zyH f n so st be fa dn ph fi at1 so' st' be' fa' := fun tb hW h0 hn => by
  have w2 := zW_n2 hW h6 (hx tb) (fun y => ⟨by omega, by omega⟩)
  refine ⟨w2, fun y => Or.inl ((hx tb).1 y), fun y => Or.inr ⟨he, ?_⟩⟩
  have g := zyB_n.mp y
  have a := (hx tb).2.2.2.2 (by omega) (by omega) g
  subst hb
  exact ⟨zyB_n.mpr ⟨zLk_k a.2, g.2⟩, a.1⟩
theorem zyPh_a {fi : Int} (h : zyF f n so0 st0 be0 fa0 dn0 lv0 qt0 at1 so fa qt) (hlv : lv0 ≤ 40) (h6 : n ≤ 600) (hs0 : so0 = 34) (hs : so = 34) (hn : at1 < n) (ha0 : 0 ≤ at1) (hq : zTy f n → (f at1.toNat).toInt = 34) (hqt : qt ≤ 160) (hfi : fi = qt0) (hc : zyH f n so st0 be0 fa dn0 qt fi at1 so' st' be' fa') (hl : lv0 < 40 → lv' = lv0 + 1) (hd : ∀ L : List Int, zCd s0 ln0 L → ln0 < 270 → lv0 < 40 → zCd s' ln' (L ++ [1000 * 3 + lv0])) : zyS (zPhr f n) f n so0 st0 be0 fa0 dn0 lv0 qt0 ln0 s0 so' st' be' fa' dn0 lv' qt ln' s' (fun pl => pl = true) := fun tb hW => by
  obtain ⟨w, h1, h2, h3⟩ := h tb hW hs0
  obtain ⟨w2, g1, g2⟩ := hc tb w ha0 hn
  have hb0 : ¬ zyB so0 dn0 := fun y => by have := h1 y; omega
  have hl0 : lv0 < 40 := by
    rcases Int.lt_or_le lv0 40 with c | c
    · exact c
    · have := h2 c; omega
  refine ⟨w2, fun y => absurd y hb0, fun _ L hL hle => ?_⟩
  have g := zyB_n.mp hb0
  obtain ⟨_, _, _, q1, q2, q3⟩ := zW_g hW g.1
  have hb1 : ¬ zyB so dn0 := zyB_n.mpr ⟨by omega, g.2⟩
  rcases h3 hb0 hl0 with x | ⟨x1, x2, x3, x4, x5⟩
  · omega
  have hqc : zQc f n (st0 + 1) at1 := ⟨x2, hn, hq tb, x4⟩
  rcases g2 hb1 with ⟨y1, y2⟩ | ⟨y1, y2, y3⟩
  · exact Or.inl ⟨y2, Or.inr ⟨hl0, Or.inl ⟨at1, hqc, Or.inl (by omega), rfl⟩⟩⟩
  · have m := hd L hL (by omega) hl0
    refine Or.inr ⟨y2, _, true, Or.inr ⟨hl0, Or.inr (Or.inl ⟨at1, st', hqc, fun o => ?_, y3, ?_⟩)⟩, m, rfl⟩
    · rcases o with o | o <;> omega
    · rw [hl hl0, x5]; rfl
theorem zyPh_b {k p : Int} (h : zyF f n so0 st0 be0 fa0 dn0 lv0 qt0 at1 so fa qt) (h6 : n ≤ 600) (hs0 : so0 = 34) (hx : n ≤ at1 ∨ so ≠ 34) (hf : zFb fa so' fa' k p) (hk : 1 ≤ k ∧ k ≤ 4) (hp : p = n) (hn0 : 0 ≤ n) {P : Bool → Prop} : zyS (zPhr f n) f n so0 st0 be0 fa0 dn0 lv0 qt0 ln0 s0 so' st0 be0 fa' dn0 lv' qt' ln' s' P := fun tb hW => by
  obtain ⟨w, h1, h2, h3⟩ := h tb hW hs0
  refine ⟨zFb_W w h6 hf hk (fun _ _ _ => ⟨by omega, by omega⟩), fun _ => Or.inl hf.1, fun y L hL hle => Or.inl ⟨Or.inl hf.1, ?_⟩⟩
  by_cases l : 40 ≤ lv0
  · exact Or.inl ⟨l, rfl⟩
  rcases h3 y (by omega) with x | ⟨x1, x2, x3, x4, x5⟩
  · exact x.2 L
  · refine Or.inr ⟨by omega, Or.inr (Or.inr ⟨fun c hc => ?_, rfl⟩)⟩
    obtain ⟨c1, c2, c3, c4⟩ := hc
    have g := zyB_n.mp y
    obtain ⟨_, _, _, q1, q2, q3⟩ := zW_g hW g.1
    exact x4 c.toNat (by omega) (by omega) c3
def zyR (f : Nat → Int32) (n r ln : Int) (s : Nat → Int32) : Prop := zTy f n → ∃ K, zPar f n K ∧ ((r ≠ 0 ∧ K = []) ∨ (r = 0 ∧ zCd s ln K))
theorem zyR_i {s1 p1 b1 f1 s2 p2 b2 f2 d2 l2 q2 dn1 z1 z2 z3 z4 z5 : Int} {c0 : Nat → Int32} {P : Bool → Prop} {d : Nat} (h6 : n ≤ 600) (h00 : 0 ≤ n) (hd : d = 12) (hx : zTy f n → zNx f n 256 z1 z2 dn1 s1 p1 b1 f1) (e1 : z1 = 0) (e2 : z2 = 0) (e3 : dn1 = -1) (hq : zyS (zQry f n d) f n s1 p1 b1 f1 dn1 z3 z5 z4 c0 s2 p2 b2 f2 d2 l2 q2 ln s P) (e4 : z3 = 0) (e6 : z5 = 0) (e5 : z4 = 0)
    (hE : (s2 = 256 ∧ (d2 = -1 → fa' = f2) ∧ (f2 ≠ 0 → fa' = f2) ∧ (d2 ≠ -1 → f2 = 0 → 0 ≤ d2 → d2 ≤ 700 → fa' ≠ 0)) ∨ (s2 ≠ 256 ∧ zFb f2 so' fa' 1 p2)) : zyR f n fa' ln s := fun tb => by
  subst e1; subst e2; subst e3; subst e4; subst e5; subst e6; subst hd
  obtain ⟨x1, x2, x3, x4, x5⟩ := hx tb
  have a := x5 (by decide) (by decide) ⟨by decide, rfl⟩
  have a1 := a.1.1
  have a2 := a.1.2.2.2
  have w1 : zW f n s1 p1 b1 f1 (-1) := by
    exact Or.inr ⟨zLk_k a.2, x2 rfl, by decide, by decide, by omega, by omega, a.2⟩
  obtain ⟨w2, g1, g2⟩ := hq tb w1
  have hb : ¬ zyB s1 (-1) := zyB_n.mpr ⟨zLk_k a.2, rfl⟩
  have hbad : zyB s2 d2 → fa' ≠ 0 := fun y => by
    rcases w2 with w2 | ⟨v1, v2, v3, v4, v5, v6, v7⟩
    · rcases hE with ⟨o1, _⟩ | ⟨o1, o2, o3, o4⟩
      · omega
      · rw [o3 w2.2]; exact w2.2
    · rcases hE with ⟨o1, o2, o3, o4⟩ | ⟨o1, o2, o3, o4⟩
      · rcases y with y | y
        · omega
        · exact o4 y v2 (by omega) (by omega)
      · exact o4 v2 (by decide) (by decide) v5 (by omega)
  rcases g2 hb [] (zCd_0 rfl) (by omega) with ⟨y1, y2⟩ | ⟨y1, K, pl, y2, y3, y4⟩
  · exact ⟨[], ⟨p1, none, a.1, y2, Or.inl ⟨rfl, rfl⟩⟩, Or.inl ⟨hbad y1, rfl⟩⟩
  · have g := zyB_n.mp y1
    obtain ⟨v2, _, _, v5, v6, v7⟩ := zW_g w2 g.1
    rcases hE with ⟨o1, o2, o3, o4⟩ | ⟨o1, o2, o3, o4⟩
    · exact ⟨K, ⟨p1, _, a.1, y2, Or.inr ⟨_, _, _, _, _, rfl, Or.inr ⟨⟨b2, o1 ▸ v7⟩, rfl⟩⟩⟩, Or.inr ⟨by rw [o2 g.2]; exact v2, y3⟩⟩
    · exact ⟨[], ⟨p1, _, a.1, y2, Or.inr ⟨_, _, _, _, _, rfl, Or.inl ⟨fun ⟨b, y⟩ => o1 (zLk_u v5 v7 y).1, rfl⟩⟩⟩, Or.inl ⟨o4 v2 (by decide) (by decide) v5 (by omega), rfl⟩⟩
def zyT (f : Nat → Int32) (n ln : Int) (s : Nat → Int32) : Prop := zTy f n → ∃ K, zPar f n K ∧ zCd s ln K
theorem zyT_a {r : Int} (h : zyR f n r ln s) (hr : r = 0) : zyT f n ln s := fun tb => by
  obtain ⟨K, h1, h2 | h2⟩ := h tb
  · exact absurd hr h2.1
  · exact ⟨K, h1, h2.2⟩
theorem zyT_b {r l0 : Int} {s0 : Nat → Int32} (h : zyR f n r l0 s0) (hr : r ≠ 0) (hl : ln = 0) : zyT f n ln s := fun tb => by
  obtain ⟨K, h1, h2 | h2⟩ := h tb
  · exact ⟨[], h2.2 ▸ h1, zCd_0 hl⟩
  · exact absurd h2.1 hr
theorem zSaL {g h : Nat → Int64} {v : Int64} {f : Nat → Int32} {n i : Int} {r : Int32} (e : h = vp_updL g (0 : Int32).toNatClampNeg v) (ev : v = r.toInt64) (hs : zSa f n i r.toInt) : zSa f n i (h 0).toInt := by
  have q : h 0 = r.toInt64 := by rw [e, ← ev]; rfl
  rw [q, Int32.toInt_toInt64]
  exact hs
theorem zsbR_e {o o' : Int} (h : o < 12) (e : o' = o + 1) : zsbR f n (12 - o).toNat = zQry f n (12 - o').toNat := by
  rw [show (12 - o).toNat = (12 - o').toNat + 1 from by omega]
  rfl
theorem zokR_y {o : Int} (h : o < 12) : zokR (12 - o).toNat := by
  rw [show (12 - o).toNat = (11 - o).toNat + 1 from by omega]
  exact trivial
theorem zokR_n {o : Int} (h : 12 ≤ o) : ¬ zokR (12 - o).toNat := by
  rw [show (12 - o).toNat = 0 from by omega]
  exact id
def zyC2 (c i : Int) : Prop := 0 ≤ c ∧ c < 2 ^ i.toNat
theorem zyC2_0 {c i : Int} (hc : c = 0) (hi : i = 0) : zyC2 c i := by subst hc; subst hi; exact ⟨by decide, by decide⟩
theorem zyC2_s {c i c' i' : Int} (h : zyC2 c i) (hc : c' = 2 * c ∨ c' = 2 * c + 1) (hi : i' = i + 1) (h0 : 0 ≤ i) : zyC2 c' i' := by
  obtain ⟨h1, h2⟩ := h
  refine ⟨by omega, ?_⟩
  rw [show i'.toNat = i.toNat + 1 from by omega, Int.pow_succ]
  omega
theorem zyC2_b {c i : Int} (h : zyC2 c i) (hi : i ≤ 12) : c ≤ 4095 := by
  have key : ∀ k : Nat, k ≤ 12 → (2 : Int) ^ k ≤ 4096 := by decide
  have h1 := h.2
  have h2 := key i.toNat (by omega)
  omega
end ZF
