def zNk (w b w' b' : Nat → Int32) (m : Int) : Prop := ∀ j : Nat, (j : Int) < m → w' j = w j ∧ b' j = b j
theorem zNk_rf {w b : Nat → Int32} {m : Int} : zNk w b w b m := fun _ _ => ⟨rfl, rfl⟩
theorem zNk_tr {w b w1 b1 w2 b2 : Nat → Int32} {m m' : Int} (h1 : zNk w b w1 b1 m) (h2 : zNk w1 b1 w2 b2 m') (e : m ≤ m') : zNk w b w2 b2 m := fun j hj => ⟨((h2 j (by omega)).1).trans (h1 j hj).1, ((h2 j (by omega)).2).trans (h1 j hj).2⟩
def zHp (w b : Nat → Int32) (r : Int) : Prop := (b r.toNat).toInt = 0 ∧ ((w r.toNat).toInt = 1 ∨ (w r.toNat).toInt = 2 ∨ (w r.toNat).toInt = 3 ∨ (w r.toNat).toInt = 6 ∨ (w r.toNat).toInt = 7)
theorem zHp_k {w b w' b' : Nat → Int32} {m r : Int} (h : zNk w b w' b' m) (h0 : 0 ≤ r) (hr : r < m) : zHp w' b' r ↔ zHp w b r := by
  have q := h r.toNat (by omega)
  unfold zHp
  rw [q.1, q.2]
theorem zNk_u {w b w1 b1 b2 : Nat → Int32} {m : Int} {I x : Int32} (h : zNk w b w1 b1 m) (e : b2 = upd b1 I.toNatClampNeg x) (hm : m ≤ I.toInt) (h0 : 0 ≤ I.toInt) : zNk w b w1 b2 m := fun j hj => by
  have q : I.toNatClampNeg = I.toInt.toNat := rfl
  rw [e, pk_un (by omega)]
  exact h j hj
theorem zup1 {g g' : Nat → Int32} {I : Int32} (e : g' = upd g I.toNatClampNeg (vp_nar .boolean 1)) : (g' I.toInt.toNat).toInt ≠ 0 := by
  have q : I.toInt.toNat = I.toNatClampNeg := rfl
  rw [e, q, pk_us]
  decide
theorem zHp_y {w b : Nat → Int32} {I z y : Int32} (e5 : y = b I.toNatClampNeg) (h5 : y.toInt = 0) (e : z = w I.toNatClampNeg) (h : z.toInt = 1 ∨ z.toInt = 2 ∨ z.toInt = 3 ∨ z.toInt = 6 ∨ z.toInt = 7) : zHp w b I.toInt := by
  have q : I.toInt.toNat = I.toNatClampNeg := rfl
  unfold zHp
  rw [q, ← e5, ← e]
  exact ⟨h5, h⟩
theorem zHp_b {w b : Nat → Int32} {I y : Int32} (e5 : y = b I.toNatClampNeg) (h5 : y.toInt ≠ 0) : ¬ zHp w b I.toInt := fun h => by
  have q : I.toInt.toNat = I.toNatClampNeg := rfl
  have h1 := h.1
  rw [q, ← e5] at h1
  exact h5 h1
theorem zHp_w {w b : Nat → Int32} {I z1 z2 z3 z4 z5 : Int32} (e1 : z1 = w I.toNatClampNeg) (e2 : z2 = w I.toNatClampNeg) (e3 : z3 = w I.toNatClampNeg) (e4 : z4 = w I.toNatClampNeg) (e5 : z5 = w I.toNatClampNeg) (h1 : z1.toInt ≠ 1) (h2 : z2.toInt ≠ 2) (h3 : z3.toInt ≠ 3) (h4 : z4.toInt ≠ 6) (h5 : z5.toInt ≠ 7) : ¬ zHp w b I.toInt := fun h => by
  have q : I.toInt.toNat = I.toNatClampNeg := rfl
  have h6 := h.2
  rw [q] at h6
  rw [e1] at h1; rw [e2] at h2; rw [e3] at h3; rw [e4] at h4; rw [e5] at h5
  omega
def zxN (w b w' b' cd cd' : Nat → Int32) (m cn cn' v l : Int) : Prop := zNk w b w' b' m ∧ (w' m.toNat).toInt = v ∧ (b' m.toNat).toInt = 0 ∧ (1 ≤ v → v ≤ 11 → -1 ≤ l → l ≤ 999 → ∀ L : List Int, zCd cd cn L → zCd cd' cn' (L ++ [1000 * v + l]))
theorem zxN_i {w b w' b' cd cd' : Nat → Int32} {M C v l z y : Int32} {cn' : Int} (e1 : w' = upd w M.toNatClampNeg v) (e2 : b' = upd b M.toNatClampNeg (vp_nar .boolean 0)) (e3 : cd' = upd cd C.toNatClampNeg y) (ez : z = 1000 * v) (ey : y = z + l) (hm : 0 ≤ M.toInt) (hc : cn' = C.toInt + 1) : zxN w b w' b' cd cd' M.toInt C.toInt cn' v.toInt l.toInt := by
  have q : M.toNatClampNeg = M.toInt.toNat := rfl
  refine ⟨fun j hj => ?_, ?_, ?_, fun h1 h2 h3 h4 L hL => ?_⟩
  · rw [e1, e2, pk_un (by omega), pk_un (by omega)]; exact ⟨rfl, rfl⟩
  · rw [e1, q, pk_us]
  · rw [e2, q, pk_us]; decide
  · have b1 := zmul (by decide : (1000 : Int32).toInt = 1000) rfl ez (by omega) (by omega)
    have b2 := zadd rfl rfl ey (by omega) (by omega)
    rw [e3]
    exact zCd_p hL rfl (by omega) hc
def zxS (R : zRl_) (f : Nat → Int32) (n fr ha be lv qt cn : Int) (cd : Nat → Int32) (fr' ha' be' lv' qt' cn' : Int) (cd' : Nat → Int32) (P : Bool → Prop) : Prop := zTy f n → zMl f n fr ha be → zMl f n fr' ha' be' ∧ ∀ L : List Int, zCd cd cn L → ∃ K pl, R fr lv qt L (some (fr', lv', qt', K, pl)) ∧ zCd cd' cn' K ∧ P pl
def zxX (R : zRl_) (f : Nat → Int32) (n fr ha be lv qt cn : Int) (cd : Nat → Int32) : Prop := zTy f n → zMl f n fr ha be → ∀ L : List Int, zCd cd cn L → R fr lv qt L none
section ZX
variable {f : Nat → Int32} {n fr ha be lv qt cn fr' ha' be' lv' qt' cn' c h1 b1 d h2 b2 m r v w k p q : Int} {cd cd' wh br wh' br' : Nat → Int32} {R R' : zRl_} {P Q : Bool → Prop}
theorem zxS_w (h : zxS R f n fr ha be lv qt cn cd fr' ha' be' lv' qt' cn' cd' P) (hP : ∀ pl, P pl → Q pl) : zxS R f n fr ha be lv qt cn cd fr' ha' be' lv' qt' cn' cd' Q := fun tb hm => by
  obtain ⟨a, b⟩ := h tb hm
  refine ⟨a, fun L hL => ?_⟩
  obtain ⟨K, pl, x, y, z⟩ := b L hL
  exact ⟨K, pl, x, y, hP pl z⟩
theorem zxS_q {r' : Int} (h : zxS R f n fr ha be lv qt cn cd fr' ha' be' lv' qt' cn' cd' (fun pl => pl = true ↔ zHp wh br r)) (e : r' = r) : zxS R f n fr ha be lv qt cn cd fr' ha' be' lv' qt' cn' cd' (fun pl => pl = true ↔ zHp wh br r') := by rw [e]; exact h
theorem zxS_r (h : zxS R f n fr ha be lv qt cn cd fr' ha' be' lv' qt' cn' cd' P) (hR : zTy f n → zMl f n fr ha be → ∀ L r, R fr lv qt L r → R' fr lv qt L r) : zxS R' f n fr ha be lv qt cn cd fr' ha' be' lv' qt' cn' cd' P := fun tb hm => by
  obtain ⟨a, b⟩ := h tb hm
  refine ⟨a, fun L hL => ?_⟩
  obtain ⟨K, pl, x, y, z⟩ := b L hL
  exact ⟨K, pl, hR tb hm _ _ x, y, z⟩
theorem zxX_r (h : zxX R f n fr ha be lv qt cn cd) (hR : zTy f n → zMl f n fr ha be → ∀ L r, R fr lv qt L r → R' fr lv qt L r) : zxX R' f n fr ha be lv qt cn cd := fun tb hm L hL => hR tb hm _ _ (h tb hm L hL)
theorem zxT_x (hl : 40 ≤ lv) : zxX (zTkn f n) f n fr ha be lv qt cn cd := fun _ _ _ _ => Or.inl ⟨hl, rfl⟩
theorem zxT_a {l9 : Int} (ha1 : ha = 1) (hlv : lv < 40) (hl0 : 0 ≤ lv) (k1 : zBl f n be c) (m1 : zMl f n c h1 b1) (hs : ¬ zSg f c h1 42) (hN : zxN wh br wh' br' cd cd' m cn cn' v l9) (hl9 : l9 = lv) (hv : v = 1) (hl' : lv' = lv + 1) (hr : r = m) : zxS (zTkn f n) f n fr ha be lv qt cn cd c h1 b1 lv' qt cn' cd' (fun pl => pl = true ↔ zHp wh' br' r) := fun tb hm => by
  subst hl9
  obtain ⟨n1, n2, n3, n4⟩ := hN
  subst hv; subst hl'; subst hr
  refine ⟨m1, fun L hL => ⟨_, true, Or.inr ⟨hlv, be, c, (zMl_1 hm ha1).2.2, k1, Or.inr ⟨fun y => hs ((zMl_s m1 (by decide) (by unfold zTok; omega)).1.mpr y), rfl⟩⟩, n4 (by decide) (by decide) (by omega) (by omega) L hL, fun _ => ⟨n3, by omega⟩, fun _ => rfl⟩⟩
theorem zxT_b {l9 : Int} (ha1 : ha = 1) (hlv : lv < 40) (hl0 : 0 ≤ lv) (k1 : zBl f n be c) (m1 : zMl f n c h1 b1) (hs : zSg f c h1 42) (k2 : zBl f n b1 d) (m2 : zMl f n d h2 b2) (hN : zxN wh br wh' br' cd cd' m cn cn' v l9) (hl9 : l9 = lv) (hv : v = 2) (hl' : lv' = lv + 1) (hr : r = m) : zxS (zTkn f n) f n fr ha be lv qt cn cd d h2 b2 lv' qt cn' cd' (fun pl => pl = true ↔ zHp wh' br' r) := fun tb hm => by
  subst hl9
  obtain ⟨n1, n2, n3, n4⟩ := hN
  subst hv; subst hl'; subst hr
  have s := zMl_s m1 (v := 42) (by decide) (by unfold zTok; omega)
  have e := s.2 hs
  subst e
  refine ⟨m2, fun L hL => ⟨_, true, Or.inr ⟨hlv, be, c, (zMl_1 hm ha1).2.2, k1, Or.inl ⟨s.1.mp hs, d, k2, rfl⟩⟩, n4 (by decide) (by decide) (by omega) (by omega) L hL, fun _ => ⟨n3, by omega⟩, fun _ => rfl⟩⟩
theorem zDv_m {K z : Int32} {j : Int} (h : zDv f p K.toInt v) (e : z = f K.toNatClampNeg) (hd : 48 ≤ z.toInt ∧ z.toInt ≤ 57) (hp : 0 ≤ p) (hi : p ≤ K.toInt) (hw : w = 10 * v + z.toInt - 48) (hj : j = K.toInt + 1) : zDv f p j w := by
  have q2 : K.toNatClampNeg = K.toInt.toNat := rfl
  obtain ⟨h1, h2⟩ := h
  refine ⟨fun i a b => ?_, ?_⟩
  · by_cases c : (i : Int) < K.toInt
    · exact h1 i a c
    · rw [show i = K.toNatClampNeg from by omega, ← e]; exact hd
  · rw [hj, show (K.toInt + 1 - p).toNat = (K.toInt - p).toNat + 1 from by omega]
    show w = 10 * zvl f p (K.toInt - p).toNat + (f (p.toNat + (K.toInt - p).toNat)).toInt - 48
    rw [← h2, show p.toNat + (K.toInt - p).toNat = K.toNatClampNeg from by omega, ← e]
    exact hw
def zxQ (f : Nat → Int32) (n p mi q h b : Int) : Prop := ((zSc f n p 45 ∧ q = p + 1 ∧ mi = 1) ∨ (¬ zSc f n p 45 ∧ q = p ∧ mi = 0)) ∧ zMl f n q h b
variable {mi h b : Int}
theorem zxQ_0 (hm : zMl f n p h b) (hs : ¬ zSg f p h 45) (e : mi = 0) : zxQ f n p mi p h b := ⟨Or.inr ⟨fun y => hs ((zMl_s hm (by decide) (by unfold zTok; omega)).1.mpr y), rfl, e⟩, hm⟩
theorem zxQ_1 {D : Int32} {x : Int} (hm : zMl f n p h b) (hs : zSg f p h 45) (hp : 0 ≤ p) (e : D.toInt = p + 1) (hx : D.toInt < n → x = (f D.toNatClampNeg).toInt) (hx2 : n ≤ D.toInt → x = 0) (hd : 48 ≤ x ∧ x ≤ 57) (em : mi = 1) (k1 : zBl f n b c) (m1 : zMl f n c h1 b1) : zxQ f n p mi c h1 b1 := by
  have s := zMl_s hm (v := 45) (by decide) (by unfold zTok; omega)
  have eb := s.2 hs
  have hn : D.toInt < n := by
    rcases Int.lt_or_le D.toInt n with c | c
    · exact c
    · have := hx2 c; omega
  have hx := hx hn
  have q : D.toNatClampNeg = D.toInt.toNat := rfl
  have ec : c = p + 1 := by
    refine zBl_u (p := b) (by omega) k1 ⟨by omega, zBq_0 (by omega), fun _ => ?_, Or.inr (by omega)⟩
    rw [← e, ← q, ← hx]
    unfold zBk
    omega
  exact ⟨Or.inl ⟨s.1.mp hs, ec, em⟩, m1⟩
theorem zxI_a {D : Int32} {x : Int} (hm : zMl f n p h b) (hs : zSg f p h 45) (hp : 0 ≤ p) (e : D.toInt = p + 1) (hx : D.toInt < n → x = (f D.toNatClampNeg).toInt) (hd : x < 48 ∨ 57 < x) : zIni f n p none := by
  have s := zMl_s hm (v := 45) (by decide) (by unfold zTok; omega)
  obtain ⟨e', he⟩ := zRe_x (f := f) (n := n) _ (p + 1) (by omega) rfl
  refine ⟨p + 1, e', Or.inl ⟨s.1.mp hs, rfl⟩, he, Or.inr ⟨fun y => ?_, rfl⟩⟩
  have y1 := y.1
  have y2 := y.2.2 (p + 1).toNat (by omega) (by omega)
  have y3 := he.2.2.2
  have q : D.toNatClampNeg = D.toInt.toNat := rfl
  have hx := hx (by omega)
  rw [q, e] at hx
  omega
theorem zxQ_q (hq : zxQ f n p mi q h b) : ((zSc f n p 45 ∧ q = p + 1) ∨ (¬ zSc f n p 45 ∧ q = p)) := by
  rcases hq.1 with y | y
  · exact Or.inl ⟨y.1, y.2.1⟩
  · exact Or.inr ⟨y.1, y.2.1⟩
theorem zxI_b (hq : zxQ f n p mi q h b) (hp : 0 ≤ q) (hh : h ≠ 1) : zIni f n p none := by
  obtain ⟨e, he⟩ := zRe_x (f := f) (n := n) _ q hp rfl
  have e0 := zRe_0 he hp (zMl_t hq.2 hh)
  exact ⟨q, e, zxQ_q hq, he, Or.inr ⟨zDgs_0 (by omega), rfl⟩⟩
theorem zxI_c (hq : zxQ f n p mi q h b) (hh : h = 1) (hl : 9 < b - q) : zIni f n p none := ⟨q, b, zxQ_q hq, (zMl_1 hq.2 hh).2.2, Or.inr ⟨fun y => by have := y.2.1; omega, rfl⟩⟩
theorem zxI_d {K z : Int32} (hq : zxQ f n p mi q h b) (hh : h = 1) (hp : 0 ≤ q) (h1 : q ≤ K.toInt) (h2 : K.toInt < b) (e : z = f K.toNatClampNeg) (hd : z.toInt < 48 ∨ 57 < z.toInt) : zIni f n p none := ⟨q, b, zxQ_q hq, (zMl_1 hq.2 hh).2.2, Or.inr ⟨fun y => by
  have q2 : K.toNatClampNeg = K.toInt.toNat := rfl
  have y1 := y.2.2 K.toNatClampNeg (by omega) (by omega)
  rw [← e] at y1
  omega, rfl⟩⟩
theorem zxI_e (hq : zxQ f n p mi q h b) (hh : h = 1) (hl : b - q ≤ 9) (hv : zDv f q k v) (hk : k = b) (hb : zBl f n b d) (hr : (mi = 1 ∧ r = - v) ∨ (mi = 0 ∧ r = v)) : zIni f n p (some (r, d)) := by
  have hbb := zMl_b hq.2 hh
  subst hk
  have dg : zDgs f q k 9 := ⟨by omega, hl, hv.1⟩
  refine ⟨q, k, zxQ_q hq, (zMl_1 hq.2 hh).2.2, Or.inl ⟨dg, d, hb, ?_⟩⟩
  rw [← hv.2]
  rcases hq.1 with y | y
  · exact Or.inl ⟨y.1, by rw [show r = - v by omega]⟩
  · exact Or.inr ⟨y.1, by rw [show r = v by omega]⟩
def zxW (f : Nat → Int32) (n fr ha be fr' ha' be' r : Int) : Prop := zMl f n fr ha be → zMl f n fr' ha' be' ∧ zIni f n fr (some (r, fr'))
def zxWx (f : Nat → Int32) (n fr ha be : Int) : Prop := zMl f n fr ha be → zIni f n fr none
theorem zxM_x (hl : 40 ≤ lv) : zxX (zMrk f n) f n fr ha be lv qt cn cd := fun _ _ _ _ => Or.inl ⟨hl, rfl⟩
theorem zxM_1 (ha2 : zSg f fr ha 91) (hlv : lv < 40) (k1 : zBl f n be c) (m1 : zMl f n c h1 b1) (hx : zxWx f n c h1 b1) : zxX (zMrk f n) f n fr ha be lv qt cn cd := fun tb hm L hL => by
  have e := (zMl_s hm (v := 91) (by decide) (by unfold zTok; omega)).2 ha2
  subst e
  exact Or.inr ⟨hlv, c, none, k1, hx m1, Or.inl ⟨rfl, rfl⟩⟩
theorem zxM_2 (ha2 : zSg f fr ha 91) (hlv : lv < 40) (k1 : zBl f n be c) (m1 : zMl f n c h1 b1) (hw : zxW f n c h1 b1 d h2 b2 v) (hh : h2 ≠ 3) : zxX (zMrk f n) f n fr ha be lv qt cn cd := fun tb hm L hL => by
  have e := (zMl_s hm (v := 91) (by decide) (by unfold zTok; omega)).2 ha2
  subst e
  obtain ⟨w1, w2⟩ := hw m1
  exact Or.inr ⟨hlv, c, _, k1, w2, Or.inr ⟨v, d, rfl, Or.inl ⟨fun y => hh ((zMl_d w1).1.mpr y), rfl⟩⟩⟩
variable {c2 h3 b3 d2 h4 b4 d3 h5 b5 : Int}
def zxV (f : Nat → Int32) (n fr ha be a : Int) : Prop := zMl f n fr ha be → zIni f n fr none ∨ ∃ v d, zIni f n fr (some (v, d)) ∧ v < a
theorem zxM_3 (ha2 : zSg f fr ha 91) (hlv : lv < 40) (k1 : zBl f n be c) (m1 : zMl f n c h1 b1) (hw : zxW f n c h1 b1 d h2 b2 v) (hh : h2 = 3) (k2 : zBl f n b2 c2) (m2 : zMl f n c2 h3 b3) (hx : zxV f n c2 h3 b3 v) : zxX (zMrk f n) f n fr ha be lv qt cn cd := fun tb hm L hL => by
  have e := (zMl_s hm (v := 91) (by decide) (by unfold zTok; omega)).2 ha2
  subst e
  obtain ⟨w1, w2⟩ := hw m1
  have dd := zMl_d w1
  have e2 := dd.2 hh
  subst e2
  refine Or.inr ⟨hlv, c, _, k1, w2, Or.inr ⟨v, d, rfl, Or.inr ⟨dd.1.mp hh, c2, ?_⟩⟩⟩
  rcases hx m2 with y | ⟨v', d', y1, y2⟩
  · exact ⟨none, k2, y, Or.inl ⟨rfl, rfl⟩⟩
  · exact ⟨_, k2, y1, Or.inr ⟨v', d', rfl, Or.inl ⟨fun o => by have := o.1; omega, rfl⟩⟩⟩
theorem zxM_4 (ha2 : zSg f fr ha 91) (hlv : lv < 40) (k1 : zBl f n be c) (m1 : zMl f n c h1 b1) (hw : zxW f n c h1 b1 d h2 b2 v) (hh : h2 = 3) (k2 : zBl f n b2 c2) (m2 : zMl f n c2 h3 b3) (hy : zxW f n c2 h3 b3 d2 h4 b4 w) (hs : ¬ zSg f d2 h4 93) : zxX (zMrk f n) f n fr ha be lv qt cn cd := fun tb hm L hL => by
  have e := (zMl_s hm (v := 91) (by decide) (by unfold zTok; omega)).2 ha2
  subst e
  obtain ⟨w1, w2⟩ := hw m1
  obtain ⟨w3, w4⟩ := hy m2
  have dd := zMl_d w1
  have e2 := dd.2 hh
  subst e2
  exact Or.inr ⟨hlv, c, _, k1, w2, Or.inr ⟨v, d, rfl, Or.inr ⟨dd.1.mp hh, c2, _, k2, w4, Or.inr ⟨w, d2, rfl, Or.inl ⟨fun o => hs ((zMl_s w3 (by decide) (by unfold zTok; omega)).1.mpr o.2), rfl⟩⟩⟩⟩⟩
theorem zxM_5 {l9 : Int} (ha2 : zSg f fr ha 91) (hlv : lv < 40) (hl0 : 0 ≤ lv) (k1 : zBl f n be c) (m1 : zMl f n c h1 b1) (hw : zxW f n c h1 b1 d h2 b2 v) (hh : h2 = 3) (k2 : zBl f n b2 c2) (m2 : zMl f n c2 h3 b3) (hy : zxW f n c2 h3 b3 d2 h4 b4 w) (hvw : v ≤ w) (hs : zSg f d2 h4 93) (k3 : zBl f n b4 d3) (m3 : zMl f n d3 h5 b5) (hN : zxN wh br wh' br' cd cd' m cn cn' k l9) (hl9 : l9 = lv) (hv : k = 4) (hl' : lv' = lv + 1) (hr : r = m) : zxS (zMrk f n) f n fr ha be lv qt cn cd d3 h5 b5 lv' qt cn' cd' (fun pl => pl = true ↔ zHp wh' br' r) := fun tb hm => by
  have e := (zMl_s hm (v := 91) (by decide) (by unfold zTok; omega)).2 ha2
  subst e
  obtain ⟨w1, w2⟩ := hw m1
  obtain ⟨w3, w4⟩ := hy m2
  have dd := zMl_d w1
  have e2 := dd.2 hh
  subst e2
  have s := zMl_s w3 (v := 93) (by decide) (by unfold zTok; omega)
  have e3 := s.2 hs
  subst e3
  subst hl9
  obtain ⟨n1, n2, n3, n4⟩ := hN
  subst hv; subst hl'; subst hr
  refine ⟨m3, fun L hL => ⟨_, false, Or.inr ⟨hlv, c, _, k1, w2, Or.inr ⟨v, d, rfl, Or.inr ⟨dd.1.mp hh, c2, _, k2, w4, Or.inr ⟨w, d2, rfl, Or.inr ⟨⟨hvw, s.1.mp hs⟩, d3, k3, rfl⟩⟩⟩⟩⟩, n4 (by decide) (by decide) (by omega) (by omega) L hL, ?_⟩⟩
  refine ⟨fun y => absurd y (by decide), fun y => ?_⟩
  have y2 := y.2
  omega
def zxF (f : Nat → Int32) (n p k c qt0 qt : Int) : Prop := p ≤ k ∧ k ≤ n ∧ (∀ j : Nat, p ≤ (j : Int) → (j : Int) < k → (f j).toInt ≠ 34) ∧ c = zts f p (k - p).toNat ∧ qt = qt0 + c ∧ (k < n → zTok (f k.toNat).toInt → k = p ∨ ¬ zTok (f (k - 1).toNat).toInt)
variable {qt0 : Int}
theorem zxF_0 (hk : k = p) (hn : p ≤ n) (hc : c = 0) (hq : qt = qt0) : zxF f n p k c qt0 qt := by
  subst hk; subst hc; subst hq
  exact ⟨by omega, hn, fun j a b => by omega, by rw [show (k - k).toNat = 0 from by omega]; rfl, by omega, fun _ _ => Or.inl rfl⟩
theorem zxF_n {K z y : Int32} {k' : Int} (h : zxF f n p K.toInt c qt0 qt) (hp : 0 ≤ p) (hn : K.toInt < n) (e : z = f K.toNatClampNeg) (hz : z.toInt ≠ 34) (e2 : y = f K.toNatClampNeg) (hy : ¬ zTok y.toInt) (hk : k' = K.toInt + 1) : zxF f n p k' c qt0 qt := by
  obtain ⟨h1, h2, h3, h4, h5, h6⟩ := h
  have q : K.toNatClampNeg = K.toInt.toNat := rfl
  subst hk
  have ht : ¬ zTok (f K.toInt.toNat).toInt := by rw [← q, ← e2]; exact hy
  refine ⟨by omega, by omega, fun j a b => ?_, ?_, h5, fun _ _ => Or.inr ?_⟩
  · by_cases d : (j : Int) < K.toInt
    · exact h3 j a d
    · rw [show j = K.toNatClampNeg from by omega, ← e]; exact hz
  · rw [show (K.toInt + 1 - p).toNat = (K.toInt - p).toNat + 1 from by omega, zts_0 (fun z => ?_)]
    · exact h4
    · have z1 := z.1
      rw [show (p + (((K.toInt - p).toNat : Nat) : Int)) = K.toInt from by omega] at z1
      exact ht z1
  · rw [show K.toInt + 1 - 1 = K.toInt from by omega]; exact ht
theorem zts_r {k j : Nat} (h0 : 0 ≤ p) (ha : ∀ i : Nat, k ≤ i → i < k + j → zTok (f (p.toNat + i)).toInt) (hs : k = 0 ∨ ¬ zTok (f (p + k - 1).toNat).toInt) (hj : 0 < j) : zts f p (k + j) = zts f p k + 1 := by
  induction j with
  | zero => omega
  | succ j ih =>
    by_cases c : j = 0
    · subst c
      refine zts_1 ?_ hs
      have q := ha k (by omega) (by omega)
      rw [show (p + (k : Int)).toNat = p.toNat + k from by omega]; exact q
    · have q := ih (fun i a b => ha i a (by omega)) (by omega)
      rw [← Nat.add_assoc, zts_0 (fun z => ?_), q]
      rcases z.2 with z | z
      · omega
      · refine z ?_
        have q := ha (k + j - 1) (by omega) (by omega)
        rw [show (p + ((k + j : Nat) : Int) - 1).toNat = p.toNat + (k + j - 1) from by omega]; exact q
theorem zxF_t {K y : Int32} {k' c' qt' : Int} (h : zxF f n p K.toInt c qt0 qt) (hp : 0 ≤ p) (hn : K.toInt < n) (e2 : y = f K.toNatClampNeg) (hy : zTok y.toInt) (hr : zRe f n K.toInt k') (hk : K.toInt < k') (hc : c' = c + 1) (hq : qt' = qt + 1) : zxF f n p k' c' qt0 qt' := by
  obtain ⟨h1, h2, h3, h4, h5, h6⟩ := h
  have q : K.toNatClampNeg = K.toInt.toNat := rfl
  have ht : zTok (f K.toInt.toNat).toInt := by rw [← q, ← e2]; exact hy
  obtain ⟨r1, r2, r3, r4⟩ := hr
  refine ⟨by omega, by omega, fun j a b => ?_, ?_, by omega, fun a b => absurd b (r3 a)⟩
  · by_cases d : (j : Int) < K.toInt
    · exact h3 j a d
    · intro z
      have z1 := r2 j (by omega) b
      rw [z] at z1
      exact absurd z1 (by unfold zTok; omega)
  · have e := zts_r (f := f) (p := p) (k := (K.toInt - p).toNat) (j := (k' - K.toInt).toNat) hp (fun i a b => by
      have z1 := r2 (p.toNat + i) (by omega) (by omega)
      exact z1) (by
      rcases h6 hn ht with z | z
      · exact Or.inl (by omega)
      · refine Or.inr ?_
        rw [show p + (((K.toInt - p).toNat : Nat) : Int) - 1 = K.toInt - 1 from by omega]; exact z) (by omega)
    rw [show (K.toInt - p).toNat + (k' - K.toInt).toNat = (k' - p).toNat from by omega] at e
    omega
theorem zxP_x (hl : 40 ≤ lv) : zxX (zPhr f n) f n fr ha be lv qt cn cd := fun _ _ _ _ => Or.inl ⟨hl, rfl⟩
theorem zxP_1 {K y : Int32} (ha2 : zSg f fr ha 34) (hlv : lv < 40) (hf0 : 0 ≤ fr) (h : zxF f n be K.toInt c qt qt') (hn : K.toInt < n) (e2 : y = f K.toNatClampNeg) (hy : zTok y.toInt) (hq : qt' = 160) : zxX (zPhr f n) f n fr ha be lv qt cn cd := fun tb hm L hL => by
  have e := (zMl_s hm (v := 34) (by decide) (by unfold zTok; omega)).2 ha2
  subst e
  obtain ⟨h1, h2, h3, h4, h5, h6⟩ := h
  have q : K.toNatClampNeg = K.toInt.toNat := rfl
  have ht : zTok (f K.toInt.toNat).toInt := by rw [← q, ← e2]; exact hy
  refine Or.inr ⟨hlv, ?_⟩
  by_cases c : ∃ c, zQc f n (fr + 1) c
  · obtain ⟨c, hc⟩ := c
    refine Or.inl ⟨c, hc, Or.inr ?_, rfl⟩
    obtain ⟨c1, c2, c3, c4⟩ := hc
    have c5 : K.toInt < c := by
      rcases Int.lt_trichotomy K.toInt c with d | d | d
      · exact d
      · rw [d, c3] at ht
        exact absurd ht (by unfold zTok; omega)
      · exact absurd c3 (h3 c.toNat (by omega) (by omega))
    have m1 := zts_1 (f := f) (p := fr + 1) (k := (K.toInt - (fr + 1)).toNat) (by
      rw [show fr + 1 + (((K.toInt - (fr + 1)).toNat : Nat) : Int) = K.toInt from by omega]; exact ht) (by
      rcases h6 hn ht with z | z
      · exact Or.inl (by omega)
      · refine Or.inr ?_
        rw [show fr + 1 + (((K.toInt - (fr + 1)).toNat : Nat) : Int) - 1 = K.toInt - 1 from by omega]; exact z)
    have m := zts_m (f := f) (p := fr + 1) (k := (K.toInt - (fr + 1)).toNat + 1) (j := (c - (K.toInt + 1)).toNat)
    rw [show (K.toInt - (fr + 1)).toNat + 1 + (c - (K.toInt + 1)).toNat = (c - (fr + 1)).toNat from by omega] at m
    omega
  · exact Or.inr (Or.inr ⟨fun d hd => c ⟨d, hd⟩, rfl⟩)
theorem zxP_2 (ha2 : zSg f fr ha 34) (hlv : lv < 40) (hf0 : 0 ≤ fr) (h : zxF f n be k c qt qt') (hn : k = n) : zxX (zPhr f n) f n fr ha be lv qt cn cd := fun tb hm L hL => by
  have e := (zMl_s hm (v := 34) (by decide) (by unfold zTok; omega)).2 ha2
  subst e
  obtain ⟨h1, h2, h3, h4, h5, h6⟩ := h
  refine Or.inr ⟨hlv, Or.inr (Or.inr ⟨fun d hd => ?_, rfl⟩)⟩
  exact h3 d.toNat (by have := hd.1; omega) (by have := hd.2.1; have := hd.1; omega) hd.2.2.1
theorem zxP_3 (ha2 : zSg f fr ha 34) (hlv : lv < 40) (hf0 : 0 ≤ fr) (h : zxF f n be k c qt qt') (hn : k < n) (hq : (f k.toNat).toInt = 34) (hc : c = 0) : zxX (zPhr f n) f n fr ha be lv qt cn cd := fun tb hm L hL => by
  have e := (zMl_s hm (v := 34) (by decide) (by unfold zTok; omega)).2 ha2
  subst e
  obtain ⟨h1, h2, h3, h4, h5, h6⟩ := h
  exact Or.inr ⟨hlv, Or.inl ⟨k, ⟨h1, hn, hq, h3⟩, Or.inl (by omega), rfl⟩⟩
theorem zxP_4 {l9 : Int} {B1 : Int} (ha2 : zSg f fr ha 34) (hlv : lv < 40) (hl0 : 0 ≤ lv) (hf0 : 0 ≤ fr) (h : zxF f n be k c qt qt') (hn : k < n) (hq : (f k.toNat).toInt = 34) (hc : c ≠ 0) (h16 : qt' ≤ 160) (hB : B1 = k + 1) (k1 : zBl f n B1 d) (m1 : zMl f n d h1 b1) (hN : zxN wh br wh' br' cd cd' m cn cn' v l9) (hl9 : l9 = lv) (hv : v = 3) (hl' : lv' = lv + 1) (hr : r = m) : zxS (zPhr f n) f n fr ha be lv qt cn cd d h1 b1 lv' qt' cn' cd' (fun pl => pl = true ↔ zHp wh' br' r) := fun tb hm => by
  have e := (zMl_s hm (v := 34) (by decide) (by unfold zTok; omega)).2 ha2
  subst e; subst hB
  obtain ⟨h1, h2, h3, h4, h5, h6⟩ := h
  subst hl9
  obtain ⟨n1, n2, n3, n4⟩ := hN
  subst hv; subst hl'; subst hr
  refine ⟨m1, fun L hL => ⟨_, true, Or.inr ⟨hlv, Or.inr (Or.inl ⟨k, d, ⟨h1, hn, hq, h3⟩, fun o => by rcases o with o | o <;> omega, k1, ?_⟩)⟩, n4 (by decide) (by decide) (by omega) (by omega) L hL, fun _ => ⟨n3, by omega⟩, fun _ => rfl⟩⟩
  rw [h5, h4]
  rfl
end ZX
