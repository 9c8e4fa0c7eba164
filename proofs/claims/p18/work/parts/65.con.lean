section ZU
variable {f : Nat → Int32} {n fr ha be lv qt cn fr' ha' be' lv' qt' cn' c h1 b1 d h2 b2 m r v w k p q : Int} {cd cd' wh br wh' br' : Nat → Int32} {R R' : zRl_} {P Q : Bool → Prop} {ok : Prop} {B : zRl_}
theorem zxB_m (h : zxS (zMrk f n) f n fr ha be lv qt cn cd fr' ha' be' lv' qt' cn' cd' P) (hs : zSg f fr ha 91) : zxS (zBar f n ok B) f n fr ha be lv qt cn cd fr' ha' be' lv' qt' cn' cd' P :=
  zxS_r h (fun _ hm L r y => Or.inr ⟨fun z => by have a := (zMl_s hm (v := 40) (by decide) (by unfold zTok; omega)).1.mpr z; have := a.2; have := hs.2; omega, Or.inl ⟨(zMl_s hm (by decide) (by unfold zTok; omega)).1.mp hs, y⟩⟩)
theorem zxB_mx (h : zxX (zMrk f n) f n fr ha be lv qt cn cd) (hs : zSg f fr ha 91) : zxX (zBar f n ok B) f n fr ha be lv qt cn cd :=
  zxX_r h (fun _ hm L r y => Or.inr ⟨fun z => by have a := (zMl_s hm (v := 40) (by decide) (by unfold zTok; omega)).1.mpr z; have := a.2; have := hs.2; omega, Or.inl ⟨(zMl_s hm (by decide) (by unfold zTok; omega)).1.mp hs, y⟩⟩)
theorem zxB_p (h : zxS (zPhr f n) f n fr ha be lv qt cn cd fr' ha' be' lv' qt' cn' cd' P) (hs : zSg f fr ha 34) : zxS (zBar f n ok B) f n fr ha be lv qt cn cd fr' ha' be' lv' qt' cn' cd' P :=
  zxS_r h (fun _ hm L r y => Or.inr ⟨fun z => by have a := (zMl_s hm (v := 40) (by decide) (by unfold zTok; omega)).1.mpr z; have := a.2; have := hs.2; omega, Or.inr ⟨fun z => by have a := (zMl_s hm (v := 91) (by decide) (by unfold zTok; omega)).1.mpr z; have := a.2; have := hs.2; omega, Or.inl ⟨(zMl_s hm (by decide) (by unfold zTok; omega)).1.mp hs, y⟩⟩⟩)
theorem zxB_px (h : zxX (zPhr f n) f n fr ha be lv qt cn cd) (hs : zSg f fr ha 34) : zxX (zBar f n ok B) f n fr ha be lv qt cn cd :=
  zxX_r h (fun _ hm L r y => Or.inr ⟨fun z => by have a := (zMl_s hm (v := 40) (by decide) (by unfold zTok; omega)).1.mpr z; have := a.2; have := hs.2; omega, Or.inr ⟨fun z => by have a := (zMl_s hm (v := 91) (by decide) (by unfold zTok; omega)).1.mpr z; have := a.2; have := hs.2; omega, Or.inl ⟨(zMl_s hm (by decide) (by unfold zTok; omega)).1.mp hs, y⟩⟩⟩)
theorem zMl_n {v : Int} (hm : zMl f n fr ha be) (hh : ¬ zSg f fr ha v) (hv : v ≠ 46) (ht : ¬ zTok v) : ¬ zSc f n fr v := fun y => hh ((zMl_s hm hv ht).1.mpr y)
theorem zxB_t (hp : 0 ≤ fr) (hfl : ¬ zFl f n fr) (h : zxS (zTkn f n) f n fr ha be lv qt cn cd fr' ha' be' lv' qt' cn' cd' P) (s1 : ¬ zSg f fr ha 40) (s2 : ¬ zSg f fr ha 91) (s3 : ¬ zSg f fr ha 34) (h1 : ha = 1) (hb : zBg f fr ha be) (hn : ¬ (ha = 1 ∧ zSpm f fr be 9 3)) : zxS (zBar f n ok B) f n fr ha be lv qt cn cd fr' ha' be' lv' qt' cn' cd' P :=
  zxS_r h (fun _ hm L r y => by
    have hb : ha = 1 ∧ ¬ zSpm f fr be 7 2 ∧ ¬ zSpm f fr be 8 3 ∧ ¬ zSpm f fr be 10 4 := by
      rcases hb with z | z | z | z
      · exact z
      · exact absurd z s1
      · exact absurd z s2
      · exact absurd z s3
    exact Or.inr ⟨zMl_n hm s1 (by decide) (by unfold zTok; omega), Or.inr ⟨zMl_n hm s2 (by decide) (by unfold zTok; omega), Or.inr ⟨zMl_n hm s3 (by decide) (by unfold zTok; omega), Or.inl ⟨⟨be, zm_tk hp hm h1 hb.2.1 hb.2.2.1 hb.2.2.2 hn hfl⟩, y⟩⟩⟩⟩)
theorem zxB_tx (hp : 0 ≤ fr) (hfl : ¬ zFl f n fr) (h : zxX (zTkn f n) f n fr ha be lv qt cn cd) (s1 : ¬ zSg f fr ha 40) (s2 : ¬ zSg f fr ha 91) (s3 : ¬ zSg f fr ha 34) (h1 : ha = 1) (hb : zBg f fr ha be) (hn : ¬ (ha = 1 ∧ zSpm f fr be 9 3)) : zxX (zBar f n ok B) f n fr ha be lv qt cn cd :=
  zxX_r h (fun _ hm L r y => by
    have hb : ha = 1 ∧ ¬ zSpm f fr be 7 2 ∧ ¬ zSpm f fr be 8 3 ∧ ¬ zSpm f fr be 10 4 := by
      rcases hb with z | z | z | z
      · exact z
      · exact absurd z s1
      · exact absurd z s2
      · exact absurd z s3
    exact Or.inr ⟨zMl_n hm s1 (by decide) (by unfold zTok; omega), Or.inr ⟨zMl_n hm s2 (by decide) (by unfold zTok; omega), Or.inr ⟨zMl_n hm s3 (by decide) (by unfold zTok; omega), Or.inl ⟨⟨be, zm_tk hp hm h1 hb.2.1 hb.2.2.1 hb.2.2.2 hn hfl⟩, y⟩⟩⟩⟩)
theorem zxB_n (hp : 0 ≤ fr) (s1 : ¬ zSg f fr ha 40) (s2 : ¬ zSg f fr ha 91) (s3 : ¬ zSg f fr ha 34) (hx : ha ≠ 1 ∨ ¬ zBg f fr ha be ∨ (ha = 1 ∧ zSpm f fr be 9 3)) : zxX (zBar f n ok B) f n fr ha be lv qt cn cd := fun tb hm L hL => by
  refine Or.inr ⟨zMl_n hm s1 (by decide) (by unfold zTok; omega), Or.inr ⟨zMl_n hm s2 (by decide) (by unfold zTok; omega), Or.inr ⟨zMl_n hm s3 (by decide) (by unfold zTok; omega), Or.inr ⟨zm_nt hp hm ?_, rfl⟩⟩⟩⟩
  rcases hx with hx | hx | hx
  · exact Or.inl (fun y => hx y.1)
  · exact Or.inl (fun y => hx (Or.inl y))
  · exact Or.inr hx
theorem zxB_g0 (hs : zSg f fr ha 40) (hok : ¬ ok) : zxX (zBar f n ok B) f n fr ha be lv qt cn cd := fun tb hm L hL => Or.inl ⟨(zMl_s hm (by decide) (by unfold zTok; omega)).1.mp hs, Or.inl ⟨hok, rfl⟩⟩
theorem zxB_g1 (hs : zSg f fr ha 40) (hok : ok) (k1 : zBl f n be c) (m1 : zMl f n c h1 b1) (hx : zxX B f n c h1 b1 lv qt cn cd) : zxX (zBar f n ok B) f n fr ha be lv qt cn cd := fun tb hm L hL => by
  have s := zMl_s hm (v := 40) (by decide) (by unfold zTok; omega)
  have e := s.2 hs
  subst e
  exact Or.inl ⟨s.1.mp hs, Or.inr ⟨hok, c, none, k1, hx tb m1 L hL, Or.inl ⟨rfl, rfl⟩⟩⟩
theorem zxB_g2 (hs : zSg f fr ha 40) (hok : ok) (k1 : zBl f n be c) (m1 : zMl f n c h1 b1) (hq : zxS B f n c h1 b1 lv qt cn cd d h2 b2 lv' qt' cn' cd' P) (hn : ¬ zSg f d h2 41) : zxX (zBar f n ok B) f n fr ha be lv qt cn cd := fun tb hm L hL => by
  have s := zMl_s hm (v := 40) (by decide) (by unfold zTok; omega)
  have e := s.2 hs
  subst e
  obtain ⟨a, b⟩ := hq tb m1
  obtain ⟨K, pl, x, y, z⟩ := b L hL
  exact Or.inl ⟨s.1.mp hs, Or.inr ⟨hok, c, _, k1, x, Or.inr ⟨_, _, _, _, _, rfl, Or.inl ⟨zMl_n a hn (by decide) (by unfold zTok; omega), rfl⟩⟩⟩⟩
theorem zxB_g3 {d3 h3 b3 : Int} (hs : zSg f fr ha 40) (hok : ok) (k1 : zBl f n be c) (m1 : zMl f n c h1 b1) (hq : zxS B f n c h1 b1 lv qt cn cd d h2 b2 lv' qt' cn' cd' P) (hn : zSg f d h2 41) (k2 : zBl f n b2 d3) (m2 : zMl f n d3 h3 b3) (hb : (br' r.toNat).toInt ≠ 0) : zxS (zBar f n ok B) f n fr ha be lv qt cn cd d3 h3 b3 lv' qt' cn' cd' (fun pl => pl = true ↔ zHp wh' br' r) := fun tb hm => by
  have s := zMl_s hm (v := 40) (by decide) (by unfold zTok; omega)
  have e := s.2 hs
  subst e
  obtain ⟨a, b⟩ := hq tb m1
  have s2 := zMl_s a (v := 41) (by decide) (by unfold zTok; omega)
  have e2 := s2.2 hn
  subst e2
  refine ⟨m2, fun L hL => ?_⟩
  obtain ⟨K, pl, x, y, z⟩ := b L hL
  exact ⟨K, false, Or.inl ⟨s.1.mp hs, Or.inr ⟨hok, c, _, k1, x, Or.inr ⟨_, _, _, _, _, rfl, Or.inr ⟨s2.1.mp hn, d3, k2, rfl⟩⟩⟩⟩, y, fun o => absurd o (by decide), fun o => absurd o.1 hb⟩
def zxK (g : Nat → Int32) (b k : Int) (M : List Int) : Prop := M.length = k.toNat ∧ ∀ i : Nat, (i : Int) < k → M.getD i 0 = 1000 * (g (b + k - 1 - i).toNat).toInt
theorem zxK_0 {g : Nat → Int32} {b : Int} (hk : k = 0) : zxK g b k [] := by subst hk; exact ⟨rfl, fun i hi => by omega⟩
theorem zxK_s {g g' : Nat → Int32} {b k k' : Int} {M : List Int} {I K : Int32} (h : zxK g b k M) (e : g' = upd g I.toNatClampNeg K) (hI : I.toInt = b + k) (hb : 0 ≤ b) (hk : 0 ≤ k) (hk' : k' = k + 1) (hv : v = 1000 * K.toInt) : zxK g' b k' (v :: M) := by
  subst hk'
  have q : I.toNatClampNeg = (b + k).toNat := by have q : I.toNatClampNeg = I.toInt.toNat := rfl; omega
  refine ⟨by rw [List.length_cons, h.1]; omega, fun i hi => ?_⟩
  cases i with
  | zero =>
    show v = _
    rw [e, show (b + (k + 1) - 1 - ((0 : Nat) : Int)).toNat = I.toNatClampNeg from by omega, pk_us]
    exact hv
  | succ i =>
    show M.getD i 0 = _
    rw [h.2 i (by omega), e, pk_un (by omega), show (b + (k + 1) - 1 - ((i + 1 : Nat) : Int)).toNat = (b + k - 1 - (i : Int)).toNat from by omega]
theorem zxK_e {g g' : Nat → Int32} {b b' k : Int} {M : List Int} (h : zxK g b k M) (he : zEq g g' b') (hb : 0 ≤ b) (hk : b + k ≤ b') : zxK g' b k M := ⟨h.1, fun i hi => by rw [h.2 i hi, he (b + k - 1 - i).toNat (by omega)]⟩
def zxL (f : Nat → Int32) (n fr ha be : Int) (g : Nat → Int32) (b k fr' ha' be' : Int) : Prop := zMl f n fr ha be → zMl f n fr' ha' be' ∧ ∃ M, zFs f n k.toNat fr fr' M ∧ zxK g b k M
theorem zxL_0 {g : Nat → Int32} {b : Int} (hk : k = 0) : zxL f n fr ha be g b k fr ha be := fun hm => by
  refine ⟨hm, [], ?_, zxK_0 hk⟩
  subst hk
  exact ⟨rfl, rfl⟩
theorem zxL_s {g g' : Nat → Int32} {b k' : Int} {I K : Int32} (h : zxL f n fr ha be g b k p q r) (hp : 0 ≤ p) (hy : zIf f n p q r) (k1 : zBl f n r c) (m1 : zMl f n c h1 b1) (k2 : zBl f n b1 d) (m2 : zMl f n d h2 b2) (e : g' = upd g I.toNatClampNeg K) (hI : I.toInt = b + k) (hb : 0 ≤ b) (hk : 0 ≤ k) (hk' : k' = k + 1) (hK : (r - p = 5 ∧ K.toInt = 6) ∨ (r - p ≠ 5 ∧ K.toInt = 7)) : zxL f n fr ha be g' b k' d h2 b2 := fun hm => by
  obtain ⟨a, M, x, y⟩ := h hm
  have z := (zm_fs hp a hy k1 m1).2
  refine ⟨m2, (if (if r - p = 5 then (262 : Int) else 263) = 262 then 6000 else 7000) :: M, ?_, zxK_s y e hI hb hk hk' ?_⟩
  · rw [show k'.toNat = k.toNat + 1 from by omega]
    refine zFs_s x z ?_ k2
    split
    · exact Or.inl rfl
    · exact Or.inr rfl
  · rcases hK with hK | hK
    · rw [if_pos hK.1, if_pos rfl, hK.2]; rfl
    · rw [if_neg hK.1, if_neg (by decide), hK.2]; rfl
theorem zxL_e {g g' : Nat → Int32} {b b' : Int} (h : zxL f n fr ha be g b k p q r) (he : zEq g g' b') (hb : 0 ≤ b) (hk : b + k ≤ b') : zxL f n fr ha be g' b k p q r := fun hm => by
  obtain ⟨a, M, x, y⟩ := h hm
  exact ⟨a, M, x, zxK_e y he hb hk⟩
theorem zxU_x {g : Nat → Int32} {b : Int} (h : zxL f n fr ha be g b k p q r) (hp : 0 ≤ p) (hk : k = 12) (hy : zIf f n p q r) : zxX (zUni f n ok B) f n fr ha be lv qt cn cd := fun tb hm L hL => by
  obtain ⟨a, M, x, y⟩ := h hm
  subst hk
  exact ⟨12, p, M, x, Or.inl ⟨rfl, (zm_fl hp a).mp hy, rfl⟩⟩
theorem zxU_b {g : Nat → Int32} {b : Int} (h : zxL f n fr ha be g b k p q r) (hp : 0 ≤ p) (hk : k ≤ 12) (hy : ¬ zIf f n p q r) (hx : ¬ zFl f n p → zxX (zBar f n ok B) f n p q r lv qt cn cd) : zxX (zUni f n ok B) f n fr ha be lv qt cn cd := fun tb hm L hL => by
  obtain ⟨a, M, x, y⟩ := h hm
  have nf : ¬ zFl f n p := fun z => hy ((zm_fl hp a).mpr z)
  exact ⟨k.toNat, p, M, x, Or.inr ⟨by omega, nf, none, hx nf tb a L hL, Or.inl ⟨rfl, rfl⟩⟩⟩
def zxU (f : Nat → Int32) (n : Int) (ok : Prop) (B : zRl_) (fr ha be lv qt cn : Int) (cd g : Nat → Int32) (b k fr' ha' be' lv' qt' cn' : Int) (cd' wh br : Nat → Int32) (j r : Int) : Prop := zTy f n → zMl f n fr ha be → zMl f n fr' ha' be' ∧ ∀ L : List Int, zCd cd cn L → ∃ M K pl x, zFs f n k.toNat fr x M ∧ ¬ zFl f n x ∧ zxK g b k M ∧ zBar f n ok B x lv qt L (some (fr', lv', qt', K, pl)) ∧ zCd cd' cn' (K ++ M.take (k - 1 - j).toNat) ∧ ((j = k - 1 ∧ (pl = true ↔ zHp wh br r)) ∨ (j < k - 1 ∧ pl = true ∧ zHp wh br r))
theorem zxU_0 {g g' : Nat → Int32} {b b' j : Int} (h : zxL f n fr ha be g b k p q r) (hp : 0 ≤ p) (hy : ¬ zIf f n p q r) (hb : ¬ zFl f n p → zxS (zBar f n ok B) f n p q r lv qt cn cd fr' ha' be' lv' qt' cn' cd' (fun pl => pl = true ↔ zHp wh br w)) (he : zEq g g' b') (hb0 : 0 ≤ b) (hk : b + k ≤ b') (hj : j = k - 1) : zxU f n ok B fr ha be lv qt cn cd g' b k fr' ha' be' lv' qt' cn' cd' wh br j w := fun tb hm => by
  obtain ⟨a, M, x, y⟩ := h hm
  have nf : ¬ zFl f n p := fun z => hy ((zm_fl hp a).mpr z)
  obtain ⟨s1, s2⟩ := hb nf tb a
  refine ⟨s1, fun L hL => ?_⟩
  obtain ⟨K, pl, z1, z2, z3⟩ := s2 L hL
  refine ⟨M, K, pl, p, x, nf, zxK_e y he hb0 hk, z1, ?_, Or.inl ⟨hj, z3⟩⟩
  rw [show (k - 1 - j).toNat = 0 from by omega, List.take_zero, List.append_nil]
  exact z2
theorem zxU_k {g : Nat → Int32} {b j : Int} (h : zxU f n ok B fr ha be lv qt cn cd g b k fr' ha' be' lv' qt' cn' cd' wh br j r) (hk : k ≤ 12) (hj : 0 ≤ j) (hn : ¬ zHp wh br r) : zxX (zUni f n ok B) f n fr ha be lv qt cn cd := fun tb hm L hL => by
  obtain ⟨a, s⟩ := h tb hm
  obtain ⟨M, K, pl, x, s1, s2, s3, s4, s5, s6⟩ := s L hL
  rcases s6 with ⟨z1, z2⟩ | ⟨z1, z2, z3⟩
  · have z3 : pl = false := by
      cases pl with
      | true => exact absurd (z2.mp rfl) hn
      | false => rfl
    exact ⟨k.toNat, x, M, s1, Or.inr ⟨by omega, s2, _, s4, Or.inr ⟨_, _, _, _, _, rfl, Or.inl ⟨⟨by omega, z3⟩, rfl⟩⟩⟩⟩
  · exact absurd z3 hn
theorem zxU_s {g : Nat → Int32} {b j j' cn2 r' l0 : Int} {cd2 wh2 br2 : Nat → Int32} {I K0 : Int32} (h : zxU f n ok B fr ha be lv qt cn cd g b k fr' ha' be' lv' qt' cn' cd' wh br j r) (hj : 0 ≤ j) (hp : zHp wh br r) (hb : 0 ≤ b) (e : K0 = g I.toNatClampNeg) (hI : I.toInt = b + j) (h67 : K0.toInt = 6 ∨ K0.toInt = 7) (hN : zxN wh br wh2 br2 cd' cd2 m cn' cn2 K0.toInt l0) (hl0 : l0 = 0) (hr : r' = m) (hj' : j' = j - 1) (hjk : j < k) : zxU f n ok B fr ha be lv qt cn cd g b k fr' ha' be' lv' qt' cn2 cd2 wh2 br2 j' r' := fun tb hm => by
  obtain ⟨a, s⟩ := h tb hm
  obtain ⟨n1, n2, n3, n4⟩ := hN
  subst hr; subst hl0
  refine ⟨a, fun L hL => ?_⟩
  obtain ⟨M, K, pl, x, s1, s2, s3, s4, s5, s6⟩ := s L hL
  have q : I.toNatClampNeg = I.toInt.toNat := rfl
  have y1 := s3.1
  have y2 := s3.2 (k - 1 - j).toNat (by omega)
  have y3 := n4 (by omega) (by omega) (by decide) (by decide) _ s5
  refine ⟨M, K, pl, x, s1, s2, s3, s4, ?_, Or.inr ⟨by omega, ?_, n3, by omega⟩⟩
  · rw [show (k - 1 - j').toNat = (k - 1 - j).toNat + 1 from by omega, ztk (by omega), y2, ← List.append_assoc]
    rw [show (b + k - 1 - (((k - 1 - j).toNat : Nat) : Int)).toNat = I.toNatClampNeg from by omega, ← e]
    rw [show 1000 * K0.toInt + 0 = 1000 * K0.toInt from by omega] at y3
    exact y3
  · rcases s6 with z | z
    · exact z.2.mpr hp
    · exact z.2.1
theorem zxU_e {g : Nat → Int32} {b j : Int} (h : zxU f n ok B fr ha be lv qt cn cd g b k fr' ha' be' lv' qt' cn' cd' wh br j r) (hk : k ≤ 12) (hk0 : 0 ≤ k) (hj : j < 0) : zxS (zUni f n ok B) f n fr ha be lv qt cn cd fr' ha' be' lv' qt' cn' cd' (fun pl => pl = true ↔ zHp wh br r) := fun tb hm => by
  obtain ⟨a, s⟩ := h tb hm
  refine ⟨a, fun L hL => ?_⟩
  obtain ⟨M, K, pl, x, s1, s2, s3, s4, s5, s6⟩ := s L hL
  rw [List.take_of_length_le (by have := s3.1; omega)] at s5
  refine ⟨K ++ M, pl, ⟨k.toNat, x, M, s1, Or.inr ⟨by omega, s2, _, s4, Or.inr ⟨_, _, _, _, _, rfl, Or.inr ⟨fun o => ?_, rfl⟩⟩⟩⟩, s5, ?_⟩
  · rcases s6 with z | z
    · omega
    · rw [z.2.1] at o
      exact absurd o.2 (by decide)
  · rcases s6 with z | z
    · exact z.2
    · exact ⟨fun _ => z.2.2, fun _ => z.2.1⟩
def zxA (f : Nat → Int32) (n p h b : Int) (v : Int) (k : Int) : Prop := h = 1 ∧ b - p ≤ 3 ∧ zDv f p k v
theorem zyA_a (hp : 0 ≤ p) (hm : zMl f n p h1 b1) (hh : h1 ≠ 1) : zyA f n p none := by
  obtain ⟨e, he⟩ := zRe_x (f := f) (n := n) _ p hp rfl
  have e0 := zRe_0 he hp (zMl_t hm hh)
  exact ⟨e, he, Or.inl ⟨fun y => zDgs_0 (by omega) y.1, rfl⟩⟩
theorem zyA_b (hm : zMl f n p h1 b1) (hh : h1 = 1) (hl : 3 < b1 - p) : zyA f n p none := ⟨b1, (zMl_1 hm hh).2.2, Or.inl ⟨fun y => by have := y.1.2.1; omega, rfl⟩⟩
theorem zyA_c {K z : Int32} (hm : zMl f n p h1 b1) (hh : h1 = 1) (h2 : p ≤ K.toInt) (h0 : 0 ≤ p) (h3 : K.toInt < b1) (e : z = f K.toNatClampNeg) (hd : z.toInt < 48 ∨ 57 < z.toInt) : zyA f n p none := ⟨b1, (zMl_1 hm hh).2.2, Or.inl ⟨fun y => by
  have q2 : K.toNatClampNeg = K.toInt.toNat := rfl
  have y1 := y.1.2.2 K.toNatClampNeg (by omega) (by omega)
  rw [← e] at y1
  omega, rfl⟩⟩
theorem zyA_d (hm : zMl f n p h1 b1) (hh : h1 = 1) (hv : zDv f p k v) (hk : k = b1) (hr : v < 1 ∨ 200 < v) : zyA f n p none := by
  subst hk
  refine ⟨k, (zMl_1 hm hh).2.2, Or.inl ⟨fun y => ?_, rfl⟩⟩
  have y1 := hv.2
  have y2 := y.2
  omega
theorem zyA_e (hm : zMl f n p h1 b1) (hh : h1 = 1) (hl : b1 - p ≤ 3) (hv : zDv f p k v) (hk : k = b1) (hr : 1 ≤ v ∧ v ≤ 200) (hb : zBl f n b1 d) : zyA f n p (some (v, d)) := by
  subst hk
  have hb2 := zMl_b hm hh
  have y1 := hv.2
  exact ⟨k, (zMl_1 hm hh).2.2, Or.inr ⟨⟨⟨by omega, hl, hv.1⟩, by omega, by omega⟩, d, hb, by rw [y1]⟩⟩
theorem zxE_a (h : zxS (zUni f n ok B) f n fr ha be lv qt cn cd fr' ha' be' lv' qt' cn' cd' P) (hp : 0 ≤ fr') (hs : ¬ (ha' = 1 ∧ zSpm f fr' be' 10 4)) : zxS (zNea f n ok B) f n fr ha be lv qt cn cd fr' ha' be' lv' qt' cn' cd' (fun pl => pl = false) := fun tb hm => by
  obtain ⟨a, b⟩ := h tb hm
  refine ⟨a, fun L hL => ?_⟩
  obtain ⟨K, pl, x, y, z⟩ := b L hL
  exact ⟨K, false, ⟨_, x, Or.inr ⟨_, _, _, _, _, rfl, Or.inl ⟨fun o => hs ((zm_near hp a).1.mpr o), rfl⟩⟩⟩, y, rfl⟩
theorem zxE_x (h : zxX (zUni f n ok B) f n fr ha be lv qt cn cd) : zxX (zNea f n ok B) f n fr ha be lv qt cn cd := fun tb hm L hL => ⟨none, h tb hm L hL, Or.inl ⟨rfl, rfl⟩⟩
theorem zxE_b (h : zxS (zUni f n ok B) f n fr ha be lv qt cn cd fr' ha' be' lv' qt' cn' cd' P) (hp : 0 ≤ fr') (hs : ha' = 1 ∧ zSpm f fr' be' 10 4) (k1 : zBl f n be' c) (hA : zyA f n c none) : zxX (zNea f n ok B) f n fr ha be lv qt cn cd := fun tb hm L hL => by
  obtain ⟨a, b⟩ := h tb hm
  obtain ⟨K, pl, x, y, z⟩ := b L hL
  obtain ⟨e, z1, z2⟩ := hA
  rcases z2 with z2 | ⟨_, _, _, z2⟩
  · exact ⟨_, x, Or.inr ⟨_, _, _, _, _, rfl, Or.inr ⟨be', c, e, (zm_near hp a).2 hs, k1, z1, Or.inl ⟨z2.1, rfl⟩⟩⟩⟩
  · cases z2
variable {l4 t4 n4 d4 h4 b4 : Int} {c4 wh4 br4 : Nat → Int32}
theorem zxE_c (h : zxS (zUni f n ok B) f n fr ha be lv qt cn cd fr' ha' be' lv' qt' cn' cd' P) (hp : 0 ≤ fr') (hs : ha' = 1 ∧ zSpm f fr' be' 10 4) (k1 : zBl f n be' c) (hA : zyA f n c (some (v, d))) (m2 : zMl f n d h2 b2) (hx : zxX (zUni f n ok B) f n d h2 b2 lv' qt' cn' cd') : zxX (zNea f n ok B) f n fr ha be lv qt cn cd := fun tb hm L hL => by
  obtain ⟨a, b⟩ := h tb hm
  obtain ⟨K, pl, x, y, z⟩ := b L hL
  obtain ⟨e, z1, z2⟩ := hA
  rcases z2 with z2 | ⟨z2, p2, z3, z4⟩
  · cases z2.2
  · cases z4
    exact ⟨_, x, Or.inr ⟨_, _, _, _, _, rfl, Or.inr ⟨be', c, e, (zm_near hp a).2 hs, k1, z1, Or.inr ⟨z2, _, none, z3, hx tb m2 K y, Or.inl ⟨rfl, rfl⟩⟩⟩⟩⟩
theorem zxE_d {r2 : Int} (h : zxS (zUni f n ok B) f n fr ha be lv qt cn cd fr' ha' be' lv' qt' cn' cd' (fun pl => pl = true ↔ zHp wh br r)) (hp : 0 ≤ fr') (hs : ha' = 1 ∧ zSpm f fr' be' 10 4) (k1 : zBl f n be' c) (hA : zyA f n c (some (v, d))) (m2 : zMl f n d h2 b2) (hu : zxS (zUni f n ok B) f n d h2 b2 lv' qt' cn' cd' d4 h4 b4 l4 t4 n4 c4 (fun pl => pl = true ↔ zHp wh4 br4 r2)) (hk : zNk wh br wh4 br4 m) (hr0 : 0 ≤ r) (hr : r < m) (hx : ¬ zHp wh4 br4 r ∨ ¬ zHp wh4 br4 r2) : zxX (zNea f n ok B) f n fr ha be lv qt cn cd := fun tb hm L hL => by
  obtain ⟨a, b⟩ := h tb hm
  obtain ⟨K, pl, x, y, z⟩ := b L hL
  obtain ⟨a2, b2⟩ := hu tb m2
  obtain ⟨K2, pl2, x2, y2, z6⟩ := b2 K y
  obtain ⟨e, z1, z2⟩ := hA
  rcases z2 with z2 | ⟨z2, p2, z3, z4⟩
  · cases z2.2
  · cases z4
    refine ⟨_, x, Or.inr ⟨_, _, _, _, _, rfl, Or.inr ⟨be', c, e, (zm_near hp a).2 hs, k1, z1, Or.inr ⟨z2, _, _, z3, x2, Or.inr ⟨_, _, _, _, _, rfl, Or.inl ⟨fun o => ?_, rfl⟩⟩⟩⟩⟩⟩
    rcases hx with hx | hx
    · exact hx ((zHp_k hk hr0 hr).mpr (z.mp o.1))
    · exact hx (z6.mp o.2)
theorem zxE_e {r2 m2' n5 : Int} {c5 wh5 br5 : Nat → Int32} (h : zxS (zUni f n ok B) f n fr ha be lv qt cn cd fr' ha' be' lv' qt' cn' cd' (fun pl => pl = true ↔ zHp wh br r)) (hp : 0 ≤ fr') (hs : ha' = 1 ∧ zSpm f fr' be' 10 4) (k1 : zBl f n be' c) (hA : zyA f n c (some (v, d))) (m2 : zMl f n d h2 b2) (hu : zxS (zUni f n ok B) f n d h2 b2 lv' qt' cn' cd' d4 h4 b4 l4 t4 n4 c4 (fun pl => pl = true ↔ zHp wh4 br4 r2)) (hk : zNk wh br wh4 br4 m) (hr0 : 0 ≤ r) (hr : r < m) (hx : zHp wh4 br4 r ∧ zHp wh4 br4 r2) (hN : zxN wh4 br4 wh5 br5 c4 c5 m2' n4 n5 w v) (hw : w = 5) (hv : 1 ≤ v ∧ v ≤ 200) : zxS (zNea f n ok B) f n fr ha be lv qt cn cd d4 h4 b4 l4 t4 n5 c5 (fun pl => pl = false) := fun tb hm => by
  obtain ⟨a, b⟩ := h tb hm
  obtain ⟨a2, b2⟩ := hu tb m2
  obtain ⟨_, _, _, n6⟩ := hN
  subst hw
  refine ⟨a2, fun L hL => ?_⟩
  obtain ⟨K, pl, x, y, z⟩ := b L hL
  obtain ⟨K2, pl2, x2, y2, z6⟩ := b2 K y
  obtain ⟨e, z1, z2⟩ := hA
  rcases z2 with z2 | ⟨z2, p2, z3, z4⟩
  · cases z2.2
  · cases z4
    exact ⟨_, false, ⟨_, x, Or.inr ⟨_, _, _, _, _, rfl, Or.inr ⟨be', c, e, (zm_near hp a).2 hs, k1, z1, Or.inr ⟨z2, _, _, z3, x2, Or.inr ⟨_, _, _, _, _, rfl, Or.inr ⟨⟨z.mpr ((zHp_k hk hr0 hr).mp hx.1), z6.mpr hx.2⟩, rfl⟩⟩⟩⟩⟩⟩, n6 (by decide) (by decide) (by omega) (by omega) K2 y2, rfl⟩
def zxH (f : Nat → Int32) (n fr ha be k fr' ha' be' : Int) : Prop := zMl f n fr ha be → zMl f n fr' ha' be' ∧ zNs f n k.toNat fr fr'
theorem zxH_0 (hk : k = 0) : zxH f n fr ha be k fr ha be := fun hm => ⟨hm, by subst hk; rfl⟩
theorem zxH_s {k' : Int} (h : zxH f n fr ha be k p q r) (hp : 0 ≤ p) (hs : q = 1 ∧ zSpm f p r 9 3) (k1 : zBl f n r c) (m1 : zMl f n c h1 b1) (hk0 : 0 ≤ k) (hk : k' = k + 1) : zxH f n fr ha be k' c h1 b1 := fun hm => by
  obtain ⟨a, b⟩ := h hm
  refine ⟨m1, ?_⟩
  rw [show k'.toNat = k.toNat + 1 from by omega]
  exact zNs_s b ((zm_not hp a).2 hs) k1
theorem zxO_x (h : zxH f n fr ha be k p q r) (hp : 0 ≤ p) (hs : q = 1 ∧ zSpm f p r 9 3) (hk : k = 40) : zxX (zNot f n ok B) f n fr ha be lv qt cn cd := fun tb hm L hL => by
  obtain ⟨a, b⟩ := h hm
  subst hk
  exact ⟨40, p, b, Or.inl ⟨rfl, (zm_not hp a).1.mp hs, rfl⟩⟩
theorem zxO_n (h : zxH f n fr ha be k p q r) (hp : 0 ≤ p) (hs : ¬ (q = 1 ∧ zSpm f p r 9 3)) (hk : k ≤ 40) (hx : zxX (zNea f n ok B) f n p q r lv qt cn cd) : zxX (zNot f n ok B) f n fr ha be lv qt cn cd := fun tb hm L hL => by
  obtain ⟨a, b⟩ := h hm
  exact ⟨k.toNat, p, b, Or.inr ⟨by omega, fun o => hs ((zm_not hp a).1.mpr o), none, hx tb a L hL, Or.inl ⟨rfl, rfl⟩⟩⟩
theorem zxO_e {o : Int} (h : zxH f n fr ha be k p q r) (hp : 0 ≤ p) (hs : ¬ (q = 1 ∧ zSpm f p r 9 3)) (hk : k ≤ 40) (hk0 : 0 ≤ k) (hb : zxS (zNea f n ok B) f n p q r lv qt cn cd fr' ha' be' lv' qt' cn' cd' P) (ho : (k % 2 = 1 ∧ o = 1) ∨ (k % 2 ≠ 1 ∧ o = 0)) : zxS (zNot f n ok B) f n fr ha be lv qt cn cd fr' ha' be' lv' qt' cn' cd' (fun pl => pl = true ↔ o = 1) := fun tb hm => by
  obtain ⟨a, b⟩ := h hm
  obtain ⟨s1, s2⟩ := hb tb a
  refine ⟨s1, fun L hL => ?_⟩
  obtain ⟨K, pl, x, y, z⟩ := s2 L hL
  refine ⟨K, decide (k.toNat % 2 = 1), ⟨k.toNat, p, b, Or.inr ⟨by omega, fun o => hs ((zm_not hp a).1.mpr o), _, x, Or.inr ⟨_, _, _, _, _, rfl, rfl⟩⟩⟩, y, ?_⟩
  show (decide (k.toNat % 2 = 1) = true ↔ o = 1)
  rw [decide_eq_true_iff]
  omega
def zxY (R : zRl_) (T : Nat → zRl_) (f : Nat → Int32) (n fr ha be lv qt cn : Int) (cd : Nat → Int32) (fr' ha' be' lv' qt' cn' : Int) (cd' : Nat → Int32) : Prop := zTy f n → zMl f n fr ha be → zMl f n fr' ha' be' ∧ ∀ L : List Int, zCd cd cn L → ∃ K, zCd cd' cn' K ∧ ∀ k r, T k fr' lv' qt' K r → R fr lv qt L r
theorem zxY_a0 {o n1 l0 : Int} {c1 : Nat → Int32} (h : zxS (zNot f n ok B) f n fr ha be lv qt cn cd fr' ha' be' lv' qt' n1 c1 (fun pl => pl = true ↔ o = 1)) (hE : (o = 1 ∧ zxN wh br wh' br' c1 cd' m n1 cn' w l0 ∧ w = 10 ∧ l0 = 0) ∨ (o ≠ 1 ∧ cd' = c1 ∧ cn' = n1)) : zxY (zAll f n ok B) (zAlp f n ok B) f n fr ha be lv qt cn cd fr' ha' be' lv' qt' cn' cd' := fun tb hm => by
  obtain ⟨a, b⟩ := h tb hm
  refine ⟨a, fun L hL => ?_⟩
  obtain ⟨K, pl, x, y, z⟩ := b L hL
  rcases hE with ⟨e1, ⟨_, _, _, e2⟩, e3, e4⟩ | ⟨e1, e2, e3⟩
  · subst e3; subst e4
    refine ⟨_, e2 (by decide) (by decide) (by decide) (by decide) K y, fun k r hr => ⟨_, x, Or.inr ⟨_, _, _, _, _, k, rfl, ?_⟩⟩⟩
    rw [if_pos (z.mpr e1)]
    exact hr
  · subst e2; subst e3
    refine ⟨K, y, fun k r hr => ⟨_, x, Or.inr ⟨_, _, _, _, _, k, rfl, ?_⟩⟩⟩
    rw [if_neg (fun o => e1 (z.mp o))]
    exact hr
theorem zxA_x (h : zxX (zNot f n ok B) f n fr ha be lv qt cn cd) : zxX (zAll f n ok B) f n fr ha be lv qt cn cd := fun tb hm L hL => ⟨none, h tb hm L hL, Or.inl ⟨rfl, rfl⟩⟩
variable {an g0 : Int}
theorem zxY_go (hp : 0 ≤ p) (hm : zMl f n p q r) (tb : zTy f n) (hA : (an = 1 ∧ (q = 1 ∧ zSpm f p r 8 3) ∧ zBl f n r c ∧ zMl f n c h1 b1) ∨ (an = 0 ∧ ¬ (q = 1 ∧ zSpm f p r 8 3) ∧ zBg f p q r ∧ c = p ∧ h1 = q ∧ b1 = r)) : zGo f n p ∧ zMl f n c h1 b1 ∧ ((∃ b, zLk f n p 259 b ∧ zBl f n b c) ∨ (¬ zKd f n p 259 ∧ c = p)) := by
  rcases hA with ⟨_, a1, a2, a3⟩ | ⟨_, a1, a2, a3, a4, a5⟩
  · exact ⟨(zm_go tb hp hm).mp (Or.inl a1), a3, Or.inl ⟨r, (zm_and hp hm).2 a1, a2⟩⟩
  · subst a3; subst a4; subst a5
    exact ⟨(zm_go tb hp hm).mp (Or.inr a2), hm, Or.inr ⟨fun o => a1 ((zm_and hp hm).1.mpr o), rfl⟩⟩
theorem zxY_ax (h : zxY (zAll f n ok B) (zAlp f n ok B) f n fr ha be lv qt cn cd p q r lv' qt' cn' cd') (hp : 0 ≤ p) (hA : (an = 1 ∧ (q = 1 ∧ zSpm f p r 8 3) ∧ zBl f n r c ∧ zMl f n c h1 b1) ∨ (an = 0 ∧ ¬ (q = 1 ∧ zSpm f p r 8 3) ∧ zBg f p q r ∧ c = p ∧ h1 = q ∧ b1 = r)) (hx : zxX (zNot f n ok B) f n c h1 b1 lv' qt' cn' cd') : zxX (zAll f n ok B) f n fr ha be lv qt cn cd := fun tb hm L hL => by
  obtain ⟨a, b⟩ := h tb hm
  obtain ⟨K, x, y⟩ := b L hL
  obtain ⟨g1, g2, g3⟩ := zxY_go hp a tb hA
  exact y 1 none ⟨g1, c, none, g3, hx tb g2 K x, Or.inl ⟨rfl, rfl⟩⟩
theorem zxY_as {o n1 l1 t1 n2 l0 d2 : Int} {c1 cd2 : Nat → Int32} (h : zxY (zAll f n ok B) (zAlp f n ok B) f n fr ha be lv qt cn cd p q r lv' qt' cn' cd') (hp : 0 ≤ p) (hA : (an = 1 ∧ (q = 1 ∧ zSpm f p r 8 3) ∧ zBl f n r c ∧ zMl f n c h1 b1) ∨ (an = 0 ∧ ¬ (q = 1 ∧ zSpm f p r 8 3) ∧ zBg f p q r ∧ c = p ∧ h1 = q ∧ b1 = r)) (hq : zxS (zNot f n ok B) f n c h1 b1 lv' qt' cn' cd' d2 h2 b2 l1 t1 n1 c1 (fun pl => pl = true ↔ o = 1)) (hw : (o = 1 ∧ w = 11) ∨ (o ≠ 1 ∧ w = 8)) (hN : zxN wh br wh' br' c1 cd2 m n1 n2 w l0) (hl0 : l0 = 0) : zxY (zAll f n ok B) (zAlp f n ok B) f n fr ha be lv qt cn cd d2 h2 b2 l1 t1 n2 cd2 := fun tb hm => by
  obtain ⟨a, b⟩ := h tb hm
  obtain ⟨g1, g2, g3⟩ := zxY_go hp a tb hA
  obtain ⟨s1, s2⟩ := hq tb g2
  refine ⟨s1, fun L hL => ?_⟩
  obtain ⟨K, x, y⟩ := b L hL
  obtain ⟨K2, pl, z1, z2, z3⟩ := s2 K x
  subst hl0
  refine ⟨_, hN.2.2.2 (by omega) (by omega) (by decide) (by decide) K2 z2, fun k r' hr => y (k + 1) r' ⟨g1, c, _, g3, z1, Or.inr ⟨_, _, _, _, _, rfl, ?_⟩⟩⟩
  rcases hw with ⟨o1, o2⟩ | ⟨o1, o2⟩
  · rw [if_pos (z3.mpr o1)]
    rw [o2] at hr
    exact hr
  · rw [if_neg (fun o => o1 (z3.mp o))]
    rw [o2] at hr
    exact hr
theorem zxY_ae (h : zxY (zAll f n ok B) (zAlp f n ok B) f n fr ha be lv qt cn cd p q r lv' qt' cn' cd') (hp : 0 ≤ p) (h1 : ¬ (q = 1 ∧ zSpm f p r 8 3)) (h2 : ¬ zBg f p q r) : zxS (zAll f n ok B) f n fr ha be lv qt cn cd p q r lv' qt' cn' cd' (fun pl => pl = false) := fun tb hm => by
  obtain ⟨a, b⟩ := h tb hm
  refine ⟨a, fun L hL => ?_⟩
  obtain ⟨K, x, y⟩ := b L hL
  refine ⟨K, false, y 0 _ ⟨fun o => ?_, rfl⟩, x, rfl⟩
  rcases (zm_go tb hp a).mpr o with z | z
  · exact h1 z
  · exact h2 z
theorem zxQ_x0 (h : zxX (zAll f n ok B) f n fr ha be lv qt cn cd) : zxX (zQue f n ok B) f n fr ha be lv qt cn cd := fun tb hm L hL => ⟨none, h tb hm L hL, Or.inl ⟨rfl, rfl⟩⟩
theorem zxY_q0 (h : zxS (zAll f n ok B) f n fr ha be lv qt cn cd fr' ha' be' lv' qt' cn' cd' P) : zxY (zQue f n ok B) (zQlp f n ok B) f n fr ha be lv qt cn cd fr' ha' be' lv' qt' cn' cd' := fun tb hm => by
  obtain ⟨a, b⟩ := h tb hm
  refine ⟨a, fun L hL => ?_⟩
  obtain ⟨K, pl, x, y, z⟩ := b L hL
  exact ⟨K, y, fun k r hr => ⟨_, x, Or.inr ⟨_, _, _, _, _, k, rfl, hr⟩⟩⟩
theorem zxY_qx (h : zxY (zQue f n ok B) (zQlp f n ok B) f n fr ha be lv qt cn cd p q r lv' qt' cn' cd') (hp : 0 ≤ p) (hs : q = 1 ∧ zSpm f p r 7 2) (k1 : zBl f n r c) (m1 : zMl f n c h1 b1) (hx : zxX (zAll f n ok B) f n c h1 b1 lv' qt' cn' cd') : zxX (zQue f n ok B) f n fr ha be lv qt cn cd := fun tb hm L hL => by
  obtain ⟨a, b⟩ := h tb hm
  obtain ⟨K, x, y⟩ := b L hL
  exact y 1 none ⟨r, c, none, (zm_or hp a).2 hs, k1, hx tb m1 K x, Or.inl ⟨rfl, rfl⟩⟩
theorem zxY_qs {n1 l1 t1 n2 l0 d2 : Int} {c1 cd2 : Nat → Int32} (h : zxY (zQue f n ok B) (zQlp f n ok B) f n fr ha be lv qt cn cd p q r lv' qt' cn' cd') (hp : 0 ≤ p) (hs : q = 1 ∧ zSpm f p r 7 2) (k1 : zBl f n r c) (m1 : zMl f n c h1 b1) (hq : zxS (zAll f n ok B) f n c h1 b1 lv' qt' cn' cd' d2 h2 b2 l1 t1 n1 c1 P) (hN : zxN wh br wh' br' c1 cd2 m n1 n2 w l0) (hw : w = 9) (hl0 : l0 = 0) : zxY (zQue f n ok B) (zQlp f n ok B) f n fr ha be lv qt cn cd d2 h2 b2 l1 t1 n2 cd2 := fun tb hm => by
  obtain ⟨a, b⟩ := h tb hm
  obtain ⟨s1, s2⟩ := hq tb m1
  refine ⟨s1, fun L hL => ?_⟩
  obtain ⟨K, x, y⟩ := b L hL
  obtain ⟨K2, pl, z1, z2, z3⟩ := s2 K x
  subst hl0; subst hw
  exact ⟨_, hN.2.2.2 (by decide) (by decide) (by decide) (by decide) K2 z2, fun k r' hr => y (k + 1) r' ⟨r, c, _, (zm_or hp a).2 hs, k1, z1, Or.inr ⟨_, _, _, _, _, rfl, hr⟩⟩⟩
theorem zxY_qe (h : zxY (zQue f n ok B) (zQlp f n ok B) f n fr ha be lv qt cn cd p q r lv' qt' cn' cd') (hp : 0 ≤ p) (h1 : ¬ (q = 1 ∧ zSpm f p r 7 2)) : zxS (zQue f n ok B) f n fr ha be lv qt cn cd p q r lv' qt' cn' cd' (fun pl => pl = false) := fun tb hm => by
  obtain ⟨a, b⟩ := h tb hm
  refine ⟨a, fun L hL => ?_⟩
  obtain ⟨K, x, y⟩ := b L hL
  exact ⟨K, false, y 0 _ ⟨fun o => h1 ((zm_or hp a).1.mpr o), rfl⟩, x, rfl⟩
theorem zxS_Du {D D' : Nat} (h : zxS (zUni f n (zokR D') (zsbR f n D')) f n fr ha be lv qt cn cd fr' ha' be' lv' qt' cn' cd' P) (e : D' = D) : zxS (zUni f n (zokR D) (zsbR f n D)) f n fr ha be lv qt cn cd fr' ha' be' lv' qt' cn' cd' P := by rw [← e]; exact h
theorem zxX_Du {D D' : Nat} (h : zxX (zUni f n (zokR D') (zsbR f n D')) f n fr ha be lv qt cn cd) (e : D' = D) : zxX (zUni f n (zokR D) (zsbR f n D)) f n fr ha be lv qt cn cd := by rw [← e]; exact h
theorem zxS_Dn {D D' : Nat} (h : zxS (zNot f n (zokR D') (zsbR f n D')) f n fr ha be lv qt cn cd fr' ha' be' lv' qt' cn' cd' P) (e : D' = D) : zxS (zNot f n (zokR D) (zsbR f n D)) f n fr ha be lv qt cn cd fr' ha' be' lv' qt' cn' cd' P := by rw [← e]; exact h
theorem zxX_Dn {D D' : Nat} (h : zxX (zNot f n (zokR D') (zsbR f n D')) f n fr ha be lv qt cn cd) (e : D' = D) : zxX (zNot f n (zokR D) (zsbR f n D)) f n fr ha be lv qt cn cd := by rw [← e]; exact h
theorem zxS_Da {D D' : Nat} (h : zxS (zAll f n (zokR D') (zsbR f n D')) f n fr ha be lv qt cn cd fr' ha' be' lv' qt' cn' cd' P) (e : D' = D) : zxS (zAll f n (zokR D) (zsbR f n D)) f n fr ha be lv qt cn cd fr' ha' be' lv' qt' cn' cd' P := by rw [← e]; exact h
theorem zxX_Da {D D' : Nat} (h : zxX (zAll f n (zokR D') (zsbR f n D')) f n fr ha be lv qt cn cd) (e : D' = D) : zxX (zAll f n (zokR D) (zsbR f n D)) f n fr ha be lv qt cn cd := by rw [← e]; exact h
def zxR (f : Nat → Int32) (n cn : Int) (cd : Nat → Int32) : Prop := zTy f n → ∃ K, zPar f n K ∧ zCd cd cn K
theorem zxR_x {D : Nat} {z0 z1 z2 z3 : Int} (hd : D = 12) (k1 : zBl f n z0 c) (e0 : z0 = 0) (m1 : zMl f n c h1 b1) (hx : zxX (zQry f n D) f n c h1 b1 z1 z2 z3 cd) (e1 : z1 = 0) (e2 : z2 = 0) (e3 : z3 = 0) (hc : cn' = 0) : zxR f n cn' cd' := fun tb => by
  subst e0; subst e1; subst e2; subst e3; subst hd
  exact ⟨[], ⟨c, none, k1, hx tb m1 [] (zCd_0 rfl), Or.inl ⟨rfl, rfl⟩⟩, zCd_0 hc⟩
theorem zxR_y {D : Nat} {z0 z1 z2 z3 n2 : Int} {cd2 : Nat → Int32} (hd : D = 12) (k1 : zBl f n z0 c) (e0 : z0 = 0) (m1 : zMl f n c h1 b1) (hq : zxS (zQry f n D) f n c h1 b1 z1 z2 z3 cd p q r lv' qt' n2 cd2 P) (e1 : z1 = 0) (e2 : z2 = 0) (e3 : z3 = 0) (hp : 0 ≤ p) (hE : (q ≠ 0 ∧ cn' = 0) ∨ (q = 0 ∧ cn' = n2 ∧ cd' = cd2)) : zxR f n cn' cd' := fun tb => by
  subst e0; subst e1; subst e2; subst e3; subst hd
  obtain ⟨a, b⟩ := hq tb m1
  obtain ⟨K, pl, x, y, z⟩ := b [] (zCd_0 rfl)
  rcases hE with ⟨o1, o2⟩ | ⟨o1, o2, o3⟩
  · exact ⟨[], ⟨c, _, k1, x, Or.inr ⟨_, _, _, _, _, rfl, Or.inl ⟨fun o => o1 ((zm_end hp a).mpr o), rfl⟩⟩⟩, zCd_0 o2⟩
  · rw [o2, o3]
    exact ⟨K, ⟨c, _, k1, x, Or.inr ⟨_, _, _, _, _, rfl, Or.inr ⟨(zm_end hp a).mp o1, rfl⟩⟩⟩, y⟩
end ZU
