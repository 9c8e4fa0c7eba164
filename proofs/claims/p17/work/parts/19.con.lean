section ZU
variable {f : Nat → Int32} {n fr ha be lv qt cn fr' ha' be' lv' qt' cn' c h1 b1 d h2 b2 m r v w k p q sd x9 y9 : Int} {cd cd' : zqMs} {wh br wh' br' : Nat → Int32} {R R' : zRl_} {P Q : Bool → Prop} {ok : Prop} {B : zRl_}
theorem zxB_m (h : zxS (zMrk f n) f n fr ha be lv qt cn cd fr' ha' be' lv' qt' cn' cd' P) (hs : zSg f fr ha 91) : zxS (zBar f n sd ok B) f n fr ha be lv qt cn cd fr' ha' be' lv' qt' cn' cd' P :=
  zxS_r h (fun _ hm L r y => Or.inr ⟨fun z => by have a := (zMl_s hm (v := 40) (by decide) (by unfold zTok; omega)).1.mpr z; have := a.2; have := hs.2; omega, Or.inl ⟨(zMl_s hm (by decide) (by unfold zTok; omega)).1.mp hs, y⟩⟩)
theorem zxB_mx (h : zxX (zMrk f n) f n fr ha be lv qt cn cd) (hs : zSg f fr ha 91) : zxX (zBar f n sd ok B) f n fr ha be lv qt cn cd :=
  zxX_r h (fun _ hm L r y => Or.inr ⟨fun z => by have a := (zMl_s hm (v := 40) (by decide) (by unfold zTok; omega)).1.mpr z; have := a.2; have := hs.2; omega, Or.inl ⟨(zMl_s hm (by decide) (by unfold zTok; omega)).1.mp hs, y⟩⟩)
theorem zxB_p (h : zxS (zPhr f n sd) f n fr ha be lv qt cn cd fr' ha' be' lv' qt' cn' cd' P) (hs : zSg f fr ha 34) : zxS (zBar f n sd ok B) f n fr ha be lv qt cn cd fr' ha' be' lv' qt' cn' cd' P :=
  zxS_r h (fun _ hm L r y => Or.inr ⟨fun z => by have a := (zMl_s hm (v := 40) (by decide) (by unfold zTok; omega)).1.mpr z; have := a.2; have := hs.2; omega, Or.inr ⟨fun z => by have a := (zMl_s hm (v := 91) (by decide) (by unfold zTok; omega)).1.mpr z; have := a.2; have := hs.2; omega, Or.inl ⟨(zMl_s hm (by decide) (by unfold zTok; omega)).1.mp hs, y⟩⟩⟩)
theorem zxB_px (h : zxX (zPhr f n sd) f n fr ha be lv qt cn cd) (hs : zSg f fr ha 34) : zxX (zBar f n sd ok B) f n fr ha be lv qt cn cd :=
  zxX_r h (fun _ hm L r y => Or.inr ⟨fun z => by have a := (zMl_s hm (v := 40) (by decide) (by unfold zTok; omega)).1.mpr z; have := a.2; have := hs.2; omega, Or.inr ⟨fun z => by have a := (zMl_s hm (v := 91) (by decide) (by unfold zTok; omega)).1.mpr z; have := a.2; have := hs.2; omega, Or.inl ⟨(zMl_s hm (by decide) (by unfold zTok; omega)).1.mp hs, y⟩⟩⟩)
theorem zMl_n {v : Int} (hm : zMl f n fr ha be) (hh : ¬ zSg f fr ha v) (hv : v ≠ 46) (ht : ¬ zTok v) : ¬ zSc f n fr v := fun y => hh ((zMl_s hm hv ht).1.mpr y)
theorem zxB_t (hp : 0 ≤ fr) (hfl : ¬ zFl f n fr) (h : zxS (zTkn f n sd) f n fr ha be lv qt cn cd fr' ha' be' lv' qt' cn' cd' P) (s1 : ¬ zSg f fr ha 40) (s2 : ¬ zSg f fr ha 91) (s3 : ¬ zSg f fr ha 34) (h1 : ha = 1) (hb : zqBg f fr ha be) (hn : ¬ (ha = 1 ∧ zSpm f fr be 9 3)) : zxS (zBar f n sd ok B) f n fr ha be lv qt cn cd fr' ha' be' lv' qt' cn' cd' P :=
  zxS_r h (fun _ hm L r y => by
    have hb : ha = 1 ∧ ¬ zSpm f fr be 7 2 ∧ ¬ zSpm f fr be 8 3 ∧ ¬ zSpm f fr be 10 4 := by
      rcases hb with z | z | z | z
      · exact z
      · exact absurd z s1
      · exact absurd z s2
      · exact absurd z s3
    exact Or.inr ⟨zMl_n hm s1 (by decide) (by unfold zTok; omega), Or.inr ⟨zMl_n hm s2 (by decide) (by unfold zTok; omega), Or.inr ⟨zMl_n hm s3 (by decide) (by unfold zTok; omega), Or.inl ⟨⟨be, zm_tk hp hm h1 hb.2.1 hb.2.2.1 hb.2.2.2 hn hfl⟩, y⟩⟩⟩⟩)
theorem zxB_tx (hp : 0 ≤ fr) (hfl : ¬ zFl f n fr) (h : zxX (zTkn f n sd) f n fr ha be lv qt cn cd) (s1 : ¬ zSg f fr ha 40) (s2 : ¬ zSg f fr ha 91) (s3 : ¬ zSg f fr ha 34) (h1 : ha = 1) (hb : zqBg f fr ha be) (hn : ¬ (ha = 1 ∧ zSpm f fr be 9 3)) : zxX (zBar f n sd ok B) f n fr ha be lv qt cn cd :=
  zxX_r h (fun _ hm L r y => by
    have hb : ha = 1 ∧ ¬ zSpm f fr be 7 2 ∧ ¬ zSpm f fr be 8 3 ∧ ¬ zSpm f fr be 10 4 := by
      rcases hb with z | z | z | z
      · exact z
      · exact absurd z s1
      · exact absurd z s2
      · exact absurd z s3
    exact Or.inr ⟨zMl_n hm s1 (by decide) (by unfold zTok; omega), Or.inr ⟨zMl_n hm s2 (by decide) (by unfold zTok; omega), Or.inr ⟨zMl_n hm s3 (by decide) (by unfold zTok; omega), Or.inl ⟨⟨be, zm_tk hp hm h1 hb.2.1 hb.2.2.1 hb.2.2.2 hn hfl⟩, y⟩⟩⟩⟩)
theorem zxB_n (hp : 0 ≤ fr) (s1 : ¬ zSg f fr ha 40) (s2 : ¬ zSg f fr ha 91) (s3 : ¬ zSg f fr ha 34) (hx : ha ≠ 1 ∨ ¬ zqBg f fr ha be ∨ (ha = 1 ∧ zSpm f fr be 9 3)) : zxX (zBar f n sd ok B) f n fr ha be lv qt cn cd := fun tb hm L hL => by
  refine Or.inr ⟨zMl_n hm s1 (by decide) (by unfold zTok; omega), Or.inr ⟨zMl_n hm s2 (by decide) (by unfold zTok; omega), Or.inr ⟨zMl_n hm s3 (by decide) (by unfold zTok; omega), Or.inr ⟨zm_nt hp hm ?_, rfl⟩⟩⟩⟩
  rcases hx with hx | hx | hx
  · exact Or.inl (fun y => hx y.1)
  · exact Or.inl (fun y => hx (Or.inl y))
  · exact Or.inr hx
theorem zxB_g0 (hs : zSg f fr ha 40) (hok : ¬ ok) : zxX (zBar f n sd ok B) f n fr ha be lv qt cn cd := fun tb hm L hL => Or.inl ⟨(zMl_s hm (by decide) (by unfold zTok; omega)).1.mp hs, Or.inl ⟨hok, rfl⟩⟩
theorem zxB_g1 (hs : zSg f fr ha 40) (hok : ok) (k1 : zBl f n be c) (m1 : zMl f n c h1 b1) (hx : zxX B f n c h1 b1 lv qt cn cd) : zxX (zBar f n sd ok B) f n fr ha be lv qt cn cd := fun tb hm L hL => by
  have s := zMl_s hm (v := 40) (by decide) (by unfold zTok; omega)
  have e := s.2 hs
  subst e
  exact Or.inl ⟨s.1.mp hs, Or.inr ⟨hok, c, none, k1, hx tb m1 L hL, Or.inl ⟨rfl, rfl⟩⟩⟩
theorem zxB_g2 (hs : zSg f fr ha 40) (hok : ok) (k1 : zBl f n be c) (m1 : zMl f n c h1 b1) (hq : zxS B f n c h1 b1 lv qt cn cd d h2 b2 lv' qt' cn' cd' P) (hn : ¬ zSg f d h2 41) : zxX (zBar f n sd ok B) f n fr ha be lv qt cn cd := fun tb hm L hL => by
  have s := zMl_s hm (v := 40) (by decide) (by unfold zTok; omega)
  have e := s.2 hs
  subst e
  obtain ⟨a, b⟩ := hq tb m1
  obtain ⟨K, pl, x, y, z⟩ := b L hL
  exact Or.inl ⟨s.1.mp hs, Or.inr ⟨hok, c, _, k1, x, Or.inr ⟨_, _, _, _, _, rfl, Or.inl ⟨zMl_n a hn (by decide) (by unfold zTok; omega), rfl⟩⟩⟩⟩
theorem zxB_g3 {d3 h3 b3 : Int} (hs : zSg f fr ha 40) (hok : ok) (k1 : zBl f n be c) (m1 : zMl f n c h1 b1) (hq : zxS B f n c h1 b1 lv qt cn cd d h2 b2 lv' qt' cn' cd' P) (hn : zSg f d h2 41) (k2 : zBl f n b2 d3) (m2 : zMl f n d3 h3 b3) (hb : (br' r.toNat).toInt ≠ 0) : zxS (zBar f n sd ok B) f n fr ha be lv qt cn cd d3 h3 b3 lv' qt' cn' cd' (fun pl => pl = true ↔ zHp wh' br' r) := fun tb hm => by
  have s := zMl_s hm (v := 40) (by decide) (by unfold zTok; omega)
  have e := s.2 hs
  subst e
  obtain ⟨a, b⟩ := hq tb m1
  have s2 := zMl_s a (v := 41) (by decide) (by unfold zTok; omega)
  have e2 := s2.2 hn
  subst e2
  refine ⟨m2, fun L hL => ?_⟩
  obtain ⟨K, pl, x, y, z⟩ := b L hL
  exact ⟨K, false, Or.inl ⟨s.1.mp hs, Or.inr ⟨hok, c, _, k1, x, Or.inr ⟨_, _, _, _, _, rfl, Or.inr ⟨s2.1.mp hn, d3, k2, rfl⟩⟩⟩⟩, y, fun o => absurd o (by decide), fun o => absurd o.1 hb⟩
def zxK (g : Nat → Int32) (b k : Int) (M : List Int) : Prop := M.length = k.toNat ∧ ∀ i : Nat, (i : Int) < k → M.getD i 0 = 1000 * (g (b + k - 1 - i).toNat).toInt
theorem zxK_0 {g : Nat → Int32} {b : Int} (hk : k = 0) : zxK g b k [] := by subst hk; exact ⟨rfl, fun i hi => by omega⟩
theorem zxK_s {g g' : Nat → Int32} {b k k' : Int} {M : List Int} {I K : Int32} (h : zxK g b k M) (e : g' = upd g I.toNatClampNeg K) (hI : I.toInt = b + k) (hb : 0 ≤ b) (hk : 0 ≤ k) (hk' : k' = k + 1) (hv : v = 1000 * K.toInt) : zxK g' b k' (v :: M) := by
  subst hk'
  have q : I.toNatClampNeg = (b + k).toNat := by have q : I.toNatClampNeg = I.toInt.toNat := rfl; omega
  refine ⟨by rw [List.length_cons, h.1]; omega, fun i hi => ?_⟩
  cases i with
  | zero =>
    show v = _
    rw [e, show (b + (k + 1) - 1 - ((0 : Nat) : Int)).toNat = I.toNatClampNeg from by omega, pk_us]
    exact hv
  | succ i =>
    show M.getD i 0 = _
    rw [h.2 i (by omega), e, pk_un (by omega), show (b + (k + 1) - 1 - ((i + 1 : Nat) : Int)).toNat = (b + k - 1 - (i : Int)).toNat from by omega]
theorem zxK_e {g g' : Nat → Int32} {b b' k : Int} {M : List Int} (h : zxK g b k M) (he : zEq g g' b') (hb : 0 ≤ b) (hk : b + k ≤ b') : zxK g' b k M := ⟨h.1, fun i hi => by rw [h.2 i hi, he (b + k - 1 - i).toNat (by omega)]⟩
def zxL (f : Nat → Int32) (n fr ha be : Int) (g : Nat → Int32) (b k fr' ha' be' : Int) : Prop := zMl f n fr ha be → zMl f n fr' ha' be' ∧ ∃ M, zFs f n k.toNat fr fr' M ∧ zxK g b k M
theorem zxL_0 {g : Nat → Int32} {b : Int} (hk : k = 0) : zxL f n fr ha be g b k fr ha be := fun hm => by
  refine ⟨hm, [], ?_, zxK_0 hk⟩
  subst hk
  exact ⟨rfl, rfl⟩
theorem zxL_s {g g' : Nat → Int32} {b k' : Int} {I K : Int32} (h : zxL f n fr ha be g b k p q r) (hp : 0 ≤ p) (hy : zqIf f n p q r) (k1 : zBl f n r c) (m1 : zMl f n c h1 b1) (k2 : zBl f n b1 d) (m2 : zMl f n d h2 b2) (e : g' = upd g I.toNatClampNeg K) (hI : I.toInt = b + k) (hb : 0 ≤ b) (hk : 0 ≤ k) (hk' : k' = k + 1) (hK : (r - p = 5 ∧ K.toInt = 6) ∨ (r - p ≠ 5 ∧ K.toInt = 7)) : zxL f n fr ha be g' b k' d h2 b2 := fun hm => by
  obtain ⟨a, M, x, y⟩ := h hm
  have z := (zm_fs hp a hy k1 m1).2
  refine ⟨m2, (if (if r - p = 5 then (262 : Int) else 263) = 262 then 6000 else 7000) :: M, ?_, zxK_s y e hI hb hk hk' ?_⟩
  · rw [show k'.toNat = k.toNat + 1 from by omega]
    refine zFs_s x z ?_ k2
    split
    · exact Or.inl rfl
    · exact Or.inr rfl
  · rcases hK with hK | hK
    · rw [if_pos hK.1, if_pos rfl, hK.2]; rfl
    · rw [if_neg hK.1, if_neg (by decide), hK.2]; rfl
theorem zxL_e {g g' : Nat → Int32} {b b' : Int} (h : zxL f n fr ha be g b k p q r) (he : zEq g g' b') (hb : 0 ≤ b) (hk : b + k ≤ b') : zxL f n fr ha be g' b k p q r := fun hm => by
  obtain ⟨a, M, x, y⟩ := h hm
  exact ⟨a, M, x, zxK_e y he hb hk⟩
variable {B : zBu}
theorem zxU_x {g : Nat → Int32} {b : Int} (h : zxL f n fr ha be g b k p q r) (hp : 0 ≤ p) (hk : k = 12) (hy : zqIf f n p q r) : zxX (zUni f n ok B) f n fr ha be lv qt cn cd := fun tb hm L hL => by
  obtain ⟨a, M, x, y⟩ := h hm
  subst hk
  exact ⟨12, p, M, x, Or.inl ⟨rfl, (zm_fl hp a).mp hy, rfl⟩⟩
theorem zxU_b {g : Nat → Int32} {b : Int} (h : zxL f n fr ha be g b k p q r) (hp : 0 ≤ p) (hk : k ≤ 12) (hy : ¬ zqIf f n p q r) (hu : 0 ≤ B.1) (hx : ∀ sd : Int, 0 ≤ sd → ¬ zFl f n p → zxX (zBar f n sd ok (B.2 B.1)) f n p q r lv qt cn cd) : zxX (zUni f n ok B) f n fr ha be lv qt cn cd := fun tb hm L hL => by
  obtain ⟨a, M, x, y⟩ := h hm
  have nf : ¬ zFl f n p := fun z => hy ((zm_fl hp a).mpr z)
  exact ⟨k.toNat, p, M, x, Or.inr ⟨by omega, nf, none, hx (zsd M + 4 * B.1) (by have q := zsd_0 (M := M); omega) nf tb a L hL, Or.inl ⟨rfl, rfl⟩⟩⟩
def zxU (f : Nat → Int32) (n : Int) (ok : Prop) (B : zBu) (fr ha be lv qt cn : Int) (cd : zqMs) (g : Nat → Int32) (b k fr' ha' be' lv' qt' cn' : Int) (cd' : zqMs) (wh br : Nat → Int32) (j r : Int) : Prop := zqTy f n → zMl f n fr ha be → zMl f n fr' ha' be' ∧ ∀ L : List Int, zCm cd cn L → ∃ M K pl x, zFs f n k.toNat fr x M ∧ ¬ zFl f n x ∧ zxK g b k M ∧ zBar f n (zsd M + 4 * B.1) ok (B.2 B.1) x lv qt L (some (fr', lv', qt', K, pl)) ∧ zCm cd' cn' (K ++ M.take (k - 1 - j).toNat) ∧ ((j = k - 1 ∧ (pl = true ↔ zHp wh br r)) ∨ (j < k - 1 ∧ pl = true ∧ zHp wh br r))
theorem zxU_0 {g g' : Nat → Int32} {b b' j : Int} (h : zxL f n fr ha be g b k p q r) (hp : 0 ≤ p) (hy : ¬ zqIf f n p q r) (hu : 0 ≤ B.1) (hb : ∀ sd : Int, 0 ≤ sd → ¬ zFl f n p → zxS (zBar f n sd ok (B.2 B.1)) f n p q r lv qt cn cd fr' ha' be' lv' qt' cn' cd' (fun pl => pl = true ↔ zHp wh br w)) (he : zEq g g' b') (hb0 : 0 ≤ b) (hk : b + k ≤ b') (hj : j = k - 1) : zxU f n ok B fr ha be lv qt cn cd g' b k fr' ha' be' lv' qt' cn' cd' wh br j w := fun tb hm => by
  obtain ⟨a, M, x, y⟩ := h hm
  have nf : ¬ zFl f n p := fun z => hy ((zm_fl hp a).mpr z)
  obtain ⟨s1, s2⟩ := hb (zsd M + 4 * B.1) (by have q := zsd_0 (M := M); omega) nf tb a
  refine ⟨s1, fun L hL => ?_⟩
  obtain ⟨K, pl, z1, z2, z3⟩ := s2 L hL
  refine ⟨M, K, pl, p, x, nf, zxK_e y he hb0 hk, z1, ?_, Or.inl ⟨hj, z3⟩⟩
  rw [show (k - 1 - j).toNat = 0 from by omega, List.take_zero, List.append_nil]
  exact z2
theorem zxU_k {g : Nat → Int32} {b j : Int} (h : zxU f n ok B fr ha be lv qt cn cd g b k fr' ha' be' lv' qt' cn' cd' wh br j r) (hk : k ≤ 12) (hj : 0 ≤ j) (hn : ¬ zHp wh br r) : zxX (zUni f n ok B) f n fr ha be lv qt cn cd := fun tb hm L hL => by
  obtain ⟨a, s⟩ := h tb hm
  obtain ⟨M, K, pl, x, s1, s2, s3, s4, s5, s6⟩ := s L hL
  rcases s6 with ⟨z1, z2⟩ | ⟨z1, z2, z3⟩
  · have z3 : pl = false := by
      cases pl with
      | true => exact absurd (z2.mp rfl) hn
      | false => rfl
    exact ⟨k.toNat, x, M, s1, Or.inr ⟨by omega, s2, _, s4, Or.inr ⟨_, _, _, _, _, rfl, Or.inl ⟨⟨by omega, z3⟩, rfl⟩⟩⟩⟩
  · exact absurd z3 hn
theorem zxU_s {g : Nat → Int32} {b j j' cn2 r' l0 : Int} {cd2 : zqMs} {wh2 br2 : Nat → Int32} {I K0 : Int32} (h : zxU f n ok B fr ha be lv qt cn cd g b k fr' ha' be' lv' qt' cn' cd' wh br j r) (hj : 0 ≤ j) (hp : zHp wh br r) (hb : 0 ≤ b) (e : K0 = g I.toNatClampNeg) (hI : I.toInt = b + j) (h67 : K0.toInt = 6 ∨ K0.toInt = 7) (hmc : m = cn') (hx9 : x9 = cn' - 1) (hN : zxN wh br wh2 br2 cd' cd2 m cn' cn2 K0.toInt l0 x9 y9) (hl0 : l0 = 0) (hr : r' = m) (hj' : j' = j - 1) (hjk : j < k) : zxU f n ok B fr ha be lv qt cn cd g b k fr' ha' be' lv' qt' cn2 cd2 wh2 br2 j' r' := fun tb hm => by
  obtain ⟨a, s⟩ := h tb hm
  obtain ⟨n1, n2, n3, n4⟩ := hN
  subst hr; subst hl0
  refine ⟨a, fun L hL => ?_⟩
  obtain ⟨M, K, pl, x, s1, s2, s3, s4, s5, s6⟩ := s L hL
  have q : I.toNatClampNeg = I.toInt.toNat := rfl
  have y1 := s3.1
  have y2 := s3.2 (k - 1 - j).toNat (by omega)
  have y3 := n4 hmc (by omega) (by omega) (by decide) (by decide) _ (1000 * K0.toInt) (by omega) (by omega) (fun o => by omega) (fun _ => hx9) (fun o => by omega) s5
  refine ⟨M, K, pl, x, s1, s2, s3, s4, ?_, Or.inr ⟨by omega, ?_, n3, by omega⟩⟩
  · rw [show (k - 1 - j').toNat = (k - 1 - j).toNat + 1 from by omega, zqtk (by omega), y2, ← List.append_assoc]
    rw [show (b + k - 1 - (((k - 1 - j).toNat : Nat) : Int)).toNat = I.toNatClampNeg from by omega, ← e]
    exact y3
  · rcases s6 with z | z
    · exact z.2.mpr hp
    · exact z.2.1
theorem zxU_e {g : Nat → Int32} {b j : Int} (h : zxU f n ok B fr ha be lv qt cn cd g b k fr' ha' be' lv' qt' cn' cd' wh br j r) (hk : k ≤ 12) (hk0 : 0 ≤ k) (hj : j < 0) : zxS (zUni f n ok B) f n fr ha be lv qt cn cd fr' ha' be' lv' qt' cn' cd' (fun pl => pl = true ↔ zHp wh br r) := fun tb hm => by
  obtain ⟨a, s⟩ := h tb hm
  refine ⟨a, fun L hL => ?_⟩
  obtain ⟨M, K, pl, x, s1, s2, s3, s4, s5, s6⟩ := s L hL
  rw [List.take_of_length_le (by have := s3.1; omega)] at s5
  refine ⟨K ++ M, pl, ⟨k.toNat, x, M, s1, Or.inr ⟨by omega, s2, _, s4, Or.inr ⟨_, _, _, _, _, rfl, Or.inr ⟨fun o => ?_, rfl⟩⟩⟩⟩, s5, ?_⟩
  · rcases s6 with z | z
    · omega
    · rw [z.2.1] at o
      exact absurd o.2 (by decide)
  · rcases s6 with z | z
    · exact z.2
    · exact ⟨fun _ => z.2.2, fun _ => z.2.1⟩
def zxA (f : Nat → Int32) (n p h b : Int) (v : Int) (k : Int) : Prop := h = 1 ∧ b - p ≤ 3 ∧ zDv f p k v
theorem zyA_a (hp : 0 ≤ p) (hm : zMl f n p h1 b1) (hh : h1 ≠ 1) : zyA f n p none := by
  obtain ⟨e, he⟩ := zRe_x (f := f) (n := n) _ p hp rfl
  have e0 := zqRe_0 he hp (zMl_t hm hh)
  exact ⟨e, he, Or.inl ⟨fun y => zDgs_0 (by omega) y.1, rfl⟩⟩
theorem zyA_b (hm : zMl f n p h1 b1) (hh : h1 = 1) (hl : 3 < b1 - p) : zyA f n p none := ⟨b1, (zMl_1 hm hh).2.2, Or.inl ⟨fun y => by have := y.1.2.1; omega, rfl⟩⟩
theorem zyA_c {K z : Int32} (hm : zMl f n p h1 b1) (hh : h1 = 1) (h2 : p ≤ K.toInt) (h0 : 0 ≤ p) (h3 : K.toInt < b1) (e : z = f K.toNatClampNeg) (hd : z.toInt < 48 ∨ 57 < z.toInt) : zyA f n p none := ⟨b1, (zMl_1 hm hh).2.2, Or.inl ⟨fun y => by
  have q2 : K.toNatClampNeg = K.toInt.toNat := rfl
  have y1 := y.1.2.2 K.toNatClampNeg (by omega) (by omega)
  rw [← e] at y1
  omega, rfl⟩⟩
theorem zyA_d (hm : zMl f n p h1 b1) (hh : h1 = 1) (hv : zDv f p k v) (hk : k = b1) (hr : v < 1 ∨ 200 < v) : zyA f n p none := by
  subst hk
  refine ⟨k, (zMl_1 hm hh).2.2, Or.inl ⟨fun y => ?_, rfl⟩⟩
  have y1 := hv.2
  have y2 := y.2
  omega
theorem zyA_e (hm : zMl f n p h1 b1) (hh : h1 = 1) (hl : b1 - p ≤ 3) (hv : zDv f p k v) (hk : k = b1) (hr : 1 ≤ v ∧ v ≤ 200) (hb : zBl f n b1 d) : zyA f n p (some (v, d)) := by
  subst hk
  have hb2 := zMl_b hm hh
  have y1 := hv.2
  exact ⟨k, (zMl_1 hm hh).2.2, Or.inr ⟨⟨⟨by omega, hl, hv.1⟩, by omega, by omega⟩, d, hb, by rw [y1]⟩⟩
theorem zxE_a (h : zxS (zUni f n ok B) f n fr ha be lv qt cn cd fr' ha' be' lv' qt' cn' cd' P) (hp : 0 ≤ fr') (hs : ¬ (ha' = 1 ∧ zSpm f fr' be' 10 4)) : zxS (zNea f n ok B) f n fr ha be lv qt cn cd fr' ha' be' lv' qt' cn' cd' (fun pl => pl = false) := fun tb hm => by
  obtain ⟨a, b⟩ := h tb hm
  refine ⟨a, fun L hL => ?_⟩
  obtain ⟨K, pl, x, y, z⟩ := b L hL
  exact ⟨K, false, ⟨_, x, Or.inr ⟨_, _, _, _, _, rfl, Or.inl ⟨fun o => hs ((zm_near hp a).1.mpr o), rfl⟩⟩⟩, y, rfl⟩
theorem zxE_x (h : zxX (zUni f n ok B) f n fr ha be lv qt cn cd) : zxX (zNea f n ok B) f n fr ha be lv qt cn cd := fun tb hm L hL => ⟨none, h tb hm L hL, Or.inl ⟨rfl, rfl⟩⟩
theorem zxE_b (h : zxS (zUni f n ok B) f n fr ha be lv qt cn cd fr' ha' be' lv' qt' cn' cd' P) (hp : 0 ≤ fr') (hs : ha' = 1 ∧ zSpm f fr' be' 10 4) (k1 : zBl f n be' c) (hA : zyA f n c none) : zxX (zNea f n ok B) f n fr ha be lv qt cn cd := fun tb hm L hL => by
  obtain ⟨a, b⟩ := h tb hm
  obtain ⟨K, pl, x, y, z⟩ := b L hL
  obtain ⟨e, z1, z2⟩ := hA
  rcases z2 with z2 | ⟨_, _, _, z2⟩
  · exact ⟨_, x, Or.inr ⟨_, _, _, _, _, rfl, Or.inr ⟨be', c, e, (zm_near hp a).2 hs, k1, z1, Or.inl ⟨z2.1, rfl⟩⟩⟩⟩
  · cases z2
variable {l4 t4 n4 d4 h4 b4 : Int} {c4 : zqMs} {wh4 br4 : Nat → Int32}
theorem zxE_c (h : zxS (zUni f n ok B) f n fr ha be lv qt cn cd fr' ha' be' lv' qt' cn' cd' P) (hp : 0 ≤ fr') (hs : ha' = 1 ∧ zSpm f fr' be' 10 4) (k1 : zBl f n be' c) (hA : zyA f n c (some (v, d))) (m2 : zMl f n d h2 b2) (hx : zxX (zUni f n ok B) f n d h2 b2 lv' qt' cn' cd') : zxX (zNea f n ok B) f n fr ha be lv qt cn cd := fun tb hm L hL => by
  obtain ⟨a, b⟩ := h tb hm
  obtain ⟨K, pl, x, y, z⟩ := b L hL
  obtain ⟨e, z1, z2⟩ := hA
  rcases z2 with z2 | ⟨z2, p2, z3, z4⟩
  · cases z2.2
  · cases z4
    exact ⟨_, x, Or.inr ⟨_, _, _, _, _, rfl, Or.inr ⟨be', c, e, (zm_near hp a).2 hs, k1, z1, Or.inr ⟨z2, _, none, z3, hx tb m2 K y, Or.inl ⟨rfl, rfl⟩⟩⟩⟩⟩
theorem zxE_d {r2 : Int} (h : zxS (zUni f n ok B) f n fr ha be lv qt cn cd fr' ha' be' lv' qt' cn' cd' (fun pl => pl = true ↔ zHp wh br r)) (hp : 0 ≤ fr') (hs : ha' = 1 ∧ zSpm f fr' be' 10 4) (k1 : zBl f n be' c) (hA : zyA f n c (some (v, d))) (m2 : zMl f n d h2 b2) (hu : zxS (zUni f n ok B) f n d h2 b2 lv' qt' cn' cd' d4 h4 b4 l4 t4 n4 c4 (fun pl => pl = true ↔ zHp wh4 br4 r2)) (hk : zNk wh br wh4 br4 m) (hr0 : 0 ≤ r) (hr : r < m) (hx : ¬ zHp wh4 br4 r ∨ ¬ zHp wh4 br4 r2) : zxX (zNea f n ok B) f n fr ha be lv qt cn cd := fun tb hm L hL => by
  obtain ⟨a, b⟩ := h tb hm
  obtain ⟨K, pl, x, y, z⟩ := b L hL
  obtain ⟨a2, b2⟩ := hu tb m2
  obtain ⟨K2, pl2, x2, y2, z6⟩ := b2 K y
  obtain ⟨e, z1, z2⟩ := hA
  rcases z2 with z2 | ⟨z2, p2, z3, z4⟩
  · cases z2.2
  · cases z4
    refine ⟨_, x, Or.inr ⟨_, _, _, _, _, rfl, Or.inr ⟨be', c, e, (zm_near hp a).2 hs, k1, z1, Or.inr ⟨z2, _, _, z3, x2, Or.inr ⟨_, _, _, _, _, rfl, Or.inl ⟨fun o => ?_, rfl⟩⟩⟩⟩⟩⟩
    rcases hx with hx | hx
    · exact hx ((zHp_k hk hr0 hr).mpr (z.mp o.1))
    · exact hx (z6.mp o.2)
theorem zxE_e {r2 m2' n5 : Int} {c5 : zqMs} {wh5 br5 : Nat → Int32} (h : zxS (zUni f n ok B) f n fr ha be lv qt cn cd fr' ha' be' lv' qt' cn' cd' (fun pl => pl = true ↔ zHp wh br r)) (hp : 0 ≤ fr') (hs : ha' = 1 ∧ zSpm f fr' be' 10 4) (k1 : zBl f n be' c) (hA : zyA f n c (some (v, d))) (m2 : zMl f n d h2 b2) (hu : zxS (zUni f n ok B) f n d h2 b2 lv' qt' cn' cd' d4 h4 b4 l4 t4 n4 c4 (fun pl => pl = true ↔ zHp wh4 br4 r2)) (hk : zNk wh br wh4 br4 m) (hr0 : 0 ≤ r) (hr : r < m) (hx : zHp wh4 br4 r ∧ zHp wh4 br4 r2) (hmc : m2' = n4) (hx9 : x9 = cn' - 1) (hy9 : y9 = n4 - 1) (hN : zxN wh4 br4 wh5 br5 c4 c5 m2' n4 n5 w v x9 y9) (hw : w = 5) (hv : 1 ≤ v ∧ v ≤ 200) : zxS (zNea f n ok B) f n fr ha be lv qt cn cd d4 h4 b4 l4 t4 n5 c5 (fun pl => pl = false) := fun tb hm => by
  obtain ⟨a, b⟩ := h tb hm
  obtain ⟨a2, b2⟩ := hu tb m2
  obtain ⟨_, _, _, n6⟩ := hN
  subst hw
  refine ⟨a2, fun L hL => ?_⟩
  obtain ⟨K, pl, x, y, z⟩ := b L hL
  obtain ⟨K2, pl2, x2, y2, z6⟩ := b2 K y
  obtain ⟨e, z1, z2⟩ := hA
  rcases z2 with z2 | ⟨z2, p2, z3, z4⟩
  · cases z2.2
  · cases z4
    exact ⟨_, false, ⟨_, x, Or.inr ⟨_, _, _, _, _, rfl, Or.inr ⟨be', c, e, (zm_near hp a).2 hs, k1, z1, Or.inr ⟨z2, _, _, z3, x2, Or.inr ⟨_, _, _, _, _, rfl, Or.inr ⟨⟨z.mpr ((zHp_k hk hr0 hr).mp hx.1), z6.mpr hx.2⟩, rfl⟩⟩⟩⟩⟩⟩, n6 hmc (by decide) (by decide) (by omega) (by omega) K2 _ (zlb_m (by omega) (by omega)) (zlb_0 (by omega)) (fun o => by omega) (fun o => by omega) (fun _ => ⟨by rw [zlb_l (by omega) (by omega), hx9, y.1], hy9⟩) y2, rfl⟩
def zxH (f : Nat → Int32) (n fr ha be k fr' ha' be' : Int) : Prop := zMl f n fr ha be → zMl f n fr' ha' be' ∧ zNs f n k.toNat fr fr'
theorem zxH_0 (hk : k = 0) : zxH f n fr ha be k fr ha be := fun hm => ⟨hm, by subst hk; rfl⟩
theorem zxH_s {k' : Int} (h : zxH f n fr ha be k p q r) (hp : 0 ≤ p) (hs : q = 1 ∧ zSpm f p r 9 3) (k1 : zBl f n r c) (m1 : zMl f n c h1 b1) (hk0 : 0 ≤ k) (hk : k' = k + 1) : zxH f n fr ha be k' c h1 b1 := fun hm => by
  obtain ⟨a, b⟩ := h hm
  refine ⟨m1, ?_⟩
  rw [show k'.toNat = k.toNat + 1 from by omega]
  exact zNs_s b ((zm_not hp a).2 hs) k1
theorem zxO_x (h : zxH f n fr ha be k p q r) (hp : 0 ≤ p) (hs : q = 1 ∧ zSpm f p r 9 3) (hk : k = 40) : zxX (zNot f n ok B) f n fr ha be lv qt cn cd := fun tb hm L hL => by
  obtain ⟨a, b⟩ := h hm
  subst hk
  exact ⟨40, p, b, Or.inl ⟨rfl, (zm_not hp a).1.mp hs, rfl⟩⟩
theorem zxO_n (h : zxH f n fr ha be k p q r) (hp : 0 ≤ p) (hs : ¬ (q = 1 ∧ zSpm f p r 9 3)) (hk : k ≤ 40) (hx : zxX (zNea f n ok (zBx k.toNat B)) f n p q r lv qt cn cd) : zxX (zNot f n ok B) f n fr ha be lv qt cn cd := fun tb hm L hL => by
  obtain ⟨a, b⟩ := h hm
  exact ⟨k.toNat, p, b, Or.inr ⟨by omega, fun o => hs ((zm_not hp a).1.mpr o), none, hx tb a L hL, Or.inl ⟨rfl, rfl⟩⟩⟩
theorem zxO_e {o : Int} (h : zxH f n fr ha be k p q r) (hp : 0 ≤ p) (hs : ¬ (q = 1 ∧ zSpm f p r 9 3)) (hk : k ≤ 40) (hk0 : 0 ≤ k) (hb : zxS (zNea f n ok (zBx k.toNat B)) f n p q r lv qt cn cd fr' ha' be' lv' qt' cn' cd' P) (ho : (k % 2 = 1 ∧ o = 1) ∨ (k % 2 ≠ 1 ∧ o = 0)) : zxS (zNot f n ok B) f n fr ha be lv qt cn cd fr' ha' be' lv' qt' cn' cd' (fun pl => pl = true ↔ o = 1) := fun tb hm => by
  obtain ⟨a, b⟩ := h hm
  obtain ⟨s1, s2⟩ := hb tb a
  refine ⟨s1, fun L hL => ?_⟩
  obtain ⟨K, pl, x, y, z⟩ := s2 L hL
  refine ⟨K, decide (k.toNat % 2 = 1), ⟨k.toNat, p, b, Or.inr ⟨by omega, fun o => hs ((zm_not hp a).1.mpr o), _, x, Or.inr ⟨_, _, _, _, _, rfl, rfl⟩⟩⟩, y, ?_⟩
  show (decide (k.toNat % 2 = 1) = true ↔ o = 1)
  rw [decide_eq_true_iff]
  omega
def zxY (R : zRl_) (T : Nat → zRl_) (f : Nat → Int32) (n fr ha be lv qt cn : Int) (cd : zqMs) (fr' ha' be' lv' qt' cn' : Int) (cd' : zqMs) : Prop := zqTy f n → zMl f n fr ha be → zMl f n fr' ha' be' ∧ ∀ L : List Int, zCm cd cn L → ∃ K, zCm cd' cn' K ∧ ∀ k r, T k fr' lv' qt' K r → R fr lv qt L r
theorem zxY_a0 {o n1 l0 : Int} {c1 : zqMs} (h : zxS (zNot f n ok B) f n fr ha be lv qt cn cd fr' ha' be' lv' qt' n1 c1 (fun pl => pl = true ↔ o = 1)) (hE : (o = 1 ∧ zxN wh br wh' br' c1 cd' m n1 cn' w l0 x9 y9 ∧ w = 10 ∧ l0 = 0 ∧ m = n1 ∧ x9 = n1 - 1) ∨ (o ≠ 1 ∧ cd' = c1 ∧ cn' = n1)) : zxY (zAll f n ok B) (zAlp f n ok B) f n fr ha be lv qt cn cd fr' ha' be' lv' qt' cn' cd' := fun tb hm => by
  obtain ⟨a, b⟩ := h tb hm
  refine ⟨a, fun L hL => ?_⟩
  obtain ⟨K, pl, x, y, z⟩ := b L hL
  rcases hE with ⟨e1, ⟨_, _, _, e2⟩, e3, e4, e5, e6⟩ | ⟨e1, e2, e3⟩
  · subst e3; subst e4
    refine ⟨_, e2 e5 (by decide) (by decide) (by decide) (by decide) K 10000 (by decide) (by decide) (fun o => by omega) (fun _ => e6) (fun o => by omega) y, fun k r hr => ⟨_, x, Or.inr ⟨_, _, _, _, _, k, rfl, ?_⟩⟩⟩
    rw [if_pos (z.mpr e1)]
    exact hr
  · subst e2; subst e3
    refine ⟨K, y, fun k r hr => ⟨_, x, Or.inr ⟨_, _, _, _, _, k, rfl, ?_⟩⟩⟩
    rw [if_neg (fun o => e1 (z.mp o))]
    exact hr
theorem zxA_x (h : zxX (zNot f n ok B) f n fr ha be lv qt cn cd) : zxX (zAll f n ok B) f n fr ha be lv qt cn cd := fun tb hm L hL => ⟨none, h tb hm L hL, Or.inl ⟨rfl, rfl⟩⟩
variable {an g0 : Int}
theorem zxY_go (hp : 0 ≤ p) (hm : zMl f n p q r) (tb : zqTy f n) (hA : (an = 1 ∧ (q = 1 ∧ zSpm f p r 8 3) ∧ zBl f n r c ∧ zMl f n c h1 b1) ∨ (an = 0 ∧ ¬ (q = 1 ∧ zSpm f p r 8 3) ∧ zqBg f p q r ∧ c = p ∧ h1 = q ∧ b1 = r)) : zGo f n p ∧ zMl f n c h1 b1 ∧ ((∃ b, zLk f n p 259 b ∧ zBl f n b c) ∨ (¬ zKd f n p 259 ∧ c = p)) := by
  rcases hA with ⟨_, a1, a2, a3⟩ | ⟨_, a1, a2, a3, a4, a5⟩
  · exact ⟨(zm_go tb hp hm).mp (Or.inl a1), a3, Or.inl ⟨r, (zm_and hp hm).2 a1, a2⟩⟩
  · subst a3; subst a4; subst a5
    exact ⟨(zm_go tb hp hm).mp (Or.inr a2), hm, Or.inr ⟨fun o => a1 ((zm_and hp hm).1.mpr o), rfl⟩⟩
theorem zxY_ax (h : zxY (zAll f n ok B) (zAlp f n ok B) f n fr ha be lv qt cn cd p q r lv' qt' cn' cd') (hp : 0 ≤ p) (hA : (an = 1 ∧ (q = 1 ∧ zSpm f p r 8 3) ∧ zBl f n r c ∧ zMl f n c h1 b1) ∨ (an = 0 ∧ ¬ (q = 1 ∧ zSpm f p r 8 3) ∧ zqBg f p q r ∧ c = p ∧ h1 = q ∧ b1 = r)) (hx : zxX (zNot f n ok B) f n c h1 b1 lv' qt' cn' cd') : zxX (zAll f n ok B) f n fr ha be lv qt cn cd := fun tb hm L hL => by
  obtain ⟨a, b⟩ := h tb hm
  obtain ⟨K, x, y⟩ := b L hL
  obtain ⟨g1, g2, g3⟩ := zxY_go hp a tb hA
  exact y 1 none ⟨g1, c, none, g3, hx tb g2 K x, Or.inl ⟨rfl, rfl⟩⟩
theorem zxY_as {o n1 l1 t1 n2 l0 d2 : Int} {c1 cd2 : zqMs} (h : zxY (zAll f n ok B) (zAlp f n ok B) f n fr ha be lv qt cn cd p q r lv' qt' cn' cd') (hp : 0 ≤ p) (hA : (an = 1 ∧ (q = 1 ∧ zSpm f p r 8 3) ∧ zBl f n r c ∧ zMl f n c h1 b1) ∨ (an = 0 ∧ ¬ (q = 1 ∧ zSpm f p r 8 3) ∧ zqBg f p q r ∧ c = p ∧ h1 = q ∧ b1 = r)) (hq : zxS (zNot f n ok B) f n c h1 b1 lv' qt' cn' cd' d2 h2 b2 l1 t1 n1 c1 (fun pl => pl = true ↔ o = 1)) (hw : (o = 1 ∧ w = 11) ∨ (o ≠ 1 ∧ w = 8)) (hmc : m = n1) (hx9 : x9 = cn' - 1) (hy9 : y9 = n1 - 1) (hN : zxN wh br wh' br' c1 cd2 m n1 n2 w l0 x9 y9) (hl0 : l0 = 0) : zxY (zAll f n ok B) (zAlp f n ok B) f n fr ha be lv qt cn cd d2 h2 b2 l1 t1 n2 cd2 := fun tb hm => by
  obtain ⟨a, b⟩ := h tb hm
  obtain ⟨g1, g2, g3⟩ := zxY_go hp a tb hA
  obtain ⟨s1, s2⟩ := hq tb g2
  refine ⟨s1, fun L hL => ?_⟩
  obtain ⟨K, x, y⟩ := b L hL
  obtain ⟨K2, pl, z1, z2, z3⟩ := s2 K x
  subst hl0
  have hew : (if pl = true then zlb 11 0 K else zlb 8 0 K) % 1000000 = 1000 * w + 0 ∧ 0 ≤ (if pl = true then zlb 11 0 K else zlb 8 0 K) ∧ (if pl = true then zlb 11 0 K else zlb 8 0 K) / 1000000 = (K.length : Int) := by
    rcases hw with ⟨o1, o2⟩ | ⟨o1, o2⟩
    · rw [if_pos (z3.mpr o1), o2]
      exact ⟨zlb_m (by decide) (by decide), zlb_0 (by decide), zlb_l (by decide) (by decide)⟩
    · rw [if_neg (fun o => o1 (z3.mp o)), o2]
      exact ⟨zlb_m (by decide) (by decide), zlb_0 (by decide), zlb_l (by decide) (by decide)⟩
  exact ⟨_, hN.2.2.2 hmc (by omega) (by omega) (by decide) (by decide) K2 _ hew.1 hew.2.1 (fun o => by omega) (fun o => by omega) (fun _ => ⟨by rw [hew.2.2, hx9, x.1], hy9⟩) z2, fun k r' hr => y (k + 1) r' ⟨g1, c, _, g3, z1, Or.inr ⟨_, _, _, _, _, rfl, hr⟩⟩⟩
theorem zxY_ae (h : zxY (zAll f n ok B) (zAlp f n ok B) f n fr ha be lv qt cn cd p q r lv' qt' cn' cd') (hp : 0 ≤ p) (h1 : ¬ (q = 1 ∧ zSpm f p r 8 3)) (h2 : ¬ zqBg f p q r) : zxS (zAll f n ok B) f n fr ha be lv qt cn cd p q r lv' qt' cn' cd' (fun pl => pl = false) := fun tb hm => by
  obtain ⟨a, b⟩ := h tb hm
  refine ⟨a, fun L hL => ?_⟩
  obtain ⟨K, x, y⟩ := b L hL
  refine ⟨K, false, y 0 _ ⟨fun o => ?_, rfl⟩, x, rfl⟩
  rcases (zm_go tb hp a).mpr o with z | z
  · exact h1 z
  · exact h2 z
theorem zxQ_x0 (h : zxX (zAll f n ok B) f n fr ha be lv qt cn cd) : zxX (zQue f n ok B) f n fr ha be lv qt cn cd := fun tb hm L hL => ⟨none, h tb hm L hL, Or.inl ⟨rfl, rfl⟩⟩
theorem zxY_q0 (h : zxS (zAll f n ok B) f n fr ha be lv qt cn cd fr' ha' be' lv' qt' cn' cd' P) : zxY (zQue f n ok B) (zQlp f n ok B) f n fr ha be lv qt cn cd fr' ha' be' lv' qt' cn' cd' := fun tb hm => by
  obtain ⟨a, b⟩ := h tb hm
  refine ⟨a, fun L hL => ?_⟩
  obtain ⟨K, pl, x, y, z⟩ := b L hL
  exact ⟨K, y, fun k r hr => ⟨_, x, Or.inr ⟨_, _, _, _, _, k, rfl, hr⟩⟩⟩
theorem zxY_qx (h : zxY (zQue f n ok B) (zQlp f n ok B) f n fr ha be lv qt cn cd p q r lv' qt' cn' cd') (hp : 0 ≤ p) (hs : q = 1 ∧ zSpm f p r 7 2) (k1 : zBl f n r c) (m1 : zMl f n c h1 b1) (hx : zxX (zAll f n ok B) f n c h1 b1 lv' qt' cn' cd') : zxX (zQue f n ok B) f n fr ha be lv qt cn cd := fun tb hm L hL => by
  obtain ⟨a, b⟩ := h tb hm
  obtain ⟨K, x, y⟩ := b L hL
  exact y 1 none ⟨r, c, none, (zm_or hp a).2 hs, k1, hx tb m1 K x, Or.inl ⟨rfl, rfl⟩⟩
theorem zxY_qs {n1 l1 t1 n2 l0 d2 : Int} {c1 cd2 : zqMs} (h : zxY (zQue f n ok B) (zQlp f n ok B) f n fr ha be lv qt cn cd p q r lv' qt' cn' cd') (hp : 0 ≤ p) (hs : q = 1 ∧ zSpm f p r 7 2) (k1 : zBl f n r c) (m1 : zMl f n c h1 b1) (hq : zxS (zAll f n ok B) f n c h1 b1 lv' qt' cn' cd' d2 h2 b2 l1 t1 n1 c1 P) (hmc : m = n1) (hx9 : x9 = cn' - 1) (hy9 : y9 = n1 - 1) (hN : zxN wh br wh' br' c1 cd2 m n1 n2 w l0 x9 y9) (hw : w = 9) (hl0 : l0 = 0) : zxY (zQue f n ok B) (zQlp f n ok B) f n fr ha be lv qt cn cd d2 h2 b2 l1 t1 n2 cd2 := fun tb hm => by
  obtain ⟨a, b⟩ := h tb hm
  obtain ⟨s1, s2⟩ := hq tb m1
  refine ⟨s1, fun L hL => ?_⟩
  obtain ⟨K, x, y⟩ := b L hL
  obtain ⟨K2, pl, z1, z2, z3⟩ := s2 K x
  subst hl0; subst hw
  exact ⟨_, hN.2.2.2 hmc (by decide) (by decide) (by decide) (by decide) K2 _ (zlb_m (by decide) (by decide)) (zlb_0 (by decide)) (fun o => by omega) (fun o => by omega) (fun _ => ⟨by rw [zlb_l (by decide) (by decide), hx9, x.1], hy9⟩) z2, fun k r' hr => y (k + 1) r' ⟨r, c, _, (zm_or hp a).2 hs, k1, z1, Or.inr ⟨_, _, _, _, _, rfl, hr⟩⟩⟩
theorem zxY_qe (h : zxY (zQue f n ok B) (zQlp f n ok B) f n fr ha be lv qt cn cd p q r lv' qt' cn' cd') (hp : 0 ≤ p) (h1 : ¬ (q = 1 ∧ zSpm f p r 7 2)) : zxS (zQue f n ok B) f n fr ha be lv qt cn cd p q r lv' qt' cn' cd' (fun pl => pl = false) := fun tb hm => by
  obtain ⟨a, b⟩ := h tb hm
  refine ⟨a, fun L hL => ?_⟩
  obtain ⟨K, x, y⟩ := b L hL
  exact ⟨K, false, y 0 _ ⟨fun o => h1 ((zm_or hp a).1.mpr o), rfl⟩, x, rfl⟩
theorem zxS_Du {D D' : Nat} {u9 : Int} (h : zxS (zUni f n (zokR D') (u9, zsbR f n D')) f n fr ha be lv qt cn cd fr' ha' be' lv' qt' cn' cd' P) (e : D' = D) : zxS (zUni f n (zokR D) (u9, zsbR f n D)) f n fr ha be lv qt cn cd fr' ha' be' lv' qt' cn' cd' P := by rw [← e]; exact h
theorem zxX_Du {D D' : Nat} {u9 : Int} (h : zxX (zUni f n (zokR D') (u9, zsbR f n D')) f n fr ha be lv qt cn cd) (e : D' = D) : zxX (zUni f n (zokR D) (u9, zsbR f n D)) f n fr ha be lv qt cn cd := by rw [← e]; exact h
theorem zxS_Dn {D D' : Nat} {u9 : Int} (h : zxS (zNot f n (zokR D') (u9, zsbR f n D')) f n fr ha be lv qt cn cd fr' ha' be' lv' qt' cn' cd' P) (e : D' = D) : zxS (zNot f n (zokR D) (u9, zsbR f n D)) f n fr ha be lv qt cn cd fr' ha' be' lv' qt' cn' cd' P := by rw [← e]; exact h
theorem zxX_Dn {D D' : Nat} {u9 : Int} (h : zxX (zNot f n (zokR D') (u9, zsbR f n D')) f n fr ha be lv qt cn cd) (e : D' = D) : zxX (zNot f n (zokR D) (u9, zsbR f n D)) f n fr ha be lv qt cn cd := by rw [← e]; exact h
theorem zxS_Da {D D' : Nat} {u9 : Int} (h : zxS (zAll f n (zokR D') (u9, zsbR f n D')) f n fr ha be lv qt cn cd fr' ha' be' lv' qt' cn' cd' P) (e : D' = D) : zxS (zAll f n (zokR D) (u9, zsbR f n D)) f n fr ha be lv qt cn cd fr' ha' be' lv' qt' cn' cd' P := by rw [← e]; exact h
theorem zxX_Da {D D' : Nat} {u9 : Int} (h : zxX (zAll f n (zokR D') (u9, zsbR f n D')) f n fr ha be lv qt cn cd) (e : D' = D) : zxX (zAll f n (zokR D) (u9, zsbR f n D)) f n fr ha be lv qt cn cd := by rw [← e]; exact h
def zxR (f : Nat → Int32) (n cn : Int) (cd : zqMs) : Prop := zqTy f n → ∃ K, zPar f n K ∧ zCm cd cn K
theorem zxR_x {D : Nat} {z0 z1 z2 z3 : Int} (hd : D = 12) (k1 : zBl f n z0 c) (e0 : z0 = 0) (m1 : zMl f n c h1 b1) (hx : zxX (zQry f n D 1) f n c h1 b1 z1 z2 z3 cd) (e1 : z1 = 0) (e2 : z2 = 0) (e3 : z3 = 0) (hc : cn' = 0) : zxR f n cn' cd' := fun tb => by
  subst e0; subst e1; subst e2; subst e3; subst hd
  exact ⟨[], ⟨c, none, k1, hx tb m1 [] (zCm_0 rfl), Or.inl ⟨rfl, rfl⟩⟩, zCm_0 hc⟩
theorem zxR_y {D : Nat} {z0 z1 z2 z3 n2 : Int} {cd2 : zqMs} (hd : D = 12) (k1 : zBl f n z0 c) (e0 : z0 = 0) (m1 : zMl f n c h1 b1) (hq : zxS (zQry f n D 1) f n c h1 b1 z1 z2 z3 cd p q r lv' qt' n2 cd2 P) (e1 : z1 = 0) (e2 : z2 = 0) (e3 : z3 = 0) (hp : 0 ≤ p) (hE : (q ≠ 0 ∧ cn' = 0) ∨ (q = 0 ∧ cn' = n2 ∧ cd' = cd2)) : zxR f n cn' cd' := fun tb => by
  subst e0; subst e1; subst e2; subst e3; subst hd
  obtain ⟨a, b⟩ := hq tb m1
  obtain ⟨K, pl, x, y, z⟩ := b [] (zCm_0 rfl)
  rcases hE with ⟨o1, o2⟩ | ⟨o1, o2, o3⟩
  · exact ⟨[], ⟨c, _, k1, x, Or.inr ⟨_, _, _, _, _, rfl, Or.inl ⟨fun o => o1 ((zm_end hp a).mpr o), rfl⟩⟩⟩, zCm_0 o2⟩
  · rw [o2, o3]
    exact ⟨K, ⟨c, _, k1, x, Or.inr ⟨_, _, _, _, _, rfl, Or.inr ⟨(zm_end hp a).mp o1, rfl⟩⟩⟩, y⟩
end ZU
def zWnt (s : Nat → Int64) (n : Int) (ss : Nat → Int64) (ns x r : Int) : Prop := zSrt s n → zSrt ss ns → (zHas ss ns x ∧ r = -2) ∨ (¬ zHas ss ns x ∧ ((¬ zHas s n x ∧ r = -3) ∨ (0 ≤ r ∧ r < n ∧ (s r.toNat).toInt = x)))
def zWnd (f : Nat → Int32) (n : Int) (s : Nat → Int64) (sn : Int) (ss : Nat → Int64) (ns p r : Int) : Prop := ∃ m : Nat, zRaw f n p m ∧ zWnt s sn ss ns (zWrd f p m) r
def zZc (f : Nat → Int32) (n : Int) (s : Nat → Int64) (sn : Int) (ss : Nat → Int64) (ns : Int) : Int → Int → Int → Int → (Nat → Int32) → Prop := fun k a lo hi ph =>
  (k = 1 → zWnd f n s sn ss ns a lo ∧ hi = lo + 1) ∧
  (k = 2 → ∃ m : Nat, zRaw f n a m ∧ zRk s sn (zpk (zLt f a) m 12) lo lo ∧ zRk s sn (zpk (zLt f a) m 12 + 37 ^ (12 - m)) hi hi) ∧
  (k = 3 → zSc f n a 34 ∧ ∃ c : Int, zQc f n (a + 1) c ∧ hi = lo + zqts f (a + 1) (c - (a + 1)).toNat ∧ ∀ j : Int, a + 1 ≤ j → j < c → zStt f n j → zWnd f n s sn ss ns j (ph (lo + zqts f (a + 1) (j - (a + 1)).toNat).toNat).toInt) ∧
  (k = 4 → zMkv f n a lo hi)
section ZZC
variable {f ph : Nat → Int32} {n sn ns a lo hi p x r r1 r2 e : Int} {s ss : Nat → Int64}
theorem zWnd_s (hw : ∃ m : Nat, zRaw f n p m ∧ x = zWrd f p m) (h1 : zRf ss ns x r1) (hr1 : r1 ≠ -1) (hr : r = -2) : zWnd f n s sn ss ns p r := by
  obtain ⟨m, w1, w2⟩ := hw
  refine ⟨m, w1, fun _ hs => Or.inl ⟨?_, hr⟩⟩
  have q := zRf_y h1 hs hr1
  rw [← w2]
  exact ⟨r1.toNat, by omega, q.2.2⟩
theorem zWnd_u (hw : ∃ m : Nat, zRaw f n p m ∧ x = zWrd f p m) (h1 : zRf ss ns x r1) (hr1 : r1 = -1) (h2 : zRf s sn x r2) (hr2 : r2 = -1) (hr : r = -3) : zWnd f n s sn ss ns p r := by
  obtain ⟨m, w1, w2⟩ := hw
  refine ⟨m, w1, fun hs hss => Or.inr ⟨?_, Or.inl ⟨?_, hr⟩⟩⟩
  · rw [← w2]; exact zRf_n h1 hss hr1
  · rw [← w2]; exact zRf_n h2 hs hr2
theorem zWnd_k (hw : ∃ m : Nat, zRaw f n p m ∧ x = zWrd f p m) (h1 : zRf ss ns x r1) (hr1 : r1 = -1) (h2 : zRf s sn x r) (hr2 : r ≠ -1) : zWnd f n s sn ss ns p r := by
  obtain ⟨m, w1, w2⟩ := hw
  refine ⟨m, w1, fun hs hss => Or.inr ⟨?_, Or.inr ?_⟩⟩
  · rw [← w2]; exact zRf_n h1 hss hr1
  · rw [← w2]; exact zRf_y h2 hs hr2
theorem zso9 {a2 : Nat → Int32} {l2 : Int} (h0 : 0 ≤ p) (b2 : 0 ≤ l2 ∧ l2 ≤ 12) (h1 : zRl f n p a2 l2) (h2 : l2 = 12 ∨ ¬ zIn f n (p + l2)) (h5 : zpV a2 l2 → r = zpk (fun k => (a2 k).toInt) l2.toNat 12) : ∃ m : Nat, zRaw f n p m ∧ l2 = (m : Int) ∧ r = zpk (zLt f p) m 12 := by
  have hr : zRaw f n p l2.toNat := ⟨by omega, fun k hk => (h1 k (by omega)).1, by
    rcases h2 with c | c
    · exact Or.inl (by omega)
    · exact Or.inr (by rw [show ((l2.toNat : Nat) : Int) = l2 from by omega]; exact c)⟩
  refine ⟨l2.toNat, hr, by omega, ?_⟩
  rw [h5 (fun k hk => by rw [(h1 k hk).2]; exact zLt_v (h1 k hk).1 h0)]
  exact zpk_c (fun k hk => (h1 k (by omega)).2) 12
def zBsI (w b i : Int) : Prop := 0 ≤ b → b ≤ 12 → b ≤ i ∧ i ≤ 12 ∧ w = 37 ^ (i - b).toNat
theorem zBsI_0 {w b i : Int} (hw : w = 1) (hi : i = b) : zBsI w b i := fun h0 h1 => by
  refine ⟨by omega, by omega, ?_⟩
  rw [hi, show (b - b).toNat = 0 from by omega, hw]
  rfl
theorem zp37 : ∀ i : Nat, i ≤ 12 → 1 ≤ (37 : Int) ^ i ∧ (37 : Int) ^ i ≤ 6582952005840035281 ∧ (i ≤ 11 → (37 : Int) ^ i ≤ 177917621779460413) := by decide
theorem zBsI_s {W Y : Int64} {b i i' : Int} (h : zBsI W.toInt b i) (e : Y = W * 37) (hi : i < 12) (ei : i' = i + 1) : zBsI Y.toInt b i' := fun h0 h1 => by
  obtain ⟨g1, g2, g3⟩ := h h0 h1
  by_cases c : (i - b).toNat ≤ 10
  · have q := zp37 (i - b).toNat (by omega)
    have q2 : (37 : Int) ^ (i - b).toNat ≤ 37 ^ 10 := by
      have key : ∀ i : Nat, i ≤ 10 → (37 : Int) ^ i ≤ 37 ^ 10 := by decide
      exact key _ c
    have q3 : (37 : Int) ^ 10 = 4808584372417849 := by decide
    have k := zLm e (by omega) (by omega)
    refine ⟨by omega, by omega, ?_⟩
    rw [k, g3, ei, show (i + 1 - b).toNat = (i - b).toNat + 1 from by omega, Int.pow_succ]
    omega
  · have c2 : (i - b).toNat = 11 := by omega
    rw [c2] at g3
    have q3 : (37 : Int) ^ 11 = 177917621779460413 := by decide
    have k : Y.toInt = 37 * W.toInt := by
      rw [e, Int64.toInt_mul, show (37 : Int64).toInt = 37 from by decide, zbm64 (by omega) (by omega)]
      omega
    refine ⟨by omega, by omega, ?_⟩
    rw [k, g3, ei, show (i + 1 - b).toNat = 11 + 1 from by omega, Int.pow_succ]
    omega
def zBsE (x b r : Int) : Prop := 0 ≤ b → b ≤ 12 → 0 ≤ x → x + 37 ^ (12 - b).toNat ≤ 6582952005840035281 → r = x + 37 ^ (12 - b).toNat
theorem zBsE_i {X W Y : Int64} {b i : Int} (h : zBsI W.toInt b i) (hi : 12 ≤ i) (e : Y = X + W) : zBsE X.toInt b Y.toInt := fun h0 h1 h2 h3 => by
  obtain ⟨g1, g2, g3⟩ := h h0 h1
  have ei : i = 12 := by omega
  subst ei
  have q := zp37 (12 - b).toNat (by omega)
  rw [e, Int64.toInt_add, zbm64 (by omega) (by omega), g3]
theorem zpk_z {L : Nat → Int} {m : Nat} : ∀ j : Nat, zpk L m (m + j) = zpk L m m * 37 ^ j := by
  intro j
  induction j with
  | zero => rw [Int.pow_zero, Int.mul_one]; rfl
  | succ j ih =>
    show 37 * zpk L m (m + j) + (if m + j < m then zdt (L (m + j)) else 0) = _
    rw [if_neg (by omega), ih, Int.pow_succ, Int.add_zero, Int.mul_comm 37 _, Int.mul_assoc]
theorem zpk_w {L : Nat → Int} {m : Nat} (h : ∀ k, k < m → zVl (L k)) (hm : m ≤ 12) : zpk L m 12 + 37 ^ (12 - m) ≤ 37 ^ 12 := by
  have q := zpk_u h m
  have e : zpk L m 12 = zpk L m m * 37 ^ (12 - m) := by
    have z := zpk_z (L := L) (m := m) (12 - m)
    rw [show m + (12 - m) = 12 from by omega] at z
    exact z
  have p : (37 : Int) ^ 12 = 37 ^ m * 37 ^ (12 - m) := by rw [← Int.pow_add, show m + (12 - m) = 12 from by omega]
  have pos : (0 : Int) ≤ 37 ^ (12 - m) := by have := (zp37 (12 - m) (by omega)).1; omega
  have k : (zpk L m m + 1) * (37 : Int) ^ (12 - m) ≤ 37 ^ m * 37 ^ (12 - m) := Int.mul_le_mul_of_nonneg_right (by omega) pos
  rw [Int.add_mul, Int.one_mul] at k
  rw [e, p]
  exact k
theorem zZc_1 (ea : e / 1000000 % 1000 = a) (h : zWnd f n s sn ss ns a lo) (hh : hi = lo + 1) : zZc f n s sn ss ns 1 (e / 1000000 % 1000) lo hi ph := by
  rw [ea]
  exact ⟨fun _ => ⟨h, hh⟩, fun q => absurd q (by decide), fun q => absurd q (by decide), fun q => absurd q (by decide)⟩
theorem zZc_2 {L K X Y : Int} (ea : e / 1000000 % 1000 = a) (a0 : 0 ≤ a) (hS : ∃ m : Nat, zRaw f n a m ∧ L = (m : Int) ∧ X = zpk (zLt f a) m 12) (hk : K = L) (hb : zBsE X K Y) (h1 : zRk s sn X lo lo) (h2 : zRk s sn Y hi hi) : zZc f n s sn ss ns 2 (e / 1000000 % 1000) lo hi ph := by
  rw [ea]
  refine ⟨fun q => absurd q (by decide), fun _ => ?_, fun q => absurd q (by decide), fun q => absurd q (by decide)⟩
  obtain ⟨m, m1, m2, m3⟩ := hS
  have mv : ∀ k, k < m → zVl (zLt f a k) := fun k hk => zLt_v (m1.2.1 k hk) a0
  have w := zpk_w mv m1.1
  have b := zpk_b mv 12
  have e12 : (37 : Int) ^ 12 = 6582952005840035281 := by decide
  have ek : (12 - K).toNat = 12 - m := by have := m1.1; omega
  have y := hb (by omega) (by have := m1.1; omega) (by omega) (by rw [ek, m3, ← e12]; exact w)
  rw [ek, m3] at y
  rw [m3] at h1
  rw [y] at h2
  exact ⟨m, m1, h1, h2⟩
theorem zZc_4 {v w : Int} (ea : e / 1000000 % 1000 = a) (h : zMkv f n a v w) : zZc f n s sn ss ns 4 (e / 1000000 % 1000) v w ph := by
  rw [ea]
  exact ⟨fun q => absurd q (by decide), fun q => absurd q (by decide), fun q => absurd q (by decide), fun _ => h⟩
end ZZC
theorem zan1 {x y : Int32} (e : y = x &&& 1) (h0 : 0 ≤ x.toInt) (h3 : x.toInt ≤ 3) : y.toInt = x.toInt % 2 := by
  have : x = 0 ∨ x = 1 ∨ x = 2 ∨ x = 3 := by
    have : x.toInt = 0 ∨ x.toInt = 1 ∨ x.toInt = 2 ∨ x.toInt = 3 := by omega
    rcases this with c | c | c | c
    · exact Or.inl (zeqi.mpr (c.trans (by decide)))
    · exact Or.inr (Or.inl (zeqi.mpr (c.trans (by decide))))
    · exact Or.inr (Or.inr (Or.inl (zeqi.mpr (c.trans (by decide)))))
    · exact Or.inr (Or.inr (Or.inr (zeqi.mpr (c.trans (by decide)))))
  rcases this with c | c | c | c <;> (rw [e, c]; decide)
theorem zan2 {x y : Int32} (e : y = x &&& 2) (h0 : 0 ≤ x.toInt) (h3 : x.toInt ≤ 3) : y.toInt = 2 * (x.toInt / 2) := by
  have : x = 0 ∨ x = 1 ∨ x = 2 ∨ x = 3 := by
    have : x.toInt = 0 ∨ x.toInt = 1 ∨ x.toInt = 2 ∨ x.toInt = 3 := by omega
    rcases this with c | c | c | c
    · exact Or.inl (zeqi.mpr (c.trans (by decide)))
    · exact Or.inr (Or.inl (zeqi.mpr (c.trans (by decide))))
    · exact Or.inr (Or.inr (Or.inl (zeqi.mpr (c.trans (by decide)))))
    · exact Or.inr (Or.inr (Or.inr (zeqi.mpr (c.trans (by decide)))))
  rcases this with c | c | c | c <;> (rw [e, c]; decide)
theorem zAl_c {A A' : Nat → Nat → Int32} {lv lv' pw n n' k lo hi sd k' lo' hi' ct ct' : Int} (h : zAl A A' lv lv' pw n n' k lo hi sd ct) (ek : k' = k) (el : lo' = lo) (eh : hi' = hi) (ec : ct' = ct) : zAl A A' lv lv' pw n n' k' lo' hi' sd ct' := by rw [ek, el, eh, ec]; exact h
def zPhJ (f : Nat → Int32) (n : Int) (s : Nat → Int64) (sn : Int) (ss : Nat → Int64) (ns so0 st0 be0 fa0 dn0 lv0 qt0 at1 so : Int) (ph : Nat → Int32) : Prop := zqTy f n → zqW f n so0 st0 be0 fa0 dn0 → so0 = 34 → ¬ zyB so0 dn0 → lv0 < 40 → so = 34 → ∀ j : Int, st0 + 1 ≤ j → j < at1 → zStt f n j → zWnd f n s sn ss ns j (ph (qt0 + zqts f (st0 + 1) (j - (st0 + 1)).toNat).toNat).toInt
def zPhC (A A' : Nat → Nat → Int32) (lv qt qt' ln : Int) : Prop := ∀ (Z : Int → Int → Int → Int → (Nat → Int32) → Prop) (L : List Int), zCe (A, lv, qt, Z) ln L → zCe (A', lv, qt', Z) ln L
section ZPJ
variable {f ph ph' : Nat → Int32} {n sn ns so0 st0 be0 fa0 dn0 lv0 qt0 at1 at2 so so1 fa qt qt' r : Int} {s ss : Nat → Int64}
theorem zPhJ_b (tb : zqTy f n) (hW : zqW f n so0 st0 be0 fa0 dn0) (h0 : so0 = 34) (hb : ¬ zyB so0 dn0) : be0 = st0 + 1 := by
  have g := zyB_n.mp hb
  obtain ⟨_, _, _, q1, _, q3⟩ := zW_g hW g.1
  exact (zSc_y tb q1 q3 h0 (by decide) (by decide) (by decide) (by unfold zTok; omega)).2
theorem zPhJ_0 (ha : at1 = be0) : zPhJ f n s sn ss ns so0 st0 be0 fa0 dn0 lv0 qt0 at1 so ph := fun tb hW h0 hb0 hl hs j j1 j2 j3 => by
  have := zPhJ_b tb hW h0 hb0
  omega
theorem zPhJ_n (g : zPhJ f n s sn ss ns so0 st0 be0 fa0 dn0 lv0 qt0 at1 so ph) (hn : ¬ zStt f n at1) (ea : at2 = at1 + 1) : zPhJ f n s sn ss ns so0 st0 be0 fa0 dn0 lv0 qt0 at2 so ph := fun tb hW h0 hb hl hs j j1 j2 j3 => by
  by_cases c : j < at1
  · exact g tb hW h0 hb hl hs j j1 c j3
  · rw [show j = at1 from by omega] at j3
    exact absurd j3 hn
theorem zPhJ_x (hs : so ≠ 34) : zPhJ f n s sn ss ns so0 st0 be0 fa0 dn0 lv0 qt0 at1 so ph := fun _ _ _ _ _ q => absurd q hs
theorem zPhJ_s {V X : Int32} (g : zPhJ f n s sn ss ns so0 st0 be0 fa0 dn0 lv0 qt0 at1 so ph) (h : zyF f n so0 st0 be0 fa0 dn0 lv0 qt0 at1 so fa qt) (hn : at1 < n) (h6 : n ≤ 600) (hst : zStt f n at1) (hw : 0 ≤ at1 → at1 ≤ 600 → zWnd f n s sn ss ns at1 X.toInt) (ep : ph' = upd ph V.toNatClampNeg X) (hV : V.toInt = qt) (hq : 0 ≤ qt0) (ea : at2 = at1 + 1) : zPhJ f n s sn ss ns so0 st0 be0 fa0 dn0 lv0 qt0 at2 so ph' := fun tb hW h0 hb hl hs j j1 j2 j3 => by
  obtain ⟨_, _, _, h3⟩ := h tb hW h0
  have qV : V.toNatClampNeg = V.toInt.toNat := rfl
  rcases h3 hb hl with x | ⟨x1, x2, x3, x4, x5⟩
  · omega
  have pos : ∀ k : Nat, 0 ≤ zqts f (st0 + 1) k := fun k => by
    have m := zts_m (f := f) (p := st0 + 1) (k := 0) (j := k)
    rw [Nat.zero_add] at m
    exact m
  by_cases c : j < at1
  · have k := g tb hW h0 hb hl hs j j1 c j3
    have t1 := (zyF_t1 tb hW h0 hb j1 (by omega)).1 j3
    have m := zts_m (f := f) (p := st0 + 1) (k := (j + 1 - (st0 + 1)).toNat) (j := (at1 - (j + 1)).toNat)
    rw [show (j + 1 - (st0 + 1)).toNat + (at1 - (j + 1)).toNat = (at1 - (st0 + 1)).toNat from by omega] at m
    have p := pos (j - (st0 + 1)).toNat
    rw [ep, pk_un (by omega)]
    exact k
  · have ej : j = at1 := by omega
    subst ej
    have p := pos (j - (st0 + 1)).toNat
    rw [ep, show (qt0 + zqts f (st0 + 1) (j - (st0 + 1)).toNat).toNat = V.toNatClampNeg from by omega, pk_us]
    have w0 : 0 ≤ st0 := by
      rcases hW with w | ⟨_, _, _, _, w, _⟩
      · omega
      · exact w
    exact hw (by omega) (by omega)
theorem zPhC_0 {A : Nat → Nat → Int32} {lv qt ln : Int} : zPhC A A lv qt qt ln := fun _ _ h => h
theorem zPhC_s {A : Nat → Nat → Int32} {a b c d e g g' j9 : Nat → Int32} {lv q0 qt qt' ln : Int} {V X : Int32} (h : zPhC A (zqa a b c d e g j9) lv q0 qt ln) (eg : g' = upd g V.toNatClampNeg X) (hV : V.toInt = qt) (h0 : 0 ≤ qt) (hq : qt' = qt + 1) : zPhC A (zqa a b c d e g' j9) lv q0 qt' ln := fun Z L hL => zCe_p (h Z L hL) eg hV h0 hq
theorem zZc_3 {a lo hi e : Int} (ea : e / 1000000 % 1000 = a) {c : Int} (hq : zSc f n a 34) (h1 : zQc f n (a + 1) c) (h2 : hi = lo + zqts f (a + 1) (c - (a + 1)).toNat) (h3 : ∀ j : Int, a + 1 ≤ j → j < c → zStt f n j → zWnd f n s sn ss ns j (ph (lo + zqts f (a + 1) (j - (a + 1)).toNat).toNat).toInt) (l0 : 0 ≤ lo) (a0 : 0 ≤ a) (hm : ∀ j : Int, a + 1 ≤ j → j < c → zStt f n j → lo ≤ lo + zqts f (a + 1) (j - (a + 1)).toNat ∧ lo + zqts f (a + 1) (j - (a + 1)).toNat < hi) (hp : (3 : Int) = 3 → ∀ j : Nat, lo ≤ (j : Int) → (j : Int) < hi → ph' j = ph j) : zZc f n s sn ss ns 3 (e / 1000000 % 1000) lo hi ph' := by
  rw [ea]
  refine ⟨fun q => absurd q (by decide), fun q => absurd q (by decide), fun _ => ⟨hq, c, h1, h2, fun j j1 j2 j3 => ?_⟩, fun q => absurd q (by decide)⟩
  have k := hm j j1 j2 j3
  rw [hp rfl _ (by omega) (by omega)]
  exact h3 j j1 j2 j3
theorem zPh_i {A : Nat → Nat → Int32} {a b c d e g j9 : Nat → Int32} {A' : Nat → Nat → Int32} {ln ln' lv' sd u : Int} (hc : zPhC A (zqa a b c d e g j9) lv0 qt0 qt ln) (hl : lv0 < 40 → zAl (zqa a b c d e g j9) A' lv0 lv' qt ln ln' 3 qt0 qt sd (zu0 u)) (hj : zPhJ f n s sn ss ns so0 st0 be0 fa0 dn0 lv0 qt0 at1 so g) (h0 : so0 = 34) (hs : so = 34) (q0 : 0 ≤ qt0) (l0 : 0 ≤ lv0) (s0 : 0 ≤ sd) (h6 : n ≤ 600) : zqTy f n → zqW f n so0 st0 be0 fa0 dn0 → ¬ zyB so0 dn0 → lv0 < 40 → qt = qt0 + zqts f (st0 + 1) (at1 - (st0 + 1)).toNat → zQc f n (st0 + 1) at1 → ∀ L : List Int, zCe (A, lv0, qt0, zZc f n s sn ss ns) ln L → ln < 270 → zCe (A', lv', qt, zZc f n s sn ss ns) ln' (L ++ [zlc 3 lv0 st0 (sd + 4 * zu0 u)]) := fun tb hW hb l4 hq hQ L hL hn => by
  have g1 := zyB_n.mp hb
  obtain ⟨_, _, _, p1, p2, p3⟩ := zW_g hW g1.1
  have pos : ∀ k : Nat, 0 ≤ zqts f (st0 + 1) k := fun k => by
    have m := zts_m (f := f) (p := st0 + 1) (k := 0) (j := k)
    rw [Nat.zero_add] at m
    exact m
  have pa := pos (at1 - (st0 + 1)).toNat
  refine hl l4 _ L _ (zlc_m (by omega) (by omega)) (zlc_0 (by omega) p1 (zu0_s s0)) (zlc_s (by omega) (by omega) p1 (by omega)) (fun _ => ⟨q0, by omega⟩) (fun ph1 hp => ?_) (hc _ L hL) hn l4
  refine zZc_3 (zlc_a (by omega) (by omega) p1 (by omega)) (zSc_y tb p1 p3 h0 (by decide) (by decide) (by decide) (by unfold zTok; omega)).1 hQ hq (hj tb hW h0 hb l4 hs) q0 p1 (fun j j1 j2 j3 => ?_) hp
  have t1 := (zyF_t1 tb hW h0 hb j1 (by have := hQ.2.1; omega)).1 j3
  have m := zts_m (f := f) (p := st0 + 1) (k := (j + 1 - (st0 + 1)).toNat) (j := (at1 - (j + 1)).toNat)
  rw [show (j + 1 - (st0 + 1)).toNat + (at1 - (j + 1)).toNat = (at1 - (st0 + 1)).toNat from by omega] at m
  have p := pos (j - (st0 + 1)).toNat
  omega
end ZPJ
def zWdl (f : Nat → Int32) (n p : Int) (wd ws : Nat → Int32) (j : Int) : Prop := ∃ m : Nat, zRaw f n p m ∧ (ws j.toNat).toInt = (zshm (zLt f p) m : Int) ∧ ∀ k : Nat, k < zshm (zLt f p) m → (wd (12 * j.toNat + k)).toInt = zshl (zLt f p) m k
def zWdq (f : Nat → Int32) (n p : Int) (wd ws : Nat → Int32) (j : Int) : Prop := ∃ m : Nat, zRaw f n p m ∧ (ws j.toNat).toInt = (m : Int) ∧ ∀ k : Nat, k < m → (wd (12 * j.toNat + k)).toInt = zLt f p k
def zWmq (f : Nat → Int32) (n : Int) : Int → Int → (Nat → Int32) → (Nat → Int32) → Int → Int → Int → Prop := fun k a wd ws fr mn to =>
  (k = 1 → mn = 1 ∧ zWdl f n a wd ws fr) ∧ (k = 2 → mn = 1 ∧ zWdq f n a wd ws fr) ∧
  (k = 3 → ∃ c : Int, zQc f n (a + 1) c ∧ mn = zqts f (a + 1) (c - (a + 1)).toNat ∧ ∀ j : Int, a + 1 ≤ j → j < c → zStt f n j → zWdl f n j wd ws (fr + zqts f (a + 1) (j - (a + 1)).toNat)) ∧
  (k = 4 → zMkv f n a fr to)
def zWnw (f : Nat → Int32) (n p : Int) (w : Nat → Int32) (sz : Int) : Prop := ∃ m : Nat, zRaw f n p m ∧ sz = (zshm (zLt f p) m : Int) ∧ ∀ k : Nat, k < zshm (zLt f p) m → (w k).toInt = zshl (zLt f p) m k
def zWnq (f : Nat → Int32) (n p : Int) (w : Nat → Int32) (sz : Int) : Prop := ∃ m : Nat, zRaw f n p m ∧ sz = (m : Int) ∧ ∀ k : Nat, k < m → (w k).toInt = zLt f p k
section ZWM
variable {f w wd wd' ws ws' : Nat → Int32} {n p q sz wn : Int}
theorem zRaw_i {m : Nat} (hp : 0 ≤ p) (hn : p < n) (hr : zqRe f n p q) (h1 : p + m ≤ q) (h2 : m ≤ 12) (h3 : m = 12 ∨ p + m = q) : zRaw f n p m := by
  obtain ⟨r1, r2, r3, r4⟩ := hr
  refine ⟨h2, fun k hk => ⟨by omega, by omega, ?_⟩, ?_⟩
  · have t := r2 (p.toNat + k) (by omega) (by omega)
    rw [show (p + (k : Int)).toNat = p.toNat + k from by omega]
    exact t
  · rcases h3 with c | c
    · exact Or.inl c
    · refine Or.inr (fun o => ?_)
      rw [c] at o
      exact r3 o.2.1 o.2.2
theorem zWnw_i (h : zMw f p q w sz) (hp : 0 ≤ p) (hn : p < n) (hr : zqRe f n p q) : zWnw f n p w sz := by
  obtain ⟨m, a1, a2, a3, a4, a5⟩ := h hr.2.1 hp hr.1
  exact ⟨m, zRaw_i hp hn hr a1 a2 a3, a4, a5⟩
theorem zWnq_i (h : zTkb f p q w sz) (hp : 0 ≤ p) (hn : p < n) (hr : zqRe f n p q) (h0 : 0 ≤ sz) (h2 : sz ≤ 12) (hz : p ≤ q → (sz = 12 ∨ p + sz = q) ∧ p + sz ≤ q) : zWnq f n p w sz := by
  obtain ⟨c1, c2⟩ := hz hr.1
  exact ⟨sz.toNat, zRaw_i hp hn hr (by omega) (by omega) (by omega), by omega, fun k hk => h hr.2.1 k (by omega)⟩
theorem zWdl_i {V S : Int32} (h : zWnw f n p w sz) (hp : 0 ≤ p) (hc : zC wd wd' w (12 * wn) sz) (hs : ws' = upd ws V.toNatClampNeg S) (hV : V.toInt = wn) (hS : S.toInt = sz) (h0 : 0 ≤ wn) : zWdl f n p wd' ws' wn := by
  obtain ⟨m, m1, m2, m3⟩ := h
  have qV : V.toNatClampNeg = wn.toNat := by rw [← hV]; rfl
  refine ⟨m, m1, ?_, fun k hk => ?_⟩
  · rw [hs, qV, pk_us, hS]; exact m2
  · have hv : ∀ k, k < m → zVl (zLt f p k) := fun k hk => zLt_v (m1.2.1 k hk) hp
    have v : zVl (w k).toInt := by rw [m3 k hk]; exact zsh_v hv k hk
    have c := hc.2 k (by omega) v
    rw [show 12 * wn.toNat + k = (12 * wn).toNat + k from by omega, c]
    exact m3 k hk
theorem zWdq_i {V S : Int32} (h : zWnq f n p w sz) (hp : 0 ≤ p) (hc : zC wd wd' w (12 * wn) sz) (hs : ws' = upd ws V.toNatClampNeg S) (hV : V.toInt = wn) (hS : S.toInt = sz) (h0 : 0 ≤ wn) : zWdq f n p wd' ws' wn := by
  obtain ⟨m, m1, m2, m3⟩ := h
  have qV : V.toNatClampNeg = wn.toNat := by rw [← hV]; rfl
  refine ⟨m, m1, ?_, fun k hk => ?_⟩
  · rw [hs, qV, pk_us, hS]; exact m2
  · have v : zVl (w k).toInt := by rw [m3 k hk]; exact zLt_v (m1.2.1 k hk) hp
    have c := hc.2 k (by omega) v
    rw [show 12 * wn.toNat + k = (12 * wn).toNat + k from by omega, c]
    exact m3 k hk
theorem zWdl_k {j : Int} (h : zWdl f n p wd ws j) (hs : ws' j.toNat = ws j.toNat) (hw : ∀ i : Nat, i < 12 → wd' (12 * j.toNat + i) = wd (12 * j.toNat + i)) : zWdl f n p wd' ws' j := by
  obtain ⟨m, m1, m2, m3⟩ := h
  refine ⟨m, m1, by rw [hs]; exact m2, fun k hk => ?_⟩
  have q := zshm_le (L := zLt f p) (m := m)
  have q2 := m1.1
  rw [hw k (by omega)]
  exact m3 k hk
theorem zWdq_k {j : Int} (h : zWdq f n p wd ws j) (hs : ws' j.toNat = ws j.toNat) (hw : ∀ i : Nat, i < 12 → wd' (12 * j.toNat + i) = wd (12 * j.toNat + i)) : zWdq f n p wd' ws' j := by
  obtain ⟨m, m1, m2, m3⟩ := h
  refine ⟨m, m1, by rw [hs]; exact m2, fun k hk => ?_⟩
  have q2 := m1.1
  rw [hw k (by omega)]
  exact m3 k hk
theorem zLmk_i {A : Nat → Nat → Int32} {lv lv' wn k a sd : Int} {W : Int → Int → (Nat → Int32) → (Nat → Int32) → Int → Int → Int → Prop} (l0 : 0 ≤ lv) (l4 : lv < 40) (hl : lv' = lv + 1) (k1 : 1 ≤ k) (k4 : k ≤ 4) (a0 : 0 ≤ a) (a1 : a < 1000) (hw : (A 5 lv.toNat).toInt = k) (hf : k ≠ 4 → 0 ≤ (A 6 lv.toNat).toInt ∧ (A 6 lv.toNat).toInt + (A 7 lv.toNat).toInt ≤ wn) (hW : ∀ wd ws : Nat → Int32, (k ≠ 4 → zWag (A, lv', wn, W) (A 6 lv.toNat).toInt (A 7 lv.toNat).toInt wd ws) → W k a wd ws (A 6 lv.toNat).toInt (A 7 lv.toNat).toInt (A 8 lv.toNat).toInt) : zLmk (A, lv', wn, W) (zlc k lv a sd) := by
  have e1 : zlc k lv a sd % 1000 = lv := by unfold zlc; omega
  have e2 : zlc k lv a sd / 1000 % 1000 = k := by unfold zlc; omega
  have e3 := zlc_a (k := k) (lv := lv) (a := a) (sd := sd) (by omega) (by omega) a0 a1
  unfold zLmk
  rw [e1, e2, e3]
  exact ⟨show lv < lv' by omega, hw, hf, hW⟩
theorem zMch_i {a0 a1 a2 a3 a4 a5 a6 a7 a8 a5' a6' a7' a8' : Nat → Int32} {lv lv' wn' : Int} {W : Int → Int → (Nat → Int32) → (Nat → Int32) → Int → Int → Int → Prop} (h5 : ∀ j : Nat, (j : Int) < lv → a5' j = a5 j) (h6 : ∀ j : Nat, (j : Int) < lv → a6' j = a6 j) (h7 : ∀ j : Nat, (j : Int) < lv → a7' j = a7 j) (h8 : ∀ j : Nat, (j : Int) < lv → a8' j = a8 j) (h9 : ∀ i : Nat, (i : Int) < 12 * wn → wd' i = wd i) (h10 : ∀ j : Nat, (j : Int) < wn → ws' j = ws j) (hl : lv ≤ lv') (hw : wn ≤ wn') : zMch (zma a0 a1 a2 a3 a4 a5 a6 a7 a8 wd ws, lv, wn, W) (zma a0 a1 a2 a3 a4 a5' a6' a7' a8' wd' ws', lv', wn', W) :=
  ⟨rfl, rfl, rfl, rfl, rfl, fun j hj => ⟨h5 j hj, h6 j hj, h7 j hj, h8 j hj⟩, fun j hj => ⟨h10 j hj, fun i hi => h9 _ (by have hj' : (j : Int) < wn := hj; omega)⟩, hl, hw, rfl⟩
theorem zup_k {a a' : Nat → Int32} {V X : Int32} {lv : Int} (e : a' = upd a V.toNatClampNeg X) (hV : V.toInt = lv) (h0 : 0 ≤ lv) : ∀ j : Nat, (j : Int) < lv → a' j = a j := fun j hj => by
  have qV : V.toNatClampNeg = lv.toNat := by rw [← hV]; rfl
  rw [e, pk_un (by omega)]
theorem zup_t {a b c : Nat → Int32} {lv : Int} (h1 : ∀ j : Nat, (j : Int) < lv → b j = a j) (h2 : ∀ j : Nat, (j : Int) < lv → c j = b j) : ∀ j : Nat, (j : Int) < lv → c j = a j := fun j hj => (h2 j hj).trans (h1 j hj)
theorem zup_r {a : Nat → Int32} {lv : Int} : ∀ j : Nat, (j : Int) < lv → a j = a j := fun _ _ => rfl
theorem zC_k (hc : zC wd wd' w (12 * wn) sz) : ∀ i : Nat, (i : Int) < 12 * wn → wd' i = wd i := fun i hi => hc.1 i (by omega)
theorem zL_1 {A : Nat → Nat → Int32} {lv lv' wn2 a sd F : Int} (l0 : 0 ≤ lv) (l4 : lv < 40) (hl : lv' = lv + 1) (a0 : 0 ≤ a) (a1 : a < 1000) (hw : (A 5 lv.toNat).toInt = 1) (hf : (A 6 lv.toNat).toInt = F) (hm : (A 7 lv.toNat).toInt = 1) (f0 : 0 ≤ F) (f1 : F + 1 ≤ wn2) (hd : zWdl f n a (A 9) (A 10) F) : zLmk (A, lv', wn2, zWmq f n) (zlc 1 lv a sd) := by
  refine zLmk_i l0 l4 hl (by decide) (by decide) a0 a1 hw (fun _ => ⟨by omega, by omega⟩) (fun wd ws hg => ⟨fun _ => ⟨hm, ?_⟩, fun q => absurd q (by decide), fun q => absurd q (by decide), fun q => absurd q (by decide)⟩)
  have g := hg (by decide) F.toNat (by omega) (by omega)
  rw [hf]
  exact zWdl_k hd g.1 g.2
theorem zL_2 {A : Nat → Nat → Int32} {lv lv' wn2 a sd F : Int} (l0 : 0 ≤ lv) (l4 : lv < 40) (hl : lv' = lv + 1) (a0 : 0 ≤ a) (a1 : a < 1000) (hw : (A 5 lv.toNat).toInt = 2) (hf : (A 6 lv.toNat).toInt = F) (hm : (A 7 lv.toNat).toInt = 1) (f0 : 0 ≤ F) (f1 : F + 1 ≤ wn2) (hd : zWdq f n a (A 9) (A 10) F) : zLmk (A, lv', wn2, zWmq f n) (zlc 2 lv a sd) := by
  refine zLmk_i l0 l4 hl (by decide) (by decide) a0 a1 hw (fun _ => ⟨by omega, by omega⟩) (fun wd ws hg => ⟨fun q => absurd q (by decide), fun _ => ⟨hm, ?_⟩, fun q => absurd q (by decide), fun q => absurd q (by decide)⟩)
  have g := hg (by decide) F.toNat (by omega) (by omega)
  rw [hf]
  exact zWdq_k hd g.1 g.2
theorem zL_4 {A : Nat → Nat → Int32} {lv lv' wn2 a F T : Int} (l0 : 0 ≤ lv) (l4 : lv < 40) (hl : lv' = lv + 1) (a0 : 0 ≤ a) (a1 : a < 1000) (hw : (A 5 lv.toNat).toInt = 4) (hf : (A 6 lv.toNat).toInt = F) (ht : (A 8 lv.toNat).toInt = T) (hd : zMkv f n a F T) : zLmk (A, lv', wn2, zWmq f n) (zlc 4 lv a 0) := by
  refine zLmk_i l0 l4 hl (by decide) (by decide) a0 a1 hw (fun q => absurd rfl q) (fun wd ws hg => ⟨fun q => absurd q (by decide), fun q => absurd q (by decide), fun q => absurd q (by decide), fun _ => ?_⟩)
  rw [hf, ht]
  exact hd
theorem zL_3 {A : Nat → Nat → Int32} {lv lv' wn2 a sd F M c : Int} (l0 : 0 ≤ lv) (l4 : lv < 40) (hl : lv' = lv + 1) (a0 : 0 ≤ a) (a1 : a < 1000) (hw : (A 5 lv.toNat).toInt = 3) (hf : (A 6 lv.toNat).toInt = F) (hm : (A 7 lv.toNat).toInt = M) (f0 : 0 ≤ F) (f1 : F + M ≤ wn2) (hQ : zQc f n (a + 1) c) (hM : M = zqts f (a + 1) (c - (a + 1)).toNat) (hd : ∀ j : Int, a + 1 ≤ j → j < c → zStt f n j → 0 ≤ zqts f (a + 1) (j - (a + 1)).toNat ∧ zqts f (a + 1) (j - (a + 1)).toNat < M ∧ zWdl f n j (A 9) (A 10) (F + zqts f (a + 1) (j - (a + 1)).toNat)) : zLmk (A, lv', wn2, zWmq f n) (zlc 3 lv a sd) := by
  refine zLmk_i l0 l4 hl (by decide) (by decide) a0 a1 hw (fun _ => ⟨by omega, by omega⟩) (fun wd ws hg => ⟨fun q => absurd q (by decide), fun q => absurd q (by decide), fun _ => ⟨c, hQ, by rw [hm]; exact hM, fun j j1 j2 j3 => ?_⟩, fun q => absurd q (by decide)⟩)
  obtain ⟨d1, d2, d3⟩ := hd j j1 j2 j3
  rw [hf]
  have g := hg (by decide) (F + zqts f (a + 1) (j - (a + 1)).toNat).toNat (by omega) (by omega)
  exact zWdl_k d3 g.1 g.2
def zPhR (f : Nat → Int32) (n p k wn : Int) (wd ws wd0 ws0 : Nat → Int32) (c : Int) : Prop := (∀ i : Nat, (i : Int) < 12 * wn → wd i = wd0 i) ∧ (∀ j : Nat, (j : Int) < wn → ws j = ws0 j) ∧ ∀ j : Int, p ≤ j → j < k → zStt f n j → 0 ≤ zqts f p (j - p).toNat ∧ zqts f p (j - p).toNat < c ∧ zWdl f n j wd ws (wn + zqts f p (j - p).toNat)
theorem zts_p {p : Int} {k : Nat} : 0 ≤ zqts f p k := by
  have m := zts_m (f := f) (p := p) (k := 0) (j := k)
  rw [Nat.zero_add] at m
  exact m
variable {wd0 ws0 : Nat → Int32} {k k' c c' qt0 qt : Int}
theorem zPhR_0 (hk : k = p) : zPhR f n p k wn wd ws wd ws c := ⟨fun _ _ => rfl, fun _ _ => rfl, fun j j1 j2 => by omega⟩
theorem zPhR_n {K y : Int32} (g : zPhR f n p K.toInt wn wd ws wd0 ws0 c) (e : y = f K.toNatClampNeg) (hy : ¬ zTok y.toInt) (hk : k' = K.toInt + 1) : zPhR f n p k' wn wd ws wd0 ws0 c := by
  obtain ⟨g1, g2, g3⟩ := g
  refine ⟨g1, g2, fun j j1 j2 j3 => ?_⟩
  by_cases c : j < K.toInt
  · exact g3 j j1 c j3
  · have q : K.toNatClampNeg = K.toInt.toNat := rfl
    have t := j3.1.2.2
    rw [show j = K.toInt from by omega, ← q, ← e] at t
    exact absurd t hy
theorem zPhR_t {K V S : Int32} (g : zPhR f n p K.toInt wn wd ws wd0 ws0 c) (hx : zxF f n p K.toInt c qt0 qt) (hp : 0 ≤ p) (hn : K.toInt < n) (hr : zqRe f n K.toInt k') (h : zWnw f n K.toInt w sz) (hc : zC wd wd' w (12 * V.toInt) sz) (hs : ws' = upd ws V.toNatClampNeg S) (hV : V.toInt = wn + c) (hS : S.toInt = sz) (w0 : 0 ≤ wn) (hcc : c' = c + 1) : zPhR f n p k' wn wd' ws' wd0 ws0 c' := by
  obtain ⟨g1, g2, g3⟩ := g
  obtain ⟨x1, x2, x3, x4, x5, x6⟩ := hx
  obtain ⟨r1, r2, r3, r4⟩ := hr
  have c0 : 0 ≤ c := by rw [x4]; exact zts_p
  have qV : V.toNatClampNeg = V.toInt.toNat := rfl
  refine ⟨fun i hi => (hc.1 i (by omega)).trans (g1 i hi), fun j hj => ?_, fun j j1 j2 j3 => ?_⟩
  · rw [hs, pk_un (by omega)]; exact g2 j hj
  · by_cases d : j < K.toInt
    · obtain ⟨a1, a2, a3⟩ := g3 j j1 d j3
      refine ⟨a1, by omega, zWdl_k a3 ?_ (fun i hi => hc.1 _ (by omega))⟩
      rw [hs, pk_un (by omega)]
    · by_cases e : j = K.toInt
      · subst e
        rw [← x4]
        refine ⟨c0, by omega, ?_⟩
        rw [← hV]
        exact zWdl_i h (by omega) hc hs rfl hS (by omega)
      · refine absurd ⟨by omega, by omega, ?_⟩ j3.2
        have t := r2 (j - 1).toNat (by omega) (by omega)
        exact t
end ZWM
theorem zup_g {a a' : Nat → Int32} {V X : Int32} {lv : Int} (e : a' = upd a V.toNatClampNeg X) (hV : V.toInt = lv) : (a' lv.toNat).toInt = X.toInt := by
  rw [e, show lv.toNat = V.toNatClampNeg from by rw [← hV]; rfl, pk_us]
def zPx (L K : List Int) : Prop := ∃ Y, K = L ++ Y
def zsid (sd : Int) (p : Nat) : Prop := (p < 512 → sd = 1 ∨ sd = 3) ∧ (512 ≤ p → sd = 2 ∨ sd = 3)
def zWfe (i : Nat) (e : Int) : Prop := 1 ≤ e / 1000 % 1000 ∧ (e / 1000 % 1000 = 6 ∨ e / 1000 % 1000 = 7 ∨ e / 1000 % 1000 = 10 → 1 ≤ i) ∧ (e / 1000 % 1000 = 5 ∨ e / 1000 % 1000 = 8 ∨ e / 1000 % 1000 = 9 ∨ e / 1000 % 1000 = 11 → 1 ≤ e / 1000000 ∧ e / 1000000 ≤ (i : Int)) ∧ (e / 1000 % 1000 ≤ 3 → 0 ≤ e / 1000000000 ∧ e / 1000000000 ≤ 7)
def zWl (L : List Int) : Prop := ∀ i : Nat, i < L.length → zWfe i (L.getD i 0)
def zGlf (K : List Int) (x : Int) : Prop := ∃ e ∈ K, 1 ≤ e / 1000 % 1000 ∧ e / 1000 % 1000 ≤ 3 ∧ e % 1000 = x
def zEn1 (e : Int) (i : Nat) (lvF : Int → Prop) (Pr : Nat → Prop) (S : Nat → Nat → Prop) (V : Nat → Prop) (C : Int → Nat → Prop) : Prop :=
  (e / 1000 % 1000 = 4 → (V i ↔ lvF (e % 1000))) ∧
  (1 ≤ e / 1000 % 1000 → e / 1000 % 1000 ≤ 3 → (∀ p, C (e % 1000) p ↔ Pr p ∧ zsid (e / 1000000000 % 4) p ∧ S p i) ∧ (V i ↔ ∃ p, Pr p ∧ S p i) ∧ (lvF (e % 1000) ↔ ∃ p, C (e % 1000) p)) ∧
  (e / 1000 % 1000 = 6 → (∀ p, Pr p → (S p i ↔ p < 512 ∧ S p (i - 1))) ∧ (V i ↔ ∃ p, Pr p ∧ S p i)) ∧
  (e / 1000 % 1000 = 7 → (∀ p, Pr p → (S p i ↔ 512 ≤ p ∧ S p (i - 1))) ∧ (V i ↔ ∃ p, Pr p ∧ S p i)) ∧
  (e / 1000 % 1000 = 10 → (V i ↔ ¬ V (i - 1))) ∧
  (e / 1000 % 1000 = 5 → (V i ↔ ∃ p q, Pr p ∧ Pr q ∧ S p (e / 1000000 - 1).toNat ∧ S q (i - 1) ∧ znr (e % 1000) p q)) ∧
  (e / 1000 % 1000 = 8 → (V i ↔ V (e / 1000000 - 1).toNat ∧ V (i - 1))) ∧
  (e / 1000 % 1000 = 9 → (V i ↔ V (e / 1000000 - 1).toNat ∨ V (i - 1))) ∧
  (e / 1000 % 1000 = 11 → (V i ↔ V (e / 1000000 - 1).toNat ∧ ¬ V (i - 1)))
def zEnv (K : List Int) (cd : Nat → Int32) (lvF : Int → Prop) (nvF : Int → Int → Prop) (Pr : Nat → Prop) (S : Nat → Nat → Prop) (V : Nat → Prop) (C : Int → Nat → Prop) : Prop := zCd cd (K.length : Int) K ∧ (∀ l x : Int, nvF l x ↔ ∃ p q, C (l - 1) p ∧ C l q ∧ znr x p q) ∧ ∀ i : Nat, i < K.length → zEn1 (K.getD i 0) i lvF Pr S V C
def zQp (K : List Int) (cd : Nat → Int32) (lvF : Int → Prop) (nvF : Int → Int → Prop) (i : Nat) : Prop := K.getD i 0 / 1000 % 1000 = 5 → 1 ≤ (zwk cd lvF nvF i).2.2 ∧ zGlf K (zwk cd lvF nvF i).2.2 ∧ zGlf K ((zwk cd lvF nvF i).2.2 - 1)
def zRT (K : List Int) (cd : Nat → Int32) (lvF : Int → Prop) (nvF : Int → Int → Prop) (L L' : List Int) (lv lv' : Int) (T : Prop) : Prop := 0 ≤ (zwk cd lvF nvF L.length).2.1 → (zwk cd lvF nvF L.length).2.1 ≤ lv →
  (zwk cd lvF nvF L'.length).2.1 = (zwk cd lvF nvF L.length).2.1 + 1 ∧ (zwk cd lvF nvF L'.length).2.2 = lv' - 1 ∧ (∀ j : Nat, (j : Int) < (zwk cd lvF nvF L.length).2.1 → ((zwk cd lvF nvF L'.length).1 j ↔ (zwk cd lvF nvF L.length).1 j)) ∧ ((zwk cd lvF nvF L'.length).1 (zwk cd lvF nvF L.length).2.1.toNat ↔ T) ∧ ∀ i : Nat, L.length ≤ i → i < L'.length → zQp K cd lvF nvF i
def zSe0 (L L' : List Int) (lv lv' : Int) : Prop := zPx L L' ∧ L.length < L'.length ∧ (zWl L → zWl L') ∧ lv + 1 ≤ lv' ∧ lv' ≤ 40
def zSem (L L' : List Int) (lv lv' : Int) : Prop := zSe0 L L' lv lv' ∧ ∀ (K : List Int) (cd : Nat → Int32) (lvF : Int → Prop) (nvF : Int → Int → Prop) (Pr : Nat → Prop) (S : Nat → Nat → Prop) (V : Nat → Prop) (C : Int → Nat → Prop), zEnv K cd lvF nvF Pr S V C → zPx L' K → zRT K cd lvF nvF L L' lv lv' (V (L'.length - 1))
def zSeP (L' : List Int) (lv lv' : Int) : Prop := lv' = lv + 1 ∧ ∀ (K : List Int) (cd : Nat → Int32) (lvF : Int → Prop) (nvF : Int → Int → Prop) (Pr : Nat → Prop) (S : Nat → Nat → Prop) (V : Nat → Prop) (C : Int → Nat → Prop), zEnv K cd lvF nvF Pr S V C → zPx L' K → (∀ p, C lv p ↔ Pr p ∧ S p (L'.length - 1)) ∧ zGlf K lv
def zSeU (sd : Int) (L L' : List Int) (lv lv' : Int) : Prop := lv' = lv + 1 ∧ zSe0 L L' lv lv' ∧ ∀ (K : List Int) (cd : Nat → Int32) (lvF : Int → Prop) (nvF : Int → Int → Prop) (Pr : Nat → Prop) (S : Nat → Nat → Prop) (V : Nat → Prop) (C : Int → Nat → Prop), zEnv K cd lvF nvF Pr S V C → zPx L' K → zRT K cd lvF nvF L L' lv lv' (lvF lv) ∧ (lvF lv ↔ ∃ p, C lv p) ∧ (∀ p, C lv p ↔ Pr p ∧ zsid (sd % 4) p ∧ S p (L'.length - 1)) ∧ (V (L'.length - 1) ↔ ∃ p, Pr p ∧ S p (L'.length - 1)) ∧ zGlf K lv
def zSmu (B : zRl_) : Prop := ∀ a lv qt L q lv' qt' K pl, B a lv qt L (some (q, lv', qt', K, pl)) → 0 ≤ a → 0 ≤ lv → zSem L K lv lv'
section ZSM
variable {K L L' L2 M : List Int} {cd : Nat → Int32} {lvF : Int → Prop} {nvF : Int → Int → Prop} {Pr : Nat → Prop} {S : Nat → Nat → Prop} {V : Nat → Prop} {C : Int → Nat → Prop} {e k x lv lv' lv2 sd : Int} {T T1 T2 : Prop}
theorem zPx_a {X : List Int} (h : zPx (L ++ X) K) : zPx L K := by
  obtain ⟨Y, rfl⟩ := h
  exact ⟨X ++ Y, by rw [List.append_assoc]⟩
theorem zPx_t (h : zPx L L') (h2 : zPx L' K) : zPx L K := by
  obtain ⟨X, rfl⟩ := h
  exact zPx_a h2
theorem zPx_1 : zPx L (L ++ [e]) := ⟨[e], rfl⟩
theorem zgd_l : (L ++ [e]).getD L.length 0 = e := by simp
theorem zgd_k {i : Nat} (h : i < L.length) (Y : List Int) : (L ++ Y).getD i 0 = L.getD i 0 := by simp [List.getElem?_append_left h]
theorem zPx_g (h : zPx (L ++ [e]) K) : K.getD L.length 0 = e ∧ L.length < K.length ∧ e ∈ K := by
  obtain ⟨Y, rfl⟩ := h
  have hl : L.length < (L ++ [e]).length := by rw [List.length_append, List.length_singleton]; omega
  refine ⟨by rw [zgd_k hl Y, zgd_l], by rw [List.length_append]; omega, ?_⟩
  exact List.mem_append.mpr (Or.inl (List.mem_append.mpr (Or.inr (List.mem_singleton.mpr rfl))))
theorem zln1 : (L ++ [e]).length = L.length + 1 := by rw [List.length_append, List.length_singleton]
theorem zWl_0 : zWl [] := fun i hi => by simp at hi
theorem zWl_p (h : zWl L) (he : zWfe L.length e) : zWl (L ++ [e]) := fun i hi => by
  rw [zln1] at hi
  by_cases c : i = L.length
  · rw [c, zgd_l]; exact he
  · rw [zgd_k (by omega)]; exact h i (by omega)
theorem zwk_p (hE : zEnv K cd lvF nvF Pr S V C) (hp : zPx (L ++ [e]) K) : zwk cd lvF nvF (L ++ [e]).length = zwst lvF nvF (e / 1000 % 1000) (e % 1000) (zwk cd lvF nvF L.length) := by
  obtain ⟨g1, g2, _⟩ := zPx_g hp
  have c := hE.1.2 L.length g2
  rw [g1] at c
  rw [zln1]
  show zwst lvF nvF ((cd L.length).toInt / 1000) ((cd L.length).toInt % 1000) _ = _
  rw [c, show e % 1000000 / 1000 = e / 1000 % 1000 from by omega, show e % 1000000 % 1000 = e % 1000 from by omega]
theorem zEnv_1 (hE : zEnv K cd lvF nvF Pr S V C) (hp : zPx (L ++ [e]) K) : zEn1 e L.length lvF Pr S V C := by
  obtain ⟨g1, g2, _⟩ := zPx_g hp
  have c := hE.2.2 L.length g2
  rw [g1] at c
  exact c
theorem zQp_n (hp : zPx (L ++ [e]) K) (he : e / 1000 % 1000 ≠ 5) : zQp K cd lvF nvF L.length := fun q => by
  rw [(zPx_g hp).1] at q
  exact absurd q he
theorem zRT_l (hE : zEnv K cd lvF nvF Pr S V C) (hp : zPx (L ++ [e]) K) (k1 : e / 1000 % 1000 ≤ 4) (hx : e % 1000 = lv) (l4 : lv < 40) : zRT K cd lvF nvF L (L ++ [e]) lv (lv + 1) (lvF lv) := fun h0 h1 => by
  have w := zwk_p hE hp
  rw [hx] at w
  rw [w]
  generalize zwk cd lvF nvF L.length = z at h0 h1 ⊢
  rw [zwst_1 ⟨k1, by omega, l4⟩]
  refine ⟨rfl, by show lv = lv + 1 - 1; omega, fun j hj => ?_, ?_, fun i i1 i2 => ?_⟩
  · show (if (j : Int) = z.2.1 then lvF lv else z.1 j) ↔ z.1 j
    rw [if_neg (by omega)]
  · show (if ((z.2.1.toNat : Nat) : Int) = z.2.1 then lvF lv else z.1 z.2.1.toNat) ↔ lvF lv
    rw [if_pos (by omega)]
  · rw [zln1] at i2
    rw [show i = L.length from by omega]
    exact zQp_n hp (by omega)
theorem zRT_f (hE : zEnv K cd lvF nvF Pr S V C) (hp : zPx (L' ++ [e]) K) (hl : L.length ≤ L'.length) (hk : e / 1000 % 1000 = 6 ∨ e / 1000 % 1000 = 7) (h : zRT K cd lvF nvF L L' lv lv' T) : zRT K cd lvF nvF L (L' ++ [e]) lv lv' T := fun h0 h1 => by
  obtain ⟨a1, a2, a3, a4, a5⟩ := h h0 h1
  have w := zwk_p hE hp
  rw [zwst_5 (fun q => by have := q.1; omega) (fun q => by have := q.1; omega) (fun q => by have := q.1; omega) (fun q => by have := q.1; omega)] at w
  rw [w]
  refine ⟨a1, a2, a3, a4, fun i i1 i2 => ?_⟩
  rw [zln1] at i2
  by_cases c : i = L'.length
  · rw [c]; exact zQp_n hp (by omega)
  · exact a5 i i1 (by omega)
theorem zRT_c (h : zRT K cd lvF nvF L L' lv lv' T) (e : T ↔ T1) : zRT K cd lvF nvF L L' lv lv' T1 := fun h0 h1 => by
  obtain ⟨a1, a2, a3, a4, a5⟩ := h h0 h1
  exact ⟨a1, a2, a3, a4.trans e, a5⟩
theorem zRT_n (hE : zEnv K cd lvF nvF Pr S V C) (hp : zPx (L' ++ [e]) K) (hl : L.length ≤ L'.length) (hk : e / 1000 % 1000 = 10) (h : zRT K cd lvF nvF L L' lv lv' T) : zRT K cd lvF nvF L (L' ++ [e]) lv lv' (¬ T) := fun h0 h1 => by
  obtain ⟨a1, a2, a3, a4, a5⟩ := h h0 h1
  have w := zwk_p hE hp
  rw [w]
  have a6 : ∀ i : Nat, L.length ≤ i → i < (L' ++ [e]).length → zQp K cd lvF nvF i := fun i i1 i2 => by
    rw [zln1] at i2
    by_cases c : i = L'.length
    · rw [c]; exact zQp_n hp (by omega)
    · exact a5 i i1 (by omega)
  generalize zwk cd lvF nvF L.length = z at h0 h1 a1 a3 a4 ⊢
  generalize zwk cd lvF nvF L'.length = y at a1 a2 a3 a4 ⊢
  rw [zwst_2 (fun q => by have := q.1; omega) ⟨hk, by omega⟩]
  refine ⟨a1, a2, fun j hj => ?_, ?_, a6⟩
  · show (if (j : Int) = y.2.1 - 1 then ¬ y.1 j else y.1 j) ↔ z.1 j
    rw [if_neg (by omega)]
    exact a3 j hj
  · show (if ((z.2.1.toNat : Nat) : Int) = y.2.1 - 1 then ¬ y.1 z.2.1.toNat else y.1 z.2.1.toNat) ↔ ¬ T
    rw [if_pos (by omega)]
    exact not_congr a4
theorem zRT_b (hE : zEnv K cd lvF nvF Pr S V C) (hp : zPx (L2 ++ [e]) K) (hl : L.length ≤ L'.length) (hl2 : L'.length ≤ L2.length) (hk : e / 1000 % 1000 = 8 ∨ e / 1000 % 1000 = 9 ∨ e / 1000 % 1000 = 11) (hv : lv + 1 ≤ lv') (h : zRT K cd lvF nvF L L' lv lv' T1) (g : zRT K cd lvF nvF L' L2 lv' lv2 T2) : zRT K cd lvF nvF L (L2 ++ [e]) lv lv2 (zjd (e / 1000 % 1000) T1 T2) := fun h0 h1 => by
  obtain ⟨a1, a2, a3, a4, a5⟩ := h h0 h1
  obtain ⟨b1, b2, b3, b4, b5⟩ := g (by omega) (by omega)
  have w := zwk_p hE hp
  rw [w]
  have a6 : ∀ i : Nat, L.length ≤ i → i < (L2 ++ [e]).length → zQp K cd lvF nvF i := fun i i1 i2 => by
    rw [zln1] at i2
    by_cases c : i = L2.length
    · rw [c]; exact zQp_n hp (by omega)
    · by_cases c2 : i < L'.length
      · exact a5 i i1 c2
      · exact b5 i (by omega) (by omega)
  generalize zwk cd lvF nvF L.length = z at h0 h1 a1 a3 a4 ⊢
  generalize zwk cd lvF nvF L'.length = y at a1 a2 a3 a4 b1 b3 b4 ⊢
  generalize zwk cd lvF nvF L2.length = u at b1 b2 b3 b4 ⊢
  rw [zwst_4 (fun q => by have := q.1; omega) (fun q => by have := q.1; omega) (fun q => by have := q.1; omega) ⟨by omega, by omega⟩]
  refine ⟨by show u.2.1 - 1 = z.2.1 + 1; omega, b2, fun j hj => ?_, ?_, a6⟩
  · show (if (j : Int) = u.2.1 - 2 then _ else u.1 j) ↔ z.1 j
    rw [if_neg (by omega)]
    exact (b3 j (by omega)).trans (a3 j hj)
  · show (if ((z.2.1.toNat : Nat) : Int) = u.2.1 - 2 then zjd (e / 1000 % 1000) (u.1 z.2.1.toNat) (u.1 (z.2.1.toNat + 1)) else _) ↔ _
    rw [if_pos (by omega)]
    have q1 : u.1 z.2.1.toNat ↔ T1 := (b3 z.2.1.toNat (by omega)).trans a4
    have q2 : u.1 (z.2.1.toNat + 1) ↔ T2 := by rw [show z.2.1.toNat + 1 = y.2.1.toNat from by omega]; exact b4
    unfold zjd
    rw [q1, q2]
theorem zRT_d (hE : zEnv K cd lvF nvF Pr S V C) (hp : zPx (L2 ++ [e]) K) (hl : L.length ≤ L'.length) (hl2 : L'.length ≤ L2.length) (hk : e / 1000 % 1000 = 5) (hv : lv' = lv + 1) (hv2 : lv2 = lv + 2) (v0 : 0 ≤ lv) (h : zRT K cd lvF nvF L L' lv lv' T1) (g : zRT K cd lvF nvF L' L2 lv' lv2 T2) (g1 : zGlf K lv) (g2 : zGlf K lv') : zRT K cd lvF nvF L (L2 ++ [e]) lv lv2 (nvF lv' (e % 1000)) := fun h0 h1 => by
  obtain ⟨a1, a2, a3, a4, a5⟩ := h h0 h1
  obtain ⟨b1, b2, b3, b4, b5⟩ := g (by omega) (by omega)
  have w := zwk_p hE hp
  rw [w]
  have a6 : ∀ i : Nat, L.length ≤ i → i < (L2 ++ [e]).length → zQp K cd lvF nvF i := fun i i1 i2 => by
    rw [zln1] at i2
    by_cases c : i = L2.length
    · rw [c]
      exact fun _ => ⟨by omega, by rw [b2, show lv2 - 1 = lv' from by omega]; exact g2, by rw [b2, show lv2 - 1 - 1 = lv from by omega]; exact g1⟩
    · by_cases c2 : i < L'.length
      · exact a5 i i1 c2
      · exact b5 i (by omega) (by omega)
  generalize zwk cd lvF nvF L.length = z at h0 h1 a1 a3 a4 ⊢
  generalize zwk cd lvF nvF L'.length = y at a1 a2 a3 a4 b1 b3 b4 ⊢
  generalize zwk cd lvF nvF L2.length = u at b1 b2 b3 b4 ⊢
  rw [zwst_3 (fun q => by have := q.1; omega) (fun q => by have := q.1; omega) ⟨hk, by omega⟩]
  refine ⟨by show u.2.1 - 1 = z.2.1 + 1; omega, b2, fun j hj => ?_, ?_, a6⟩
  · show (if (j : Int) = u.2.1 - 2 then _ else u.1 j) ↔ z.1 j
    rw [if_neg (by omega)]
    exact (b3 j (by omega)).trans (a3 j hj)
  · show (if ((z.2.1.toNat : Nat) : Int) = u.2.1 - 2 then nvF u.2.2 (e % 1000) else _) ↔ _
    rw [if_pos (by omega), b2, show lv2 - 1 = lv' from by omega]
end ZSM
section ZSG
variable {f : Nat → Int32} {n sd : Int} {ok : Prop} {B : zRl_}
theorem zlc_k {k lv a sd : Int} (h0 : 0 ≤ lv) (h1 : lv < 1000) (k0 : 0 ≤ k) (k1 : k < 1000) : zlc k lv a sd / 1000 % 1000 = k ∧ zlc k lv a sd % 1000 = lv := by unfold zlc; omega
theorem zlb_k {k x : Int} {L : List Int} (h0 : 0 ≤ x) (h1 : x < 1000) (k0 : 0 ≤ k) (k1 : k < 1000) : zlb k x L / 1000 % 1000 = k ∧ zlb k x L % 1000 = x ∧ zlb k x L / 1000000 = (L.length : Int) := by unfold zlb; omega
theorem zSeU_i {L : List Int} {k lv a : Int} (s0 : 0 ≤ sd) (s3 : sd ≤ 7) (k1 : 1 ≤ k) (k3 : k ≤ 3) (v0 : 0 ≤ lv) (v4 : lv < 40) (a0 : 0 ≤ a) (a1 : a < 1000) : zSeU sd L (L ++ [zlc k lv a sd]) lv (lv + 1) := by
  have e1 := zlc_k (k := k) (lv := lv) (a := a) (sd := sd) v0 (by omega) (by omega) (by omega)
  have e2 := zlc_s (k := k) (lv := lv) (a := a) (sd := sd) (by omega) (by omega) a0 a1
  refine ⟨rfl, ⟨zPx_1, by rw [zln1]; omega, fun h => zWl_p h ⟨by omega, fun q => by omega, fun q => by omega, fun _ => by omega⟩, by omega, by omega⟩, fun K cd lvF nvF Pr S V C hE hp => ?_⟩
  have g := (zEnv_1 hE hp).2.1 (by omega) (by omega)
  rw [e1.2, e2] at g
  refine ⟨zRT_l hE hp (by omega) e1.2 v4, g.2.2, ?_, ?_, ⟨_, (zPx_g hp).2.2, by omega, by omega, e1.2⟩⟩
  · rw [zln1]; exact g.1
  · rw [zln1]; exact g.2.1
theorem zTkn_z (a a1 lv qt : Int) (L : List Int) (q lv' qt' : Int) (K : List Int) (pl : Bool) (h : zTkn f n sd a lv qt L (some (q, lv', qt', K, pl))) (h0 : 0 ≤ a) (h1 : a < 1000) (v0 : 0 ≤ lv) (s0 : 0 ≤ sd) (s3 : sd ≤ 7) : pl = true ∧ zSeU sd L K lv lv' := by
  rcases h with h | ⟨g0, e, c, g1, g2, g3⟩
  · cases h.2
  · rcases g3 with ⟨b1, d, b2, b3⟩ | ⟨b1, b2⟩
    · cases b3; exact ⟨rfl, zSeU_i s0 s3 (by omega) (by omega) v0 g0 h0 h1⟩
    · cases b2; exact ⟨rfl, zSeU_i s0 s3 (by omega) (by omega) v0 g0 h0 h1⟩
theorem zPhr_z (a lv qt : Int) (L : List Int) (q lv' qt' : Int) (K : List Int) (pl : Bool) (h : zPhr f n sd a lv qt L (some (q, lv', qt', K, pl))) (h0 : 0 ≤ a) (h1 : a < 1000) (v0 : 0 ≤ lv) (s0 : 0 ≤ sd) (s3 : sd ≤ 7) : pl = true ∧ zSeU sd L K lv lv' := by
  rcases h with h | ⟨g0, h⟩
  · cases h.2
  · rcases h with ⟨c, g1, g2, g3⟩ | ⟨c, d, g1, g2, g3, g4⟩ | ⟨g1, g2⟩
    · cases g3
    · cases g4; exact ⟨rfl, zSeU_i s0 s3 (by omega) (by omega) v0 g0 h0 h1⟩
    · cases g2
theorem zSem_m {L : List Int} {lv a : Int} (v0 : 0 ≤ lv) (v4 : lv < 40) : zSem L (L ++ [zlc 4 lv a 0]) lv (lv + 1) := by
  have e1 := zlc_k (k := 4) (lv := lv) (a := a) (sd := 0) v0 (by omega) (by omega) (by omega)
  refine ⟨⟨zPx_1, by rw [zln1]; omega, fun h => zWl_p h ⟨by omega, fun q => by omega, fun q => by omega, fun q => by omega⟩, by omega, by omega⟩, fun K cd lvF nvF Pr S V C hE hp => ?_⟩
  have g := (zEnv_1 hE hp).1 e1.1
  rw [e1.2] at g
  refine zRT_c (zRT_l hE hp (by omega) e1.2 v4) ?_
  rw [zln1]
  exact g.symm
theorem zMrk_z (a lv qt : Int) (L : List Int) (q lv' qt' : Int) (K : List Int) (pl : Bool) (h : zMrk f n a lv qt L (some (q, lv', qt', K, pl))) (v0 : 0 ≤ lv) : pl = false ∧ zSem L K lv lv' := by
  rcases h with h | ⟨h0, p, x, h1, h2, h3⟩
  · cases h.2
  rcases h3 with h3 | ⟨v, q0, hx, h3⟩
  · cases h3.2
  rcases h3 with h3 | ⟨h3, p2, y, h4, h5, h6⟩
  · cases h3.2
  rcases h6 with h6 | ⟨w, q2, hy, h6⟩
  · cases h6.2
  rcases h6 with h6 | ⟨h6, d, h7, h8⟩
  · cases h6.2
  cases h8
  exact ⟨rfl, zSem_m v0 h0⟩
theorem zBar_z (hB : zSmu B) (hn : n ≤ 600) (a lv qt : Int) (L : List Int) (q lv' qt' : Int) (K : List Int) (pl : Bool) (h : zBar f n sd ok B a lv qt L (some (q, lv', qt', K, pl))) (h0 : 0 ≤ a) (v0 : 0 ≤ lv) (s0 : 0 ≤ sd) (s3 : sd ≤ 7) : (pl = false ∧ zSem L K lv lv') ∨ (pl = true ∧ zSeU sd L K lv lv') := by
  rcases h with ⟨hs, h⟩ | ⟨hs, h⟩
  · rcases h with h | ⟨g0, p, x, h1, h2, h3⟩
    · cases h.2
    have a1 := h1.1
    rcases h3 with h3 | ⟨q0, l, t, K, pl0, hx, h3⟩
    · cases h3.2
    have a2 := hB _ _ _ _ _ _ _ _ _ (hx ▸ h2) (by omega) v0
    rcases h3 with h3 | ⟨h3, d, h4, h5⟩
    · cases h3.2
    cases h5
    exact Or.inl ⟨rfl, a2⟩
  rcases h with ⟨h1, h⟩ | ⟨h1, h⟩
  · exact Or.inl (zMrk_z _ _ _ _ _ _ _ _ _ h v0)
  rcases h with ⟨h2, h⟩ | ⟨h2, h⟩
  · exact Or.inr (zPhr_z _ _ _ _ _ _ _ _ _ h h0 (by have := h2.1; omega) v0 s0 s3)
  rcases h with ⟨⟨b, h3⟩, h⟩ | ⟨h3, h⟩
  · have k1 := (zLk_l h3).2.2.2.2.2 (by omega)
    exact Or.inr (zTkn_z _ 0 _ _ _ _ _ _ _ _ h h0 (by omega) v0 s0 s3)
  · cases h
theorem zFs_v : ∀ {k : Nat} {a x : Int} {M : List Int}, zFs f n k a x M → ∀ e ∈ M, e = 6000 ∨ e = 7000 := by
  intro k
  induction k with
  | zero => intro a x M h e he; rw [h.2] at he; cases he
  | succ k ih =>
    intro a x M h e he
    obtain ⟨kd, b, p, M', h1, h2, h3, h4, h5⟩ := h
    rw [h5] at he
    rcases List.mem_append.mp he with c | c
    · exact ih h4 e c
    · rw [List.mem_singleton.mp c]
      by_cases q : kd = 262
      · rw [if_pos q]; exact Or.inl rfl
      · rw [if_neg q]; exact Or.inr rfl
theorem zrev_i {P : List Int → Prop} (h0 : P []) (hs : ∀ (M : List Int) (e : Int), P M → P (M ++ [e])) : ∀ M : List Int, P M := by
  have key : ∀ k : Nat, ∀ M : List Int, M.length = k → P M := by
    intro k
    induction k with
    | zero => intro M hM; rw [List.length_eq_zero_iff.mp hM]; exact h0
    | succ k ih =>
      intro M hM
      have hne : M ≠ [] := fun q => by rw [q] at hM; exact absurd hM (by simp)
      have q := List.dropLast_concat_getLast hne
      rw [← q]
      exact hs _ _ (ih _ (by rw [List.length_dropLast]; omega))
  exact fun M => key _ M rfl
def zMsd (M : List Int) (p : Nat) : Prop := (6000 ∈ M → p < 512) ∧ (7000 ∈ M → 512 ≤ p)
theorem zsd_r (M : List Int) : 0 ≤ zsd M ∧ zsd M ≤ 3 := by
  unfold zsd
  split <;> split <;> omega
theorem zMsd_s {M : List Int} {p : Nat} : zsid (zsd M) p ↔ zMsd M p := by
  unfold zsid zsd zMsd
  by_cases c1 : (6000 : Int) ∈ M <;> by_cases c2 : (7000 : Int) ∈ M
  · rw [if_pos c1, if_pos c2]
    exact ⟨fun h => ⟨fun _ => by omega, fun _ => by omega⟩, fun h => ⟨fun _ => by have := h.2 c2; omega, fun _ => by have := h.1 c1; omega⟩⟩
  · rw [if_pos c1, if_neg c2]
    exact ⟨fun h => ⟨fun _ => by omega, fun q => absurd q c2⟩, fun h => ⟨fun _ => by omega, fun _ => by have := h.1 c1; omega⟩⟩
  · rw [if_neg c1, if_pos c2]
    exact ⟨fun h => ⟨fun q => absurd q c1, fun _ => by omega⟩, fun h => ⟨fun _ => by have := h.2 c2; omega, fun _ => by omega⟩⟩
  · rw [if_neg c1, if_neg c2]
    exact ⟨fun h => ⟨fun q => absurd q c1, fun q => absurd q c2⟩, fun h => ⟨fun _ => by omega, fun _ => by omega⟩⟩
theorem zUni_r {K L L' : List Int} {cd : Nat → Int32} {lvF : Int → Prop} {nvF : Int → Int → Prop} {Pr : Nat → Prop} {S : Nat → Nat → Prop} {V : Nat → Prop} {C : Int → Nat → Prop} {lv lv' : Int} {T : Prop} (hE : zEnv K cd lvF nvF Pr S V C) (hl : L.length < L'.length) (h : zRT K cd lvF nvF L L' lv lv' T) (hV : V (L'.length - 1) ↔ ∃ p, Pr p ∧ S p (L'.length - 1)) : ∀ M : List Int, (∀ e ∈ M, e = 6000 ∨ e = 7000) → zPx (L' ++ M) K → zRT K cd lvF nvF L (L' ++ M) lv lv' T ∧ (∀ p, Pr p → (S p ((L' ++ M).length - 1) ↔ zMsd M p ∧ S p (L'.length - 1))) ∧ (V ((L' ++ M).length - 1) ↔ ∃ p, Pr p ∧ S p ((L' ++ M).length - 1)) := by
  refine zrev_i ?_ ?_
  · intro _ _
    rw [List.append_nil]
    exact ⟨h, fun p _ => ⟨fun q => ⟨⟨fun c => absurd c List.not_mem_nil, fun c => absurd c List.not_mem_nil⟩, q⟩, fun q => q.2⟩, hV⟩
  · intro M e ih hM hp
    rw [← List.append_assoc] at hp ⊢
    obtain ⟨a1, a2, a3⟩ := ih (fun z hz => hM z (List.mem_append.mpr (Or.inl hz))) (zPx_a hp)
    have he := hM e (List.mem_append.mpr (Or.inr (List.mem_singleton.mpr rfl)))
    have hlen : L'.length ≤ (L' ++ M).length := by rw [List.length_append]; omega
    have hk : e / 1000 % 1000 = 6 ∨ e / 1000 % 1000 = 7 := by omega
    have g := zEnv_1 hE hp
    have r := zRT_f hE hp (by omega) hk a1
    refine ⟨r, ?_⟩
    rw [zln1, show (L' ++ M).length + 1 - 1 = (L' ++ M).length from by omega]
    rcases he with he | he
    · obtain ⟨b1, b2⟩ := g.2.2.1 (by omega)
      refine ⟨fun p hpr => ?_, b2⟩
      rw [b1 p hpr, a2 p hpr, he]
      unfold zMsd
      constructor
      · rintro ⟨c1, ⟨c2, c3⟩, c4⟩
        exact ⟨⟨fun _ => c1, fun q => c3 ((List.mem_append.mp q).resolve_right (fun w => absurd (List.mem_singleton.mp w) (by decide)))⟩, c4⟩
      · rintro ⟨⟨c1, c2⟩, c3⟩
        exact ⟨c1 (List.mem_append.mpr (Or.inr (List.mem_singleton.mpr rfl))), ⟨fun q => c1 (List.mem_append.mpr (Or.inl q)), fun q => c2 (List.mem_append.mpr (Or.inl q))⟩, c3⟩
    · obtain ⟨b1, b2⟩ := g.2.2.2.1 (by omega)
      refine ⟨fun p hpr => ?_, b2⟩
      rw [b1 p hpr, a2 p hpr, he]
      unfold zMsd
      constructor
      · rintro ⟨c1, ⟨c2, c3⟩, c4⟩
        exact ⟨⟨fun q => c2 ((List.mem_append.mp q).resolve_right (fun w => absurd (List.mem_singleton.mp w) (by decide))), fun _ => c1⟩, c4⟩
      · rintro ⟨⟨c1, c2⟩, c3⟩
        exact ⟨c2 (List.mem_append.mpr (Or.inr (List.mem_singleton.mpr rfl))), ⟨fun q => c1 (List.mem_append.mpr (Or.inl q)), fun q => c2 (List.mem_append.mpr (Or.inl q))⟩, c3⟩
theorem zWl_m {L : List Int} (hl : 1 ≤ L.length) : ∀ M : List Int, (∀ e ∈ M, e = 6000 ∨ e = 7000) → zWl L → zWl (L ++ M) := by
  refine zrev_i ?_ ?_
  · intro _ h; rw [List.append_nil]; exact h
  · intro M e ih hM h
    rw [← List.append_assoc]
    have he := hM e (List.mem_append.mpr (Or.inr (List.mem_singleton.mpr rfl)))
    have q : (L ++ M).length = L.length + M.length := List.length_append
    exact zWl_p (ih (fun z hz => hM z (List.mem_append.mpr (Or.inl hz))) h) ⟨by omega, fun _ => by omega, fun _ => by omega, fun _ => by omega⟩
variable {B : zBu}
def zSmo (B : zBu) : Prop := ∀ u : Int, 0 ≤ u → u ≤ 1 → zSmu (B.2 u)
theorem zUni_z (hB : zSmo B) (hu0 : 0 ≤ B.1) (hu1 : B.1 ≤ 1) (hn : n ≤ 600) (a lv qt : Int) (L : List Int) (q lv' qt' : Int) (K : List Int) (pl : Bool) (h : zUni f n ok B a lv qt L (some (q, lv', qt', K, pl))) (h0 : 0 ≤ a) (v0 : 0 ≤ lv) : zSem L K lv lv' ∧ (pl = true → zSeP K lv lv') := by
  obtain ⟨k, x, M, h1, h2⟩ := h
  have hx := zFs_b h1 h0
  have hM := zFs_v h1
  rcases h2 with h2 | ⟨h2, h3, u, h4, h5⟩
  · cases h2.2.2
  rcases h5 with h5 | ⟨q0, l, t, L', pl0, hu, h5⟩
  · cases h5.2
  have z9 := zsd_r M
  have a2 := zBar_z (hB B.1 hu0 hu1) hn _ _ _ _ _ _ _ _ _ (hu ▸ h4) (by omega) v0 (by omega) (by omega)
  rcases h5 with h5 | h5
  · cases h5.2
  obtain ⟨h5, h6⟩ := h5
  cases h6
  rcases a2 with ⟨e1, a2⟩ | ⟨e1, a2⟩
  · have hk : k = 0 := by
      rcases Nat.eq_zero_or_pos k with c | c
      · exact c
      · exact absurd ⟨c, e1⟩ h5
    have hM0 : M = [] := List.length_eq_zero_iff.mp (by omega)
    rw [hM0, List.append_nil]
    exact ⟨a2, fun w => by rw [e1] at w; cases w⟩
  · obtain ⟨e2, ⟨s1, s2, s3, s4, s5⟩, s6⟩ := a2
    have hq : (L' ++ M).length = L'.length + M.length := List.length_append
    have key : ∀ (K : List Int) (cd : Nat → Int32) (lvF : Int → Prop) (nvF : Int → Int → Prop) (Pr : Nat → Prop) (S : Nat → Nat → Prop) (V : Nat → Prop) (C : Int → Nat → Prop), zEnv K cd lvF nvF Pr S V C → zPx (L' ++ M) K → zRT K cd lvF nvF L (L' ++ M) lv lv' (V ((L' ++ M).length - 1)) ∧ (∀ p, C lv p ↔ Pr p ∧ S p ((L' ++ M).length - 1)) ∧ zGlf K lv := by
      intro K cd lvF nvF Pr S V C hE hp
      obtain ⟨t1, t2, t3, t4, t5⟩ := s6 K cd lvF nvF Pr S V C hE (zPx_a hp)
      obtain ⟨r1, r2, r3⟩ := zUni_r hE s2 t1 t4 M hM hp
      have r4 : ∀ p, C lv p ↔ Pr p ∧ S p ((L' ++ M).length - 1) := fun p => by
        rw [t3 p, show (zsd M + 4 * B.1) % 4 = zsd M from by omega, zMsd_s]
        constructor
        · rintro ⟨w1, w2, w3⟩; exact ⟨w1, (r2 p w1).mpr ⟨w2, w3⟩⟩
        · rintro ⟨w1, w2⟩; exact ⟨w1, (r2 p w1).mp w2⟩
      refine ⟨zRT_c r1 ?_, r4, t5⟩
      rw [t2, r3]
      exact exists_congr r4
    refine ⟨⟨⟨?_, by omega, fun w => zWl_m (by omega) M hM (s3 w), s4, s5⟩, fun K cd lvF nvF Pr S V C hE hp => (key K cd lvF nvF Pr S V C hE hp).1⟩, fun _ => ⟨e2, fun K cd lvF nvF Pr S V C hE hp => (key K cd lvF nvF Pr S V C hE hp).2⟩⟩
    obtain ⟨X, hX⟩ := s1
    exact ⟨X ++ M, by rw [hX, List.append_assoc]⟩
theorem zNea_z (hB : zSmo B) (hM : zMou B) (hu0 : 0 ≤ B.1) (hu1 : B.1 ≤ 1) (hn : n ≤ 600) : zSmu (zNea f n ok B) := fun a lv qt L q lv' qt' K pl h h0 v0 => by
  obtain ⟨x, h1, h2⟩ := h
  rcases h2 with h2 | ⟨q0, l, t, L', pl0, hx, h2⟩
  · cases h2.2
  obtain ⟨hq, hq1⟩ := zUni_z hB hu0 hu1 hn _ _ _ _ _ _ _ _ _ (hx ▸ h1) h0 v0
  rcases h2 with h2 | ⟨b, p, e, h3, h4, h5, h6⟩
  · cases h2.2; exact hq
  have hb := (zLk_l h3).2.2.2.1 rfl
  have hp := h4.1
  have he := h5.1
  rcases h6 with h6 | ⟨h6, p2, y, h7, h8, h9⟩
  · cases h6.2
  have hp2 := h7.1
  rcases h9 with h9 | ⟨q2, l2, t2, L2, pl2, hy, h9⟩
  · cases h9.2
  have m0 := zUni_m hM _ _ _ _ _ _ _ _ _ (hx ▸ h1) h0
  obtain ⟨⟨s1, s2, s3, s4, s5⟩, s6⟩ := hq
  obtain ⟨⟨⟨u1, u2, u3, u4, u5⟩, u6⟩, hq2⟩ := zUni_z hB hu0 hu1 hn _ _ _ _ _ _ _ _ _ (hy ▸ h8) (by omega) (by omega)
  rcases h9 with h9 | ⟨⟨g1, g2⟩, h9⟩
  · cases h9.2
  cases h9
  obtain ⟨e1, w1⟩ := hq1 g1
  obtain ⟨e2, w2⟩ := hq2 g2
  have v9 := h6.2
  have ek := zlb_k (k := 5) (x := zvl f p (e - p).toNat) (L := L') (by omega) (by omega) (by omega) (by omega)
  refine ⟨⟨zPx_t s1 (zPx_t u1 zPx_1), by rw [zln1]; omega, fun w => zWl_p (u3 (s3 w)) ⟨by omega, fun _ => by omega, fun _ => ⟨by omega, by omega⟩, fun _ => by omega⟩, by omega, by omega⟩, fun K cd lvF nvF Pr S V C hE hp => ?_⟩
  have hp1 := zPx_a hp
  have hp0 := zPx_t u1 hp1
  obtain ⟨c1, d1⟩ := w1 K cd lvF nvF Pr S V C hE hp0
  obtain ⟨c2, d2⟩ := w2 K cd lvF nvF Pr S V C hE hp1
  have r := zRT_d hE hp (by omega) (by omega) ek.1 e1 (by omega) v0 (s6 K cd lvF nvF Pr S V C hE hp0) (u6 K cd lvF nvF Pr S V C hE hp1) d1 d2
  refine zRT_c r ?_
  have g := (zEnv_1 hE hp).2.2.2.2.2.1 ek.1
  rw [zln1, show L2.length + 1 - 1 = L2.length from by omega, g, hE.2.1, ek.2.1, show (zlb 5 (zvl f p (e - p).toNat) L' / 1000000 - 1).toNat = L'.length - 1 from by omega, show l - 1 = lv from by omega]
  constructor
  · rintro ⟨x1, x2, y1, y2, y3⟩
    have z1 := (c1 x1).mp y1
    have z2 := (c2 x2).mp y2
    exact ⟨x1, x2, z1.1, z2.1, z1.2, z2.2, y3⟩
  · rintro ⟨x1, x2, y1, y2, y3, y4, y5⟩
    exact ⟨x1, x2, (c1 x1).mpr ⟨y1, y3⟩, (c2 x2).mpr ⟨y2, y4⟩, y5⟩
theorem zNot_z (hB : zSmo B) (hM : zMou B) (hu0 : 0 ≤ B.1) (hu1 : B.1 ≤ 1) (hn : n ≤ 600) : zSmu (zNot f n ok B) := fun a lv qt L q lv' qt' K pl h h0 v0 => by
  obtain ⟨k, x, h1, h2⟩ := h
  have hx := zNs_b h1 h0
  rcases h2 with h2 | ⟨h2, h3, u, h4, h5⟩
  · cases h2.2.2
  rcases h5 with h5 | ⟨q0, l, t, K, pl0, hu, h5⟩
  · cases h5.2
  have a2 := zNea_z (B := zBx k B) hB hM (by show 0 ≤ (if k % 2 = 1 then 0 else B.1); split <;> omega) (by show (if k % 2 = 1 then 0 else B.1) ≤ 1; split <;> omega) hn _ _ _ _ _ _ _ _ _ (hu ▸ h4) (by omega) v0
  cases h5
  exact a2
theorem zSem_b {L0 L L' : List Int} {lv0 lv lv' e : Int} (h : zSem L0 L lv0 lv) (g : zSem L L' lv lv') (hk : e / 1000 % 1000 = 8 ∨ e / 1000 % 1000 = 9 ∨ e / 1000 % 1000 = 11) (hl : e / 1000000 = (L.length : Int)) : zSem L0 (L' ++ [e]) lv0 lv' := by
  obtain ⟨⟨s1, s2, s3, s4, s5⟩, s6⟩ := h
  obtain ⟨⟨u1, u2, u3, u4, u5⟩, u6⟩ := g
  refine ⟨⟨zPx_t s1 (zPx_t u1 zPx_1), by rw [zln1]; omega, fun w => zWl_p (u3 (s3 w)) ⟨by omega, fun _ => by omega, fun _ => ⟨by omega, by omega⟩, fun _ => by omega⟩, by omega, by omega⟩, fun K cd lvF nvF Pr S V C hE hp => ?_⟩
  have hp1 := zPx_a hp
  have r := zRT_b hE hp (by omega) (by omega) hk s4 (s6 K cd lvF nvF Pr S V C hE (zPx_t u1 hp1)) (u6 K cd lvF nvF Pr S V C hE hp1)
  refine zRT_c r ?_
  have g := zEnv_1 hE hp
  rw [zln1, show L'.length + 1 - 1 = L'.length from by omega]
  have el : (e / 1000000 - 1).toNat = L.length - 1 := by omega
  unfold zjd
  rcases hk with c | c | c
  · rw [g.2.2.2.2.2.2.1 c, el, c]
    constructor
    · rintro (w | w | w)
      · exact w.2
      · exact absurd w.1 (by decide)
      · exact absurd rfl w.1
    · exact fun w => Or.inl ⟨rfl, w⟩
  · rw [g.2.2.2.2.2.2.2.1 c, el, c]
    constructor
    · rintro (w | w | w)
      · exact absurd w.1 (by decide)
      · exact w.2
      · exact absurd rfl w.2.1
    · exact fun w => Or.inr (Or.inl ⟨rfl, w⟩)
  · rw [g.2.2.2.2.2.2.2.2 c, el, c]
    constructor
    · rintro (w | w | w)
      · exact absurd w.1 (by decide)
      · exact absurd w.1 (by decide)
      · exact w.2.2
    · exact fun w => Or.inr (Or.inr ⟨by decide, by decide, w⟩)
theorem zSem_n {L0 L : List Int} {lv0 lv : Int} (h : zSem L0 L lv0 lv) : zSem L0 (L ++ [10000]) lv0 lv := by
  obtain ⟨⟨s1, s2, s3, s4, s5⟩, s6⟩ := h
  refine ⟨⟨zPx_t s1 zPx_1, by rw [zln1]; omega, fun w => zWl_p (s3 w) ⟨by decide, fun _ => by omega, fun q => absurd q (by decide), fun q => absurd q (by decide)⟩, s4, s5⟩, fun K cd lvF nvF Pr S V C hE hp => ?_⟩
  have r := zRT_n hE hp (by omega) (by decide) (s6 K cd lvF nvF Pr S V C hE (zPx_a hp))
  refine zRT_c r ?_
  have g := (zEnv_1 hE hp).2.2.2.2.1 (by decide)
  rw [zln1, show L.length + 1 - 1 = L.length from by omega]
  exact g.symm
theorem zAlp_z (hB : zSmo B) (hM : zMou B) (hu0 : 0 ≤ B.1) (hu1 : B.1 ≤ 1) (hn : n ≤ 600) : ∀ {k : Nat} {a lv qt : Int} {L : List Int} {q lv' qt' : Int} {L' : List Int} {pl : Bool}, zAlp f n ok B k a lv qt L (some (q, lv', qt', L', pl)) → 0 ≤ a → ∀ {L0 : List Int} {lv0 : Int}, 0 ≤ lv0 → zSem L0 L lv0 lv → zSem L0 L' lv0 lv' := by
  intro k
  induction k with
  | zero => intro a lv qt L q lv' qt' L' pl h ha L0 lv0 v0 hs; have h2 := h.2; cases h2; exact hs
  | succ k ih =>
    intro a lv qt L q lv' qt' L' pl h ha L0 lv0 v0 hs
    obtain ⟨h0, p, x, h1, h2, h3⟩ := h
    have hp : a ≤ p := by
      rcases h1 with ⟨b, h1, h4⟩ | ⟨h1, h4⟩
      · have hb := zLk_b h1
        have hp := h4.1
        omega
      · omega
    rcases h3 with h3 | ⟨q0, l, t, K, pl0, hx, h3⟩
    · cases h3.2
    have hq := zNot_m hM _ _ _ _ _ _ _ _ _ (hx ▸ h2) (by omega)
    have l0 := hs.1.2.2.2.1
    have hq2 := zNot_z hB hM hu0 hu1 hn _ _ _ _ _ _ _ _ _ (hx ▸ h2) (by omega) (by omega)
    refine ih h3 (by omega) v0 ?_
    by_cases c : pl0 = true
    · rw [if_pos c]
      have ek := zlb_k (k := 11) (x := 0) (L := L) (by decide) (by decide) (by decide) (by decide)
      exact zSem_b hs hq2 (Or.inr (Or.inr ek.1)) ek.2.2
    · rw [if_neg c]
      have ek := zlb_k (k := 8) (x := 0) (L := L) (by decide) (by decide) (by decide) (by decide)
      exact zSem_b hs hq2 (Or.inl ek.1) ek.2.2
theorem zAll_z (hB : zSmo B) (hM : zMou B) (hu0 : 0 ≤ B.1) (hu1 : B.1 ≤ 1) (hn : n ≤ 600) : zSmu (zAll f n ok B) := fun a lv qt L q lv' qt' L' pl h ha v0 => by
  obtain ⟨x, h1, h2⟩ := h
  rcases h2 with h2 | ⟨q0, l, t, K, pl0, k, hx, h2⟩
  · cases h2.2
  have hq := zNot_m hM _ _ _ _ _ _ _ _ _ (hx ▸ h1) ha
  have hq2 := zNot_z hB hM hu0 hu1 hn _ _ _ _ _ _ _ _ _ (hx ▸ h1) ha v0
  refine zAlp_z hB hM hu0 hu1 hn h2 (by omega) v0 ?_
  by_cases c : pl0 = true
  · rw [if_pos c]; exact zSem_n hq2
  · rw [if_neg c]; exact hq2
theorem zQlp_z (hB : zSmo B) (hM : zMou B) (hu0 : 0 ≤ B.1) (hu1 : B.1 ≤ 1) (hn : n ≤ 600) : ∀ {k : Nat} {a lv qt : Int} {L : List Int} {q lv' qt' : Int} {L' : List Int} {pl : Bool}, zQlp f n ok B k a lv qt L (some (q, lv', qt', L', pl)) → 0 ≤ a → ∀ {L0 : List Int} {lv0 : Int}, 0 ≤ lv0 → zSem L0 L lv0 lv → zSem L0 L' lv0 lv' := by
  intro k
  induction k with
  | zero => intro a lv qt L q lv' qt' L' pl h ha L0 lv0 v0 hs; have h2 := h.2; cases h2; exact hs
  | succ k ih =>
    intro a lv qt L q lv' qt' L' pl h ha L0 lv0 v0 hs
    obtain ⟨b, p, x, h1, h4, h2, h3⟩ := h
    have hb := zLk_b h1
    have hp := h4.1
    rcases h3 with h3 | ⟨q0, l, t, K, pl0, hx, h3⟩
    · cases h3.2
    have hq := zAll_m hM _ _ _ _ _ _ _ _ _ (hx ▸ h2) (by omega)
    have l0 := hs.1.2.2.2.1
    have hq2 := zAll_z hB hM hu0 hu1 hn _ _ _ _ _ _ _ _ _ (hx ▸ h2) (by omega) (by omega)
    refine ih h3 (by omega) v0 ?_
    have ek := zlb_k (k := 9) (x := 0) (L := L) (by decide) (by decide) (by decide) (by decide)
    exact zSem_b hs hq2 (Or.inr (Or.inl ek.1)) ek.2.2
theorem zQue_z (hB : zSmo B) (hM : zMou B) (hu0 : 0 ≤ B.1) (hu1 : B.1 ≤ 1) (hn : n ≤ 600) : zSmu (zQue f n ok B) := fun a lv qt L q lv' qt' L' pl h ha v0 => by
  obtain ⟨x, h1, h2⟩ := h
  rcases h2 with h2 | ⟨q0, l, t, K, pl0, k, hx, h2⟩
  · cases h2.2
  have hq := zAll_m hM _ _ _ _ _ _ _ _ _ (hx ▸ h1) ha
  have hq2 := zAll_z hB hM hu0 hu1 hn _ _ _ _ _ _ _ _ _ (hx ▸ h1) ha v0
  exact zQlp_z hB hM hu0 hu1 hn h2 (by omega) v0 hq2
theorem zQry_z (hn : n ≤ 600) : ∀ d : Nat, ∀ u : Int, 0 ≤ u → u ≤ 1 → zSmu (zQry f n d u) := by
  intro d
  induction d with
  | zero => exact fun u u0 u1 => zQue_z (B := (u, fun _ _ _ _ _ _ => False)) (fun _ _ _ _ _ _ _ _ _ _ _ _ h => False.elim h) (fun _ _ _ _ _ _ _ _ _ _ h => False.elim h) u0 u1 hn
  | succ d ih => exact fun u u0 u1 => zQue_z (B := (u, zQry f n d)) ih (zQry_dm d).2 u0 u1 hn
theorem zPar_z {K : List Int} (hn : n ≤ 600) (h : zPar f n K) : K = [] ∨ ∃ lv, zSem [] K 0 lv := by
  obtain ⟨a, x, h1, h2, h3⟩ := h
  have a0 := h1.1
  rcases h3 with h3 | ⟨q, lv, qt, K', pl, hx, h3⟩
  · exact Or.inl h3.2
  rcases h3 with h3 | h3
  · exact Or.inl h3.2
  · have s := zQry_z hn 12 1 (by decide) (by decide) _ _ _ _ _ _ _ _ _ (hx ▸ h2) (by omega) (by decide)
    rw [h3.2]
    exact Or.inr ⟨lv, s⟩
theorem zPar_v {K : List Int} {cd : Nat → Int32} {lvF : Int → Prop} {nvF : Int → Int → Prop} {Pr : Nat → Prop} {S : Nat → Nat → Prop} {V : Nat → Prop} {C : Int → Nat → Prop} {lv : Int} (h : zSem [] K 0 lv) (hE : zEnv K cd lvF nvF Pr S V C) : ((zwk cd lvF nvF K.length).2.1 = 1 ∧ ((zwk cd lvF nvF K.length).1 0 ↔ V (K.length - 1))) ∧ ∀ i : Nat, i < K.length → zQp K cd lvF nvF i := by
  obtain ⟨a1, a2, a3, a4, a5⟩ := h.2 K cd lvF nvF Pr S V C hE ⟨[], by rw [List.append_nil]⟩ (by show (0 : Int) ≤ 0; omega) (by show (0 : Int) ≤ 0; omega)
  exact ⟨⟨a1, a4⟩, fun i hi => a5 i (Nat.zero_le i) hi⟩
end ZSG
