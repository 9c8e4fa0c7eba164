def zyB (so dn : Int) : Prop := so = 265 ∨ dn ≠ -1
theorem zyB_n {so dn : Int} : ¬ zyB so dn ↔ so ≠ 265 ∧ dn = -1 := by unfold zyB; omega
def zFb (fa so' fa' k p : Int) : Prop := so' = 265 ∧ (fa ≠ 0 → fa' = fa) ∧ (fa = 0 → 1 ≤ k → k ≤ 4 → 0 ≤ p → p ≤ 700 → fa' ≠ 0)
section ZY
variable {f : Nat → Int32} {n so st be fa dn lv qt ln so' st' be' fa' dn' lv' qt' ln' k p r : Int} {s s' : Nat → Int32} {R R' : zRl_} {P Q : Bool → Prop} {ok : Prop} {B : zRl_}
theorem zFb_i (h0 : so' = 265) (h1 : fa ≠ 0 → fa' = fa) (h2 : fa = 0 → 1 ≤ k → k ≤ 4 → 0 ≤ p → p ≤ 700 → fa' ≠ 0) : zFb fa so' fa' k p := ⟨h0, h1, h2⟩
theorem zFb_W (h : zW f n so st be fa dn) (hn : n ≤ 600) (hf : zFb fa so' fa' k p) (hk : 1 ≤ k ∧ k ≤ 4) (hp : so ≠ 265 → 0 ≤ st → st ≤ n → 0 ≤ p ∧ p ≤ 700) : zW f n so' st' be' fa' dn' := zW_f h hn hf.1 hf.2.1 hf.2.2 hk hp
theorem zNx_i (x1 : so = 265 ∨ dn ≠ -1 → so' = 265) (x2 : dn = -1 → fa' = fa) (x3 : fa ≠ 0 → fa' = fa) (x4 : dn ≠ -1 → fa = 0 → 0 ≤ dn → dn ≤ 700 → fa' ≠ 0) (x5 : 0 ≤ be → be ≤ 602 → so ≠ 265 ∧ dn = -1 → zBl f n be st' ∧ zLk f n st' so' be') : zNx f n so be fa dn so' st' be' fa' := ⟨x1, x2, x3, x4, x5⟩
theorem zyN (h : zW f n so st be fa dn) (hn : n ≤ 600) (hx : zNx f n so be fa dn so' st' be' fa') (he : so ≠ 256) : zW f n so' st' be' fa' dn ∧ (zyB so dn → zyB so' dn) ∧ (¬ zyB so dn → ¬ zyB so' dn ∧ zBl f n be st' ∧ zLk f n st' so' be') := by
  refine ⟨zW_n h hn hx he, fun hb => Or.inl (hx.1 hb), fun hb => ?_⟩
  have g := zyB_n.mp hb
  have a := zW_x h hn hx.2.2.2.2 g he
  exact ⟨zyB_n.mpr ⟨zLk_k a.2, g.2⟩, a.1, a.2⟩
def zyS (R : zRl_) (f : Nat → Int32) (n so st be fa dn lv qt ln : Int) (s : Nat → Int32) (so' st' be' fa' dn' lv' qt' ln' : Int) (s' : Nat → Int32) (P : Bool → Prop) : Prop :=
  zTy f n → zW f n so st be fa dn → zW f n so' st' be' fa' dn' ∧ (zyB so dn → zyB so' dn') ∧ (¬ zyB so dn → ∀ L : List Int, zCd s ln L → 4 * ln ≤ 8 * lv + st →
    (zyB so' dn' ∧ R st lv qt L none) ∨ (¬ zyB so' dn' ∧ ∃ K pl, R st lv qt L (some (st', lv', qt', K, pl)) ∧ zCd s' ln' K ∧ P pl))
theorem zyS_w (h : zyS R f n so st be fa dn lv qt ln s so' st' be' fa' dn' lv' qt' ln' s' P) (hP : ∀ pl, P pl → Q pl) : zyS R f n so st be fa dn lv qt ln s so' st' be' fa' dn' lv' qt' ln' s' Q := fun tb hW => by
  obtain ⟨a, b, c⟩ := h tb hW
  refine ⟨a, b, fun hb L hc hl => ?_⟩
  rcases c hb L hc hl with x | ⟨x, K, pl, y, z, w⟩
  · exact Or.inl x
  · exact Or.inr ⟨x, K, pl, y, z, hP pl w⟩
theorem zyS_q {r r' : Int} (h : zyS R f n so st be fa dn lv qt ln s so' st' be' fa' dn' lv' qt' ln' s' (fun pl => pl = true ↔ r = 1)) (e : r' = r) : zyS R f n so st be fa dn lv qt ln s so' st' be' fa' dn' lv' qt' ln' s' (fun pl => pl = true ↔ r' = 1) := by rw [e]; exact h
theorem zyS_r (h : zyS R f n so st be fa dn lv qt ln s so' st' be' fa' dn' lv' qt' ln' s' P) (hR : zTy f n → so ≠ 265 → 0 ≤ st → zLk f n st so be → ∀ L r, R st lv qt L r → R' st lv qt L r) : zyS R' f n so st be fa dn lv qt ln s so' st' be' fa' dn' lv' qt' ln' s' P := fun tb hW => by
  obtain ⟨a, b, c⟩ := h tb hW
  refine ⟨a, b, fun hb L hc hl => ?_⟩
  have g := zyB_n.mp hb
  obtain ⟨_, _, _, q1, _, q2⟩ := zW_g hW g.1
  rcases c hb L hc hl with x | ⟨x, K, pl, y, z, w⟩
  · exact Or.inl ⟨x.1, hR tb g.1 q1 q2 _ _ x.2⟩
  · exact Or.inr ⟨x, K, pl, hR tb g.1 q1 q2 _ _ y, z, w⟩
theorem zyS_m (hl : lv ≤ 40) (hn : n ≤ 600) (h0 : so = 265 ∨ dn ≠ -1 → so' = 265) (h1 : zTy f n → zW f n so st be fa dn → so ≠ 256 → zW f n so' st' be' fa' dn) (h2 : ∀ L : List Int, zTy f n → zW f n so st be fa dn → so ≠ 265 ∧ dn = -1 → so = 91 → zCd s ln L → ln < 270 → (so' = 265 ∧ zMrk f n st lv qt L none) ∨ (so' ≠ 265 ∧ zMrk f n st lv qt L (some (st', lv', qt', L ++ [4000 + lv], false)) ∧ zCd s' ln' (L ++ [4000 + lv]))) (hs : so = 91) : zyS (zMrk f n) f n so st be fa dn lv qt ln s so' st' be' fa' dn lv' qt' ln' s' (fun pl => pl = false) := fun tb hW => by
  refine ⟨h1 tb hW (by omega), fun hb => Or.inl (h0 hb), fun hb L hc hq => ?_⟩
  have g := zyB_n.mp hb
  have q := zW_g hW g.1
  rcases h2 L tb hW g hs hc (by omega) with x | ⟨x, y, z⟩
  · exact Or.inl ⟨Or.inl x.1, x.2⟩
  · exact Or.inr ⟨zyB_n.mpr ⟨x, g.2⟩, _, false, y, z, rfl⟩
theorem zyS_t (hl : lv ≤ 40) (hn : n ≤ 600) (h0 : so = 265 ∨ dn ≠ -1 → so' = 265) (h1 : zTy f n → zW f n so st be fa dn → so ≠ 256 → zW f n so' st' be' fa' dn) (h2 : ∀ L : List Int, zTy f n → zW f n so st be fa dn → so ≠ 265 ∧ dn = -1 → so = 257 → zCd s ln L → ln < 270 → (so' = 265 ∧ zTkn f n st lv qt L none) ∨ (so' ≠ 265 ∧ ∃ K : List Int, zTkn f n st lv qt L (some (st', lv', qt', K, true)) ∧ zCd s' ln' K)) (hs : so = 257) : zyS (zTkn f n) f n so st be fa dn lv qt ln s so' st' be' fa' dn lv' qt' ln' s' (fun pl => pl = true) := fun tb hW => by
  refine ⟨h1 tb hW (by omega), fun hb => Or.inl (h0 hb), fun hb L hc hq => ?_⟩
  have g := zyB_n.mp hb
  have q := zW_g hW g.1
  rcases h2 L tb hW g hs hc (by omega) with x | ⟨x, K, y, z⟩
  · exact Or.inl ⟨Or.inl x.1, x.2⟩
  · exact Or.inr ⟨zyB_n.mpr ⟨x, g.2⟩, K, true, y, z, rfl⟩
theorem zSc_n {v : Int} (tb : zTy f n) (hp : 0 ≤ st) (h : zLk f n st so be) (hs : so ≠ v) (h0 : 0 ≤ v) (h1 : v ≤ 127) (hv : v ≠ 46) (ht : ¬ zTok v) : ¬ zSc f n st v := fun y => hs ((zLk_s tb hp h h0 h1 hv ht).1.mpr y)
theorem zSc_y {v : Int} (tb : zTy f n) (hp : 0 ≤ st) (h : zLk f n st so be) (hs : so = v) (h0 : 0 ≤ v) (h1 : v ≤ 127) (hv : v ≠ 46) (ht : ¬ zTok v) : zSc f n st v ∧ be = st + 1 := ⟨(zLk_s tb hp h h0 h1 hv ht).1.mp hs, (zLk_s tb hp h h0 h1 hv ht).2 hs⟩
theorem zyBar_m (h : zyS (zMrk f n) f n so st be fa dn lv qt ln s so' st' be' fa' dn' lv' qt' ln' s' P) (hs : so = 91) : zyS (zBar f n ok B) f n so st be fa dn lv qt ln s so' st' be' fa' dn' lv' qt' ln' s' P :=
  zyS_r h (fun tb _ hp hk L r y => Or.inr ⟨zSc_n tb hp hk (by omega) (by decide) (by decide) (by decide) (by unfold zTok; omega), Or.inl ⟨(zSc_y tb hp hk hs (by decide) (by decide) (by decide) (by unfold zTok; omega)).1, y⟩⟩)
theorem zyBar_p (h : zyS (zPhr f n) f n so st be fa dn lv qt ln s so' st' be' fa' dn' lv' qt' ln' s' P) (hs : so = 34) : zyS (zBar f n ok B) f n so st be fa dn lv qt ln s so' st' be' fa' dn' lv' qt' ln' s' P :=
  zyS_r h (fun tb _ hp hk L r y => Or.inr ⟨zSc_n tb hp hk (by omega) (by decide) (by decide) (by decide) (by unfold zTok; omega), Or.inr ⟨zSc_n tb hp hk (by omega) (by decide) (by decide) (by decide) (by unfold zTok; omega), Or.inl ⟨(zSc_y tb hp hk hs (by decide) (by decide) (by decide) (by unfold zTok; omega)).1, y⟩⟩⟩)
theorem zyBar_t (h : zyS (zTkn f n) f n so st be fa dn lv qt ln s so' st' be' fa' dn' lv' qt' ln' s' P) (hs : so = 257) : zyS (zBar f n ok B) f n so st be fa dn lv qt ln s so' st' be' fa' dn' lv' qt' ln' s' P :=
  zyS_r h (fun tb _ hp hk L r y => Or.inr ⟨zSc_n tb hp hk (by omega) (by decide) (by decide) (by decide) (by unfold zTok; omega), Or.inr ⟨zSc_n tb hp hk (by omega) (by decide) (by decide) (by decide) (by unfold zTok; omega), Or.inr ⟨zSc_n tb hp hk (by omega) (by decide) (by decide) (by decide) (by unfold zTok; omega), Or.inl ⟨⟨be, hs ▸ hk⟩, y⟩⟩⟩⟩)
theorem zyBar_x (hn : n ≤ 600) (hf : zFb fa so' fa' k p) (hk : 1 ≤ k ∧ k ≤ 4) (hp : p = st) (h1 : so ≠ 40) (h2 : so ≠ 91) (h3 : so ≠ 34) (h4 : so ≠ 257) : zyS (zBar f n ok B) f n so st be fa dn lv qt ln s so' st' be' fa' dn' lv' qt' ln' s' P := fun tb hW => by
  refine ⟨zFb_W hW hn hf hk (fun _ a b => ⟨by omega, by omega⟩), fun _ => Or.inl hf.1, fun hb L hc hq => Or.inl ⟨Or.inl hf.1, ?_⟩⟩
  have g := zyB_n.mp hb
  obtain ⟨_, _, _, q1, _, q2⟩ := zW_g hW g.1
  refine Or.inr ⟨zSc_n tb q1 q2 (by omega) (by decide) (by decide) (by decide) (by unfold zTok; omega), Or.inr ⟨zSc_n tb q1 q2 (by omega) (by decide) (by decide) (by decide) (by unfold zTok; omega), Or.inr ⟨zSc_n tb q1 q2 (by omega) (by decide) (by decide) (by decide) (by unfold zTok; omega), Or.inr ⟨fun ⟨b, y⟩ => h4 (zLk_u q1 q2 y).1, rfl⟩⟩⟩⟩
theorem zyBar_g0 (hn : n ≤ 600) (hs : so = 40) (hok : ¬ ok) (hf : zFb fa so' fa' k p) (hk : 1 ≤ k ∧ k ≤ 4) (hp : p = st) : zyS (zBar f n ok B) f n so st be fa dn lv qt ln s so' st' be' fa' dn' lv' qt' ln' s' P := fun tb hW => by
  refine ⟨zFb_W hW hn hf hk (fun _ a b => ⟨by omega, by omega⟩), fun _ => Or.inl hf.1, fun hb L hc hq => Or.inl ⟨Or.inl hf.1, ?_⟩⟩
  have g := zyB_n.mp hb
  obtain ⟨_, _, _, q1, _, q2⟩ := zW_g hW g.1
  exact Or.inl ⟨(zSc_y tb q1 q2 hs (by decide) (by decide) (by decide) (by unfold zTok; omega)).1, Or.inl ⟨hok, rfl⟩⟩
def zyTk (f : Nat → Int32) (n w so st be fa dn so' st' be' fa' : Int) : Prop := (so = 265 ∨ dn ≠ -1 → so' = 265) ∧ (so ≠ w → so' = 265) ∧ (zTy f n → zW f n so st be fa dn → so ≠ 256 ∨ w ≠ 256 → zW f n so' st' be' fa' dn) ∧ (zTy f n → zW f n so st be fa dn → so ≠ 265 ∧ dn = -1 → so = w → w ≠ 256 → zBl f n be st' ∧ zLk f n st' so' be')
theorem zyTk_i {w : Int} (h0 : so = 265 ∨ dn ≠ -1 → so' = 265) (h1 : so ≠ w → so' = 265) (h2 : zTy f n → zW f n so st be fa dn → so ≠ 256 ∨ w ≠ 256 → zW f n so' st' be' fa' dn) (h3 : zTy f n → zW f n so st be fa dn → so ≠ 265 ∧ dn = -1 → so = w → w ≠ 256 → zBl f n be st' ∧ zLk f n st' so' be') : zyTk f n w so st be fa dn so' st' be' fa' := ⟨h0, h1, h2, h3⟩
theorem zyBar_g {s1 p1 b1 f1 s2 q2 b2 f2 d2 lv2 qt2 ln2 : Int} {c2 : Nat → Int32} (hn : n ≤ 600) (hs : so = 40) (hok : ok) (hx : zTy f n → zNx f n so be fa dn s1 p1 b1 f1) (hq : zyS B f n s1 p1 b1 f1 dn lv qt ln s s2 q2 b2 f2 d2 lv2 qt2 ln2 c2 P) (ht : zyTk f n 41 s2 q2 b2 f2 d2 so' st' be' fa') : zyS (zBar f n ok B) f n so st be fa dn lv qt ln s so' st' be' fa' d2 lv2 qt2 ln2 c2 (fun pl => pl = false) := fun tb hW => by
  obtain ⟨w1, e1, g1⟩ := zyN hW hn (hx tb) (by omega)
  obtain ⟨w2, e2, g2⟩ := hq tb w1
  obtain ⟨t0, t1, t2, t3⟩ := ht
  refine ⟨t2 tb w2 (Or.inr (by decide)), fun hb => Or.inl (t0 (e2 (e1 hb))), fun hb L hc hl => ?_⟩
  obtain ⟨c1, c2, c3⟩ := g1 hb
  obtain ⟨_, _, _, q1, _, q3⟩ := zW_g hW (zyB_n.mp hb).1
  obtain ⟨x40, xbe⟩ := zSc_y tb q1 q3 hs (by decide) (by decide) (by decide) (by unfold zTok; omega)
  subst xbe
  have hp := c2.1
  rcases g2 c1 L hc (by omega) with ⟨x1, x2⟩ | ⟨x1, K, pl, x2, x3, x4⟩
  · exact Or.inl ⟨Or.inl (t0 x1), Or.inl ⟨x40, Or.inr ⟨hok, _, none, c2, x2, Or.inl ⟨rfl, rfl⟩⟩⟩⟩
  · have y2 := zyB_n.mp x1
    obtain ⟨_, _, _, r1, _, r3⟩ := zW_g w2 y2.1
    by_cases c : s2 = 41
    · obtain ⟨d1, d3⟩ := t3 tb w2 y2 c (by decide)
      obtain ⟨x41, xb2⟩ := zSc_y tb r1 r3 c (by decide) (by decide) (by decide) (by unfold zTok; omega)
      subst xb2
      exact Or.inr ⟨zyB_n.mpr ⟨zLk_k d3, y2.2⟩, K, false, Or.inl ⟨x40, Or.inr ⟨hok, _, _, c2, x2, Or.inr ⟨_, _, _, _, _, rfl, Or.inr ⟨x41, _, d1, rfl⟩⟩⟩⟩, x3, rfl⟩
    · exact Or.inl ⟨Or.inl (t1 c), Or.inl ⟨x40, Or.inr ⟨hok, _, _, c2, x2, Or.inr ⟨_, _, _, _, _, rfl, Or.inl ⟨zSc_n tb r1 r3 c (by decide) (by decide) (by decide) (by unfold zTok; omega), rfl⟩⟩⟩⟩⟩
def zyC (c : Int) (k : Nat) (M : List Int) : Prop := M.length = k ∧ 0 ≤ c ∧ ∀ j : Nat, j < k → M.getD j 0 = if c / 2 ^ j % 2 = 0 then 6000 else 7000
theorem zyC_0 : zyC 0 0 [] := ⟨rfl, by decide, fun j hj => by omega⟩
theorem zyC_s {c c' : Int} {k : Nat} {M : List Int} {v : Int} (h : zyC c k M) (hv : (v = 6000 ∧ c' = 2 * c) ∨ (v = 7000 ∧ c' = 2 * c + 1)) : zyC c' (k + 1) (v :: M) := by
  obtain ⟨h1, h2, h3⟩ := h
  refine ⟨by rw [List.length_cons, h1], by omega, fun j hj => ?_⟩
  cases j with
  | zero =>
    show v = _
    rw [show (2 : Int) ^ 0 = 1 from rfl, Int.ediv_one]
    rcases hv with hv | hv
    · rw [if_pos (by omega), hv.1]
    · rw [if_neg (by omega), hv.1]
  | succ j =>
    show M.getD j 0 = _
    rw [h3 j (by omega), Int.pow_succ, Int.mul_comm, ← Int.ediv_ediv_of_nonneg (by omega : (0 : Int) ≤ 2), show c' / 2 = c from by omega]
def zyL (f : Nat → Int32) (n so0 st0 be0 fa0 dn0 i c inn so st be fa dn : Int) : Prop := zTy f n → zW f n so0 st0 be0 fa0 dn0 → zW f n so st be fa dn ∧ (0 < i → 0 ≤ inn ∧ inn ≤ 600) ∧ (zyB so0 dn0 → zyB so dn) ∧ (¬ zyB so0 dn0 → (zyB so dn ∧ ∃ a' M, zFs f n 12 st0 a' M ∧ zFl f n a') ∨ (¬ zyB so dn ∧ i ≤ 12 ∧ ∃ M, zFs f n i.toNat st0 st M ∧ zyC c i.toNat M))
variable {so0 st0 be0 fa0 dn0 lv0 qt0 ln0 i i' c c' inn inn' : Int} {s0 : Nat → Int32}
theorem zyL_0 (hi : i = 0) (hc : c = 0) : zyL f n so st be fa dn i c inn so st be fa dn := fun tb hW => by
  subst hi; subst hc
  exact ⟨hW, fun h => absurd h (by omega), fun h => h, fun h => Or.inr ⟨h, by decide, [], ⟨rfl, rfl⟩, zyC_0⟩⟩
theorem zyL_s (h : zyL f n so0 st0 be0 fa0 dn0 i c inn so st be fa dn) (hn : n ≤ 600) (hi0 : 0 ≤ i) (hi : i < 12) (hx : zTy f n → zNx f n so be fa dn so' st' be' fa') (hc : (so = 262 ∧ c' = 2 * c) ∨ (so = 263 ∧ c' = 2 * c + 1)) (ei : i' = i + 1) (hin : inn' = st) : zyL f n so0 st0 be0 fa0 dn0 i' c' inn' so' st' be' fa' dn := fun tb hW => by
  obtain ⟨w1, h1, h2, h3⟩ := h tb hW
  obtain ⟨w2, e2, g2⟩ := zyN w1 hn (hx tb) (by omega)
  obtain ⟨_, _, _, q1, q2, q3⟩ := zW_g w1 (by omega)
  refine ⟨w2, fun _ => ⟨by omega, by omega⟩, fun hb => e2 (h2 hb), fun hb => ?_⟩
  rcases h3 hb with ⟨x, y⟩ | ⟨x, _, M, y, z⟩
  · exact Or.inl ⟨e2 x, y⟩
  · obtain ⟨g3, g4, g5⟩ := g2 x
    refine Or.inr ⟨g3, by omega, (if so = 262 then 6000 else 7000) :: M, ?_, ?_⟩
    · rw [show i'.toNat = i.toNat + 1 from by omega]
      exact zFs_s y q3 (by omega) g4
    · rw [show i'.toNat = i.toNat + 1 from by omega]
      refine zyC_s z ?_
      rcases hc with hc | hc
      · exact Or.inl ⟨if_pos hc.1, hc.2⟩
      · exact Or.inr ⟨if_neg (by omega), hc.2⟩
theorem zyL_f {s1 f1 : Int} (h : zyL f n so0 st0 be0 fa0 dn0 i c inn so st be fa dn) (hn : n ≤ 600) (hi : i = 12) (hk : so = 262 ∨ so = 263) (hf : zFb fa s1 f1 3 st) (hx : zTy f n → zNx f n s1 be f1 dn so' st' be' fa') (hin : inn' = st) : zyL f n so0 st0 be0 fa0 dn0 i' c' inn' so' st' be' fa' dn := fun tb hW => by
  obtain ⟨w1, h1, h2, h3⟩ := h tb hW
  obtain ⟨_, _, _, q1, q2, q3⟩ := zW_g w1 (by omega)
  have w2 : zW f n s1 st be f1 dn := zFb_W w1 hn hf (by decide) (fun _ a b => ⟨by omega, by omega⟩)
  have e1 := hf.1
  obtain ⟨w3, e3, g3⟩ := zyN w2 hn (hx tb) (by omega)
  have hb3 := e3 (Or.inl e1)
  refine ⟨w3, fun _ => ⟨by omega, by omega⟩, fun _ => hb3, fun hb => Or.inl ⟨hb3, ?_⟩⟩
  rcases h3 hb with ⟨x, y⟩ | ⟨x, _, M, y, z⟩
  · exact y
  · rw [show i.toNat = 12 from by omega] at y
    exact ⟨st, M, y, so, be, q3, hk⟩
def zyU (f : Nat → Int32) (n : Int) (ok : Prop) (B : zRl_) (so0 st0 be0 fa0 dn0 lv0 qt0 ln0 : Int) (s0 : Nat → Int32) (i c so st be fa dn lv qt ln : Int) (s : Nat → Int32) (j r : Int) : Prop := zTy f n → zW f n so0 st0 be0 fa0 dn0 → zW f n so st be fa dn ∧ (zyB so0 dn0 → zyB so dn) ∧ (¬ zyB so0 dn0 → ∀ L : List Int, zCd s0 ln0 L → 4 * ln0 ≤ 8 * lv0 + st0 →
  (zyB so dn ∧ zUni f n ok B st0 lv0 qt0 L none) ∨ (¬ zyB so dn ∧ ∃ K M pl, zUni f n ok B st0 lv0 qt0 L (some (st, lv, qt, K ++ M, pl)) ∧ zCd s ln (K ++ M.take j.toNat) ∧ zyC c i.toNat M ∧ K.length + M.length ≤ 269 ∧ (pl = true ↔ r = 1)))
theorem zyU_0 {j s2 f2 st2 be2 d2 lv2 qt2 ln2 : Int} {c2 : Nat → Int32} (hB : zBn 4 B) (h : zyL f n so0 st0 be0 fa0 dn0 i c inn so st be fa dn) (hn : n ≤ 600) (hlv : lv2 ≤ 40) (hi0 : 0 ≤ i) (hx : 12 < i ∨ (so ≠ 262 ∧ so ≠ 263)) (hb : zyS (zBar f n ok B) f n so st be fa dn lv0 qt0 ln0 s0 s2 st2 be2 f2 d2 lv2 qt2 ln2 c2 (fun pl => pl = true ↔ r = 1)) (hj : j = 0) (hr : r = 0 ∨ r = 1)
    (hE : (0 < i ∧ r = 0 ∧ zFb f2 so' fa' 4 inn) ∨ ((i ≤ 0 ∨ r ≠ 0) ∧ so' = s2 ∧ fa' = f2)) : zyU f n ok B so0 st0 be0 fa0 dn0 lv0 qt0 ln0 s0 i c so' st2 be2 fa' d2 lv2 qt2 ln2 c2 j r := fun tb hW => by
  subst hj
  obtain ⟨w1, h1, h2, h3⟩ := h tb hW
  obtain ⟨w2, e2, g2⟩ := hb tb w1
  have w3 : zW f n so' st2 be2 fa' d2 := by
    rcases hE with ⟨a1, a2, a3⟩ | ⟨a1, a2, a3⟩
    · exact zFb_W w2 hn a3 (by decide) (fun _ _ _ => ⟨(h1 a1).1, by have := (h1 a1).2; omega⟩)
    · rw [a2, a3]; exact w2
  have e3 : zyB s2 d2 → zyB so' d2 := fun y => by
    rcases hE with ⟨a1, a2, a3⟩ | ⟨a1, a2, a3⟩
    · exact Or.inl a3.1
    · rw [a2]; exact y
  refine ⟨w3, fun y => e3 (e2 (h2 y)), fun y L hc hl => ?_⟩
  obtain ⟨_, _, _, p1, _, _⟩ := zW_g hW (zyB_n.mp y).1
  rcases h3 y with ⟨x1, a', M, x2, x3⟩ | ⟨x1, x0, M, x2, x3⟩
  · exact Or.inl ⟨e3 (e2 x1), 12, a', M, x2, Or.inl ⟨rfl, x3, rfl⟩⟩
  · have x4 := zFs_b x2 p1
    obtain ⟨_, _, _, q1, q2, q3⟩ := zW_g w1 (zyB_n.mp x1).1
    have hnf : ¬ zFl f n st := fun ⟨kd, b, y1, y2⟩ => by
      have y3 := (zLk_u q1 q3 y1).1
      omega
    rcases g2 x1 L hc (by omega) with ⟨z1, z2⟩ | ⟨z1, K, pl, z2, z3, z4⟩
    · exact Or.inl ⟨e3 z1, i.toNat, st, M, x2, Or.inr ⟨by omega, hnf, none, z2, Or.inl ⟨rfl, rfl⟩⟩⟩
    · have z5 := zBar_b hB _ _ _ _ _ _ _ _ _ z2 q1
      have z6 := (zyB_n.mp z1).1
      obtain ⟨_, _, _, r1, r2, r3⟩ := zW_g w2 z6
      have z7 := hc.1
      rcases hE with ⟨a1, a2, a3⟩ | ⟨a1, a2, a3⟩
      · have z8 : pl = false := by
          cases pl with
          | true => have := z4.mp rfl; omega
          | false => rfl
        exact Or.inl ⟨Or.inl a3.1, i.toNat, st, M, x2, Or.inr ⟨by omega, hnf, _, z2, Or.inr ⟨_, _, _, _, _, rfl, Or.inl ⟨⟨by omega, z8⟩, rfl⟩⟩⟩⟩
      · rw [a2]
        refine Or.inr ⟨z1, K, M, pl, ⟨i.toNat, st, M, x2, Or.inr ⟨by omega, hnf, _, z2, Or.inr ⟨_, _, _, _, _, rfl, Or.inr ⟨fun o => ?_, rfl⟩⟩⟩⟩, ?_, x3, by omega, z4⟩
        · have o1 := o.1
          have o2 : r = 1 := by omega
          have o3 := z4.mpr o2
          rw [o.2] at o3
          cases o3
        · rw [show (0 : Int).toNat = 0 from rfl, List.take_zero, List.append_nil]
          exact z3
theorem ztk {M : List Int} {j : Nat} (h : j < M.length) : M.take (j + 1) = M.take j ++ [M.getD j 0] := by
  rw [List.take_succ, List.getElem?_eq_getElem h]
  simp [List.getD, List.getElem?_eq_getElem h]
theorem zyU_s {j j' w : Int} (h : zyU f n ok B so0 st0 be0 fa0 dn0 lv0 qt0 ln0 s0 i c so st be fa dn lv qt ln s j r) (hj : j < i) (hj0 : 0 ≤ j) (hw : (c / 2 ^ j.toNat % 2 = 0 ∧ w = 6) ∨ (c / 2 ^ j.toNat % 2 ≠ 0 ∧ w = 7)) (ha : ∀ L : List Int, zCd s ln L → ln < 270 → zCd s' ln' (L ++ [1000 * w + 0])) (ej : j' = j + 1) : zyU f n ok B so0 st0 be0 fa0 dn0 lv0 qt0 ln0 s0 i c so st be fa dn lv qt ln' s' j' r := fun tb hW => by
  obtain ⟨w1, h1, h2⟩ := h tb hW
  refine ⟨w1, h1, fun hb L hc hl => ?_⟩
  rcases h2 hb L hc hl with x | ⟨x, K, M, pl, x1, x2, x3, x4, x5⟩
  · exact Or.inl x
  · have y1 := x3.1
    have y2 : j.toNat < M.length := by omega
    have y3 := x2.1
    have y4 : (M.take j.toNat).length = j.toNat := by rw [List.length_take]; omega
    rw [List.length_append, y4] at y3
    have y5 := ha _ x2 (by omega)
    refine Or.inr ⟨x, K, M, pl, x1, ?_, x3, x4, x5⟩
    rw [show j'.toNat = j.toNat + 1 from by omega, ztk y2, x3.2.2 _ (by omega), ← List.append_assoc]
    rcases hw with ⟨z1, z2⟩ | ⟨z1, z2⟩
    · rw [if_pos z1]; rw [z2] at y5; exact y5
    · rw [if_neg z1]; rw [z2] at y5; exact y5
theorem zyU_e {j : Int} (h : zyU f n ok B so0 st0 be0 fa0 dn0 lv0 qt0 ln0 s0 i c so st be fa dn lv qt ln s j r) (hj : i ≤ j) : zyS (zUni f n ok B) f n so0 st0 be0 fa0 dn0 lv0 qt0 ln0 s0 so st be fa dn lv qt ln s (fun pl => pl = true ↔ r = 1) := fun tb hW => by
  obtain ⟨w1, h1, h2⟩ := h tb hW
  refine ⟨w1, h1, fun hb L hc hl => ?_⟩
  rcases h2 hb L hc hl with x | ⟨x, K, M, pl, x1, x2, x3, x4, x5⟩
  · exact Or.inl x
  · rw [List.take_of_length_le (by have := x3.1; omega)] at x2
    exact Or.inr ⟨x, _, pl, x1, x2, x5⟩
end ZY
