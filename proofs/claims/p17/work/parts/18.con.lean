def zyB (so dn : Int) : Prop := so = 265 ∨ dn ≠ -1
theorem zyB_n {so dn : Int} : ¬ zyB so dn ↔ so ≠ 265 ∧ dn = -1 := by unfold zyB; omega
def zFb (fa so' fa' k p : Int) : Prop := so' = 265 ∧ (fa ≠ 0 → fa' = fa) ∧ (fa = 0 → 1 ≤ k → k ≤ 4 → 0 ≤ p → p ≤ 700 → fa' ≠ 0)
section ZY
variable {f : Nat → Int32} {n so st be fa dn lv qt ln so' st' be' fa' dn' lv' qt' ln' k p r sd : Int} {s s' : zQs} {R R' : zRl_} {P Q : Bool → Prop} {ok : Prop} {B : zRl_}
theorem zFb_i (h0 : so' = 265) (h1 : fa ≠ 0 → fa' = fa) (h2 : fa = 0 → 1 ≤ k → k ≤ 4 → 0 ≤ p → p ≤ 700 → fa' ≠ 0) : zFb fa so' fa' k p := ⟨h0, h1, h2⟩
theorem zFb_W (h : zqW f n so st be fa dn) (hn : n ≤ 600) (hf : zFb fa so' fa' k p) (hk : 1 ≤ k ∧ k ≤ 4) (hp : so ≠ 265 → 0 ≤ st → st ≤ n → 0 ≤ p ∧ p ≤ 700) : zqW f n so' st' be' fa' dn' := zW_f h hn hf.1 hf.2.1 hf.2.2 hk hp
theorem zNx_i (x1 : so = 265 ∨ dn ≠ -1 → so' = 265) (x2 : dn = -1 → fa' = fa) (x3 : fa ≠ 0 → fa' = fa) (x4 : dn ≠ -1 → fa = 0 → 0 ≤ dn → dn ≤ 700 → fa' ≠ 0) (x5 : 0 ≤ be → be ≤ 602 → so ≠ 265 ∧ dn = -1 → zBl f n be st' ∧ zLk f n st' so' be') : zqNx f n so be fa dn so' st' be' fa' := ⟨x1, x2, x3, x4, x5⟩
theorem zyN (h : zqW f n so st be fa dn) (hn : n ≤ 600) (hx : zqNx f n so be fa dn so' st' be' fa') (he : so ≠ 256) : zqW f n so' st' be' fa' dn ∧ (zyB so dn → zyB so' dn) ∧ (¬ zyB so dn → ¬ zyB so' dn ∧ zBl f n be st' ∧ zLk f n st' so' be') := by
  refine ⟨zW_n h hn hx he, fun hb => Or.inl (hx.1 hb), fun hb => ?_⟩
  have g := zyB_n.mp hb
  have a := zW_x h hn hx.2.2.2.2 g he
  exact ⟨zyB_n.mpr ⟨zLk_k a.2, g.2⟩, a.1, a.2⟩
def zyS (R : zRl_) (f : Nat → Int32) (n so st be fa dn lv qt ln : Int) (s : zQs) (so' st' be' fa' dn' lv' qt' ln' : Int) (s' : zQs) (P : Bool → Prop) : Prop :=
  zqTy f n → zqW f n so st be fa dn → zqW f n so' st' be' fa' dn' ∧ (zyB so dn → zyB so' dn') ∧ (¬ zyB so dn → ∀ L : List Int, zCe s ln L → 4 * ln ≤ 8 * lv + st →
    (zyB so' dn' ∧ R st lv qt L none) ∨ (¬ zyB so' dn' ∧ ∃ K pl, R st lv qt L (some (st', lv', qt', K, pl)) ∧ zCe s' ln' K ∧ P pl))
theorem zyS_w (h : zyS R f n so st be fa dn lv qt ln s so' st' be' fa' dn' lv' qt' ln' s' P) (hP : ∀ pl, P pl → Q pl) : zyS R f n so st be fa dn lv qt ln s so' st' be' fa' dn' lv' qt' ln' s' Q := fun tb hW => by
  obtain ⟨a, b, c⟩ := h tb hW
  refine ⟨a, b, fun hb L hc hl => ?_⟩
  rcases c hb L hc hl with x | ⟨x, K, pl, y, z, w⟩
  · exact Or.inl x
  · exact Or.inr ⟨x, K, pl, y, z, hP pl w⟩
theorem zyS_q {r r' : Int} (h : zyS R f n so st be fa dn lv qt ln s so' st' be' fa' dn' lv' qt' ln' s' (fun pl => pl = true ↔ r = 1)) (e : r' = r) : zyS R f n so st be fa dn lv qt ln s so' st' be' fa' dn' lv' qt' ln' s' (fun pl => pl = true ↔ r' = 1) := by rw [e]; exact h
theorem zyS_r (h : zyS R f n so st be fa dn lv qt ln s so' st' be' fa' dn' lv' qt' ln' s' P) (hR : zqTy f n → so ≠ 265 → 0 ≤ st → zLk f n st so be → ∀ L r, R st lv qt L r → R' st lv qt L r) : zyS R' f n so st be fa dn lv qt ln s so' st' be' fa' dn' lv' qt' ln' s' P := fun tb hW => by
  obtain ⟨a, b, c⟩ := h tb hW
  refine ⟨a, b, fun hb L hc hl => ?_⟩
  have g := zyB_n.mp hb
  obtain ⟨_, _, _, q1, _, q2⟩ := zW_g hW g.1
  rcases c hb L hc hl with x | ⟨x, K, pl, y, z, w⟩
  · exact Or.inl ⟨x.1, hR tb g.1 q1 q2 _ _ x.2⟩
  · exact Or.inr ⟨x, K, pl, hR tb g.1 q1 q2 _ _ y, z, w⟩
theorem zyS_m (hl : lv ≤ 40) (hn : n ≤ 600) (h0 : so = 265 ∨ dn ≠ -1 → so' = 265) (h1 : zqTy f n → zqW f n so st be fa dn → so ≠ 256 → zqW f n so' st' be' fa' dn) (h2 : ∀ L : List Int, zqTy f n → zqW f n so st be fa dn → so ≠ 265 ∧ dn = -1 → so = 91 → zCe s ln L → ln < 270 → (so' = 265 ∧ zMrk f n st lv qt L none) ∨ (so' ≠ 265 ∧ zMrk f n st lv qt L (some (st', lv', qt', L ++ [zlc 4 lv st 0], false)) ∧ zCe s' ln' (L ++ [zlc 4 lv st 0]))) (hs : so = 91) : zyS (zMrk f n) f n so st be fa dn lv qt ln s so' st' be' fa' dn lv' qt' ln' s' (fun pl => pl = false) := fun tb hW => by
  refine ⟨h1 tb hW (by omega), fun hb => Or.inl (h0 hb), fun hb L hc hq => ?_⟩
  have g := zyB_n.mp hb
  have q := zW_g hW g.1
  rcases h2 L tb hW g hs hc (by omega) with x | ⟨x, y, z⟩
  · exact Or.inl ⟨Or.inl x.1, x.2⟩
  · exact Or.inr ⟨zyB_n.mpr ⟨x, g.2⟩, _, false, y, z, rfl⟩
theorem zyS_t (hl : lv ≤ 40) (hn : n ≤ 600) (h0 : so = 265 ∨ dn ≠ -1 → so' = 265) (h1 : zqTy f n → zqW f n so st be fa dn → so ≠ 256 → zqW f n so' st' be' fa' dn) (h2 : ∀ L : List Int, zqTy f n → zqW f n so st be fa dn → so ≠ 265 ∧ dn = -1 → so = 257 → zCe s ln L → ln < 270 → (so' = 265 ∧ zTkn f n sd st lv qt L none) ∨ (so' ≠ 265 ∧ ∃ K : List Int, zTkn f n sd st lv qt L (some (st', lv', qt', K, true)) ∧ zCe s' ln' K)) (hs : so = 257) : zyS (zTkn f n sd) f n so st be fa dn lv qt ln s so' st' be' fa' dn lv' qt' ln' s' (fun pl => pl = true) := fun tb hW => by
  refine ⟨h1 tb hW (by omega), fun hb => Or.inl (h0 hb), fun hb L hc hq => ?_⟩
  have g := zyB_n.mp hb
  have q := zW_g hW g.1
  rcases h2 L tb hW g hs hc (by omega) with x | ⟨x, K, y, z⟩
  · exact Or.inl ⟨Or.inl x.1, x.2⟩
  · exact Or.inr ⟨zyB_n.mpr ⟨x, g.2⟩, K, true, y, z, rfl⟩
theorem zSc_n {v : Int} (tb : zqTy f n) (hp : 0 ≤ st) (h : zLk f n st so be) (hs : so ≠ v) (h0 : 0 ≤ v) (h1 : v ≤ 127) (hv : v ≠ 46) (ht : ¬ zTok v) : ¬ zSc f n st v := fun y => hs ((zLk_s tb hp h h0 h1 hv ht).1.mpr y)
theorem zSc_y {v : Int} (tb : zqTy f n) (hp : 0 ≤ st) (h : zLk f n st so be) (hs : so = v) (h0 : 0 ≤ v) (h1 : v ≤ 127) (hv : v ≠ 46) (ht : ¬ zTok v) : zSc f n st v ∧ be = st + 1 := ⟨(zLk_s tb hp h h0 h1 hv ht).1.mp hs, (zLk_s tb hp h h0 h1 hv ht).2 hs⟩
theorem zyBar_m (h : zyS (zMrk f n) f n so st be fa dn lv qt ln s so' st' be' fa' dn' lv' qt' ln' s' P) (hs : so = 91) : zyS (zBar f n sd ok B) f n so st be fa dn lv qt ln s so' st' be' fa' dn' lv' qt' ln' s' P :=
  zyS_r h (fun tb _ hp hk L r y => Or.inr ⟨zSc_n tb hp hk (by omega) (by decide) (by decide) (by decide) (by unfold zTok; omega), Or.inl ⟨(zSc_y tb hp hk hs (by decide) (by decide) (by decide) (by unfold zTok; omega)).1, y⟩⟩)
theorem zyBar_p (h : zyS (zPhr f n sd) f n so st be fa dn lv qt ln s so' st' be' fa' dn' lv' qt' ln' s' P) (hs : so = 34) : zyS (zBar f n sd ok B) f n so st be fa dn lv qt ln s so' st' be' fa' dn' lv' qt' ln' s' P :=
  zyS_r h (fun tb _ hp hk L r y => Or.inr ⟨zSc_n tb hp hk (by omega) (by decide) (by decide) (by decide) (by unfold zTok; omega), Or.inr ⟨zSc_n tb hp hk (by omega) (by decide) (by decide) (by decide) (by unfold zTok; omega), Or.inl ⟨(zSc_y tb hp hk hs (by decide) (by decide) (by decide) (by unfold zTok; omega)).1, y⟩⟩⟩)
theorem zyBar_t (h : zyS (zTkn f n sd) f n so st be fa dn lv qt ln s so' st' be' fa' dn' lv' qt' ln' s' P) (hs : so = 257) : zyS (zBar f n sd ok B) f n so st be fa dn lv qt ln s so' st' be' fa' dn' lv' qt' ln' s' P :=
  zyS_r h (fun tb _ hp hk L r y => Or.inr ⟨zSc_n tb hp hk (by omega) (by decide) (by decide) (by decide) (by unfold zTok; omega), Or.inr ⟨zSc_n tb hp hk (by omega) (by decide) (by decide) (by decide) (by unfold zTok; omega), Or.inr ⟨zSc_n tb hp hk (by omega) (by decide) (by decide) (by decide) (by unfold zTok; omega), Or.inl ⟨⟨be, hs ▸ hk⟩, y⟩⟩⟩⟩)
theorem zyBar_x (hn : n ≤ 600) (hf : zFb fa so' fa' k p) (hk : 1 ≤ k ∧ k ≤ 4) (hp : p = st) (h1 : so ≠ 40) (h2 : so ≠ 91) (h3 : so ≠ 34) (h4 : so ≠ 257) : zyS (zBar f n sd ok B) f n so st be fa dn lv qt ln s so' st' be' fa' dn' lv' qt' ln' s' P := fun tb hW => by
  refine ⟨zFb_W hW hn hf hk (fun _ a b => ⟨by omega, by omega⟩), fun _ => Or.inl hf.1, fun hb L hc hq => Or.inl ⟨Or.inl hf.1, ?_⟩⟩
  have g := zyB_n.mp hb
  obtain ⟨_, _, _, q1, _, q2⟩ := zW_g hW g.1
  refine Or.inr ⟨zSc_n tb q1 q2 (by omega) (by decide) (by decide) (by decide) (by unfold zTok; omega), Or.inr ⟨zSc_n tb q1 q2 (by omega) (by decide) (by decide) (by decide) (by unfold zTok; omega), Or.inr ⟨zSc_n tb q1 q2 (by omega) (by decide) (by decide) (by decide) (by unfold zTok; omega), Or.inr ⟨fun ⟨b, y⟩ => h4 (zLk_u q1 q2 y).1, rfl⟩⟩⟩⟩
theorem zyBar_g0 (hn : n ≤ 600) (hs : so = 40) (hok : ¬ ok) (hf : zFb fa so' fa' k p) (hk : 1 ≤ k ∧ k ≤ 4) (hp : p = st) : zyS (zBar f n sd ok B) f n so st be fa dn lv qt ln s so' st' be' fa' dn' lv' qt' ln' s' P := fun tb hW => by
  refine ⟨zFb_W hW hn hf hk (fun _ a b => ⟨by omega, by omega⟩), fun _ => Or.inl hf.1, fun hb L hc hq => Or.inl ⟨Or.inl hf.1, ?_⟩⟩
  have g := zyB_n.mp hb
  obtain ⟨_, _, _, q1, _, q2⟩ := zW_g hW g.1
  exact Or.inl ⟨(zSc_y tb q1 q2 hs (by decide) (by decide) (by decide) (by unfold zTok; omega)).1, Or.inl ⟨hok, rfl⟩⟩
def zyTk (f : Nat → Int32) (n w so st be fa dn so' st' be' fa' : Int) : Prop := (so = 265 ∨ dn ≠ -1 → so' = 265) ∧ (so ≠ w → so' = 265) ∧ (zqTy f n → zqW f n so st be fa dn → so ≠ 256 ∨ w ≠ 256 → zqW f n so' st' be' fa' dn) ∧ (zqTy f n → zqW f n so st be fa dn → so ≠ 265 ∧ dn = -1 → so = w → w ≠ 256 → zBl f n be st' ∧ zLk f n st' so' be')
theorem zyTk_i {w : Int} (h0 : so = 265 ∨ dn ≠ -1 → so' = 265) (h1 : so ≠ w → so' = 265) (h2 : zqTy f n → zqW f n so st be fa dn → so ≠ 256 ∨ w ≠ 256 → zqW f n so' st' be' fa' dn) (h3 : zqTy f n → zqW f n so st be fa dn → so ≠ 265 ∧ dn = -1 → so = w → w ≠ 256 → zBl f n be st' ∧ zLk f n st' so' be') : zyTk f n w so st be fa dn so' st' be' fa' := ⟨h0, h1, h2, h3⟩
theorem zyBar_g {s1 p1 b1 f1 s2 q2 b2 f2 d2 lv2 qt2 ln2 : Int} {c2 : zQs} (hn : n ≤ 600) (hs : so = 40) (hok : ok) (hx : zqTy f n → zqNx f n so be fa dn s1 p1 b1 f1) (hq : zyS B f n s1 p1 b1 f1 dn lv qt ln s s2 q2 b2 f2 d2 lv2 qt2 ln2 c2 P) (ht : zyTk f n 41 s2 q2 b2 f2 d2 so' st' be' fa') : zyS (zBar f n sd ok B) f n so st be fa dn lv qt ln s so' st' be' fa' d2 lv2 qt2 ln2 c2 (fun pl => pl = false) := fun tb hW => by
  obtain ⟨w1, e1, g1⟩ := zyN hW hn (hx tb) (by omega)
  obtain ⟨w2, e2, g2⟩ := hq tb w1
  obtain ⟨t0, t1, t2, t3⟩ := ht
  refine ⟨t2 tb w2 (Or.inr (by decide)), fun hb => Or.inl (t0 (e2 (e1 hb))), fun hb L hc hl => ?_⟩
  obtain ⟨c1, c2, c3⟩ := g1 hb
  obtain ⟨_, _, _, q1, _, q3⟩ := zW_g hW (zyB_n.mp hb).1
  obtain ⟨x40, xbe⟩ := zSc_y tb q1 q3 hs (by decide) (by decide) (by decide) (by unfold zTok; omega)
  subst xbe
  have hp := c2.1
  rcases g2 c1 L hc (by omega) with ⟨x1, x2⟩ | ⟨x1, K, pl, x2, x3, x4⟩
  · exact Or.inl ⟨Or.inl (t0 x1), Or.inl ⟨x40, Or.inr ⟨hok, _, none, c2, x2, Or.inl ⟨rfl, rfl⟩⟩⟩⟩
  · have y2 := zyB_n.mp x1
    obtain ⟨_, _, _, r1, _, r3⟩ := zW_g w2 y2.1
    by_cases c : s2 = 41
    · obtain ⟨d1, d3⟩ := t3 tb w2 y2 c (by decide)
      obtain ⟨x41, xb2⟩ := zSc_y tb r1 r3 c (by decide) (by decide) (by decide) (by unfold zTok; omega)
      subst xb2
      exact Or.inr ⟨zyB_n.mpr ⟨zLk_k d3, y2.2⟩, K, false, Or.inl ⟨x40, Or.inr ⟨hok, _, _, c2, x2, Or.inr ⟨_, _, _, _, _, rfl, Or.inr ⟨x41, _, d1, rfl⟩⟩⟩⟩, x3, rfl⟩
    · exact Or.inl ⟨Or.inl (t1 c), Or.inl ⟨x40, Or.inr ⟨hok, _, _, c2, x2, Or.inr ⟨_, _, _, _, _, rfl, Or.inl ⟨zSc_n tb r1 r3 c (by decide) (by decide) (by decide) (by unfold zTok; omega), rfl⟩⟩⟩⟩⟩
def zyC (c : Int) (k : Nat) (M : List Int) : Prop := M.length = k ∧ 0 ≤ c ∧ ∀ j : Nat, j < k → M.getD j 0 = if c / 2 ^ j % 2 = 0 then 6000 else 7000
theorem zyC_0 : zyC 0 0 [] := ⟨rfl, by decide, fun j hj => by omega⟩
theorem zyC_s {c c' : Int} {k : Nat} {M : List Int} {v : Int} (h : zyC c k M) (hv : (v = 6000 ∧ c' = 2 * c) ∨ (v = 7000 ∧ c' = 2 * c + 1)) : zyC c' (k + 1) (v :: M) := by
  obtain ⟨h1, h2, h3⟩ := h
  refine ⟨by rw [List.length_cons, h1], by omega, fun j hj => ?_⟩
  cases j with
  | zero =>
    show v = _
    rw [show (2 : Int) ^ 0 = 1 from rfl, Int.ediv_one]
    rcases hv with hv | hv
    · rw [if_pos (by omega), hv.1]
    · rw [if_neg (by omega), hv.1]
  | succ j =>
    show M.getD j 0 = _
    rw [h3 j (by omega), Int.pow_succ, Int.mul_comm, ← Int.ediv_ediv_of_nonneg (by omega : (0 : Int) ≤ 2), show c' / 2 = c from by omega]
theorem zsd_t {M : List Int} : zsd (6000 :: M) = zsd M % 2 := by
  unfold zsd
  rw [if_pos (show (6000 : Int) ∈ 6000 :: M from List.mem_cons_self)]
  have e : (7000 : Int) ∈ 6000 :: M ↔ 7000 ∈ M := ⟨fun h => (List.mem_cons.mp h).resolve_left (by decide), fun h => List.mem_cons_of_mem _ h⟩
  by_cases c : (7000 : Int) ∈ M
  · rw [if_pos (e.mpr c), if_pos c]; split <;> decide
  · rw [if_neg (fun q => c (e.mp q)), if_neg c]; split <;> decide
theorem zsd_b {M : List Int} : zsd (7000 :: M) = 2 * (zsd M / 2) := by
  unfold zsd
  rw [if_pos (show (7000 : Int) ∈ 7000 :: M from List.mem_cons_self)]
  have e : (6000 : Int) ∈ 7000 :: M ↔ 6000 ∈ M := ⟨fun h => (List.mem_cons.mp h).resolve_left (by decide), fun h => List.mem_cons_of_mem _ h⟩
  by_cases c : (6000 : Int) ∈ M
  · rw [if_pos (e.mpr c), if_pos c]; split <;> decide
  · rw [if_neg (fun q => c (e.mp q)), if_neg c]; split <;> decide
def zyL (f : Nat → Int32) (n so0 st0 be0 fa0 dn0 i c sv inn so st be fa dn : Int) : Prop := zqTy f n → zqW f n so0 st0 be0 fa0 dn0 → zqW f n so st be fa dn ∧ (0 < i → 0 ≤ inn ∧ inn ≤ 600) ∧ (zyB so0 dn0 → zyB so dn) ∧ (¬ zyB so0 dn0 → (zyB so dn ∧ ∃ a' M, zFs f n 12 st0 a' M ∧ zFl f n a') ∨ (¬ zyB so dn ∧ i ≤ 12 ∧ ∃ M, zFs f n i.toNat st0 st M ∧ zyC c i.toNat M ∧ sv = zsd M))
variable {so0 st0 be0 fa0 dn0 lv0 qt0 ln0 i i' c c' inn inn' sv sv' : Int} {s0 : zQs}
theorem zyL_0 (hi : i = 0) (hc : c = 0) (hs : sv = 3) : zyL f n so st be fa dn i c sv inn so st be fa dn := fun tb hW => by
  subst hi; subst hc; subst hs
  exact ⟨hW, fun h => absurd h (by omega), fun h => h, fun h => Or.inr ⟨h, by decide, [], ⟨rfl, rfl⟩, zyC_0, by decide⟩⟩
theorem zyL_s (h : zyL f n so0 st0 be0 fa0 dn0 i c sv inn so st be fa dn) (hn : n ≤ 600) (hi0 : 0 ≤ i) (hi : i < 12) (hx : zqTy f n → zqNx f n so be fa dn so' st' be' fa') (hc : (so = 262 ∧ c' = 2 * c) ∨ (so = 263 ∧ c' = 2 * c + 1)) (ei : i' = i + 1) (hin : inn' = st) (hsv : (so = 262 ∧ sv' = sv % 2) ∨ (so = 263 ∧ sv' = 2 * (sv / 2))) : zyL f n so0 st0 be0 fa0 dn0 i' c' sv' inn' so' st' be' fa' dn := fun tb hW => by
  obtain ⟨w1, h1, h2, h3⟩ := h tb hW
  obtain ⟨w2, e2, g2⟩ := zyN w1 hn (hx tb) (by omega)
  obtain ⟨_, _, _, q1, q2, q3⟩ := zW_g w1 (by omega)
  refine ⟨w2, fun _ => ⟨by omega, by omega⟩, fun hb => e2 (h2 hb), fun hb => ?_⟩
  rcases h3 hb with ⟨x, y⟩ | ⟨x, _, M, y, z, zs⟩
  · exact Or.inl ⟨e2 x, y⟩
  · obtain ⟨g3, g4, g5⟩ := g2 x
    refine Or.inr ⟨g3, by omega, (if so = 262 then 6000 else 7000) :: M, ?_, ?_, ?_⟩
    · rw [show i'.toNat = i.toNat + 1 from by omega]
      exact zFs_s y q3 (by omega) g4
    · rw [show i'.toNat = i.toNat + 1 from by omega]
      refine zyC_s z ?_
      rcases hc with hc | hc
      · exact Or.inl ⟨if_pos hc.1, hc.2⟩
      · exact Or.inr ⟨if_neg (by omega), hc.2⟩
    · rcases hsv with ⟨a1, a2⟩ | ⟨a1, a2⟩
      · rw [if_pos a1, zsd_t, a2, zs]
      · rw [if_neg (by omega), zsd_b, a2, zs]
theorem zyL_f {s1 f1 : Int} (h : zyL f n so0 st0 be0 fa0 dn0 i c sv inn so st be fa dn) (hn : n ≤ 600) (hi : i = 12) (hk : so = 262 ∨ so = 263) (hf : zFb fa s1 f1 3 st) (hx : zqTy f n → zqNx f n s1 be f1 dn so' st' be' fa') (hin : inn' = st) : zyL f n so0 st0 be0 fa0 dn0 i' c' sv' inn' so' st' be' fa' dn := fun tb hW => by
  obtain ⟨w1, h1, h2, h3⟩ := h tb hW
  obtain ⟨_, _, _, q1, q2, q3⟩ := zW_g w1 (by omega)
  have w2 : zqW f n s1 st be f1 dn := zFb_W w1 hn hf (by decide) (fun _ a b => ⟨by omega, by omega⟩)
  have e1 := hf.1
  obtain ⟨w3, e3, g3⟩ := zyN w2 hn (hx tb) (by omega)
  have hb3 := e3 (Or.inl e1)
  refine ⟨w3, fun _ => ⟨by omega, by omega⟩, fun _ => hb3, fun hb => Or.inl ⟨hb3, ?_⟩⟩
  rcases h3 hb with ⟨x, y⟩ | ⟨x, _, M, y, z, zs⟩
  · exact y
  · rw [show i.toNat = 12 from by omega] at y
    exact ⟨st, M, y, so, be, q3, hk⟩
variable {B : zBu}
def zyU (f : Nat → Int32) (n : Int) (ok : Prop) (B : zBu) (so0 st0 be0 fa0 dn0 lv0 qt0 ln0 : Int) (s0 : zQs) (i c so st be fa dn lv qt ln : Int) (s : zQs) (j r : Int) : Prop := zqTy f n → zqW f n so0 st0 be0 fa0 dn0 → zqW f n so st be fa dn ∧ (zyB so0 dn0 → zyB so dn) ∧ (¬ zyB so0 dn0 → ∀ L : List Int, zCe s0 ln0 L → 4 * ln0 ≤ 8 * lv0 + st0 →
  (zyB so dn ∧ zUni f n ok B st0 lv0 qt0 L none) ∨ (¬ zyB so dn ∧ ∃ K M pl, zUni f n ok B st0 lv0 qt0 L (some (st, lv, qt, K ++ M, pl)) ∧ zCe s ln (K ++ M.take j.toNat) ∧ zyC c i.toNat M ∧ K.length + M.length ≤ 269 ∧ (pl = true ↔ r = 1)))
theorem zyU_0 {j s2 f2 st2 be2 d2 lv2 qt2 ln2 : Int} {c2 : zQs} (hB : zqBu 4 B) (h : zyL f n so0 st0 be0 fa0 dn0 i c sv inn so st be fa dn) (hn : n ≤ 600) (hlv : lv2 ≤ 40) (hi0 : 0 ≤ i) (hx : 12 < i ∨ (so ≠ 262 ∧ so ≠ 263)) (hb : zyS (zBar f n (sv + 4 * B.1) ok (B.2 B.1)) f n so st be fa dn lv0 qt0 ln0 s0 s2 st2 be2 f2 d2 lv2 qt2 ln2 c2 (fun pl => pl = true ↔ r = 1)) (hj : j = 0) (hr : r = 0 ∨ r = 1)
    (hE : (0 < i ∧ r = 0 ∧ zFb f2 so' fa' 4 inn) ∨ ((i ≤ 0 ∨ r ≠ 0) ∧ so' = s2 ∧ fa' = f2)) : zyU f n ok B so0 st0 be0 fa0 dn0 lv0 qt0 ln0 s0 i c so' st2 be2 fa' d2 lv2 qt2 ln2 c2 j r := fun tb hW => by
  subst hj
  obtain ⟨w1, h1, h2, h3⟩ := h tb hW
  obtain ⟨w2, e2, g2⟩ := hb tb w1
  have w3 : zqW f n so' st2 be2 fa' d2 := by
    rcases hE with ⟨a1, a2, a3⟩ | ⟨a1, a2, a3⟩
    · exact zFb_W w2 hn a3 (by decide) (fun _ _ _ => ⟨(h1 a1).1, by have := (h1 a1).2; omega⟩)
    · rw [a2, a3]; exact w2
  have e3 : zyB s2 d2 → zyB so' d2 := fun y => by
    rcases hE with ⟨a1, a2, a3⟩ | ⟨a1, a2, a3⟩
    · exact Or.inl a3.1
    · rw [a2]; exact y
  refine ⟨w3, fun y => e3 (e2 (h2 y)), fun y L hc hl => ?_⟩
  obtain ⟨_, _, _, p1, _, _⟩ := zW_g hW (zyB_n.mp y).1
  rcases h3 y with ⟨x1, a', M, x2, x3⟩ | ⟨x1, x0, M, x2, x3, xs⟩
  · exact Or.inl ⟨e3 (e2 x1), 12, a', M, x2, Or.inl ⟨rfl, x3, rfl⟩⟩
  · rw [xs] at g2
    have x4 := zFs_b x2 p1
    obtain ⟨_, _, _, q1, q2, q3⟩ := zW_g w1 (zyB_n.mp x1).1
    have hnf : ¬ zFl f n st := fun ⟨kd, b, y1, y2⟩ => by
      have y3 := (zLk_u q1 q3 y1).1
      omega
    rcases g2 x1 L hc (by omega) with ⟨z1, z2⟩ | ⟨z1, K, pl, z2, z3, z4⟩
    · exact Or.inl ⟨e3 z1, i.toNat, st, M, x2, Or.inr ⟨by omega, hnf, none, z2, Or.inl ⟨rfl, rfl⟩⟩⟩
    · have z5 := zBar_b (hB _) _ _ _ _ _ _ _ _ _ z2 q1
      have z6 := (zyB_n.mp z1).1
      obtain ⟨_, _, _, r1, r2, r3⟩ := zW_g w2 z6
      have z7 := hc.1
      rcases hE with ⟨a1, a2, a3⟩ | ⟨a1, a2, a3⟩
      · have z8 : pl = false := by
          cases pl with
          | true => have := z4.mp rfl; omega
          | false => rfl
        exact Or.inl ⟨Or.inl a3.1, i.toNat, st, M, x2, Or.inr ⟨by omega, hnf, _, z2, Or.inr ⟨_, _, _, _, _, rfl, Or.inl ⟨⟨by omega, z8⟩, rfl⟩⟩⟩⟩
      · rw [a2]
        refine Or.inr ⟨z1, K, M, pl, ⟨i.toNat, st, M, x2, Or.inr ⟨by omega, hnf, _, z2, Or.inr ⟨_, _, _, _, _, rfl, Or.inr ⟨fun o => ?_, rfl⟩⟩⟩⟩, ?_, x3, by omega, z4⟩
        · have o1 := o.1
          have o2 : r = 1 := by omega
          have o3 := z4.mpr o2
          rw [o.2] at o3
          cases o3
        · rw [show (0 : Int).toNat = 0 from rfl, List.take_zero, List.append_nil]
          exact z3
theorem zqtk {M : List Int} {j : Nat} (h : j < M.length) : M.take (j + 1) = M.take j ++ [M.getD j 0] := by
  rw [List.take_succ, List.getElem?_eq_getElem h]
  simp [List.getD, List.getElem?_eq_getElem h]
theorem zyU_s {j j' w : Int} (h : zyU f n ok B so0 st0 be0 fa0 dn0 lv0 qt0 ln0 s0 i c so st be fa dn lv qt ln s j r) (hj : j < i) (hj0 : 0 ≤ j) (hw : (c / 2 ^ j.toNat % 2 = 0 ∧ w = 6) ∨ (c / 2 ^ j.toNat % 2 ≠ 0 ∧ w = 7)) (ha : zAd s s' ln ln' (1000 * w + 0)) (ej : j' = j + 1) : zyU f n ok B so0 st0 be0 fa0 dn0 lv0 qt0 ln0 s0 i c so st be fa dn lv qt ln' s' j' r := fun tb hW => by
  obtain ⟨w1, h1, h2⟩ := h tb hW
  refine ⟨w1, h1, fun hb L hc hl => ?_⟩
  rcases h2 hb L hc hl with x | ⟨x, K, M, pl, x1, x2, x3, x4, x5⟩
  · exact Or.inl x
  · have y1 := x3.1
    have y2 : j.toNat < M.length := by omega
    have y3 := x2.1
    have y4 : (M.take j.toNat).length = j.toNat := by rw [List.length_take]; omega
    rw [List.length_append, y4] at y3
    have y5 := fun e he h0 => ha (K ++ M.take j.toNat) e he h0 x2 (by omega)
    refine Or.inr ⟨x, K, M, pl, x1, ?_, x3, x4, x5⟩
    rw [show j'.toNat = j.toNat + 1 from by omega, zqtk y2, x3.2.2 _ (by omega), ← List.append_assoc]
    rcases hw with ⟨z1, z2⟩ | ⟨z1, z2⟩
    · rw [if_pos z1]; exact y5 6000 (by rw [z2]; decide) (by decide)
    · rw [if_neg z1]; exact y5 7000 (by rw [z2]; decide) (by decide)
theorem zyU_e {j : Int} (h : zyU f n ok B so0 st0 be0 fa0 dn0 lv0 qt0 ln0 s0 i c so st be fa dn lv qt ln s j r) (hj : i ≤ j) : zyS (zUni f n ok B) f n so0 st0 be0 fa0 dn0 lv0 qt0 ln0 s0 so st be fa dn lv qt ln s (fun pl => pl = true ↔ r = 1) := fun tb hW => by
  obtain ⟨w1, h1, h2⟩ := h tb hW
  refine ⟨w1, h1, fun hb L hc hl => ?_⟩
  rcases h2 hb L hc hl with x | ⟨x, K, M, pl, x1, x2, x3, x4, x5⟩
  · exact Or.inl x
  · rw [List.take_of_length_le (by have := x3.1; omega)] at x2
    exact Or.inr ⟨x, _, pl, x1, x2, x5⟩
end ZY
theorem zybit {c s z y : Int32} (e1 : z = (c.toUInt32 >>> (s.toUInt32 &&& Int32.toUInt32 31)).toInt32) (e2 : y = z &&& 1) (h0 : 0 ≤ c.toInt) (hs : 0 ≤ s.toInt) (hs2 : s.toInt ≤ 12) : y.toInt = c.toInt / 2 ^ s.toInt.toNat % 2 := by
  have key : ∀ k : Nat, k ≤ 12 → s = Int32.ofNat k → y.toInt = c.toInt / 2 ^ k % 2 := by
    intro k hk es
    have hN : c.toBitVec.toNat < 4294967296 := c.toBitVec.isLt
    have hc := ztoi c
    have hz := ztoi z
    have hy := ztoi y
    have h1 := pk_ushr c (Int32.ofNat k) k (by
      have q : ∀ k : Nat, k ≤ 12 → (((Int32.ofNat k).toUInt32 &&& Int32.toUInt32 31).toBitVec % 32).toNat = k := by decide
      exact q k hk)
    rw [es] at e1
    rw [← e1] at h1
    have h2 : y.toBitVec.toNat = z.toBitVec.toNat &&& 1 := by rw [e2]; rfl
    have h3 : z.toBitVec.toNat &&& 1 = z.toBitVec.toNat % 2 := Nat.and_two_pow_sub_one_eq_mod z.toBitVec.toNat 1
    rw [h2, h3] at hy
    rw [if_pos (by omega)] at hy
    have hc2 : c.toInt = (c.toBitVec.toNat : Int) := by
      rw [hc] at h0 ⊢
      split at h0
      · rw [if_pos (by assumption)]
      · omega
    rw [hy, h1, hc2]
    exact rfl
  have q2 : ∀ k : Nat, k ≤ 12 → (Int32.ofNat k).toInt = (k : Int) := by decide
  have es : s = Int32.ofNat s.toInt.toNat := zeqi.mpr (by rw [q2 _ (by omega)]; omega)
  exact key s.toInt.toNat (by omega) es
def zyA (f : Nat → Int32) (n p : Int) (r : Option (Int × Int)) : Prop := ∃ e, zqRe f n p e ∧ ((¬ (zDgs f p e 3 ∧ 1 ≤ zvl f p (e - p).toNat ∧ zvl f p (e - p).toNat ≤ 200) ∧ r = none) ∨ ((zDgs f p e 3 ∧ 1 ≤ zvl f p (e - p).toNat ∧ zvl f p (e - p).toNat ≤ 200) ∧ ∃ p2, zBl f n e p2 ∧ r = some (zvl f p (e - p).toNat, p2)))
def zyP (f : Nat → Int32) (n so st be fa dn so' st' be' fa' v : Int) : Prop := zqTy f n → zqW f n so st be fa dn → zqW f n so' st' be' fa' dn ∧ (zyB so dn → zyB so' dn) ∧ (¬ zyB so dn → (zyB so' dn ∧ zyA f n st none) ∨ (¬ zyB so' dn ∧ zyA f n st (some (v, st'))))
section ZZ
variable {f : Nat → Int32} {n so st be fa dn lv qt ln so' st' be' fa' dn' lv' qt' ln' k p r v i i' : Int} {s s' : zQs} {ok : Prop} {B : zBu} {P : Bool → Prop}
theorem zyP_a {s1 f1 : Int} (hn : n ≤ 600) (hs : so ≠ 257) (hf : zFb fa s1 f1 1 st) (hx : zqTy f n → zqNx f n s1 be f1 dn so' st' be' fa') : zyP f n so st be fa dn so' st' be' fa' v := fun tb hW => by
  have e1 := hf.1
  have w1 : zqW f n s1 st be f1 dn := zFb_W hW hn hf (by decide) (fun _ a b => ⟨by omega, by omega⟩)
  obtain ⟨w2, e2, _⟩ := zyN w1 hn (hx tb) (by omega)
  have e3 := e2 (Or.inl e1)
  refine ⟨w2, fun _ => e3, fun hb => Or.inl ⟨e3, ?_⟩⟩
  obtain ⟨_, _, _, q1, _, q3⟩ := zW_g hW (zyB_n.mp hb).1
  obtain ⟨e, he⟩ := zRe_x (f := f) (n := n) _ st q1 rfl
  exact ⟨e, he, Or.inl ⟨fun y => zLk_d q1 q3 hs he y.1, rfl⟩⟩
theorem zyP_b {s1 f1 : Int} (hn : n ≤ 600) (hs : so = 257) (hd : zqTy f n → 0 ≤ st → be ≤ n → zDr f st be 3 v) (hv : v < 1 ∨ 200 < v) (hf : zFb fa s1 f1 k st) (hk : 1 ≤ k ∧ k ≤ 4) (hx : zqTy f n → zqNx f n s1 be f1 dn so' st' be' fa') : zyP f n so st be fa dn so' st' be' fa' v := fun tb hW => by
  have e1 := hf.1
  have w1 : zqW f n s1 st be f1 dn := zFb_W hW hn hf hk (fun _ a b => ⟨by omega, by omega⟩)
  obtain ⟨w2, e2, _⟩ := zyN w1 hn (hx tb) (by omega)
  have e3 := e2 (Or.inl e1)
  refine ⟨w2, fun _ => e3, fun hb => Or.inl ⟨e3, ?_⟩⟩
  obtain ⟨_, _, _, q1, _, q3⟩ := zW_g hW (zyB_n.mp hb).1
  rw [hs] at q3
  have q4 := (zLk_t q3).2
  refine ⟨be, q4, Or.inl ⟨fun y => ?_, rfl⟩⟩
  rcases hd tb q1 (zLk_n q3 (by decide)) with y1 | y1
  · exact y1.2 y.1
  · have y2 := y1.1
    have y3 := y.2
    omega
theorem zyP_c (hn : n ≤ 600) (hs : so = 257) (hd : zqTy f n → 0 ≤ st → be ≤ n → zDr f st be 3 v) (hv : 1 ≤ v ∧ v ≤ 200) (hx : zqTy f n → zqNx f n so be fa dn so' st' be' fa') : zyP f n so st be fa dn so' st' be' fa' v := fun tb hW => by
  obtain ⟨w2, e2, g2⟩ := zyN hW hn (hx tb) (by omega)
  refine ⟨w2, e2, fun hb => ?_⟩
  obtain ⟨_, _, _, q1, _, q3⟩ := zW_g hW (zyB_n.mp hb).1
  rw [hs] at q3
  have q4 := (zLk_t q3).2
  obtain ⟨g3, g4, g5⟩ := g2 hb
  rcases hd tb q1 (zLk_n q3 (by decide)) with y1 | y1
  · omega
  · have y2 := y1.1
    exact Or.inr ⟨g3, be, q4, Or.inr ⟨⟨y1.2, by omega, by omega⟩, st', g4, by rw [y2]⟩⟩
theorem zyNe_a (h : zyS (zUni f n ok B) f n so st be fa dn lv qt ln s so' st' be' fa' dn' lv' qt' ln' s' P) (hs : so' ≠ 261) : zyS (zNea f n ok B) f n so st be fa dn lv qt ln s so' st' be' fa' dn' lv' qt' ln' s' (fun pl => pl = false) := fun tb hW => by
  obtain ⟨a, b, c⟩ := h tb hW
  refine ⟨a, b, fun hb L hc hl => ?_⟩
  rcases c hb L hc hl with x | ⟨x, K, pl, y, z, w⟩
  · exact Or.inl ⟨x.1, none, x.2, Or.inl ⟨rfl, rfl⟩⟩
  · obtain ⟨_, _, _, q1, _, q3⟩ := zW_g a (zyB_n.mp x).1
    exact Or.inr ⟨x, K, false, ⟨_, y, Or.inr ⟨_, _, _, _, _, rfl, Or.inl ⟨fun ⟨b', y'⟩ => hs (zLk_u q1 q3 y').1, rfl⟩⟩⟩, z, rfl⟩
theorem zW_d {d : Int} (h : zqW f n so st be fa dn) (h0 : 0 ≤ d) (h1 : d ≤ 600) : zqW f n so st be fa d := by
  rcases h with h | ⟨a1, a2, a3, a4, a5⟩
  · exact Or.inl h
  · exact Or.inr ⟨a1, a2, by omega, h1, a5⟩
theorem zyNe_b {r1 r2 s1 p1 b1 f1 d1 l1 t1 n1 s2 p2 b2 f2 s3 p3 b3 f3 s4 p4 b4 f4 d4 l4 t4 n4 : Int} {c1 c4 : zQs} (hB : zqBu 4 B) (hn : n ≤ 600) (hl4 : l4 ≤ 40)
    (h1 : zyS (zUni f n ok B) f n so st be fa dn lv qt ln s s1 p1 b1 f1 d1 l1 t1 n1 c1 (fun pl => pl = true ↔ r1 = 1)) (hs : s1 = 261) (hx : zqTy f n → zqNx f n s1 b1 f1 d1 s2 p2 b2 f2) (ha : zyP f n s2 p2 b2 f2 d1 s3 p3 b3 f3 v)
    (h2 : zyS (zUni f n ok B) f n s3 p3 b3 f3 d1 l1 t1 n1 c1 s4 p4 b4 f4 d4 l4 t4 n4 c4 (fun pl => pl = true ↔ r2 = 1))
    (hE : (r1 = 1 ∧ r2 = 1 ∧ so' = s4 ∧ fa' = f4 ∧ dn' = d4) ∨ ((r1 ≠ 1 ∨ r2 ≠ 1) ∧ ((so' = s4 ∧ fa' = f4 ∧ dn' = p1) ∨ (zFb f4 so' fa' 4 p1 ∧ dn' = d4))))
    (hc : 0 ≤ v → zAd c4 s' n4 ln' (1000 * 5 + v)) : zyS (zNea f n ok B) f n so st be fa dn lv qt ln s so' p4 b4 fa' dn' l4 t4 ln' s' (fun pl => pl = false) := fun tb hW => by
  obtain ⟨w1, e1, g1⟩ := h1 tb hW
  obtain ⟨w2, e2, g2⟩ := zyN w1 hn (hx tb) (by omega)
  obtain ⟨w3, e3, g3⟩ := ha tb w2
  obtain ⟨w4, e4, g4⟩ := h2 tb w3
  obtain ⟨_, _, _, q1, q2, q3⟩ := zW_g w1 (by omega)
  have e5 : zyB s4 d4 → zyB so' dn' := fun y => by
    rcases hE with ⟨_, _, a1, a2, a3⟩ | ⟨_, ⟨a1, a2, a3⟩ | ⟨a1, a2⟩⟩
    · rw [a1, a3]; exact y
    · exact Or.inr (by omega)
    · exact Or.inl a1.1
  have w5 : zqW f n so' p4 b4 fa' dn' := by
    rcases hE with ⟨_, _, a1, a2, a3⟩ | ⟨_, ⟨a1, a2, a3⟩ | ⟨a1, a2⟩⟩
    · rw [a1, a2, a3]; exact w4
    · rw [a1, a2, a3]; exact zW_d w4 q1 (by omega)
    · exact zFb_W w4 hn a1 (by decide) (fun _ _ _ => ⟨by omega, by omega⟩)
  refine ⟨w5, fun y => e5 (e4 (e3 (e2 (e1 y)))), fun hb L hL hl => ?_⟩
  obtain ⟨_, _, _, o1, _, _⟩ := zW_g hW (zyB_n.mp hb).1
  rcases g1 hb L hL hl with ⟨x1, x2⟩ | ⟨x1, K1, pl1, x2, x3, x4⟩
  · exact Or.inl ⟨e5 (e4 (e3 (e2 x1))), none, x2, Or.inl ⟨rfl, rfl⟩⟩
  have k261 : zLk f n p1 261 b1 := hs ▸ q3
  obtain ⟨y1, y2, y3⟩ := g2 x1
  have u1 := zUni_b hB _ _ _ _ _ _ _ _ _ x2 o1
  have u2 := zLk_b q3
  have u3 := y2.1
  have u4 := hL.1
  have u5 := x3.1
  rcases g3 y1 with ⟨z1, e, z2, z3⟩ | ⟨z1, e, z2, z3⟩
  · rcases z3 with z3 | ⟨_, p2', _, z3⟩
    · exact Or.inl ⟨e5 (e4 z1), _, x2, Or.inr ⟨_, _, _, _, _, rfl, Or.inr ⟨b1, p2, e, k261, y2, z2, Or.inl ⟨z3.1, rfl⟩⟩⟩⟩
    · cases z3
  rcases z3 with z3 | ⟨z3, p2', z4, z5⟩
  · cases z3.2
  cases z5
  have u6 := z2.1
  have u7 := z4.1
  rcases g4 z1 K1 x3 (by omega) with ⟨m1, m2⟩ | ⟨m1, K2, pl2, m2, m3, m4⟩
  · exact Or.inl ⟨e5 m1, _, x2, Or.inr ⟨_, _, _, _, _, rfl, Or.inr ⟨b1, p2, e, k261, y2, z2, Or.inr ⟨z3, _, none, z4, m2, Or.inl ⟨rfl, rfl⟩⟩⟩⟩⟩
  have u8 := zUni_b hB _ _ _ _ _ _ _ _ _ m2 (by omega)
  obtain ⟨_, _, _, v1, v2, v3⟩ := zW_g w4 (zyB_n.mp m1).1
  have u9 := m3.1
  have N : ∀ r, (¬ (pl1 = true ∧ pl2 = true) ∧ r = none) ∨ ((pl1 = true ∧ pl2 = true) ∧ r = some (p4, l4, t4, K2 ++ [zlb 5 (zvl f p2 (e - p2).toNat) K1], false)) → zNea f n ok B st lv qt L r := fun r hr => ⟨_, x2, Or.inr ⟨_, _, _, _, _, rfl, Or.inr ⟨b1, p2, e, k261, y2, z2, Or.inr ⟨z3, _, _, z4, m2, Or.inr ⟨_, _, _, _, _, rfl, hr⟩⟩⟩⟩⟩
  rcases hE with ⟨a0, a9, a1, a2, a3⟩ | ⟨a0, a1⟩
  · have m5 := hc (by have := z3.2.1; omega) K2 (zlb 5 (zvl f p2 (e - p2).toNat) K1) (zlb_m (by have := z3.2.1; omega) (by have := z3.2.2; omega)) (zlb_0 (by have := z3.2.1; omega)) m3 (by omega)
    rw [a1, a3]
    exact Or.inr ⟨m1, _, false, N _ (Or.inr ⟨⟨x4.mpr a0, m4.mpr a9⟩, rfl⟩), m5, rfl⟩
  · refine Or.inl ⟨?_, N _ (Or.inl ⟨fun o => ?_, rfl⟩)⟩
    · rcases a1 with ⟨a1, a2, a3⟩ | ⟨a1, a2⟩
      · exact Or.inr (by omega)
      · exact Or.inl a1.1
    · have o1 := x4.mp o.1
      have o2 := m4.mp o.2
      omega
def zyK (f : Nat → Int32) (n so0 st0 be0 fa0 dn0 i so st be fa dn : Int) : Prop := zqTy f n → zqW f n so0 st0 be0 fa0 dn0 → zqW f n so st be fa dn ∧ (zyB so0 dn0 → zyB so dn) ∧ (¬ zyB so0 dn0 → (zyB so dn ∧ ∃ a', zNs f n 40 st0 a' ∧ zKd f n a' 260) ∨ (¬ zyB so dn ∧ i ≤ 40 ∧ zNs f n i.toNat st0 st))
variable {so0 st0 be0 fa0 dn0 lv0 qt0 ln0 : Int} {s0 : zQs}
theorem zyK_0 (hi : i = 0) : zyK f n so st be fa dn i so st be fa dn := fun tb hW => by
  subst hi
  exact ⟨hW, fun h => h, fun h => Or.inr ⟨h, by decide, rfl⟩⟩
theorem zyK_s (h : zyK f n so0 st0 be0 fa0 dn0 i so st be fa dn) (hn : n ≤ 600) (hi0 : 0 ≤ i) (hi : i < 40) (hs : so = 260) (hx : zqTy f n → zqNx f n so be fa dn so' st' be' fa') (ei : i' = i + 1) : zyK f n so0 st0 be0 fa0 dn0 i' so' st' be' fa' dn := fun tb hW => by
  obtain ⟨w1, h2, h3⟩ := h tb hW
  obtain ⟨w2, e2, g2⟩ := zyN w1 hn (hx tb) (by omega)
  obtain ⟨_, _, _, q1, q2, q3⟩ := zW_g w1 (by omega)
  refine ⟨w2, fun hb => e2 (h2 hb), fun hb => ?_⟩
  rcases h3 hb with ⟨x, y⟩ | ⟨x, _, y⟩
  · exact Or.inl ⟨e2 x, y⟩
  · obtain ⟨g3, g4, g5⟩ := g2 x
    refine Or.inr ⟨g3, by omega, ?_⟩
    rw [show i'.toNat = i.toNat + 1 from by omega]
    exact zNs_s y (hs ▸ q3) g4
theorem zyK_f {s1 f1 : Int} (h : zyK f n so0 st0 be0 fa0 dn0 i so st be fa dn) (hn : n ≤ 600) (hi : i = 40) (hs : so = 260) (hf : zFb fa s1 f1 3 st) (hx : zqTy f n → zqNx f n s1 be f1 dn so' st' be' fa') : zyK f n so0 st0 be0 fa0 dn0 i' so' st' be' fa' dn := fun tb hW => by
  obtain ⟨w1, h2, h3⟩ := h tb hW
  obtain ⟨_, _, _, q1, q2, q3⟩ := zW_g w1 (by omega)
  have w2 : zqW f n s1 st be f1 dn := zFb_W w1 hn hf (by decide) (fun _ a b => ⟨by omega, by omega⟩)
  have e1 := hf.1
  obtain ⟨w3, e3, g3⟩ := zyN w2 hn (hx tb) (by omega)
  have hb3 := e3 (Or.inl e1)
  refine ⟨w3, fun _ => hb3, fun hb => Or.inl ⟨hb3, ?_⟩⟩
  rcases h3 hb with ⟨x, y⟩ | ⟨x, _, y⟩
  · exact y
  · rw [show i.toNat = 40 from by omega] at y
    exact ⟨st, y, be, hs ▸ q3⟩
theorem zBx_u {k : Nat} {x y : Int} {F : Int → zRl_} (h : (k % 2 = 1 ∧ y = x + 1 ∧ 0 ≤ x) ∨ (k % 2 = 0 ∧ y = x)) : zBx k (zu0 x, F) = (zu0 y, F) := by
  show ((if k % 2 = 1 then 0 else zu0 x, F) : zBu) = (zu0 y, F)
  rcases h with ⟨h1, h2, h3⟩ | ⟨h1, h2⟩
  · rw [if_pos h1, zu0_f (x := y) (c := 0) (Or.inr ⟨by omega, rfl⟩)]
  · rw [if_neg (by omega), h2]
theorem zyK_u {k0 : Nat} {x y : Int} {F : Int → zRl_} (h : zyS (zNea f n ok (zu0 y, F)) f n so st be fa dn lv qt ln s so' st' be' fa' dn' lv' qt' ln' s' P) (hk : (k0 % 2 = 1 ∧ y = x + 1 ∧ 0 ≤ x) ∨ (k0 % 2 = 0 ∧ y = x)) : zyS (zNea f n ok (zBx k0 (zu0 x, F))) f n so st be fa dn lv qt ln s so' st' be' fa' dn' lv' qt' ln' s' P := by rw [zBx_u hk]; exact h
theorem zBx_0 {k0 : Nat} {u : Int} (h : 0 ≤ u) : 0 ≤ (if k0 % 2 = 1 then 0 else u) := by split <;> omega
theorem zyK_e (h : zyK f n so0 st0 be0 fa0 dn0 i so st be fa dn) (hi0 : 0 ≤ i) (hx : 40 < i ∨ so ≠ 260) (hb : zyS (zNea f n ok (zBx i.toNat B)) f n so st be fa dn lv0 qt0 ln0 s0 so' st' be' fa' dn' lv' qt' ln' s' P) (hr : r = i % 2) : zyS (zNot f n ok B) f n so0 st0 be0 fa0 dn0 lv0 qt0 ln0 s0 so' st' be' fa' dn' lv' qt' ln' s' (fun pl => pl = true ↔ r = 1) := fun tb hW => by
  obtain ⟨w1, h2, h3⟩ := h tb hW
  obtain ⟨w2, e2, g2⟩ := hb tb w1
  refine ⟨w2, fun y => e2 (h2 y), fun y L hc hl => ?_⟩
  obtain ⟨_, _, _, p1, _, _⟩ := zW_g hW (zyB_n.mp y).1
  rcases h3 y with ⟨x1, a', x2, x3⟩ | ⟨x1, x0, x2⟩
  · exact Or.inl ⟨e2 x1, 40, a', x2, Or.inl ⟨rfl, x3, rfl⟩⟩
  · have x4 := zNs_b x2 p1
    obtain ⟨_, _, _, q1, q2, q3⟩ := zW_g w1 (zyB_n.mp x1).1
    have hnf : ¬ zKd f n st 260 := fun ⟨b, y1⟩ => by
      have y3 := (zLk_u q1 q3 y1).1
      omega
    rcases g2 x1 L hc (by omega) with ⟨z1, z2⟩ | ⟨z1, K, pl, z2, z3, z4⟩
    · exact Or.inl ⟨z1, i.toNat, st, x2, Or.inr ⟨by omega, hnf, none, z2, Or.inl ⟨rfl, rfl⟩⟩⟩
    · refine Or.inr ⟨z1, K, decide (i.toNat % 2 = 1), ⟨i.toNat, st, x2, Or.inr ⟨by omega, hnf, _, z2, Or.inr ⟨_, _, _, _, _, rfl, rfl⟩⟩⟩, z3, ?_⟩
      show (decide (i.toNat % 2 = 1) = true ↔ r = 1)
      rw [decide_eq_true_iff]
      omega
def zyV (R : zRl_) (T : Nat → zRl_) (f : Nat → Int32) (n so0 st0 be0 fa0 dn0 lv0 qt0 ln0 : Int) (s0 : zQs) (i so st be fa dn lv qt ln : Int) (s : zQs) : Prop := zqTy f n → zqW f n so0 st0 be0 fa0 dn0 → zqW f n so st be fa dn ∧ (zyB so0 dn0 → zyB so dn) ∧ (¬ zyB so0 dn0 → ∀ L : List Int, zCe s0 ln0 L → 4 * ln0 ≤ 8 * lv0 + st0 →
  (zyB so dn ∧ R st0 lv0 qt0 L none) ∨ (¬ zyB so dn ∧ lv0 + 1 + i ≤ lv ∧ ∃ K, zCe s ln K ∧ 4 * ln + 4 ≤ 8 * lv + st ∧ ∀ k r, T k st lv qt K r → R st0 lv0 qt0 L r))
theorem zyV_a0 {s1 : zQs} {n1 : Int} (hB : zqBu 4 B) (hM : zMou B) (hn : n ≤ 600) (hlv : lv' ≤ 40) (h : zyS (zNot f n ok B) f n so st be fa dn lv qt ln s so' st' be' fa' dn' lv' qt' n1 s1 (fun pl => pl = true ↔ r = 1)) (hi : i = 0)
    (hE : (r = 1 ∧ zAd s1 s' n1 ln' (1000 * 10 + 0)) ∨ (r ≠ 1 ∧ s' = s1 ∧ ln' = n1)) : zyV (zAll f n ok B) (zAlp f n ok B) f n so st be fa dn lv qt ln s i so' st' be' fa' dn' lv' qt' ln' s' := fun tb hW => by
  subst hi
  obtain ⟨a, b, c⟩ := h tb hW
  refine ⟨a, b, fun hb L hc hl => ?_⟩
  obtain ⟨_, _, _, p1, _, _⟩ := zW_g hW (zyB_n.mp hb).1
  rcases c hb L hc hl with x | ⟨x, K, pl, y, z, w⟩
  · exact Or.inl ⟨x.1, none, x.2, Or.inl ⟨rfl, rfl⟩⟩
  · have u := zNot_b hB hM y p1
    obtain ⟨_, _, _, q1, q2, q3⟩ := zW_g a (zyB_n.mp x).1
    have u1 := hc.1
    have u2 := z.1
    rcases hE with ⟨e1, e2⟩ | ⟨e1, e2, e3⟩
    · have ht := w.mpr e1
      have u3 := u.2 ht
      have m := e2 K 10000 (by decide) (by decide) z (by omega)
      have m1 := m.1
      rw [zlen1] at m1
      refine Or.inr ⟨x, by omega, _, m, by omega, fun k r hr => ⟨_, y, Or.inr ⟨_, _, _, _, _, k, rfl, ?_⟩⟩⟩
      rw [if_pos ht]
      exact hr
    · have ht : ¬ pl = true := fun o => e1 (w.mp o)
      rw [e2, e3]
      refine Or.inr ⟨x, by omega, _, z, by omega, fun k r hr => ⟨_, y, Or.inr ⟨_, _, _, _, _, k, rfl, ?_⟩⟩⟩
      rw [if_neg ht]
      exact hr
def zyG (so : Int) : Prop := so = 259 ∨ so = 260 ∨ so = 257 ∨ so = 262 ∨ so = 263 ∨ so = 34 ∨ so = 40 ∨ so = 91
theorem zyV_as {w s1 p1 b1 f1 s2 p2 b2 f2 d2 l2 t2 n2 : Int} {c2 : zQs} (hB : zqBu 4 B) (hM : zMou B) (hn : n ≤ 600) (hlv : l2 ≤ 40) (h : zyV (zAll f n ok B) (zAlp f n ok B) f n so0 st0 be0 fa0 dn0 lv0 qt0 ln0 s0 i so st be fa dn lv qt ln s) (hg : zyG so)
    (hA : (so = 259 ∧ (zqTy f n → zqNx f n so be fa dn s1 p1 b1 f1)) ∨ (so ≠ 259 ∧ s1 = so ∧ p1 = st ∧ b1 = be ∧ f1 = fa)) (hq : zyS (zNot f n ok B) f n s1 p1 b1 f1 dn lv qt ln s s2 p2 b2 f2 d2 l2 t2 n2 c2 (fun pl => pl = true ↔ r = 1)) (hw : (r = 1 ∧ w = 11) ∨ (r ≠ 1 ∧ w = 8)) (hc : zAd c2 s' n2 ln' (1000 * w + 0)) (ei : i' = i + 1) :
    zyV (zAll f n ok B) (zAlp f n ok B) f n so0 st0 be0 fa0 dn0 lv0 qt0 ln0 s0 i' s2 p2 b2 f2 d2 l2 t2 ln' s' := fun tb hW => by
  obtain ⟨w1, e1, g1⟩ := h tb hW
  have st1 : zqW f n s1 p1 b1 f1 dn ∧ (zyB so dn → zyB s1 dn) ∧ (¬ zyB so dn → ¬ zyB s1 dn ∧ st ≤ p1 ∧ ((∃ b, zLk f n st 259 b ∧ zBl f n b p1) ∨ (¬ zKd f n st 259 ∧ p1 = st))) := by
    rcases hA with ⟨a1, a2⟩ | ⟨a1, a2, a3, a4, a5⟩
    · obtain ⟨x1, x2, x3⟩ := zyN w1 hn (a2 tb) (by omega)
      refine ⟨x1, x2, fun y => ?_⟩
      obtain ⟨y1, y2, y3⟩ := x3 y
      obtain ⟨_, _, _, q1, q2, q3⟩ := zW_g w1 (zyB_n.mp y).1
      have y4 := y2.1
      have y5 := zLk_b q3
      exact ⟨y1, by omega, Or.inl ⟨be, a1 ▸ q3, y2⟩⟩
    · rw [a2, a3, a4, a5]
      refine ⟨w1, fun y => y, fun y => ⟨y, by omega, Or.inr ⟨fun ⟨b, y1⟩ => ?_, rfl⟩⟩⟩
      obtain ⟨_, _, _, q1, q2, q3⟩ := zW_g w1 (zyB_n.mp y).1
      exact a1 (zLk_u q1 q3 y1).1
  obtain ⟨w2, e2, g2⟩ := st1
  obtain ⟨w3, e3, g3⟩ := hq tb w2
  refine ⟨w3, fun y => e3 (e2 (e1 y)), fun hb L hL hl => ?_⟩
  rcases g1 hb L hL hl with ⟨x1, x2⟩ | ⟨x1, x0, K, x2, x3, x4⟩
  · exact Or.inl ⟨e3 (e2 x1), x2⟩
  obtain ⟨_, _, _, q1, q2, q3⟩ := zW_g w1 (zyB_n.mp x1).1
  have hgo : zGo f n st := ⟨so, ⟨be, q3⟩, hg⟩
  obtain ⟨y1, y2, y3⟩ := g2 x1
  have u2 := x2.1
  rcases g3 y1 K x2 (by omega) with ⟨z1, z2⟩ | ⟨z1, K2, pl, z2, z3, z4⟩
  · exact Or.inl ⟨z1, x4 1 none ⟨hgo, p1, none, y3, z2, Or.inl ⟨rfl, rfl⟩⟩⟩
  have u := (zNot_b hB hM z2 (by omega)).1
  obtain ⟨_, _, _, r1, r2, r3⟩ := zW_g w3 (zyB_n.mp z1).1
  have u4 := z3.1
  have hew : (if pl = true then zlb 11 0 K else zlb 8 0 K) % 1000000 = 1000 * w + 0 ∧ 0 ≤ (if pl = true then zlb 11 0 K else zlb 8 0 K) := by
    rcases hw with ⟨o1, o2⟩ | ⟨o1, o2⟩
    · rw [if_pos (z4.mpr o1), o2]
      exact ⟨zlb_m (by decide) (by decide), zlb_0 (by decide)⟩
    · rw [if_neg (fun o => o1 (z4.mp o)), o2]
      exact ⟨zlb_m (by decide) (by decide), zlb_0 (by decide)⟩
  have m := hc K2 _ hew.1 hew.2 z3 (by omega)
  have m1 := m.1
  rw [zlen1] at m1
  exact Or.inr ⟨z1, by omega, _, m, by omega, fun k r' hr => x4 (k + 1) r' ⟨hgo, p1, _, y3, z2, Or.inr ⟨_, _, _, _, _, rfl, hr⟩⟩⟩
theorem zyV_ae (h : zyV (zAll f n ok B) (zAlp f n ok B) f n so0 st0 be0 fa0 dn0 lv0 qt0 ln0 s0 i so st be fa dn lv qt ln s) (hlv : lv ≤ 40) (h0 : 0 ≤ lv0) (hx : 600 ≤ i ∨ ¬ zyG so) : zyS (zAll f n ok B) f n so0 st0 be0 fa0 dn0 lv0 qt0 ln0 s0 so st be fa dn lv qt ln s (fun pl => pl = false) := fun tb hW => by
  obtain ⟨w1, e1, g1⟩ := h tb hW
  refine ⟨w1, e1, fun hb L hL hl => ?_⟩
  rcases g1 hb L hL hl with x | ⟨x1, x0, K, x2, x3, x4⟩
  · exact Or.inl x
  obtain ⟨_, _, _, q1, q2, q3⟩ := zW_g w1 (zyB_n.mp x1).1
  refine Or.inr ⟨x1, K, false, x4 0 _ ⟨fun ⟨k, ⟨b, y1⟩, y2⟩ => ?_, rfl⟩, x2, rfl⟩
  have y3 := (zLk_u q1 q3 y1).1
  rcases hx with hx | hx
  · omega
  · exact hx (by rw [y3]; exact y2)
theorem zyV_q0 (hB : zqBu 4 B) (hM : zMou B) (h : zyS (zAll f n ok B) f n so st be fa dn lv qt ln s so' st' be' fa' dn' lv' qt' ln' s' P) (hi : i = 0) : zyV (zQue f n ok B) (zQlp f n ok B) f n so st be fa dn lv qt ln s i so' st' be' fa' dn' lv' qt' ln' s' := fun tb hW => by
  subst hi
  obtain ⟨a, b, c⟩ := h tb hW
  refine ⟨a, b, fun hb L hc hl => ?_⟩
  obtain ⟨_, _, _, p1, _, _⟩ := zW_g hW (zyB_n.mp hb).1
  rcases c hb L hc hl with x | ⟨x, K, pl, y, z, w⟩
  · exact Or.inl ⟨x.1, none, x.2, Or.inl ⟨rfl, rfl⟩⟩
  · have u := zAll_b hB hM _ _ _ _ _ _ _ _ _ y p1
    have u1 := hc.1
    have u2 := z.1
    exact Or.inr ⟨x, by omega, K, z, by omega, fun k r hr => ⟨_, y, Or.inr ⟨_, _, _, _, _, k, rfl, hr⟩⟩⟩
theorem zyV_qs {s1 p1 b1 f1 s2 p2 b2 f2 d2 l2 t2 n2 : Int} {c2 : zQs} (hB : zqBu 4 B) (hM : zMou B) (hn : n ≤ 600) (hlv : l2 ≤ 40) (h : zyV (zQue f n ok B) (zQlp f n ok B) f n so0 st0 be0 fa0 dn0 lv0 qt0 ln0 s0 i so st be fa dn lv qt ln s) (hs : so = 258)
    (hx : zqTy f n → zqNx f n so be fa dn s1 p1 b1 f1) (hq : zyS (zAll f n ok B) f n s1 p1 b1 f1 dn lv qt ln s s2 p2 b2 f2 d2 l2 t2 n2 c2 P) (hc : zAd c2 s' n2 ln' (1000 * 9 + 0)) (ei : i' = i + 1) :
    zyV (zQue f n ok B) (zQlp f n ok B) f n so0 st0 be0 fa0 dn0 lv0 qt0 ln0 s0 i' s2 p2 b2 f2 d2 l2 t2 ln' s' := fun tb hW => by
  obtain ⟨w1, e1, g1⟩ := h tb hW
  obtain ⟨w2, e2, g2⟩ := zyN w1 hn (hx tb) (by omega)
  obtain ⟨w3, e3, g3⟩ := hq tb w2
  refine ⟨w3, fun y => e3 (e2 (e1 y)), fun hb L hL hl => ?_⟩
  rcases g1 hb L hL hl with ⟨x1, x2⟩ | ⟨x1, x0, K, x2, x3, x4⟩
  · exact Or.inl ⟨e3 (e2 x1), x2⟩
  obtain ⟨_, _, _, q1, q2, q3⟩ := zW_g w1 (zyB_n.mp x1).1
  rw [hs] at q3
  obtain ⟨y1, y2, y3⟩ := g2 x1
  have u2 := x2.1
  have u3 := y2.1
  have u5 := (zLk_l q3).1 rfl
  rcases g3 y1 K x2 (by omega) with ⟨z1, z2⟩ | ⟨z1, K2, pl, z2, z3, z4⟩
  · exact Or.inl ⟨z1, x4 1 none ⟨be, p1, none, q3, y2, z2, Or.inl ⟨rfl, rfl⟩⟩⟩
  have u := zAll_b hB hM _ _ _ _ _ _ _ _ _ z2 (by omega)
  obtain ⟨_, _, _, r1, r2, r3⟩ := zW_g w3 (zyB_n.mp z1).1
  have u4 := z3.1
  have m := hc K2 (zlb 9 0 K) (zlb_m (by decide) (by decide)) (zlb_0 (by decide)) z3 (by omega)
  have m1 := m.1
  rw [zlen1] at m1
  exact Or.inr ⟨z1, by omega, _, m, by omega, fun k r' hr => x4 (k + 1) r' ⟨be, p1, _, q3, y2, z2, Or.inr ⟨_, _, _, _, _, rfl, hr⟩⟩⟩
theorem zyV_qe (h : zyV (zQue f n ok B) (zQlp f n ok B) f n so0 st0 be0 fa0 dn0 lv0 qt0 ln0 s0 i so st be fa dn lv qt ln s) (hlv : lv ≤ 40) (h0 : 0 ≤ lv0) (hx : 600 ≤ i ∨ so ≠ 258) : zyS (zQue f n ok B) f n so0 st0 be0 fa0 dn0 lv0 qt0 ln0 s0 so st be fa dn lv qt ln s (fun pl => pl = false) := fun tb hW => by
  obtain ⟨w1, e1, g1⟩ := h tb hW
  refine ⟨w1, e1, fun hb L hL hl => ?_⟩
  rcases g1 hb L hL hl with x | ⟨x1, x0, K, x2, x3, x4⟩
  · exact Or.inl x
  obtain ⟨_, _, _, q1, q2, q3⟩ := zW_g w1 (zyB_n.mp x1).1
  refine Or.inr ⟨x1, K, false, x4 0 _ ⟨fun ⟨b, y1⟩ => ?_, rfl⟩, x2, rfl⟩
  have y3 := (zLk_u q1 q3 y1).1
  rcases hx with hx | hx
  · omega
  · exact hx y3
end ZZ
theorem zts_1 {f : Nat → Int32} {p : Int} {k : Nat} (h : zTok (f (p + k).toNat).toInt) (h2 : k = 0 ∨ ¬ zTok (f (p + k - 1).toNat).toInt) : zqts f p (k + 1) = zqts f p k + 1 := by
  show _ + (if _ then (1 : Int) else 0) = _
  rw [if_pos]
  refine ⟨by unfold zTok at h; omega, ?_⟩
  rcases h2 with h2 | h2
  · exact Or.inl h2
  · exact Or.inr (by unfold zTok at h2; omega)
theorem zts_0 {f : Nat → Int32} {p : Int} {k : Nat} (h : ¬ (zTok (f (p + k).toNat).toInt ∧ (k = 0 ∨ ¬ zTok (f (p + k - 1).toNat).toInt))) : zqts f p (k + 1) = zqts f p k := by
  show _ + (if _ then (1 : Int) else 0) = _
  rw [if_neg, Int.add_zero]
  intro q
  refine h ⟨by unfold zTok; have q1 := q.1; omega, ?_⟩
  rcases q.2 with h2 | h2
  · exact Or.inl h2
  · exact Or.inr (by unfold zTok; omega)
theorem zts_m {f : Nat → Int32} {p : Int} : ∀ {k j : Nat}, zqts f p k ≤ zqts f p (k + j) := by
  intro k j
  induction j with
  | zero => exact Int.le_refl _
  | succ j ih =>
    have q : zqts f p (k + j) ≤ zqts f p (k + (j + 1)) := by
      show zqts f p (k + j) ≤ zqts f p (k + j) + (if _ then (1 : Int) else 0)
      split <;> omega
    omega
def zStt (f : Nat → Int32) (n p : Int) : Prop := zIn f n p ∧ ¬ zIn f n (p - 1)
def zyF (f : Nat → Int32) (n so0 st0 be0 fa0 dn0 lv0 qt0 at' so fa qt : Int) : Prop := zqTy f n → zqW f n so0 st0 be0 fa0 dn0 → so0 = 34 → zqW f n so st0 be0 fa dn0 ∧ (zyB so0 dn0 → so = 265) ∧ (40 ≤ lv0 → so = 265) ∧ (¬ zyB so0 dn0 → lv0 < 40 → (so = 265 ∧ ∀ (sd : Int) (L : List Int), zPhr f n sd st0 lv0 qt0 L none) ∨ (so = 34 ∧ st0 + 1 ≤ at' ∧ at' ≤ n ∧ (∀ j : Nat, st0 + 1 ≤ (j : Int) → (j : Int) < at' → (f j).toInt ≠ 34) ∧ qt = qt0 + zqts f (st0 + 1) (at' - (st0 + 1)).toNat))
section ZF
variable {f : Nat → Int32} {sd n so st be fa dn lv qt ln so' st' be' fa' lv' qt' ln' so0 st0 be0 fa0 dn0 lv0 qt0 ln0 at1 at2 : Int} {s s' s0 : zQs}
theorem zyF_0 {s1 f1 : Int} (hn : n ≤ 600) (t0 : lv < 40 → s1 = so ∧ f1 = fa) (t1 : 40 ≤ lv → s1 = 265) (t2 : so = 265 → s1 = 265) (t3 : zqW f n so st be fa dn → zqW f n s1 st be f1 dn) (e0 : dn = -1 → so' = s1 ∧ fa' = f1) (e1 : dn ≠ -1 → so' = 265) (e2 : f1 ≠ 0 → fa' = f1) (e3 : dn ≠ -1 → f1 = 0 → 0 ≤ dn → dn ≤ 700 → fa' ≠ 0) (ha : at1 = be) (hq : qt' = qt) : zyF f n so st be fa dn lv qt at1 so' fa' qt' := fun tb hW hs => by
  have w1 := t3 hW
  have w2 : zqW f n so' st be fa' dn := by
    by_cases c : dn = -1
    · rw [(e0 c).1, (e0 c).2]; exact w1
    · refine Or.inl ⟨e1 c, ?_⟩
      rcases w1 with w1 | ⟨a1, a2, a3, a4, a5⟩
      · rw [e2 w1.2]; exact w1.2
      · exact e3 c a2 (by omega) (by omega)
  refine ⟨w2, fun y => ?_, fun y => ?_, fun y l => Or.inr ?_⟩
  · rcases y with y | y
    · omega
    · exact e1 y
  · by_cases c : dn = -1
    · rw [(e0 c).1, t1 y]
    · exact e1 c
  · have g := zyB_n.mp y
    obtain ⟨_, _, _, q1, q2, q3⟩ := zW_g hW g.1
    obtain ⟨x34, xbe⟩ := zSc_y tb q1 q3 hs (by decide) (by decide) (by decide) (by unfold zTok; omega)
    have x1 := x34.1
    refine ⟨by rw [(e0 g.2).1, (t0 l).1, hs], by omega, by omega, fun j a b => by omega, ?_⟩
    rw [hq, show (at1 - (st + 1)).toNat = 0 from by omega]
    show qt = qt + 0
    omega
theorem zyF_a {r : Int} {c : Int32} (tb : zqTy f n) (h : 0 ≤ c.toInt ∧ c.toInt < n → r = (f c.toNatClampNeg &&& 255).toInt) (h0 : 0 ≤ c.toInt) (hn : c.toInt < n) : r = 34 ↔ (f c.toInt.toNat).toInt = 34 := by
  have q2 := h ⟨h0, hn⟩
  have q3 : c.toNatClampNeg = c.toInt.toNat := rfl
  have q4 := tb c.toNatClampNeg (by omega)
  rw [zand256] at q2
  rw [← q3]
  omega
theorem zyF_t1 (tb : zqTy f n) (hW : zqW f n so0 st0 be0 fa0 dn0) (hs : so0 = 34) (hb : ¬ zyB so0 dn0) (h1 : st0 + 1 ≤ at1) (hn : at1 < n) : (zStt f n at1 → zqts f (st0 + 1) (at1 + 1 - (st0 + 1)).toNat = zqts f (st0 + 1) (at1 - (st0 + 1)).toNat + 1) ∧ (¬ zStt f n at1 → zqts f (st0 + 1) (at1 + 1 - (st0 + 1)).toNat = zqts f (st0 + 1) (at1 - (st0 + 1)).toNat) := by
  have g := zyB_n.mp hb
  obtain ⟨_, _, _, q1, q2, q3⟩ := zW_g hW g.1
  obtain ⟨x34, xbe⟩ := zSc_y tb q1 q3 hs (by decide) (by decide) (by decide) (by unfold zTok; omega)
  have e1 : (at1 + 1 - (st0 + 1)).toNat = (at1 - (st0 + 1)).toNat + 1 := by omega
  have e2 : st0 + 1 + (((at1 - (st0 + 1)).toNat : Nat) : Int) = at1 := by omega
  have e3 : ¬ zIn f n st0 := fun y => by
    have y1 := y.2.2
    rw [x34.2] at y1
    exact absurd y1 (by unfold zTok; omega)
  rw [e1]
  refine ⟨fun y => zts_1 (by rw [e2]; exact y.1.2.2) ?_, fun y => zts_0 (fun z => y ?_)⟩
  · by_cases c : at1 = st0 + 1
    · exact Or.inl (by omega)
    · refine Or.inr (fun z => y.2 ⟨by omega, by omega, ?_⟩)
      rw [e2] at z
      exact z
  · rw [e2] at z
    refine ⟨⟨by omega, hn, z.1⟩, fun z2 => ?_⟩
    rcases z.2 with z3 | z3
    · have z4 : at1 - 1 = st0 := by omega
      rw [z4] at z2
      exact e3 z2
    · exact z3 z2.2.2
theorem zyF_s (h : zyF f n so0 st0 be0 fa0 dn0 lv0 qt0 at1 so fa qt) (hs : so = 34) (hn : at1 < n) (hq : zqTy f n → 0 ≤ at1 → (f at1.toNat).toInt ≠ 34) (hE : (zStt f n at1 ∧ qt' = qt + 1) ∨ (¬ zStt f n at1 ∧ qt' = qt)) (ea : at2 = at1 + 1) : zyF f n so0 st0 be0 fa0 dn0 lv0 qt0 at2 so fa qt' := fun tb hW h0 => by
  obtain ⟨w, h1, h2, h3⟩ := h tb hW h0
  refine ⟨w, h1, h2, fun y l => ?_⟩
  rcases h3 y l with x | ⟨x1, x2, x3, x4, x5⟩
  · exact Or.inl x
  · have g := zyB_n.mp y
    obtain ⟨_, _, _, q1, q2, q3⟩ := zW_g hW g.1
    have u := zyF_t1 tb hW h0 y x2 hn
    refine Or.inr ⟨x1, by omega, by omega, fun j a b => ?_, ?_⟩
    · by_cases c : (j : Int) = at1
      · have c2 := hq tb (by omega)
        rw [show at1.toNat = j from by omega] at c2
        exact c2
      · exact x4 j a (by omega)
    · rw [ea]
      rcases hE with hE | hE
      · rw [u.1 hE.1]; omega
      · rw [u.2 hE.1]; omega
theorem zyF_x {k : Int} (h : zyF f n so0 st0 be0 fa0 dn0 lv0 qt0 at1 so fa qt) (h6 : n ≤ 600) (hs : so = 34) (hn : at1 < n) (hst : zStt f n at1) (hq : 160 ≤ qt) (hf : zFb fa so' fa' k at1) (hk : 1 ≤ k ∧ k ≤ 4) : zyF f n so0 st0 be0 fa0 dn0 lv0 qt0 at2 so' fa' qt' := fun tb hW h0 => by
  obtain ⟨w, h1, h2, h3⟩ := h tb hW h0
  have h00 := hst.1.1
  refine ⟨zFb_W w h6 hf hk (fun _ _ _ => ⟨by omega, by omega⟩), fun _ => hf.1, fun _ => hf.1, fun y l => Or.inl ⟨hf.1, fun _ L => Or.inr ⟨l, ?_⟩⟩⟩
  rcases h3 y l with x | ⟨x1, x2, x3, x4, x5⟩
  · omega
  · have u := (zyF_t1 tb hW h0 y x2 hn).1 hst
    by_cases c : ∃ c, zQc f n (st0 + 1) c
    · obtain ⟨c, hc⟩ := c
      refine Or.inl ⟨c, hc, Or.inr ?_, rfl⟩
      obtain ⟨c1, c2, c3, c4⟩ := hc
      have g := zyB_n.mp y
      obtain ⟨_, _, _, q1, q2, q3⟩ := zW_g hW g.1
      have c5 : at1 < c := by
        rcases Int.lt_trichotomy at1 c with d | d | d
        · exact d
        · have d1 := hst.1.2.2
          rw [d, c3] at d1
          exact absurd d1 (by unfold zTok; omega)
        · exact absurd c3 (x4 c.toNat (by omega) (by omega))
      have m := zts_m (f := f) (p := st0 + 1) (k := (at1 + 1 - (st0 + 1)).toNat) (j := (c - (at1 + 1)).toNat)
      rw [show (at1 + 1 - (st0 + 1)).toNat + (c - (at1 + 1)).toNat = (c - (st0 + 1)).toNat from by omega] at m
      omega
    · exact Or.inr (Or.inr ⟨fun d hd => c ⟨d, hd⟩, rfl⟩)
def zyH (f : Nat → Int32) (n so st be fa dn ph fi at1 so' st' be' fa' : Int) : Prop := zqTy f n → zqW f n so st be fa dn → 0 ≤ at1 → at1 < n → zqW f n so' st' be' fa' dn ∧ (zyB so dn → zyB so' dn) ∧ (¬ zyB so dn → (ph = fi ∧ zyB so' dn) ∨ (ph ≠ fi ∧ ¬ zyB so' dn ∧ zBl f n (at1 + 1) st'))
theorem zyH_f {ph fi s1 f1 b1 : Int} (h6 : n ≤ 600) (he : ph = fi) (hf : zFb fa s1 f1 1 at1) (hb : b1 = at1 + 1) (hx : zqTy f n → zqNx f n s1 b1 f1 dn so' st' be' fa') : zyH f n so st be fa dn ph fi at1 so' st' be' fa' := fun tb hW h0 hn => by
  have e1 := hf.1
  have w1 : zqW f n s1 st be f1 dn := zFb_W hW h6 hf (by decide) (fun _ a b => ⟨by omega, by omega⟩)
  have w2 := zW_n2 w1 h6 (hx tb) (fun y => absurd e1 y)
  have e3 : zyB so' dn := Or.inl ((hx tb).1 (Or.inl e1))
  exact ⟨w2, fun _ => e3, fun _ => Or.inl ⟨he, e3⟩⟩
theorem zyH_n {ph fi b1 : Int} (h6 : n ≤ 600) (he : ph ≠ fi) (hb : b1 = at1 + 1) (hx : zqTy f n → zqNx f n so b1 fa dn so' st' be' fa') : zyH f n so st be fa dn ph fi at1 so' st' be' fa' := fun tb hW h0 hn => by
  have w2 := zW_n2 hW h6 (hx tb) (fun y => ⟨by omega, by omega⟩)
  refine ⟨w2, fun y => Or.inl ((hx tb).1 y), fun y => Or.inr ⟨he, ?_⟩⟩
  have g := zyB_n.mp y
  have a := (hx tb).2.2.2.2 (by omega) (by omega) g
  subst hb
  exact ⟨zyB_n.mpr ⟨zLk_k a.2, g.2⟩, a.1⟩
theorem zyPh_a {fi : Int} (h : zyF f n so0 st0 be0 fa0 dn0 lv0 qt0 at1 so fa qt) (hlv : lv0 ≤ 40) (h6 : n ≤ 600) (hs0 : so0 = 34) (hs : so = 34) (hn : at1 < n) (ha0 : 0 ≤ at1) (hq : zqTy f n → (f at1.toNat).toInt = 34) (hqt : qt ≤ 160) (hfi : fi = qt0) (hc : zyH f n so st0 be0 fa dn0 qt fi at1 so' st' be' fa') (hl : lv0 < 40 → lv' = lv0 + 1) (hd : zqTy f n → zqW f n so0 st0 be0 fa0 dn0 → ¬ zyB so0 dn0 → lv0 < 40 → qt = qt0 + zqts f (st0 + 1) (at1 - (st0 + 1)).toNat → zQc f n (st0 + 1) at1 → ∀ L : List Int, zCe s0 ln0 L → ln0 < 270 → zCe s' ln' (L ++ [zlc 3 lv0 st0 sd])) : zyS (zPhr f n sd) f n so0 st0 be0 fa0 dn0 lv0 qt0 ln0 s0 so' st' be' fa' dn0 lv' qt ln' s' (fun pl => pl = true) := fun tb hW => by
  obtain ⟨w, h1, h2, h3⟩ := h tb hW hs0
  obtain ⟨w2, g1, g2⟩ := hc tb w ha0 hn
  have hb0 : ¬ zyB so0 dn0 := fun y => by have := h1 y; omega
  have hl0 : lv0 < 40 := by
    rcases Int.lt_or_le lv0 40 with c | c
    · exact c
    · have := h2 c; omega
  refine ⟨w2, fun y => absurd y hb0, fun _ L hL hle => ?_⟩
  have g := zyB_n.mp hb0
  obtain ⟨_, _, _, q1, q2, q3⟩ := zW_g hW g.1
  have hb1 : ¬ zyB so dn0 := zyB_n.mpr ⟨by omega, g.2⟩
  rcases h3 hb0 hl0 with x | ⟨x1, x2, x3, x4, x5⟩
  · omega
  have hqc : zQc f n (st0 + 1) at1 := ⟨x2, hn, hq tb, x4⟩
  rcases g2 hb1 with ⟨y1, y2⟩ | ⟨y1, y2, y3⟩
  · exact Or.inl ⟨y2, Or.inr ⟨hl0, Or.inl ⟨at1, hqc, Or.inl (by omega), rfl⟩⟩⟩
  · have m := hd tb hW hb0 hl0 x5 hqc L hL (by omega)
    refine Or.inr ⟨y2, _, true, Or.inr ⟨hl0, Or.inr (Or.inl ⟨at1, st', hqc, fun o => ?_, y3, ?_⟩)⟩, m, rfl⟩
    · rcases o with o | o <;> omega
    · rw [hl hl0, x5]
theorem zyPh_b {k p : Int} (h : zyF f n so0 st0 be0 fa0 dn0 lv0 qt0 at1 so fa qt) (h6 : n ≤ 600) (hs0 : so0 = 34) (hx : n ≤ at1 ∨ so ≠ 34) (hf : zFb fa so' fa' k p) (hk : 1 ≤ k ∧ k ≤ 4) (hp : p = n) (hn0 : 0 ≤ n) {P : Bool → Prop} : zyS (zPhr f n sd) f n so0 st0 be0 fa0 dn0 lv0 qt0 ln0 s0 so' st0 be0 fa' dn0 lv' qt' ln' s' P := fun tb hW => by
  obtain ⟨w, h1, h2, h3⟩ := h tb hW hs0
  refine ⟨zFb_W w h6 hf hk (fun _ _ _ => ⟨by omega, by omega⟩), fun _ => Or.inl hf.1, fun y L hL hle => Or.inl ⟨Or.inl hf.1, ?_⟩⟩
  by_cases l : 40 ≤ lv0
  · exact Or.inl ⟨l, rfl⟩
  rcases h3 y (by omega) with x | ⟨x1, x2, x3, x4, x5⟩
  · exact x.2 _ L
  · refine Or.inr ⟨by omega, Or.inr (Or.inr ⟨fun c hc => ?_, rfl⟩)⟩
    obtain ⟨c1, c2, c3, c4⟩ := hc
    have g := zyB_n.mp y
    obtain ⟨_, _, _, q1, q2, q3⟩ := zW_g hW g.1
    exact x4 c.toNat (by omega) (by omega) c3
def zyR (f : Nat → Int32) (n r ln : Int) (s : zQs) : Prop := zqTy f n → ∃ K, zPar f n K ∧ ((r ≠ 0 ∧ K = []) ∨ (r = 0 ∧ zCe s ln K))
theorem zyR_i {u9 s1 p1 b1 f1 s2 p2 b2 f2 d2 l2 q2 dn1 z1 z2 z3 z4 z5 : Int} {c0 : zQs} {P : Bool → Prop} {d : Nat} (h6 : n ≤ 600) (h00 : 0 ≤ n) (hd : d = 12) (hx : zqTy f n → zqNx f n 256 z1 z2 dn1 s1 p1 b1 f1) (e1 : z1 = 0) (e2 : z2 = 0) (e3 : dn1 = -1) (hu : u9 = 1) (hq : zyS (zQry f n d u9) f n s1 p1 b1 f1 dn1 z3 z5 z4 c0 s2 p2 b2 f2 d2 l2 q2 ln s P) (e4 : z3 = 0) (e6 : z5 = 0) (e5 : z4 = 0) (e0 : c0.2.1 ≤ 0)
    (hE : (s2 = 256 ∧ (d2 = -1 → fa' = f2) ∧ (f2 ≠ 0 → fa' = f2) ∧ (d2 ≠ -1 → f2 = 0 → 0 ≤ d2 → d2 ≤ 700 → fa' ≠ 0)) ∨ (s2 ≠ 256 ∧ zFb f2 so' fa' 1 p2)) : zyR f n fa' ln s := fun tb => by
  subst e1; subst e2; subst e3; subst e4; subst e5; subst e6; subst hd; subst hu
  obtain ⟨x1, x2, x3, x4, x5⟩ := hx tb
  have a := x5 (by decide) (by decide) ⟨by decide, rfl⟩
  have a1 := a.1.1
  have a2 := a.1.2.2.2
  have w1 : zqW f n s1 p1 b1 f1 (-1) := by
    exact Or.inr ⟨zLk_k a.2, x2 rfl, by decide, by decide, by omega, by omega, a.2⟩
  obtain ⟨w2, g1, g2⟩ := hq tb w1
  have hb : ¬ zyB s1 (-1) := zyB_n.mpr ⟨zLk_k a.2, rfl⟩
  have hbad : zyB s2 d2 → fa' ≠ 0 := fun y => by
    rcases w2 with w2 | ⟨v1, v2, v3, v4, v5, v6, v7⟩
    · rcases hE with ⟨o1, _⟩ | ⟨o1, o2, o3, o4⟩
      · omega
      · rw [o3 w2.2]; exact w2.2
    · rcases hE with ⟨o1, o2, o3, o4⟩ | ⟨o1, o2, o3, o4⟩
      · rcases y with y | y
        · omega
        · exact o4 y v2 (by omega) (by omega)
      · exact o4 v2 (by decide) (by decide) v5 (by omega)
  rcases g2 hb [] (zCe_0 rfl e0) (by omega) with ⟨y1, y2⟩ | ⟨y1, K, pl, y2, y3, y4⟩
  · exact ⟨[], ⟨p1, none, a.1, y2, Or.inl ⟨rfl, rfl⟩⟩, Or.inl ⟨hbad y1, rfl⟩⟩
  · have g := zyB_n.mp y1
    obtain ⟨v2, _, _, v5, v6, v7⟩ := zW_g w2 g.1
    rcases hE with ⟨o1, o2, o3, o4⟩ | ⟨o1, o2, o3, o4⟩
    · exact ⟨K, ⟨p1, _, a.1, y2, Or.inr ⟨_, _, _, _, _, rfl, Or.inr ⟨⟨b2, o1 ▸ v7⟩, rfl⟩⟩⟩, Or.inr ⟨by rw [o2 g.2]; exact v2, y3⟩⟩
    · exact ⟨[], ⟨p1, _, a.1, y2, Or.inr ⟨_, _, _, _, _, rfl, Or.inl ⟨fun ⟨b, y⟩ => o1 (zLk_u v5 v7 y).1, rfl⟩⟩⟩, Or.inl ⟨o4 v2 (by decide) (by decide) v5 (by omega), rfl⟩⟩
def zyT (f : Nat → Int32) (n ln : Int) (s : zQs) : Prop := zqTy f n → ∃ K, zPar f n K ∧ zCe s ln K
theorem zyT_a {r : Int} (h : zyR f n r ln s) (hr : r = 0) : zyT f n ln s := fun tb => by
  obtain ⟨K, h1, h2 | h2⟩ := h tb
  · exact absurd hr h2.1
  · exact ⟨K, h1, h2.2⟩
theorem zyT_b {r l0 : Int} {s0 : zQs} (h : zyR f n r l0 s0) (hr : r ≠ 0) (hl : ln = 0) (e0 : s.2.1 ≤ 0) : zyT f n ln s := fun tb => by
  obtain ⟨K, h1, h2 | h2⟩ := h tb
  · exact ⟨[], h2.2 ▸ h1, zCe_0 hl e0⟩
  · exact absurd h2.1 hr
theorem zSaL {g h : Nat → Int64} {v : Int64} {f : Nat → Int32} {n i : Int} {r : Int32} (e : h = vp_updL g (0 : Int32).toNatClampNeg v) (ev : v = r.toInt64) (hs : zSa f n i r.toInt) : zSa f n i (h 0).toInt := by
  have q : h 0 = r.toInt64 := by rw [e, ← ev]; rfl
  rw [q, Int32.toInt_toInt64]
  exact hs
theorem zsbR_e {o o' : Int} (h : o < 12) (e : o' = o + 1) : zsbR f n (12 - o).toNat = zQry f n (12 - o').toNat := by
  rw [show (12 - o).toNat = (12 - o').toNat + 1 from by omega]
  rfl
theorem zokR_y {o : Int} (h : o < 12) : zokR (12 - o).toNat := by
  rw [show (12 - o).toNat = (11 - o).toNat + 1 from by omega]
  exact trivial
theorem zokR_n {o : Int} (h : 12 ≤ o) : ¬ zokR (12 - o).toNat := by
  rw [show (12 - o).toNat = 0 from by omega]
  exact id
def zyC2 (c i : Int) : Prop := 0 ≤ c ∧ c < 2 ^ i.toNat
theorem zyC2_0 {c i : Int} (hc : c = 0) (hi : i = 0) : zyC2 c i := by subst hc; subst hi; exact ⟨by decide, by decide⟩
theorem zyC2_s {c i c' i' : Int} (h : zyC2 c i) (hc : c' = 2 * c ∨ c' = 2 * c + 1) (hi : i' = i + 1) (h0 : 0 ≤ i) : zyC2 c' i' := by
  obtain ⟨h1, h2⟩ := h
  refine ⟨by omega, ?_⟩
  rw [show i'.toNat = i.toNat + 1 from by omega, Int.pow_succ]
  omega
theorem zyC2_b {c i : Int} (h : zyC2 c i) (hi : i ≤ 12) : c ≤ 4095 := by
  have key : ∀ k : Nat, k ≤ 12 → (2 : Int) ^ k ≤ 4096 := by decide
  have h1 := h.2
  have h2 := key i.toNat (by omega)
  omega
end ZF
section ZM
variable {f : Nat → Int32} {n p h b k b' v : Int}
theorem zMl_s (hm : zMl f n p h b) (hv : v ≠ 46) (ht : ¬ zTok v) : (zSg f p h v ↔ zSc f n p v) ∧ (zSg f p h v → b = p + 1) := by
  rcases hm with ⟨a1, a2⟩ | ⟨a1, a2, a3, a4⟩ | ⟨a1, a2, a3, a4, a5⟩ | ⟨a1, a2, a3, a4, a5⟩
  · exact ⟨⟨fun y => by have := y.1; omega, fun y => by have := y.1; omega⟩, fun y => by have := y.1; omega⟩
  · exact ⟨⟨fun y => by have := y.1; omega, fun y => absurd (y.2 ▸ a2) ht⟩, fun y => by have := y.1; omega⟩
  · exact ⟨⟨fun y => by have := y.1; omega, fun y => absurd (y.2.symm.trans a3.1) hv⟩, fun y => by have := y.1; omega⟩
  · exact ⟨⟨fun y => ⟨a1, y.2⟩, fun y => ⟨a4, y.2⟩⟩, fun _ => a5⟩
theorem zMl_d (hm : zMl f n p h b) : (h = 3 ↔ (p < n ∧ zDd f n p)) ∧ (h = 3 → b = p + 2) := by
  rcases hm with ⟨a1, a2⟩ | ⟨a1, a2, a3, a4⟩ | ⟨a1, a2, a3, a4, a5⟩ | ⟨a1, a2, a3, a4, a5⟩
  · exact ⟨⟨fun y => by omega, fun y => by omega⟩, fun y => by omega⟩
  · exact ⟨⟨fun y => by omega, fun y => by
      have q := y.2.1
      rw [q] at a2
      exact absurd a2 (by unfold zTok; omega)⟩, fun y => by omega⟩
  · exact ⟨⟨fun _ => ⟨a1, a3⟩, fun _ => a4⟩, fun _ => a5⟩
  · exact ⟨⟨fun y => by omega, fun y => absurd y.2 a3⟩, fun y => by omega⟩
theorem zMl_1 (hm : zMl f n p h b) (h1 : h = 1) : p < n ∧ zTok (f p.toNat).toInt ∧ zqRe f n p b := by
  rcases hm with ⟨a1, a2⟩ | ⟨a1, a2, a3, a4⟩ | ⟨a1, a2, a3, a4, a5⟩ | ⟨a1, a2, a3, a4, a5⟩
  · omega
  · exact ⟨a1, a2, a4⟩
  · omega
  · omega
theorem zMl_t (hm : zMl f n p h b) (h1 : h ≠ 1) : ¬ (p < n ∧ zTok (f p.toNat).toInt) := by
  rcases hm with ⟨a1, a2⟩ | ⟨a1, a2, a3, a4⟩ | ⟨a1, a2, a3, a4, a5⟩ | ⟨a1, a2, a3, a4, a5⟩
  · exact fun y => by omega
  · exact absurd a3 h1
  · exact fun y => a2 y.2
  · exact fun y => a2 y.2
theorem zMl_0 (hm : zMl f n p h b) : h = 0 ↔ n ≤ p := by
  rcases hm with ⟨a1, a2⟩ | ⟨a1, a2, a3, a4⟩ | ⟨a1, a2, a3, a4, a5⟩ | ⟨a1, a2, a3, a4, a5⟩ <;> omega
theorem zLk_w (hp : 0 ≤ p) (hm : zMl f n p h b) (h1 : h = 1) : zLk f n p k b' ↔ zKw f n p b k b' := by
  obtain ⟨a1, a2, a3⟩ := zMl_1 hm h1
  constructor
  · intro y
    rcases y with y | ⟨y1, y2, e, y3, y4⟩ | y | y
    · omega
    · have q := zRe_u hp y3 a3
      rw [q] at y4
      exact y4
    · exact absurd a2 y.2.1
    · exact absurd a2 y.2.1
  · exact fun y => Or.inr (Or.inl ⟨a1, a2, b, a3, y⟩)
theorem zLk_v (hm : zMl f n p h b) (hk : zLk f n p k b') (h1 : 257 ≤ k) (h2 : k ≠ 264) : h = 1 := by
  rcases Classical.em (h = 1) with c | c
  · exact c
  · have t := zMl_t hm c
    rcases hk with y | ⟨y1, y2, _⟩ | y | y
    · omega
    · exact absurd ⟨y1, y2⟩ t
    · omega
    · have q := Int.emod_lt_of_pos (f p.toNat).toInt (show (0 : Int) < 256 by omega); omega
theorem zSp_b {l l' : Int} {s s' : Nat} (h1 : zSpl f p b s l) (h2 : l ≠ l') : ¬ zSpl f p b s' l' := fun y => by
  have y1 := h1.1
  have y2 := y.1
  omega
theorem zSp_c {l : Int} {s s' : Nat} (h1 : zSpl f p b s l) (hl : 0 < l) (h2 : zqCs s 0 ≠ zqCs s' 0) : ¬ zSpl f p b s' l := fun y => by
  have y1 := h1.2 0 (by omega)
  have y2 := y.2 0 (by omega)
  exact h2 (y1.symm.trans y2)
theorem zKw_or : zKw f n p b 258 b' ↔ zSpl f p b 7 2 ∧ b' = b := by
  constructor
  · intro y
    rcases y with y | ⟨_, y⟩
    · exact ⟨y.1, y.2.2⟩
    rcases y with y | ⟨_, y⟩
    · omega
    rcases y with y | ⟨_, y⟩
    · omega
    rcases y with y | ⟨_, y⟩
    · omega
    rcases y with ⟨c, y1, y2, y3, y4⟩ | y
    · rcases y4 with y4 | y4 <;> omega
    · omega
  · exact fun y => Or.inl ⟨y.1, rfl, y.2⟩
theorem zKw_and : zKw f n p b 259 b' ↔ zSpl f p b 8 3 ∧ b' = b := by
  constructor
  · intro y
    rcases y with y | ⟨_, y⟩
    · omega
    rcases y with y | ⟨_, y⟩
    · exact ⟨y.1, y.2.2⟩
    rcases y with y | ⟨_, y⟩
    · omega
    rcases y with y | ⟨_, y⟩
    · omega
    rcases y with ⟨c, y1, y2, y3, y4⟩ | y
    · rcases y4 with y4 | y4 <;> omega
    · omega
  · exact fun y => Or.inr ⟨zSp_b y.1 (by decide), Or.inl ⟨y.1, rfl, y.2⟩⟩
theorem zKw_not : zKw f n p b 260 b' ↔ zSpl f p b 9 3 ∧ b' = b := by
  constructor
  · intro y
    rcases y with y | ⟨_, y⟩
    · omega
    rcases y with y | ⟨_, y⟩
    · omega
    rcases y with y | ⟨_, y⟩
    · exact ⟨y.1, y.2.2⟩
    rcases y with y | ⟨_, y⟩
    · omega
    rcases y with ⟨c, y1, y2, y3, y4⟩ | y
    · rcases y4 with y4 | y4 <;> omega
    · omega
  · exact fun y => Or.inr ⟨zSp_b y.1 (by decide), Or.inr ⟨zSp_c y.1 (by decide) (by decide), Or.inl ⟨y.1, rfl, y.2⟩⟩⟩
theorem zKw_near : zKw f n p b 261 b' ↔ zSpl f p b 10 4 ∧ b' = b := by
  constructor
  · intro y
    rcases y with y | ⟨_, y⟩
    · omega
    rcases y with y | ⟨_, y⟩
    · omega
    rcases y with y | ⟨_, y⟩
    · omega
    rcases y with y | ⟨_, y⟩
    · exact ⟨y.1, y.2.2⟩
    rcases y with ⟨c, y1, y2, y3, y4⟩ | y
    · rcases y4 with y4 | y4 <;> omega
    · omega
  · exact fun y => Or.inr ⟨zSp_b y.1 (by decide), Or.inr ⟨zSp_b y.1 (by decide), Or.inr ⟨zSp_b y.1 (by decide), Or.inl ⟨y.1, rfl, y.2⟩⟩⟩⟩
theorem zKw_fl (he : 0 ≤ b) {c : Int} (hc : zBl f n b c) : (zKw f n p b 262 b' ↔ zSpl f p b 11 5 ∧ zqCo f n c ∧ b' = c + 1) ∧ (zKw f n p b 263 b' ↔ zSpl f p b 12 4 ∧ zqCo f n c ∧ b' = c + 1) := by
  refine ⟨⟨fun y => ?_, fun y => ?_⟩, ⟨fun y => ?_, fun y => ?_⟩⟩
  · rcases y with y | ⟨_, y⟩
    · omega
    rcases y with y | ⟨_, y⟩
    · omega
    rcases y with y | ⟨_, y⟩
    · omega
    rcases y with y | ⟨_, y⟩
    · omega
    rcases y with ⟨d, y1, y2, y3, y4⟩ | y
    · have q := zBl_u he y1 hc
      subst q
      rcases y4 with y4 | y4
      · exact ⟨y4.1, y2, y3⟩
      · omega
    · omega
  · exact Or.inr ⟨zSp_b y.1 (by decide), Or.inr ⟨zSp_b y.1 (by decide), Or.inr ⟨zSp_b y.1 (by decide), Or.inr ⟨zSp_b y.1 (by decide), Or.inl ⟨c, hc, y.2.1, y.2.2, Or.inl ⟨y.1, rfl⟩⟩⟩⟩⟩⟩
  · rcases y with y | ⟨_, y⟩
    · omega
    rcases y with y | ⟨_, y⟩
    · omega
    rcases y with y | ⟨_, y⟩
    · omega
    rcases y with y | ⟨_, y⟩
    · omega
    rcases y with ⟨d, y1, y2, y3, y4⟩ | y
    · have q := zBl_u he y1 hc
      subst q
      rcases y4 with y4 | y4
      · omega
      · exact ⟨y4.2.1, y2, y3⟩
    · omega
  · exact Or.inr ⟨zSp_b y.1 (by decide), Or.inr ⟨zSp_b y.1 (by decide), Or.inr ⟨zSp_b y.1 (by decide), Or.inr ⟨zSp_c y.1 (by decide) (by decide), Or.inl ⟨c, hc, y.2.1, y.2.2, Or.inr ⟨zSp_b y.1 (by decide), y.1, rfl⟩⟩⟩⟩⟩⟩
theorem zMl_sp (hp : 0 ≤ p) (hm : zMl f n p h b) (h1 : h = 1) {s : Nat} {l : Int} : zSpl f p b s l ↔ zSpm f p b s l := zSpl_m (zMl_1 hm h1).2.2.2.1 hp
theorem zMl_b (hm : zMl f n p h b) (h1 : h = 1) : p ≤ b ∧ b ≤ n ∧ p < b := by
  obtain ⟨a1, a2, a3⟩ := zMl_1 hm h1
  have q := a3.2.2.1
  have q1 := a3.1
  have q2 := a3.2.2.2
  have q3 : p < b := by
    rcases Int.lt_or_le p b with c | c
    · exact c
    · have c2 : b = p := by omega
      subst c2
      exact absurd a2 (q a1)
  omega
theorem zmK {s : Nat} {l : Int} (hp : 0 ≤ p) (hm : zMl f n p h b) (hk : 257 ≤ k) (hk2 : k ≠ 264) (hw : ∀ b', zKw f n p b k b' ↔ zSpl f p b s l ∧ b' = b) : (h = 1 ∧ zSpm f p b s l ↔ zKd f n p k) ∧ (h = 1 ∧ zSpm f p b s l → zLk f n p k b) := by
  refine ⟨⟨fun y => ⟨b, (zLk_w hp hm y.1).mpr ((hw b).mpr ⟨(zMl_sp hp hm y.1).mpr y.2, rfl⟩)⟩, fun ⟨b', y⟩ => ?_⟩, fun y => (zLk_w hp hm y.1).mpr ((hw b).mpr ⟨(zMl_sp hp hm y.1).mpr y.2, rfl⟩)⟩
  have h1 := zLk_v hm y hk hk2
  exact ⟨h1, (zMl_sp hp hm h1).mp ((hw b').mp ((zLk_w hp hm h1).mp y)).1⟩
theorem zm_or (hp : 0 ≤ p) (hm : zMl f n p h b) : (h = 1 ∧ zSpm f p b 7 2 ↔ zKd f n p 258) ∧ (h = 1 ∧ zSpm f p b 7 2 → zLk f n p 258 b) := zmK (k := 258) (s := 7) (l := 2) hp hm (by decide) (by decide) (fun _ => zKw_or)
theorem zm_and (hp : 0 ≤ p) (hm : zMl f n p h b) : (h = 1 ∧ zSpm f p b 8 3 ↔ zKd f n p 259) ∧ (h = 1 ∧ zSpm f p b 8 3 → zLk f n p 259 b) := zmK (k := 259) (s := 8) (l := 3) hp hm (by decide) (by decide) (fun _ => zKw_and)
theorem zm_not (hp : 0 ≤ p) (hm : zMl f n p h b) : (h = 1 ∧ zSpm f p b 9 3 ↔ zKd f n p 260) ∧ (h = 1 ∧ zSpm f p b 9 3 → zLk f n p 260 b) := zmK (k := 260) (s := 9) (l := 3) hp hm (by decide) (by decide) (fun _ => zKw_not)
theorem zm_near (hp : 0 ≤ p) (hm : zMl f n p h b) : (h = 1 ∧ zSpm f p b 10 4 ↔ zKd f n p 261) ∧ (h = 1 ∧ zSpm f p b 10 4 → zLk f n p 261 b) := zmK (k := 261) (s := 10) (l := 4) hp hm (by decide) (by decide) (fun _ => zKw_near)
def zqIf (f : Nat → Int32) (n p h b : Int) : Prop := h = 1 ∧ (zSpm f p b 11 5 ∨ zSpm f p b 12 4) ∧ zFc f n b
theorem zm_fl (hp : 0 ≤ p) (hm : zMl f n p h b) : zqIf f n p h b ↔ zFl f n p := by
  constructor
  · rintro ⟨y1, y2, c, y3, y4⟩
    have hb := zMl_b hm y1
    have w := zKw_fl (p := p) (b' := c + 1) (show 0 ≤ b by omega) y3
    rcases y2 with y2 | y2
    · exact ⟨262, c + 1, (zLk_w hp hm y1).mpr (w.1.mpr ⟨(zMl_sp hp hm y1).mpr y2, y4, rfl⟩), Or.inl rfl⟩
    · exact ⟨263, c + 1, (zLk_w hp hm y1).mpr (w.2.mpr ⟨(zMl_sp hp hm y1).mpr y2, y4, rfl⟩), Or.inr rfl⟩
  · rintro ⟨kd, b', y, hk⟩
    have h1 := zLk_v hm y (by omega) (by omega)
    have hb := zMl_b hm h1
    obtain ⟨c, hc⟩ := zBl_x (f := f) (n := n) _ b (by omega) rfl
    have w := zKw_fl (p := p) (b' := b') (show 0 ≤ b by omega) hc
    have y2 := (zLk_w hp hm h1).mp y
    rcases hk with hk | hk
    · rw [hk] at y2
      have y3 := w.1.mp y2
      exact ⟨h1, Or.inl ((zMl_sp hp hm h1).mp y3.1), c, hc, y3.2.1⟩
    · rw [hk] at y2
      have y3 := w.2.mp y2
      exact ⟨h1, Or.inr ((zMl_sp hp hm h1).mp y3.1), c, hc, y3.2.1⟩
theorem zm_fs {c h1 b1 : Int} (hp : 0 ≤ p) (hm : zMl f n p h b) (y : zqIf f n p h b) (hc : zBl f n b c) (hm2 : zMl f n c h1 b1) : b1 = c + 1 ∧ zLk f n p (if b - p = 5 then 262 else 263) b1 := by
  obtain ⟨y1, y2, d, y3, y4⟩ := y
  have hb := zMl_b hm y1
  have q := zBl_u (show 0 ≤ b by omega) y3 hc
  subst q
  have s := zMl_s (v := 58) hm2 (by decide) (by unfold zTok; omega)
  have e := s.2 (s.1.mpr ⟨y4.1, y4.2⟩)
  refine ⟨e, ?_⟩
  have w := zKw_fl (p := p) (b' := b1) (show 0 ≤ b by omega) y3
  rcases y2 with y2 | y2
  · rw [if_pos y2.1]
    exact (zLk_w hp hm y1).mpr (w.1.mpr ⟨(zMl_sp hp hm y1).mpr y2, y4, e⟩)
  · rw [if_neg (by have := y2.1; omega)]
    exact (zLk_w hp hm y1).mpr (w.2.mpr ⟨(zMl_sp hp hm y1).mpr y2, y4, e⟩)
def zqBg (f : Nat → Int32) (p h b : Int) : Prop := (h = 1 ∧ ¬ zSpm f p b 7 2 ∧ ¬ zSpm f p b 8 3 ∧ ¬ zSpm f p b 10 4) ∨ zSg f p h 40 ∨ zSg f p h 91 ∨ zSg f p h 34
theorem zm_tk (hp : 0 ≤ p) (hm : zMl f n p h b) (h1 : h = 1) (g1 : ¬ zSpm f p b 7 2) (g2 : ¬ zSpm f p b 8 3) (g3 : ¬ zSpm f p b 10 4) (g4 : ¬ (h = 1 ∧ zSpm f p b 9 3)) (g5 : ¬ zFl f n p) : zLk f n p 257 b := by
  refine (zLk_w hp hm h1).mpr (Or.inr ⟨fun y => g1 ((zMl_sp hp hm h1).mp y), Or.inr ⟨fun y => g2 ((zMl_sp hp hm h1).mp y), Or.inr ⟨fun y => g4 ⟨h1, (zMl_sp hp hm h1).mp y⟩, Or.inr ⟨fun y => g3 ((zMl_sp hp hm h1).mp y), Or.inr ⟨fun y => g5 ((zm_fl hp hm).mp ⟨h1, ?_, y.2⟩), rfl, rfl⟩⟩⟩⟩⟩)
  rcases y.1 with z | z
  · exact Or.inl ((zMl_sp hp hm h1).mp z)
  · exact Or.inr ((zMl_sp hp hm h1).mp z)
theorem zm_nt (hp : 0 ≤ p) (hm : zMl f n p h b) (hx : ¬ (h = 1 ∧ ¬ zSpm f p b 7 2 ∧ ¬ zSpm f p b 8 3 ∧ ¬ zSpm f p b 10 4) ∨ (h = 1 ∧ zSpm f p b 9 3)) : ¬ ∃ b', zLk f n p 257 b' := fun ⟨b', y⟩ => by
  have h1 := zLk_v hm y (by decide) (by decide)
  have w := (zLk_w hp hm h1).mp y
  rcases w with w | ⟨w1, w⟩
  · omega
  rcases w with w | ⟨w2, w⟩
  · omega
  rcases w with w | ⟨w3, w⟩
  · omega
  rcases w with w | ⟨w4, w⟩
  · omega
  rcases hx with hx | hx
  · exact hx ⟨h1, fun z => w1 ((zMl_sp hp hm h1).mpr z), fun z => w2 ((zMl_sp hp hm h1).mpr z), fun z => w4 ((zMl_sp hp hm h1).mpr z)⟩
  · exact w3 ((zMl_sp hp hm h1).mpr hx.2)
theorem zm_sc (hm : zMl f n p h b) (hv : zSg f p h v) (hk : v = 34 ∨ v = 40 ∨ v = 91) : ∃ b', zLk f n p v b' := by
  have s := (zMl_s hm (v := v) (by omega) (by unfold zTok; omega)).1.mp hv
  refine ⟨p + 1, Or.inr (Or.inr (Or.inr ⟨s.1, ?_, ?_, ?_, rfl⟩))⟩
  · rw [s.2]; unfold zTok; omega
  · intro y; have := y.1; have := s.2; omega
  · rw [s.2]; omega
theorem zm_go (tb : zqTy f n) (hp : 0 ≤ p) (hm : zMl f n p h b) : ((h = 1 ∧ zSpm f p b 8 3) ∨ zqBg f p h b) ↔ zGo f n p := by
  constructor
  · intro y
    rcases y with y | y | y | y | y
    · exact ⟨259, (zm_and hp hm).1.mp y, by omega⟩
    · obtain ⟨y1, y2, y3, y4⟩ := y
      by_cases c : h = 1 ∧ zSpm f p b 9 3
      · exact ⟨260, (zm_not hp hm).1.mp c, by omega⟩
      · by_cases d : zFl f n p
        · obtain ⟨kd, b', d1, d2⟩ := d
          exact ⟨kd, ⟨b', d1⟩, by omega⟩
        · exact ⟨257, ⟨b, zm_tk hp hm y1 y2 y3 y4 c d⟩, by omega⟩
    · exact ⟨40, zm_sc hm y (by omega), by omega⟩
    · exact ⟨91, zm_sc hm y (by omega), by omega⟩
    · exact ⟨34, zm_sc hm y (by omega), by omega⟩
  · rintro ⟨k, ⟨b', y⟩, hk⟩
    have sg : ∀ v : Int, (v = 34 ∨ v = 40 ∨ v = 91) → k = v → zSg f p h v := fun v hv e => by
      have s := (zLk_s tb hp y (v := v) (by omega) (by omega) (by omega) (by unfold zTok; omega)).1.mp e
      exact (zMl_s hm (v := v) (by omega) (by unfold zTok; omega)).1.mpr s
    by_cases c : k = 34 ∨ k = 40 ∨ k = 91
    · rcases c with c | c | c
      · exact Or.inr (Or.inr (Or.inr (Or.inr (sg 34 (by omega) c))))
      · exact Or.inr (Or.inr (Or.inl (sg 40 (by omega) c)))
      · exact Or.inr (Or.inr (Or.inr (Or.inl (sg 91 (by omega) c))))
    · have h1 := zLk_v hm y (by omega) (by omega)
      by_cases d : k = 259
      · rw [d] at y
        exact Or.inl ((zm_and hp hm).1.mpr ⟨b', y⟩)
      · refine Or.inr (Or.inl ⟨h1, fun z => ?_, fun z => ?_, fun z => ?_⟩)
        · have e := (zLk_u hp ((zm_or hp hm).2 ⟨h1, z⟩) y).1; omega
        · have e := (zLk_u hp ((zm_and hp hm).2 ⟨h1, z⟩) y).1; omega
        · have e := (zLk_u hp ((zm_near hp hm).2 ⟨h1, z⟩) y).1; omega
theorem zm_end (hp : 0 ≤ p) (hm : zMl f n p h b) : h = 0 ↔ zKd f n p 256 := by
  rw [zMl_0 hm]
  constructor
  · exact fun y => ⟨p + 1, Or.inl ⟨y, rfl, rfl⟩⟩
  · rintro ⟨b', y⟩
    rcases y with y | ⟨y1, y2, e, y3, y4⟩ | y | y
    · exact y.1
    · exfalso
      rcases y4 with y | ⟨_, y⟩
      · omega
      rcases y with y | ⟨_, y⟩
      · omega
      rcases y with y | ⟨_, y⟩
      · omega
      rcases y with y | ⟨_, y⟩
      · omega
      rcases y with ⟨d, y1, y2, y3, y4⟩ | y
      · rcases y4 with y4 | y4 <;> omega
      · omega
    · omega
    · have q := Int.emod_lt_of_pos (f p.toNat).toInt (show (0 : Int) < 256 by omega); omega
end ZM
def zNk (w b w' b' : Nat → Int32) (m : Int) : Prop := ∀ j : Nat, (j : Int) < m → w' j = w j ∧ b' j = b j
theorem zNk_rf {w b : Nat → Int32} {m : Int} : zNk w b w b m := fun _ _ => ⟨rfl, rfl⟩
theorem zNk_tr {w b w1 b1 w2 b2 : Nat → Int32} {m m' : Int} (h1 : zNk w b w1 b1 m) (h2 : zNk w1 b1 w2 b2 m') (e : m ≤ m') : zNk w b w2 b2 m := fun j hj => ⟨((h2 j (by omega)).1).trans (h1 j hj).1, ((h2 j (by omega)).2).trans (h1 j hj).2⟩
def zHp (w b : Nat → Int32) (r : Int) : Prop := (b r.toNat).toInt = 0 ∧ ((w r.toNat).toInt = 1 ∨ (w r.toNat).toInt = 2 ∨ (w r.toNat).toInt = 3 ∨ (w r.toNat).toInt = 6 ∨ (w r.toNat).toInt = 7)
theorem zHp_k {w b w' b' : Nat → Int32} {m r : Int} (h : zNk w b w' b' m) (h0 : 0 ≤ r) (hr : r < m) : zHp w' b' r ↔ zHp w b r := by
  have q := h r.toNat (by omega)
  unfold zHp
  rw [q.1, q.2]
theorem zNk_u {w b w1 b1 b2 : Nat → Int32} {m : Int} {I x : Int32} (h : zNk w b w1 b1 m) (e : b2 = upd b1 I.toNatClampNeg x) (hm : m ≤ I.toInt) (h0 : 0 ≤ I.toInt) : zNk w b w1 b2 m := fun j hj => by
  have q : I.toNatClampNeg = I.toInt.toNat := rfl
  rw [e, pk_un (by omega)]
  exact h j hj
theorem zup1 {g g' : Nat → Int32} {I : Int32} (e : g' = upd g I.toNatClampNeg (vp_nar .boolean 1)) : (g' I.toInt.toNat).toInt ≠ 0 := by
  have q : I.toInt.toNat = I.toNatClampNeg := rfl
  rw [e, q, pk_us]
  decide
theorem zHp_y {w b : Nat → Int32} {I z y : Int32} (e5 : y = b I.toNatClampNeg) (h5 : y.toInt = 0) (e : z = w I.toNatClampNeg) (h : z.toInt = 1 ∨ z.toInt = 2 ∨ z.toInt = 3 ∨ z.toInt = 6 ∨ z.toInt = 7) : zHp w b I.toInt := by
  have q : I.toInt.toNat = I.toNatClampNeg := rfl
  unfold zHp
  rw [q, ← e5, ← e]
  exact ⟨h5, h⟩
theorem zHp_b {w b : Nat → Int32} {I y : Int32} (e5 : y = b I.toNatClampNeg) (h5 : y.toInt ≠ 0) : ¬ zHp w b I.toInt := fun h => by
  have q : I.toInt.toNat = I.toNatClampNeg := rfl
  have h1 := h.1
  rw [q, ← e5] at h1
  exact h5 h1
theorem zHp_w {w b : Nat → Int32} {I z1 z2 z3 z4 z5 : Int32} (e1 : z1 = w I.toNatClampNeg) (e2 : z2 = w I.toNatClampNeg) (e3 : z3 = w I.toNatClampNeg) (e4 : z4 = w I.toNatClampNeg) (e5 : z5 = w I.toNatClampNeg) (h1 : z1.toInt ≠ 1) (h2 : z2.toInt ≠ 2) (h3 : z3.toInt ≠ 3) (h4 : z4.toInt ≠ 6) (h5 : z5.toInt ≠ 7) : ¬ zHp w b I.toInt := fun h => by
  have q : I.toInt.toNat = I.toNatClampNeg := rfl
  have h6 := h.2
  rw [q] at h6
  rw [e1] at h1; rw [e2] at h2; rw [e3] at h3; rw [e4] at h4; rw [e5] at h5
  omega
abbrev zqMs : Type := (Nat → Nat → Int32) × Int × Int × (Int → Int → (Nat → Int32) → (Nat → Int32) → Int → Int → Int → Prop)
def zma (a b c d e f g h i j k : Nat → Int32) : Nat → Nat → Int32 := fun x => match x with
  | 0 => a
  | 1 => b
  | 2 => c
  | 3 => d
  | 4 => e
  | 5 => f
  | 6 => g
  | 7 => h
  | 8 => i
  | 9 => j
  | _ => k
def zWag (s : zqMs) (fr mn : Int) (wd ws : Nat → Int32) : Prop := ∀ j : Nat, fr ≤ (j : Int) → (j : Int) < fr + mn → ws j = s.1 10 j ∧ ∀ i : Nat, i < 12 → wd (12 * j + i) = s.1 9 (12 * j + i)
def zLmk (s : zqMs) (e : Int) : Prop := e % 1000 < s.2.1 ∧ (s.1 5 (e % 1000).toNat).toInt = e / 1000 % 1000 ∧ (e / 1000 % 1000 ≠ 4 → 0 ≤ (s.1 6 (e % 1000).toNat).toInt ∧ (s.1 6 (e % 1000).toNat).toInt + (s.1 7 (e % 1000).toNat).toInt ≤ s.2.2.1) ∧ ∀ wd ws : Nat → Int32, (e / 1000 % 1000 ≠ 4 → zWag s (s.1 6 (e % 1000).toNat).toInt (s.1 7 (e % 1000).toNat).toInt wd ws) → s.2.2.2 (e / 1000 % 1000) (e / 1000000 % 1000) wd ws (s.1 6 (e % 1000).toNat).toInt (s.1 7 (e % 1000).toNat).toInt (s.1 8 (e % 1000).toNat).toInt
def zNdk (s : zqMs) (i : Nat) (e : Int) : Prop := 0 ≤ e ∧ (s.1 1 i).toInt = e / 1000 % 1000 ∧ (s.1 4 i).toInt = e % 1000 ∧ (e / 1000 % 1000 = 6 ∨ e / 1000 % 1000 = 7 ∨ e / 1000 % 1000 = 10 → (s.1 2 i).toInt = (i : Int) - 1) ∧ (e / 1000 % 1000 = 5 ∨ e / 1000 % 1000 = 8 ∨ e / 1000 % 1000 = 9 ∨ e / 1000 % 1000 = 11 → (s.1 2 i).toInt = e / 1000000 - 1 ∧ (s.1 3 i).toInt = (i : Int) - 1) ∧ (e / 1000 % 1000 ≤ 4 → zLmk s e)
def zCm (s : zqMs) (n : Int) (L : List Int) : Prop := n = (L.length : Int) ∧ zCd (s.1 0) n L ∧ ∀ i : Nat, i < L.length → zNdk s i (L.getD i 0)
def zMch (s s' : zqMs) : Prop := s'.1 0 = s.1 0 ∧ s'.1 1 = s.1 1 ∧ s'.1 2 = s.1 2 ∧ s'.1 3 = s.1 3 ∧ s'.1 4 = s.1 4 ∧ (∀ j : Nat, (j : Int) < s.2.1 → s'.1 5 j = s.1 5 j ∧ s'.1 6 j = s.1 6 j ∧ s'.1 7 j = s.1 7 j ∧ s'.1 8 j = s.1 8 j) ∧ (∀ j : Nat, (j : Int) < s.2.2.1 → s'.1 10 j = s.1 10 j ∧ ∀ i : Nat, i < 12 → s'.1 9 (12 * j + i) = s.1 9 (12 * j + i)) ∧ s.2.1 ≤ s'.2.1 ∧ s.2.2.1 ≤ s'.2.2.1 ∧ s'.2.2.2 = s.2.2.2
theorem zCm_0 {s : zqMs} {n : Int} (h : n = 0) : zCm s n [] := ⟨by rw [h]; rfl, zCd_0 h, fun i hi => absurd hi (Nat.not_lt_zero i)⟩
theorem zLmk_k {s s' : zqMs} {e : Int} (h : zLmk s e) (e0 : 0 ≤ e) (hk : zMch s s') : zLmk s' e := by
  obtain ⟨_, _, _, _, _, k5, k6, k7, k8, k9⟩ := hk
  obtain ⟨h1, h2, h3, h4⟩ := h
  obtain ⟨q5, q6, q7, q8⟩ := k5 (e % 1000).toNat (by omega)
  unfold zLmk
  rw [q5, q6, q7, q8, k9]
  refine ⟨by omega, h2, fun c => ⟨(h3 c).1, by have := (h3 c).2; omega⟩, fun wd ws hw => h4 wd ws (fun c j j1 j2 => ?_)⟩
  have g := hw c j j1 j2
  have b := h3 c
  have u := k6 j (by omega)
  exact ⟨g.1.trans u.1, fun i hi => (g.2 i hi).trans (u.2 i hi)⟩
theorem zCm_k {s s' : zqMs} {n : Int} {L : List Int} (h : zCm s n L) (hk : zMch s s') : zCm s' n L := by
  obtain ⟨h1, h2, h3⟩ := h
  have hk' := hk
  obtain ⟨k0, k1, k2, k3, k4, _⟩ := hk'
  refine ⟨h1, by rw [k0]; exact h2, fun i hi => ?_⟩
  obtain ⟨g0, g1, g2, g3, g4, g5⟩ := h3 i hi
  unfold zNdk
  rw [k1, k2, k3, k4]
  exact ⟨g0, g1, g2, g3, g4, fun c => zLmk_k (g5 c) g0 hk⟩
def zxN (w b w' b' : Nat → Int32) (cd cd' : zqMs) (m cn cn' v l x y : Int) : Prop := zNk w b w' b' m ∧ (w' m.toNat).toInt = v ∧ (b' m.toNat).toInt = 0 ∧ (m = cn → 1 ≤ v → v ≤ 11 → 0 ≤ l → l ≤ 999 → ∀ (L : List Int) (e : Int), e % 1000000 = 1000 * v + l → 0 ≤ e → (v ≤ 4 → zLmk cd e) → (v = 6 ∨ v = 7 ∨ v = 10 → x = cn - 1) → (v = 5 ∨ v = 8 ∨ v = 9 ∨ v = 11 → x = e / 1000000 - 1 ∧ y = cn - 1) → zCm cd cn L → zCm cd' cn' (L ++ [e]))
theorem zxN_i {w b w' b' cd cd' lf lf' rt rt' nm nm' f g h i j k : Nat → Int32} {lv wn : Int} {W : Int → Int → (Nat → Int32) → (Nat → Int32) → Int → Int → Int → Prop} {M C v l z y xl xr : Int32} {cn' : Int} (e1 : w' = upd w M.toNatClampNeg v) (el : lf' = upd lf M.toNatClampNeg xl) (er : rt' = upd rt M.toNatClampNeg xr) (en : nm' = upd nm M.toNatClampNeg l) (e2 : b' = upd b M.toNatClampNeg (vp_nar .boolean 0)) (e3 : cd' = upd cd C.toNatClampNeg y) (ez : z = 1000 * v) (ey : y = z + l) (hm : 0 ≤ M.toInt) (hc : cn' = C.toInt + 1) : zxN w b w' b' (zma cd w lf rt nm f g h i j k, lv, wn, W) (zma cd' w' lf' rt' nm' f g h i j k, lv, wn, W) M.toInt C.toInt cn' v.toInt l.toInt xl.toInt xr.toInt := by
  have q : M.toNatClampNeg = M.toInt.toNat := rfl
  refine ⟨fun j hj => ?_, ?_, ?_, fun hmc h1 h2 h3 h4 L e he h0 hL9 hu hb hL => ?_⟩
  · rw [e1, e2, pk_un (by omega), pk_un (by omega)]; exact ⟨rfl, rfl⟩
  · rw [e1, q, pk_us]
  · rw [e2, q, pk_us]; decide
  · have b1 := zmul (by decide : (1000 : Int32).toInt = 1000) rfl ez (by omega) (by omega)
    have b2 := zadd rfl rfl ey (by omega) (by omega)
    obtain ⟨g1, g2, g3⟩ := hL
    have g1' : C.toInt = (L.length : Int) := g1
    have k0 : zCd cd' cn' (L ++ [e]) := by
      rw [e3]
      exact zCd_p g2 rfl (by omega) hc
    have qM : M.toNatClampNeg = L.length := by omega
    rw [qM] at e1 el er en
    refine ⟨k0.1, k0, fun i hi => ?_⟩
    rw [List.length_append, List.length_singleton] at hi
    by_cases c : i = L.length
    · have ev : (L ++ [e]).getD i 0 = e := by rw [c]; simp
      have w1 : e / 1000 % 1000 = v.toInt := by omega
      have w2 : e % 1000 = l.toInt := by omega
      rw [ev]
      show 0 ≤ e ∧ (w' i).toInt = _ ∧ (nm' i).toInt = _ ∧ (_ → (lf' i).toInt = _) ∧ (_ → (lf' i).toInt = _ ∧ (rt' i).toInt = _) ∧ (_ → zLmk _ e)
      rw [c, e1, el, er, en, pk_us, pk_us, pk_us, pk_us, w1, w2]
      refine ⟨h0, rfl, rfl, fun o => by have := hu o; omega, fun o => ?_, fun o => ?_⟩
      · have o2 := hb o
        exact ⟨o2.1, by omega⟩
      · exact hL9 o
    · have hi2 : i < L.length := by omega
      have ev : (L ++ [e]).getD i 0 = L.getD i 0 := by simp [List.getElem?_append_left hi2]
      have g := g3 i hi2
      rw [ev]
      show 0 ≤ L.getD i 0 ∧ (w' i).toInt = _ ∧ (nm' i).toInt = _ ∧ (_ → (lf' i).toInt = _) ∧ (_ → (lf' i).toInt = _ ∧ (rt' i).toInt = _) ∧ (_ → zLmk _ (L.getD i 0))
      rw [e1, el, er, en, pk_un c, pk_un c, pk_un c, pk_un c]
      exact g
theorem zlb_l {k x : Int} {L : List Int} (h0 : 0 ≤ 1000 * k + x) (h1 : 1000 * k + x < 1000000) : zlb k x L / 1000000 = (L.length : Int) := by unfold zlb; omega
theorem zsd_0 {M : List Int} : 0 ≤ zsd M := by unfold zsd; split <;> split <;> decide
def zxS (R : zRl_) (f : Nat → Int32) (n fr ha be lv qt cn : Int) (cd : zqMs) (fr' ha' be' lv' qt' cn' : Int) (cd' : zqMs) (P : Bool → Prop) : Prop := zqTy f n → zMl f n fr ha be → zMl f n fr' ha' be' ∧ ∀ L : List Int, zCm cd cn L → ∃ K pl, R fr lv qt L (some (fr', lv', qt', K, pl)) ∧ zCm cd' cn' K ∧ P pl
def zxX (R : zRl_) (f : Nat → Int32) (n fr ha be lv qt cn : Int) (cd : zqMs) : Prop := zqTy f n → zMl f n fr ha be → ∀ L : List Int, zCm cd cn L → R fr lv qt L none
section ZX
variable {f : Nat → Int32} {n fr ha be lv qt cn fr' ha' be' lv' qt' cn' c h1 b1 d h2 b2 m r v w k p q sd x9 y9 : Int} {cd cd1 cd' : zqMs} {wh br wh' br' : Nat → Int32} {R R' : zRl_} {P Q : Bool → Prop}
theorem zxS_w (h : zxS R f n fr ha be lv qt cn cd fr' ha' be' lv' qt' cn' cd' P) (hP : ∀ pl, P pl → Q pl) : zxS R f n fr ha be lv qt cn cd fr' ha' be' lv' qt' cn' cd' Q := fun tb hm => by
  obtain ⟨a, b⟩ := h tb hm
  refine ⟨a, fun L hL => ?_⟩
  obtain ⟨K, pl, x, y, z⟩ := b L hL
  exact ⟨K, pl, x, y, hP pl z⟩
theorem zxS_q {r' : Int} (h : zxS R f n fr ha be lv qt cn cd fr' ha' be' lv' qt' cn' cd' (fun pl => pl = true ↔ zHp wh br r)) (e : r' = r) : zxS R f n fr ha be lv qt cn cd fr' ha' be' lv' qt' cn' cd' (fun pl => pl = true ↔ zHp wh br r') := by rw [e]; exact h
theorem zxS_r (h : zxS R f n fr ha be lv qt cn cd fr' ha' be' lv' qt' cn' cd' P) (hR : zqTy f n → zMl f n fr ha be → ∀ L r, R fr lv qt L r → R' fr lv qt L r) : zxS R' f n fr ha be lv qt cn cd fr' ha' be' lv' qt' cn' cd' P := fun tb hm => by
  obtain ⟨a, b⟩ := h tb hm
  refine ⟨a, fun L hL => ?_⟩
  obtain ⟨K, pl, x, y, z⟩ := b L hL
  exact ⟨K, pl, hR tb hm _ _ x, y, z⟩
theorem zxX_r (h : zxX R f n fr ha be lv qt cn cd) (hR : zqTy f n → zMl f n fr ha be → ∀ L r, R fr lv qt L r → R' fr lv qt L r) : zxX R' f n fr ha be lv qt cn cd := fun tb hm L hL => hR tb hm _ _ (h tb hm L hL)
theorem zxT_x (hl : 40 ≤ lv) : zxX (zTkn f n sd) f n fr ha be lv qt cn cd := fun _ _ _ _ => Or.inl ⟨hl, rfl⟩
theorem zxT_a {l9 : Int} (ha1 : ha = 1) (hlv : lv < 40) (hl0 : 0 ≤ lv) (k1 : zBl f n be c) (m1 : zMl f n c h1 b1) (hs : ¬ zSg f c h1 42) (hk : zMch cd cd1) (hmc : m = cn) (hf0 : 0 ≤ fr) (hsd : 0 ≤ sd) (hL9 : zMl f n fr ha be → zLmk cd1 (zlc 1 lv fr sd)) (hN : zxN wh br wh' br' cd1 cd' m cn cn' v l9 x9 y9) (hl9 : l9 = lv) (hv : v = 1) (hl' : lv' = lv + 1) (hr : r = m) : zxS (zTkn f n sd) f n fr ha be lv qt cn cd c h1 b1 lv' qt cn' cd' (fun pl => pl = true ↔ zHp wh' br' r) := fun tb hm => by
  subst hl9
  obtain ⟨n1, n2, n3, n4⟩ := hN
  subst hv; subst hl'; subst hr
  refine ⟨m1, fun L hL => ⟨_, true, Or.inr ⟨hlv, be, c, (zMl_1 hm ha1).2.2, k1, Or.inr ⟨fun y => hs ((zMl_s m1 (by decide) (by unfold zTok; omega)).1.mpr y), rfl⟩⟩, n4 hmc (by decide) (by decide) (by omega) (by omega) L _ (zlc_m (by omega) (by omega)) (zlc_0 (by omega) hf0 hsd) (fun _ => hL9 hm) (fun o => by omega) (fun o => by omega) (zCm_k hL hk), fun _ => ⟨n3, by omega⟩, fun _ => rfl⟩⟩
theorem zxT_b {l9 : Int} (ha1 : ha = 1) (hlv : lv < 40) (hl0 : 0 ≤ lv) (k1 : zBl f n be c) (m1 : zMl f n c h1 b1) (hs : zSg f c h1 42) (k2 : zBl f n b1 d) (m2 : zMl f n d h2 b2) (hk : zMch cd cd1) (hmc : m = cn) (hf0 : 0 ≤ fr) (hsd : 0 ≤ sd) (hL9 : zMl f n fr ha be → zLmk cd1 (zlc 2 lv fr sd)) (hN : zxN wh br wh' br' cd1 cd' m cn cn' v l9 x9 y9) (hl9 : l9 = lv) (hv : v = 2) (hl' : lv' = lv + 1) (hr : r = m) : zxS (zTkn f n sd) f n fr ha be lv qt cn cd d h2 b2 lv' qt cn' cd' (fun pl => pl = true ↔ zHp wh' br' r) := fun tb hm => by
  subst hl9
  obtain ⟨n1, n2, n3, n4⟩ := hN
  subst hv; subst hl'; subst hr
  have s := zMl_s m1 (v := 42) (by decide) (by unfold zTok; omega)
  have e := s.2 hs
  subst e
  refine ⟨m2, fun L hL => ⟨_, true, Or.inr ⟨hlv, be, c, (zMl_1 hm ha1).2.2, k1, Or.inl ⟨s.1.mp hs, d, k2, rfl⟩⟩, n4 hmc (by decide) (by decide) (by omega) (by omega) L _ (zlc_m (by omega) (by omega)) (zlc_0 (by omega) hf0 hsd) (fun _ => hL9 hm) (fun o => by omega) (fun o => by omega) (zCm_k hL hk), fun _ => ⟨n3, by omega⟩, fun _ => rfl⟩⟩
theorem zDv_m {K z : Int32} {j : Int} (h : zDv f p K.toInt v) (e : z = f K.toNatClampNeg) (hd : 48 ≤ z.toInt ∧ z.toInt ≤ 57) (hp : 0 ≤ p) (hi : p ≤ K.toInt) (hw : w = 10 * v + z.toInt - 48) (hj : j = K.toInt + 1) : zDv f p j w := by
  have q2 : K.toNatClampNeg = K.toInt.toNat := rfl
  obtain ⟨h1, h2⟩ := h
  refine ⟨fun i a b => ?_, ?_⟩
  · by_cases c : (i : Int) < K.toInt
    · exact h1 i a c
    · rw [show i = K.toNatClampNeg from by omega, ← e]; exact hd
  · rw [hj, show (K.toInt + 1 - p).toNat = (K.toInt - p).toNat + 1 from by omega]
    show w = 10 * zvl f p (K.toInt - p).toNat + (f (p.toNat + (K.toInt - p).toNat)).toInt - 48
    rw [← h2, show p.toNat + (K.toInt - p).toNat = K.toNatClampNeg from by omega, ← e]
    exact hw
def zxQ (f : Nat → Int32) (n p mi q h b : Int) : Prop := ((zSc f n p 45 ∧ q = p + 1 ∧ mi = 1) ∨ (¬ zSc f n p 45 ∧ q = p ∧ mi = 0)) ∧ zMl f n q h b
variable {mi h b : Int}
theorem zxQ_0 (hm : zMl f n p h b) (hs : ¬ zSg f p h 45) (e : mi = 0) : zxQ f n p mi p h b := ⟨Or.inr ⟨fun y => hs ((zMl_s hm (by decide) (by unfold zTok; omega)).1.mpr y), rfl, e⟩, hm⟩
theorem zxQ_1 {D : Int32} {x : Int} (hm : zMl f n p h b) (hs : zSg f p h 45) (hp : 0 ≤ p) (e : D.toInt = p + 1) (hx : D.toInt < n → x = (f D.toNatClampNeg).toInt) (hx2 : n ≤ D.toInt → x = 0) (hd : 48 ≤ x ∧ x ≤ 57) (em : mi = 1) (k1 : zBl f n b c) (m1 : zMl f n c h1 b1) : zxQ f n p mi c h1 b1 := by
  have s := zMl_s hm (v := 45) (by decide) (by unfold zTok; omega)
  have eb := s.2 hs
  have hn : D.toInt < n := by
    rcases Int.lt_or_le D.toInt n with c | c
    · exact c
    · have := hx2 c; omega
  have hx := hx hn
  have q : D.toNatClampNeg = D.toInt.toNat := rfl
  have ec : c = p + 1 := by
    refine zBl_u (p := b) (by omega) k1 ⟨by omega, zBq_0 (by omega), fun _ => ?_, Or.inr (by omega)⟩
    rw [← e, ← q, ← hx]
    unfold zqBk
    omega
  exact ⟨Or.inl ⟨s.1.mp hs, ec, em⟩, m1⟩
theorem zxI_a {D : Int32} {x : Int} (hm : zMl f n p h b) (hs : zSg f p h 45) (hp : 0 ≤ p) (e : D.toInt = p + 1) (hx : D.toInt < n → x = (f D.toNatClampNeg).toInt) (hd : x < 48 ∨ 57 < x) : zIni f n p none := by
  have s := zMl_s hm (v := 45) (by decide) (by unfold zTok; omega)
  obtain ⟨e', he⟩ := zRe_x (f := f) (n := n) _ (p + 1) (by omega) rfl
  refine ⟨p + 1, e', Or.inl ⟨s.1.mp hs, rfl⟩, he, Or.inr ⟨fun y => ?_, rfl⟩⟩
  have y1 := y.1
  have y2 := y.2.2 (p + 1).toNat (by omega) (by omega)
  have y3 := he.2.2.2
  have q : D.toNatClampNeg = D.toInt.toNat := rfl
  have hx := hx (by omega)
  rw [q, e] at hx
  omega
theorem zxQ_q (hq : zxQ f n p mi q h b) : ((zSc f n p 45 ∧ q = p + 1) ∨ (¬ zSc f n p 45 ∧ q = p)) := by
  rcases hq.1 with y | y
  · exact Or.inl ⟨y.1, y.2.1⟩
  · exact Or.inr ⟨y.1, y.2.1⟩
theorem zxI_b (hq : zxQ f n p mi q h b) (hp : 0 ≤ q) (hh : h ≠ 1) : zIni f n p none := by
  obtain ⟨e, he⟩ := zRe_x (f := f) (n := n) _ q hp rfl
  have e0 := zqRe_0 he hp (zMl_t hq.2 hh)
  exact ⟨q, e, zxQ_q hq, he, Or.inr ⟨zDgs_0 (by omega), rfl⟩⟩
theorem zxI_c (hq : zxQ f n p mi q h b) (hh : h = 1) (hl : 9 < b - q) : zIni f n p none := ⟨q, b, zxQ_q hq, (zMl_1 hq.2 hh).2.2, Or.inr ⟨fun y => by have := y.2.1; omega, rfl⟩⟩
theorem zxI_d {K z : Int32} (hq : zxQ f n p mi q h b) (hh : h = 1) (hp : 0 ≤ q) (h1 : q ≤ K.toInt) (h2 : K.toInt < b) (e : z = f K.toNatClampNeg) (hd : z.toInt < 48 ∨ 57 < z.toInt) : zIni f n p none := ⟨q, b, zxQ_q hq, (zMl_1 hq.2 hh).2.2, Or.inr ⟨fun y => by
  have q2 : K.toNatClampNeg = K.toInt.toNat := rfl
  have y1 := y.2.2 K.toNatClampNeg (by omega) (by omega)
  rw [← e] at y1
  omega, rfl⟩⟩
theorem zxI_e (hq : zxQ f n p mi q h b) (hh : h = 1) (hl : b - q ≤ 9) (hv : zDv f q k v) (hk : k = b) (hb : zBl f n b d) (hr : (mi = 1 ∧ r = - v) ∨ (mi = 0 ∧ r = v)) : zIni f n p (some (r, d)) := by
  have hbb := zMl_b hq.2 hh
  subst hk
  have dg : zDgs f q k 9 := ⟨by omega, hl, hv.1⟩
  refine ⟨q, k, zxQ_q hq, (zMl_1 hq.2 hh).2.2, Or.inl ⟨dg, d, hb, ?_⟩⟩
  rw [← hv.2]
  rcases hq.1 with y | y
  · exact Or.inl ⟨y.1, by rw [show r = - v by omega]⟩
  · exact Or.inr ⟨y.1, by rw [show r = v by omega]⟩
def zxW (f : Nat → Int32) (n fr ha be fr' ha' be' r : Int) : Prop := zMl f n fr ha be → zMl f n fr' ha' be' ∧ zIni f n fr (some (r, fr'))
def zxWx (f : Nat → Int32) (n fr ha be : Int) : Prop := zMl f n fr ha be → zIni f n fr none
theorem zxM_x (hl : 40 ≤ lv) : zxX (zMrk f n) f n fr ha be lv qt cn cd := fun _ _ _ _ => Or.inl ⟨hl, rfl⟩
theorem zxM_1 (ha2 : zSg f fr ha 91) (hlv : lv < 40) (k1 : zBl f n be c) (m1 : zMl f n c h1 b1) (hx : zxWx f n c h1 b1) : zxX (zMrk f n) f n fr ha be lv qt cn cd := fun tb hm L hL => by
  have e := (zMl_s hm (v := 91) (by decide) (by unfold zTok; omega)).2 ha2
  subst e
  exact Or.inr ⟨hlv, c, none, k1, hx m1, Or.inl ⟨rfl, rfl⟩⟩
theorem zxM_2 (ha2 : zSg f fr ha 91) (hlv : lv < 40) (k1 : zBl f n be c) (m1 : zMl f n c h1 b1) (hw : zxW f n c h1 b1 d h2 b2 v) (hh : h2 ≠ 3) : zxX (zMrk f n) f n fr ha be lv qt cn cd := fun tb hm L hL => by
  have e := (zMl_s hm (v := 91) (by decide) (by unfold zTok; omega)).2 ha2
  subst e
  obtain ⟨w1, w2⟩ := hw m1
  exact Or.inr ⟨hlv, c, _, k1, w2, Or.inr ⟨v, d, rfl, Or.inl ⟨fun y => hh ((zMl_d w1).1.mpr y), rfl⟩⟩⟩
variable {c2 h3 b3 d2 h4 b4 d3 h5 b5 : Int}
def zxV (f : Nat → Int32) (n fr ha be a : Int) : Prop := zMl f n fr ha be → zIni f n fr none ∨ ∃ v d, zIni f n fr (some (v, d)) ∧ v < a
theorem zxM_3 (ha2 : zSg f fr ha 91) (hlv : lv < 40) (k1 : zBl f n be c) (m1 : zMl f n c h1 b1) (hw : zxW f n c h1 b1 d h2 b2 v) (hh : h2 = 3) (k2 : zBl f n b2 c2) (m2 : zMl f n c2 h3 b3) (hx : zxV f n c2 h3 b3 v) : zxX (zMrk f n) f n fr ha be lv qt cn cd := fun tb hm L hL => by
  have e := (zMl_s hm (v := 91) (by decide) (by unfold zTok; omega)).2 ha2
  subst e
  obtain ⟨w1, w2⟩ := hw m1
  have dd := zMl_d w1
  have e2 := dd.2 hh
  subst e2
  refine Or.inr ⟨hlv, c, _, k1, w2, Or.inr ⟨v, d, rfl, Or.inr ⟨dd.1.mp hh, c2, ?_⟩⟩⟩
  rcases hx m2 with y | ⟨v', d', y1, y2⟩
  · exact ⟨none, k2, y, Or.inl ⟨rfl, rfl⟩⟩
  · exact ⟨_, k2, y1, Or.inr ⟨v', d', rfl, Or.inl ⟨fun o => by have := o.1; omega, rfl⟩⟩⟩
theorem zxM_4 (ha2 : zSg f fr ha 91) (hlv : lv < 40) (k1 : zBl f n be c) (m1 : zMl f n c h1 b1) (hw : zxW f n c h1 b1 d h2 b2 v) (hh : h2 = 3) (k2 : zBl f n b2 c2) (m2 : zMl f n c2 h3 b3) (hy : zxW f n c2 h3 b3 d2 h4 b4 w) (hs : ¬ zSg f d2 h4 93) : zxX (zMrk f n) f n fr ha be lv qt cn cd := fun tb hm L hL => by
  have e := (zMl_s hm (v := 91) (by decide) (by unfold zTok; omega)).2 ha2
  subst e
  obtain ⟨w1, w2⟩ := hw m1
  obtain ⟨w3, w4⟩ := hy m2
  have dd := zMl_d w1
  have e2 := dd.2 hh
  subst e2
  exact Or.inr ⟨hlv, c, _, k1, w2, Or.inr ⟨v, d, rfl, Or.inr ⟨dd.1.mp hh, c2, _, k2, w4, Or.inr ⟨w, d2, rfl, Or.inl ⟨fun o => hs ((zMl_s w3 (by decide) (by unfold zTok; omega)).1.mpr o.2), rfl⟩⟩⟩⟩⟩
theorem zxM_5 {l9 : Int} (ha2 : zSg f fr ha 91) (hlv : lv < 40) (hl0 : 0 ≤ lv) (k1 : zBl f n be c) (m1 : zMl f n c h1 b1) (hw : zxW f n c h1 b1 d h2 b2 v) (hh : h2 = 3) (k2 : zBl f n b2 c2) (m2 : zMl f n c2 h3 b3) (hy : zxW f n c2 h3 b3 d2 h4 b4 w) (hvw : v ≤ w) (hs : zSg f d2 h4 93) (k3 : zBl f n b4 d3) (m3 : zMl f n d3 h5 b5) (hk : zMch cd cd1) (hmc : m = cn) (hf0 : 0 ≤ fr) (hL9 : zMkv f n fr v w → zLmk cd1 (zlc 4 lv fr 0)) (hN : zxN wh br wh' br' cd1 cd' m cn cn' k l9 x9 y9) (hl9 : l9 = lv) (hv : k = 4) (hl' : lv' = lv + 1) (hr : r = m) : zxS (zMrk f n) f n fr ha be lv qt cn cd d3 h5 b5 lv' qt cn' cd' (fun pl => pl = true ↔ zHp wh' br' r) := fun tb hm => by
  have e := (zMl_s hm (v := 91) (by decide) (by unfold zTok; omega)).2 ha2
  subst e
  obtain ⟨w1, w2⟩ := hw m1
  obtain ⟨w3, w4⟩ := hy m2
  have dd := zMl_d w1
  have e2 := dd.2 hh
  subst e2
  have s := zMl_s w3 (v := 93) (by decide) (by unfold zTok; omega)
  have e3 := s.2 hs
  subst e3
  subst hl9
  obtain ⟨n1, n2, n3, n4⟩ := hN
  subst hv; subst hl'; subst hr
  refine ⟨m3, fun L hL => ⟨_, false, Or.inr ⟨hlv, c, _, k1, w2, Or.inr ⟨v, d, rfl, Or.inr ⟨dd.1.mp hh, c2, _, k2, w4, Or.inr ⟨w, d2, rfl, Or.inr ⟨⟨hvw, s.1.mp hs⟩, d3, k3, rfl⟩⟩⟩⟩⟩, n4 hmc (by decide) (by decide) (by omega) (by omega) L _ (zlc_m (by omega) (by omega)) (zlc_0 (by omega) hf0 (by decide)) (fun _ => hL9 ⟨c, d, c2, d2, k1, w2, k2, w4⟩) (fun o => by omega) (fun o => by omega) (zCm_k hL hk), ?_⟩⟩
  refine ⟨fun y => absurd y (by decide), fun y => ?_⟩
  have y2 := y.2
  omega
def zxF (f : Nat → Int32) (n p k c qt0 qt : Int) : Prop := p ≤ k ∧ k ≤ n ∧ (∀ j : Nat, p ≤ (j : Int) → (j : Int) < k → (f j).toInt ≠ 34) ∧ c = zqts f p (k - p).toNat ∧ qt = qt0 + c ∧ (k < n → zTok (f k.toNat).toInt → k = p ∨ ¬ zTok (f (k - 1).toNat).toInt)
variable {qt0 : Int}
theorem zxF_0 (hk : k = p) (hn : p ≤ n) (hc : c = 0) (hq : qt = qt0) : zxF f n p k c qt0 qt := by
  subst hk; subst hc; subst hq
  exact ⟨by omega, hn, fun j a b => by omega, by rw [show (k - k).toNat = 0 from by omega]; rfl, by omega, fun _ _ => Or.inl rfl⟩
theorem zxF_n {K z y : Int32} {k' : Int} (h : zxF f n p K.toInt c qt0 qt) (hp : 0 ≤ p) (hn : K.toInt < n) (e : z = f K.toNatClampNeg) (hz : z.toInt ≠ 34) (e2 : y = f K.toNatClampNeg) (hy : ¬ zTok y.toInt) (hk : k' = K.toInt + 1) : zxF f n p k' c qt0 qt := by
  obtain ⟨h1, h2, h3, h4, h5, h6⟩ := h
  have q : K.toNatClampNeg = K.toInt.toNat := rfl
  subst hk
  have ht : ¬ zTok (f K.toInt.toNat).toInt := by rw [← q, ← e2]; exact hy
  refine ⟨by omega, by omega, fun j a b => ?_, ?_, h5, fun _ _ => Or.inr ?_⟩
  · by_cases d : (j : Int) < K.toInt
    · exact h3 j a d
    · rw [show j = K.toNatClampNeg from by omega, ← e]; exact hz
  · rw [show (K.toInt + 1 - p).toNat = (K.toInt - p).toNat + 1 from by omega, zts_0 (fun z => ?_)]
    · exact h4
    · have z1 := z.1
      rw [show (p + (((K.toInt - p).toNat : Nat) : Int)) = K.toInt from by omega] at z1
      exact ht z1
  · rw [show K.toInt + 1 - 1 = K.toInt from by omega]; exact ht
theorem zts_r {k j : Nat} (h0 : 0 ≤ p) (ha : ∀ i : Nat, k ≤ i → i < k + j → zTok (f (p.toNat + i)).toInt) (hs : k = 0 ∨ ¬ zTok (f (p + k - 1).toNat).toInt) (hj : 0 < j) : zqts f p (k + j) = zqts f p k + 1 := by
  induction j with
  | zero => omega
  | succ j ih =>
    by_cases c : j = 0
    · subst c
      refine zts_1 ?_ hs
      have q := ha k (by omega) (by omega)
      rw [show (p + (k : Int)).toNat = p.toNat + k from by omega]; exact q
    · have q := ih (fun i a b => ha i a (by omega)) (by omega)
      rw [← Nat.add_assoc, zts_0 (fun z => ?_), q]
      rcases z.2 with z | z
      · omega
      · refine z ?_
        have q := ha (k + j - 1) (by omega) (by omega)
        rw [show (p + ((k + j : Nat) : Int) - 1).toNat = p.toNat + (k + j - 1) from by omega]; exact q
theorem zxF_t {K y : Int32} {k' c' qt' : Int} (h : zxF f n p K.toInt c qt0 qt) (hp : 0 ≤ p) (hn : K.toInt < n) (e2 : y = f K.toNatClampNeg) (hy : zTok y.toInt) (hr : zqRe f n K.toInt k') (hk : K.toInt < k') (hc : c' = c + 1) (hq : qt' = qt + 1) : zxF f n p k' c' qt0 qt' := by
  obtain ⟨h1, h2, h3, h4, h5, h6⟩ := h
  have q : K.toNatClampNeg = K.toInt.toNat := rfl
  have ht : zTok (f K.toInt.toNat).toInt := by rw [← q, ← e2]; exact hy
  obtain ⟨r1, r2, r3, r4⟩ := hr
  refine ⟨by omega, by omega, fun j a b => ?_, ?_, by omega, fun a b => absurd b (r3 a)⟩
  · by_cases d : (j : Int) < K.toInt
    · exact h3 j a d
    · intro z
      have z1 := r2 j (by omega) b
      rw [z] at z1
      exact absurd z1 (by unfold zTok; omega)
  · have e := zts_r (f := f) (p := p) (k := (K.toInt - p).toNat) (j := (k' - K.toInt).toNat) hp (fun i a b => by
      have z1 := r2 (p.toNat + i) (by omega) (by omega)
      exact z1) (by
      rcases h6 hn ht with z | z
      · exact Or.inl (by omega)
      · refine Or.inr ?_
        rw [show p + (((K.toInt - p).toNat : Nat) : Int) - 1 = K.toInt - 1 from by omega]; exact z) (by omega)
    rw [show (K.toInt - p).toNat + (k' - K.toInt).toNat = (k' - p).toNat from by omega] at e
    omega
theorem zxP_x (hl : 40 ≤ lv) : zxX (zPhr f n sd) f n fr ha be lv qt cn cd := fun _ _ _ _ => Or.inl ⟨hl, rfl⟩
theorem zxP_1 {K y : Int32} (ha2 : zSg f fr ha 34) (hlv : lv < 40) (hf0 : 0 ≤ fr) (h : zxF f n be K.toInt c qt qt') (hn : K.toInt < n) (e2 : y = f K.toNatClampNeg) (hy : zTok y.toInt) (hq : qt' = 160) : zxX (zPhr f n sd) f n fr ha be lv qt cn cd := fun tb hm L hL => by
  have e := (zMl_s hm (v := 34) (by decide) (by unfold zTok; omega)).2 ha2
  subst e
  obtain ⟨h1, h2, h3, h4, h5, h6⟩ := h
  have q : K.toNatClampNeg = K.toInt.toNat := rfl
  have ht : zTok (f K.toInt.toNat).toInt := by rw [← q, ← e2]; exact hy
  refine Or.inr ⟨hlv, ?_⟩
  by_cases c : ∃ c, zQc f n (fr + 1) c
  · obtain ⟨c, hc⟩ := c
    refine Or.inl ⟨c, hc, Or.inr ?_, rfl⟩
    obtain ⟨c1, c2, c3, c4⟩ := hc
    have c5 : K.toInt < c := by
      rcases Int.lt_trichotomy K.toInt c with d | d | d
      · exact d
      · rw [d, c3] at ht
        exact absurd ht (by unfold zTok; omega)
      · exact absurd c3 (h3 c.toNat (by omega) (by omega))
    have m1 := zts_1 (f := f) (p := fr + 1) (k := (K.toInt - (fr + 1)).toNat) (by
      rw [show fr + 1 + (((K.toInt - (fr + 1)).toNat : Nat) : Int) = K.toInt from by omega]; exact ht) (by
      rcases h6 hn ht with z | z
      · exact Or.inl (by omega)
      · refine Or.inr ?_
        rw [show fr + 1 + (((K.toInt - (fr + 1)).toNat : Nat) : Int) - 1 = K.toInt - 1 from by omega]; exact z)
    have m := zts_m (f := f) (p := fr + 1) (k := (K.toInt - (fr + 1)).toNat + 1) (j := (c - (K.toInt + 1)).toNat)
    rw [show (K.toInt - (fr + 1)).toNat + 1 + (c - (K.toInt + 1)).toNat = (c - (fr + 1)).toNat from by omega] at m
    omega
  · exact Or.inr (Or.inr ⟨fun d hd => c ⟨d, hd⟩, rfl⟩)
theorem zxP_2 (ha2 : zSg f fr ha 34) (hlv : lv < 40) (hf0 : 0 ≤ fr) (h : zxF f n be k c qt qt') (hn : k = n) : zxX (zPhr f n sd) f n fr ha be lv qt cn cd := fun tb hm L hL => by
  have e := (zMl_s hm (v := 34) (by decide) (by unfold zTok; omega)).2 ha2
  subst e
  obtain ⟨h1, h2, h3, h4, h5, h6⟩ := h
  refine Or.inr ⟨hlv, Or.inr (Or.inr ⟨fun d hd => ?_, rfl⟩)⟩
  exact h3 d.toNat (by have := hd.1; omega) (by have := hd.2.1; have := hd.1; omega) hd.2.2.1
theorem zxP_3 (ha2 : zSg f fr ha 34) (hlv : lv < 40) (hf0 : 0 ≤ fr) (h : zxF f n be k c qt qt') (hn : k < n) (hq : (f k.toNat).toInt = 34) (hc : c = 0) : zxX (zPhr f n sd) f n fr ha be lv qt cn cd := fun tb hm L hL => by
  have e := (zMl_s hm (v := 34) (by decide) (by unfold zTok; omega)).2 ha2
  subst e
  obtain ⟨h1, h2, h3, h4, h5, h6⟩ := h
  exact Or.inr ⟨hlv, Or.inl ⟨k, ⟨h1, hn, hq, h3⟩, Or.inl (by omega), rfl⟩⟩
theorem zxP_4 {l9 : Int} {B1 : Int} (ha2 : zSg f fr ha 34) (hlv : lv < 40) (hl0 : 0 ≤ lv) (hf0 : 0 ≤ fr) (h : zxF f n be k c qt qt') (hn : k < n) (hq : (f k.toNat).toInt = 34) (hc : c ≠ 0) (h16 : qt' ≤ 160) (hB : B1 = k + 1) (k1 : zBl f n B1 d) (m1 : zMl f n d h1 b1) (hk : zMch cd cd1) (hmc : m = cn) (hsd : 0 ≤ sd) (hL9 : be = fr + 1 → zQc f n be k → c = zqts f be (k - be).toNat → zLmk cd1 (zlc 3 lv fr sd)) (hN : zxN wh br wh' br' cd1 cd' m cn cn' v l9 x9 y9) (hl9 : l9 = lv) (hv : v = 3) (hl' : lv' = lv + 1) (hr : r = m) : zxS (zPhr f n sd) f n fr ha be lv qt cn cd d h1 b1 lv' qt' cn' cd' (fun pl => pl = true ↔ zHp wh' br' r) := fun tb hm => by
  have e := (zMl_s hm (v := 34) (by decide) (by unfold zTok; omega)).2 ha2
  subst e; subst hB
  obtain ⟨h1, h2, h3, h4, h5, h6⟩ := h
  subst hl9
  obtain ⟨n1, n2, n3, n4⟩ := hN
  subst hv; subst hl'; subst hr
  refine ⟨m1, fun L hL => ⟨_, true, Or.inr ⟨hlv, Or.inr (Or.inl ⟨k, d, ⟨h1, hn, hq, h3⟩, fun o => by rcases o with o | o <;> omega, k1, ?_⟩)⟩, n4 hmc (by decide) (by decide) (by omega) (by omega) L _ (zlc_m (by omega) (by omega)) (zlc_0 (by omega) hf0 hsd) (fun _ => hL9 rfl ⟨h1, hn, hq, h3⟩ h4) (fun o => by omega) (fun o => by omega) (zCm_k hL hk), fun _ => ⟨n3, by omega⟩, fun _ => rfl⟩⟩
  rw [h5, h4]
end ZX
