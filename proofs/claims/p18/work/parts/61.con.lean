theorem zybit {c s z y : Int32} (e1 : z = (c.toUInt32 >>> (s.toUInt32 &&& Int32.toUInt32 31)).toInt32) (e2 : y = z &&& 1) (h0 : 0 ≤ c.toInt) (hs : 0 ≤ s.toInt) (hs2 : s.toInt ≤ 12) : y.toInt = c.toInt / 2 ^ s.toInt.toNat % 2 := by
  have key : ∀ k : Nat, k ≤ 12 → s = Int32.ofNat k → y.toInt = c.toInt / 2 ^ k % 2 := by
    intro k hk es
    have hN : c.toBitVec.toNat < 4294967296 := c.toBitVec.isLt
    have hc := ztoi c
    have hz := ztoi z
    have hy := ztoi y
    have h1 := pk_ushr c (Int32.ofNat k) k (by
      have q : ∀ k : Nat, k ≤ 12 → (((Int32.ofNat k).toUInt32 &&& Int32.toUInt32 31).toBitVec % 32).toNat = k := by decide
      exact q k hk)
    rw [es] at e1
    rw [← e1] at h1
    have h2 : y.toBitVec.toNat = z.toBitVec.toNat &&& 1 := by rw [e2]; rfl
    have h3 : z.toBitVec.toNat &&& 1 = z.toBitVec.toNat % 2 := Nat.and_two_pow_sub_one_eq_mod z.toBitVec.toNat 1
    rw [h2, h3] at hy
    rw [if_pos (by omega)] at hy
    have hc2 : c.toInt = (c.toBitVec.toNat : Int) := by
      rw [hc] at h0 ⊢
      split at h0
      · rw [if_pos (by assumption)]
      · omega
    rw [hy, h1, hc2]
    exact rfl
  have q2 : ∀ k : Nat, k ≤ 12 → (Int32.ofNat k).toInt = (k : Int) := by decide
  have es : s = Int32.ofNat s.toInt.toNat := zeqi.mpr (by rw [q2 _ (by omega)]; omega)
  exact key s.toInt.toNat (by omega) es
def zyA (f : Nat → Int32) (n p : Int) (r : Option (Int × Int)) : Prop := ∃ e, zRe f n p e ∧ ((¬ (zDgs f p e 3 ∧ 1 ≤ zvl f p (e - p).toNat ∧ zvl f p (e - p).toNat ≤ 200) ∧ r = none) ∨ ((zDgs f p e 3 ∧ 1 ≤ zvl f p (e - p).toNat ∧ zvl f p (e - p).toNat ≤ 200) ∧ ∃ p2, zBl f n e p2 ∧ r = some (zvl f p (e - p).toNat, p2)))
def zyP (f : Nat → Int32) (n so st be fa dn so' st' be' fa' v : Int) : Prop := zTy f n → zW f n so st be fa dn → zW f n so' st' be' fa' dn ∧ (zyB so dn → zyB so' dn) ∧ (¬ zyB so dn → (zyB so' dn ∧ zyA f n st none) ∨ (¬ zyB so' dn ∧ zyA f n st (some (v, st'))))
section ZZ
variable {f : Nat → Int32} {n so st be fa dn lv qt ln so' st' be' fa' dn' lv' qt' ln' k p r v i i' : Int} {s s' : Nat → Int32} {ok : Prop} {B : zRl_} {P : Bool → Prop}
theorem zyP_a {s1 f1 : Int} (hn : n ≤ 600) (hs : so ≠ 257) (hf : zFb fa s1 f1 1 st) (hx : zTy f n → zNx f n s1 be f1 dn so' st' be' fa') : zyP f n so st be fa dn so' st' be' fa' v := fun tb hW => by
  have e1 := hf.1
  have w1 : zW f n s1 st be f1 dn := zFb_W hW hn hf (by decide) (fun _ a b => ⟨by omega, by omega⟩)
  obtain ⟨w2, e2, _⟩ := zyN w1 hn (hx tb) (by omega)
  have e3 := e2 (Or.inl e1)
  refine ⟨w2, fun _ => e3, fun hb => Or.inl ⟨e3, ?_⟩⟩
  obtain ⟨_, _, _, q1, _, q3⟩ := zW_g hW (zyB_n.mp hb).1
  obtain ⟨e, he⟩ := zRe_x (f := f) (n := n) _ st q1 rfl
  exact ⟨e, he, Or.inl ⟨fun y => zLk_d q1 q3 hs he y.1, rfl⟩⟩
theorem zyP_b {s1 f1 : Int} (hn : n ≤ 600) (hs : so = 257) (hd : zTy f n → 0 ≤ st → be ≤ n → zDr f st be 3 v) (hv : v < 1 ∨ 200 < v) (hf : zFb fa s1 f1 k st) (hk : 1 ≤ k ∧ k ≤ 4) (hx : zTy f n → zNx f n s1 be f1 dn so' st' be' fa') : zyP f n so st be fa dn so' st' be' fa' v := fun tb hW => by
  have e1 := hf.1
  have w1 : zW f n s1 st be f1 dn := zFb_W hW hn hf hk (fun _ a b => ⟨by omega, by omega⟩)
  obtain ⟨w2, e2, _⟩ := zyN w1 hn (hx tb) (by omega)
  have e3 := e2 (Or.inl e1)
  refine ⟨w2, fun _ => e3, fun hb => Or.inl ⟨e3, ?_⟩⟩
  obtain ⟨_, _, _, q1, _, q3⟩ := zW_g hW (zyB_n.mp hb).1
  rw [hs] at q3
  have q4 := (zLk_t q3).2
  refine ⟨be, q4, Or.inl ⟨fun y => ?_, rfl⟩⟩
  rcases hd tb q1 (zLk_n q3 (by decide)) with y1 | y1
  · exact y1.2 y.1
  · have y2 := y1.1
    have y3 := y.2
    omega
theorem zyP_c (hn : n ≤ 600) (hs : so = 257) (hd : zTy f n → 0 ≤ st → be ≤ n → zDr f st be 3 v) (hv : 1 ≤ v ∧ v ≤ 200) (hx : zTy f n → zNx f n so be fa dn so' st' be' fa') : zyP f n so st be fa dn so' st' be' fa' v := fun tb hW => by
  obtain ⟨w2, e2, g2⟩ := zyN hW hn (hx tb) (by omega)
  refine ⟨w2, e2, fun hb => ?_⟩
  obtain ⟨_, _, _, q1, _, q3⟩ := zW_g hW (zyB_n.mp hb).1
  rw [hs] at q3
  have q4 := (zLk_t q3).2
  obtain ⟨g3, g4, g5⟩ := g2 hb
  rcases hd tb q1 (zLk_n q3 (by decide)) with y1 | y1
  · omega
  · have y2 := y1.1
    exact Or.inr ⟨g3, be, q4, Or.inr ⟨⟨y1.2, by omega, by omega⟩, st', g4, by rw [y2]⟩⟩
theorem zyNe_a (h : zyS (zUni f n ok B) f n so st be fa dn lv qt ln s so' st' be' fa' dn' lv' qt' ln' s' P) (hs : so' ≠ 261) : zyS (zNea f n ok B) f n so st be fa dn lv qt ln s so' st' be' fa' dn' lv' qt' ln' s' (fun pl => pl = false) := fun tb hW => by
  obtain ⟨a, b, c⟩ := h tb hW
  refine ⟨a, b, fun hb L hc hl => ?_⟩
  rcases c hb L hc hl with x | ⟨x, K, pl, y, z, w⟩
  · exact Or.inl ⟨x.1, none, x.2, Or.inl ⟨rfl, rfl⟩⟩
  · obtain ⟨_, _, _, q1, _, q3⟩ := zW_g a (zyB_n.mp x).1
    exact Or.inr ⟨x, K, false, ⟨_, y, Or.inr ⟨_, _, _, _, _, rfl, Or.inl ⟨fun ⟨b', y'⟩ => hs (zLk_u q1 q3 y').1, rfl⟩⟩⟩, z, rfl⟩
theorem zW_d {d : Int} (h : zW f n so st be fa dn) (h0 : 0 ≤ d) (h1 : d ≤ 600) : zW f n so st be fa d := by
  rcases h with h | ⟨a1, a2, a3, a4, a5⟩
  · exact Or.inl h
  · exact Or.inr ⟨a1, a2, by omega, h1, a5⟩
theorem zyNe_b {r1 r2 s1 p1 b1 f1 d1 l1 t1 n1 s2 p2 b2 f2 s3 p3 b3 f3 s4 p4 b4 f4 d4 l4 t4 n4 : Int} {c1 c4 : Nat → Int32} (hB : zBn 4 B) (hn : n ≤ 600) (hl4 : l4 ≤ 40)
    (h1 : zyS (zUni f n ok B) f n so st be fa dn lv qt ln s s1 p1 b1 f1 d1 l1 t1 n1 c1 (fun pl => pl = true ↔ r1 = 1)) (hs : s1 = 261) (hx : zTy f n → zNx f n s1 b1 f1 d1 s2 p2 b2 f2) (ha : zyP f n s2 p2 b2 f2 d1 s3 p3 b3 f3 v)
    (h2 : zyS (zUni f n ok B) f n s3 p3 b3 f3 d1 l1 t1 n1 c1 s4 p4 b4 f4 d4 l4 t4 n4 c4 (fun pl => pl = true ↔ r2 = 1))
    (hE : (r1 = 1 ∧ r2 = 1 ∧ so' = s4 ∧ fa' = f4 ∧ dn' = d4) ∨ ((r1 ≠ 1 ∨ r2 ≠ 1) ∧ ((so' = s4 ∧ fa' = f4 ∧ dn' = p1) ∨ (zFb f4 so' fa' 4 p1 ∧ dn' = d4))))
    (hc : ∀ L : List Int, zCd c4 n4 L → n4 < 270 → zCd s' ln' (L ++ [1000 * 5 + v])) : zyS (zNea f n ok B) f n so st be fa dn lv qt ln s so' p4 b4 fa' dn' l4 t4 ln' s' (fun pl => pl = false) := fun tb hW => by
  obtain ⟨w1, e1, g1⟩ := h1 tb hW
  obtain ⟨w2, e2, g2⟩ := zyN w1 hn (hx tb) (by omega)
  obtain ⟨w3, e3, g3⟩ := ha tb w2
  obtain ⟨w4, e4, g4⟩ := h2 tb w3
  obtain ⟨_, _, _, q1, q2, q3⟩ := zW_g w1 (by omega)
  have e5 : zyB s4 d4 → zyB so' dn' := fun y => by
    rcases hE with ⟨_, _, a1, a2, a3⟩ | ⟨_, ⟨a1, a2, a3⟩ | ⟨a1, a2⟩⟩
    · rw [a1, a3]; exact y
    · exact Or.inr (by omega)
    · exact Or.inl a1.1
  have w5 : zW f n so' p4 b4 fa' dn' := by
    rcases hE with ⟨_, _, a1, a2, a3⟩ | ⟨_, ⟨a1, a2, a3⟩ | ⟨a1, a2⟩⟩
    · rw [a1, a2, a3]; exact w4
    · rw [a1, a2, a3]; exact zW_d w4 q1 (by omega)
    · exact zFb_W w4 hn a1 (by decide) (fun _ _ _ => ⟨by omega, by omega⟩)
  refine ⟨w5, fun y => e5 (e4 (e3 (e2 (e1 y)))), fun hb L hL hl => ?_⟩
  obtain ⟨_, _, _, o1, _, _⟩ := zW_g hW (zyB_n.mp hb).1
  rcases g1 hb L hL hl with ⟨x1, x2⟩ | ⟨x1, K1, pl1, x2, x3, x4⟩
  · exact Or.inl ⟨e5 (e4 (e3 (e2 x1))), none, x2, Or.inl ⟨rfl, rfl⟩⟩
  have k261 : zLk f n p1 261 b1 := hs ▸ q3
  obtain ⟨y1, y2, y3⟩ := g2 x1
  have u1 := zUni_b hB _ _ _ _ _ _ _ _ _ x2 o1
  have u2 := zLk_b q3
  have u3 := y2.1
  have u4 := hL.1
  have u5 := x3.1
  rcases g3 y1 with ⟨z1, e, z2, z3⟩ | ⟨z1, e, z2, z3⟩
  · rcases z3 with z3 | ⟨_, p2', _, z3⟩
    · exact Or.inl ⟨e5 (e4 z1), _, x2, Or.inr ⟨_, _, _, _, _, rfl, Or.inr ⟨b1, p2, e, k261, y2, z2, Or.inl ⟨z3.1, rfl⟩⟩⟩⟩
    · cases z3
  rcases z3 with z3 | ⟨z3, p2', z4, z5⟩
  · cases z3.2
  cases z5
  have u6 := z2.1
  have u7 := z4.1
  rcases g4 z1 K1 x3 (by omega) with ⟨m1, m2⟩ | ⟨m1, K2, pl2, m2, m3, m4⟩
  · exact Or.inl ⟨e5 m1, _, x2, Or.inr ⟨_, _, _, _, _, rfl, Or.inr ⟨b1, p2, e, k261, y2, z2, Or.inr ⟨z3, _, none, z4, m2, Or.inl ⟨rfl, rfl⟩⟩⟩⟩⟩
  have u8 := zUni_b hB _ _ _ _ _ _ _ _ _ m2 (by omega)
  obtain ⟨_, _, _, v1, v2, v3⟩ := zW_g w4 (zyB_n.mp m1).1
  have u9 := m3.1
  have N : ∀ r, (¬ (pl1 = true ∧ pl2 = true) ∧ r = none) ∨ ((pl1 = true ∧ pl2 = true) ∧ r = some (p4, l4, t4, K2 ++ [5000 + zvl f p2 (e - p2).toNat], false)) → zNea f n ok B st lv qt L r := fun r hr => ⟨_, x2, Or.inr ⟨_, _, _, _, _, rfl, Or.inr ⟨b1, p2, e, k261, y2, z2, Or.inr ⟨z3, _, _, z4, m2, Or.inr ⟨_, _, _, _, _, rfl, hr⟩⟩⟩⟩⟩
  rcases hE with ⟨a0, a9, a1, a2, a3⟩ | ⟨a0, a1⟩
  · have m5 := hc K2 m3 (by omega)
    rw [a1, a3]
    exact Or.inr ⟨m1, _, false, N _ (Or.inr ⟨⟨x4.mpr a0, m4.mpr a9⟩, rfl⟩), m5, rfl⟩
  · refine Or.inl ⟨?_, N _ (Or.inl ⟨fun o => ?_, rfl⟩)⟩
    · rcases a1 with ⟨a1, a2, a3⟩ | ⟨a1, a2⟩
      · exact Or.inr (by omega)
      · exact Or.inl a1.1
    · have o1 := x4.mp o.1
      have o2 := m4.mp o.2
      omega
def zyK (f : Nat → Int32) (n so0 st0 be0 fa0 dn0 i so st be fa dn : Int) : Prop := zTy f n → zW f n so0 st0 be0 fa0 dn0 → zW f n so st be fa dn ∧ (zyB so0 dn0 → zyB so dn) ∧ (¬ zyB so0 dn0 → (zyB so dn ∧ ∃ a', zNs f n 40 st0 a' ∧ zKd f n a' 260) ∨ (¬ zyB so dn ∧ i ≤ 40 ∧ zNs f n i.toNat st0 st))
variable {so0 st0 be0 fa0 dn0 lv0 qt0 ln0 : Int} {s0 : Nat → Int32}
theorem zyK_0 (hi : i = 0) : zyK f n so st be fa dn i so st be fa dn := fun tb hW => by
  subst hi
  exact ⟨hW, fun h => h, fun h => Or.inr ⟨h, by decide, rfl⟩⟩
theorem zyK_s (h : zyK f n so0 st0 be0 fa0 dn0 i so st be fa dn) (hn : n ≤ 600) (hi0 : 0 ≤ i) (hi : i < 40) (hs : so = 260) (hx : zTy f n → zNx f n so be fa dn so' st' be' fa') (ei : i' = i + 1) : zyK f n so0 st0 be0 fa0 dn0 i' so' st' be' fa' dn := fun tb hW => by
  obtain ⟨w1, h2, h3⟩ := h tb hW
  obtain ⟨w2, e2, g2⟩ := zyN w1 hn (hx tb) (by omega)
  obtain ⟨_, _, _, q1, q2, q3⟩ := zW_g w1 (by omega)
  refine ⟨w2, fun hb => e2 (h2 hb), fun hb => ?_⟩
  rcases h3 hb with ⟨x, y⟩ | ⟨x, _, y⟩
  · exact Or.inl ⟨e2 x, y⟩
  · obtain ⟨g3, g4, g5⟩ := g2 x
    refine Or.inr ⟨g3, by omega, ?_⟩
    rw [show i'.toNat = i.toNat + 1 from by omega]
    exact zNs_s y (hs ▸ q3) g4
theorem zyK_f {s1 f1 : Int} (h : zyK f n so0 st0 be0 fa0 dn0 i so st be fa dn) (hn : n ≤ 600) (hi : i = 40) (hs : so = 260) (hf : zFb fa s1 f1 3 st) (hx : zTy f n → zNx f n s1 be f1 dn so' st' be' fa') : zyK f n so0 st0 be0 fa0 dn0 i' so' st' be' fa' dn := fun tb hW => by
  obtain ⟨w1, h2, h3⟩ := h tb hW
  obtain ⟨_, _, _, q1, q2, q3⟩ := zW_g w1 (by omega)
  have w2 : zW f n s1 st be f1 dn := zFb_W w1 hn hf (by decide) (fun _ a b => ⟨by omega, by omega⟩)
  have e1 := hf.1
  obtain ⟨w3, e3, g3⟩ := zyN w2 hn (hx tb) (by omega)
  have hb3 := e3 (Or.inl e1)
  refine ⟨w3, fun _ => hb3, fun hb => Or.inl ⟨hb3, ?_⟩⟩
  rcases h3 hb with ⟨x, y⟩ | ⟨x, _, y⟩
  · exact y
  · rw [show i.toNat = 40 from by omega] at y
    exact ⟨st, y, be, hs ▸ q3⟩
theorem zyK_e (h : zyK f n so0 st0 be0 fa0 dn0 i so st be fa dn) (hi0 : 0 ≤ i) (hx : 40 < i ∨ so ≠ 260) (hb : zyS (zNea f n ok B) f n so st be fa dn lv0 qt0 ln0 s0 so' st' be' fa' dn' lv' qt' ln' s' P) (hr : r = i % 2) : zyS (zNot f n ok B) f n so0 st0 be0 fa0 dn0 lv0 qt0 ln0 s0 so' st' be' fa' dn' lv' qt' ln' s' (fun pl => pl = true ↔ r = 1) := fun tb hW => by
  obtain ⟨w1, h2, h3⟩ := h tb hW
  obtain ⟨w2, e2, g2⟩ := hb tb w1
  refine ⟨w2, fun y => e2 (h2 y), fun y L hc hl => ?_⟩
  obtain ⟨_, _, _, p1, _, _⟩ := zW_g hW (zyB_n.mp y).1
  rcases h3 y with ⟨x1, a', x2, x3⟩ | ⟨x1, x0, x2⟩
  · exact Or.inl ⟨e2 x1, 40, a', x2, Or.inl ⟨rfl, x3, rfl⟩⟩
  · have x4 := zNs_b x2 p1
    obtain ⟨_, _, _, q1, q2, q3⟩ := zW_g w1 (zyB_n.mp x1).1
    have hnf : ¬ zKd f n st 260 := fun ⟨b, y1⟩ => by
      have y3 := (zLk_u q1 q3 y1).1
      omega
    rcases g2 x1 L hc (by omega) with ⟨z1, z2⟩ | ⟨z1, K, pl, z2, z3, z4⟩
    · exact Or.inl ⟨z1, i.toNat, st, x2, Or.inr ⟨by omega, hnf, none, z2, Or.inl ⟨rfl, rfl⟩⟩⟩
    · refine Or.inr ⟨z1, K, decide (i.toNat % 2 = 1), ⟨i.toNat, st, x2, Or.inr ⟨by omega, hnf, _, z2, Or.inr ⟨_, _, _, _, _, rfl, rfl⟩⟩⟩, z3, ?_⟩
      show (decide (i.toNat % 2 = 1) = true ↔ r = 1)
      rw [decide_eq_true_iff]
      omega
def zyV (R : zRl_) (T : Nat → zRl_) (f : Nat → Int32) (n so0 st0 be0 fa0 dn0 lv0 qt0 ln0 : Int) (s0 : Nat → Int32) (i so st be fa dn lv qt ln : Int) (s : Nat → Int32) : Prop := zTy f n → zW f n so0 st0 be0 fa0 dn0 → zW f n so st be fa dn ∧ (zyB so0 dn0 → zyB so dn) ∧ (¬ zyB so0 dn0 → ∀ L : List Int, zCd s0 ln0 L → 4 * ln0 ≤ 8 * lv0 + st0 →
  (zyB so dn ∧ R st0 lv0 qt0 L none) ∨ (¬ zyB so dn ∧ lv0 + 1 + i ≤ lv ∧ ∃ K, zCd s ln K ∧ 4 * ln + 4 ≤ 8 * lv + st ∧ ∀ k r, T k st lv qt K r → R st0 lv0 qt0 L r))
theorem zyV_a0 {s1 : Nat → Int32} {n1 : Int} (hB : zBn 4 B) (hM : zMon B) (hn : n ≤ 600) (hlv : lv' ≤ 40) (h : zyS (zNot f n ok B) f n so st be fa dn lv qt ln s so' st' be' fa' dn' lv' qt' n1 s1 (fun pl => pl = true ↔ r = 1)) (hi : i = 0)
    (hE : (r = 1 ∧ ∀ L : List Int, zCd s1 n1 L → n1 < 270 → zCd s' ln' (L ++ [1000 * 10 + 0])) ∨ (r ≠ 1 ∧ s' = s1 ∧ ln' = n1)) : zyV (zAll f n ok B) (zAlp f n ok B) f n so st be fa dn lv qt ln s i so' st' be' fa' dn' lv' qt' ln' s' := fun tb hW => by
  subst hi
  obtain ⟨a, b, c⟩ := h tb hW
  refine ⟨a, b, fun hb L hc hl => ?_⟩
  obtain ⟨_, _, _, p1, _, _⟩ := zW_g hW (zyB_n.mp hb).1
  rcases c hb L hc hl with x | ⟨x, K, pl, y, z, w⟩
  · exact Or.inl ⟨x.1, none, x.2, Or.inl ⟨rfl, rfl⟩⟩
  · have u := zNot_b hB hM y p1
    obtain ⟨_, _, _, q1, q2, q3⟩ := zW_g a (zyB_n.mp x).1
    have u1 := hc.1
    have u2 := z.1
    rcases hE with ⟨e1, e2⟩ | ⟨e1, e2, e3⟩
    · have ht := w.mpr e1
      have u3 := u.2 ht
      have m := e2 K z (by omega)
      have m1 := m.1
      rw [zlen1] at m1
      refine Or.inr ⟨x, by omega, _, m, by omega, fun k r hr => ⟨_, y, Or.inr ⟨_, _, _, _, _, k, rfl, ?_⟩⟩⟩
      rw [if_pos ht]
      exact hr
    · have ht : ¬ pl = true := fun o => e1 (w.mp o)
      rw [e2, e3]
      refine Or.inr ⟨x, by omega, _, z, by omega, fun k r hr => ⟨_, y, Or.inr ⟨_, _, _, _, _, k, rfl, ?_⟩⟩⟩
      rw [if_neg ht]
      exact hr
def zyG (so : Int) : Prop := so = 259 ∨ so = 260 ∨ so = 257 ∨ so = 262 ∨ so = 263 ∨ so = 34 ∨ so = 40 ∨ so = 91
theorem zyV_as {w s1 p1 b1 f1 s2 p2 b2 f2 d2 l2 t2 n2 : Int} {c2 : Nat → Int32} (hB : zBn 4 B) (hM : zMon B) (hn : n ≤ 600) (hlv : l2 ≤ 40) (h : zyV (zAll f n ok B) (zAlp f n ok B) f n so0 st0 be0 fa0 dn0 lv0 qt0 ln0 s0 i so st be fa dn lv qt ln s) (hg : zyG so)
    (hA : (so = 259 ∧ (zTy f n → zNx f n so be fa dn s1 p1 b1 f1)) ∨ (so ≠ 259 ∧ s1 = so ∧ p1 = st ∧ b1 = be ∧ f1 = fa)) (hq : zyS (zNot f n ok B) f n s1 p1 b1 f1 dn lv qt ln s s2 p2 b2 f2 d2 l2 t2 n2 c2 (fun pl => pl = true ↔ r = 1)) (hw : (r = 1 ∧ w = 11) ∨ (r ≠ 1 ∧ w = 8)) (hc : ∀ L : List Int, zCd c2 n2 L → n2 < 270 → zCd s' ln' (L ++ [1000 * w + 0])) (ei : i' = i + 1) :
    zyV (zAll f n ok B) (zAlp f n ok B) f n so0 st0 be0 fa0 dn0 lv0 qt0 ln0 s0 i' s2 p2 b2 f2 d2 l2 t2 ln' s' := fun tb hW => by
  obtain ⟨w1, e1, g1⟩ := h tb hW
  have st1 : zW f n s1 p1 b1 f1 dn ∧ (zyB so dn → zyB s1 dn) ∧ (¬ zyB so dn → ¬ zyB s1 dn ∧ st ≤ p1 ∧ ((∃ b, zLk f n st 259 b ∧ zBl f n b p1) ∨ (¬ zKd f n st 259 ∧ p1 = st))) := by
    rcases hA with ⟨a1, a2⟩ | ⟨a1, a2, a3, a4, a5⟩
    · obtain ⟨x1, x2, x3⟩ := zyN w1 hn (a2 tb) (by omega)
      refine ⟨x1, x2, fun y => ?_⟩
      obtain ⟨y1, y2, y3⟩ := x3 y
      obtain ⟨_, _, _, q1, q2, q3⟩ := zW_g w1 (zyB_n.mp y).1
      have y4 := y2.1
      have y5 := zLk_b q3
      exact ⟨y1, by omega, Or.inl ⟨be, a1 ▸ q3, y2⟩⟩
    · rw [a2, a3, a4, a5]
      refine ⟨w1, fun y => y, fun y => ⟨y, by omega, Or.inr ⟨fun ⟨b, y1⟩ => ?_, rfl⟩⟩⟩
      obtain ⟨_, _, _, q1, q2, q3⟩ := zW_g w1 (zyB_n.mp y).1
      exact a1 (zLk_u q1 q3 y1).1
  obtain ⟨w2, e2, g2⟩ := st1
  obtain ⟨w3, e3, g3⟩ := hq tb w2
  refine ⟨w3, fun y => e3 (e2 (e1 y)), fun hb L hL hl => ?_⟩
  rcases g1 hb L hL hl with ⟨x1, x2⟩ | ⟨x1, x0, K, x2, x3, x4⟩
  · exact Or.inl ⟨e3 (e2 x1), x2⟩
  obtain ⟨_, _, _, q1, q2, q3⟩ := zW_g w1 (zyB_n.mp x1).1
  have hgo : zGo f n st := ⟨so, ⟨be, q3⟩, hg⟩
  obtain ⟨y1, y2, y3⟩ := g2 x1
  have u2 := x2.1
  rcases g3 y1 K x2 (by omega) with ⟨z1, z2⟩ | ⟨z1, K2, pl, z2, z3, z4⟩
  · exact Or.inl ⟨z1, x4 1 none ⟨hgo, p1, none, y3, z2, Or.inl ⟨rfl, rfl⟩⟩⟩
  have u := (zNot_b hB hM z2 (by omega)).1
  obtain ⟨_, _, _, r1, r2, r3⟩ := zW_g w3 (zyB_n.mp z1).1
  have u4 := z3.1
  have m := hc K2 z3 (by omega)
  have m1 := m.1
  rw [zlen1] at m1
  refine Or.inr ⟨z1, by omega, _, m, by omega, fun k r' hr => x4 (k + 1) r' ⟨hgo, p1, _, y3, z2, Or.inr ⟨_, _, _, _, _, rfl, ?_⟩⟩⟩
  rcases hw with ⟨o1, o2⟩ | ⟨o1, o2⟩
  · rw [if_pos (z4.mpr o1)]
    rw [o2] at hr
    exact hr
  · rw [if_neg (fun o => o1 (z4.mp o))]
    rw [o2] at hr
    exact hr
theorem zyV_ae (h : zyV (zAll f n ok B) (zAlp f n ok B) f n so0 st0 be0 fa0 dn0 lv0 qt0 ln0 s0 i so st be fa dn lv qt ln s) (hlv : lv ≤ 40) (h0 : 0 ≤ lv0) (hx : 600 ≤ i ∨ ¬ zyG so) : zyS (zAll f n ok B) f n so0 st0 be0 fa0 dn0 lv0 qt0 ln0 s0 so st be fa dn lv qt ln s (fun pl => pl = false) := fun tb hW => by
  obtain ⟨w1, e1, g1⟩ := h tb hW
  refine ⟨w1, e1, fun hb L hL hl => ?_⟩
  rcases g1 hb L hL hl with x | ⟨x1, x0, K, x2, x3, x4⟩
  · exact Or.inl x
  obtain ⟨_, _, _, q1, q2, q3⟩ := zW_g w1 (zyB_n.mp x1).1
  refine Or.inr ⟨x1, K, false, x4 0 _ ⟨fun ⟨k, ⟨b, y1⟩, y2⟩ => ?_, rfl⟩, x2, rfl⟩
  have y3 := (zLk_u q1 q3 y1).1
  rcases hx with hx | hx
  · omega
  · exact hx (by rw [y3]; exact y2)
theorem zyV_q0 (hB : zBn 4 B) (hM : zMon B) (h : zyS (zAll f n ok B) f n so st be fa dn lv qt ln s so' st' be' fa' dn' lv' qt' ln' s' P) (hi : i = 0) : zyV (zQue f n ok B) (zQlp f n ok B) f n so st be fa dn lv qt ln s i so' st' be' fa' dn' lv' qt' ln' s' := fun tb hW => by
  subst hi
  obtain ⟨a, b, c⟩ := h tb hW
  refine ⟨a, b, fun hb L hc hl => ?_⟩
  obtain ⟨_, _, _, p1, _, _⟩ := zW_g hW (zyB_n.mp hb).1
  rcases c hb L hc hl with x | ⟨x, K, pl, y, z, w⟩
  · exact Or.inl ⟨x.1, none, x.2, Or.inl ⟨rfl, rfl⟩⟩
  · have u := zAll_b hB hM _ _ _ _ _ _ _ _ _ y p1
    have u1 := hc.1
    have u2 := z.1
    exact Or.inr ⟨x, by omega, K, z, by omega, fun k r hr => ⟨_, y, Or.inr ⟨_, _, _, _, _, k, rfl, hr⟩⟩⟩
theorem zyV_qs {s1 p1 b1 f1 s2 p2 b2 f2 d2 l2 t2 n2 : Int} {c2 : Nat → Int32} (hB : zBn 4 B) (hM : zMon B) (hn : n ≤ 600) (hlv : l2 ≤ 40) (h : zyV (zQue f n ok B) (zQlp f n ok B) f n so0 st0 be0 fa0 dn0 lv0 qt0 ln0 s0 i so st be fa dn lv qt ln s) (hs : so = 258)
    (hx : zTy f n → zNx f n so be fa dn s1 p1 b1 f1) (hq : zyS (zAll f n ok B) f n s1 p1 b1 f1 dn lv qt ln s s2 p2 b2 f2 d2 l2 t2 n2 c2 P) (hc : ∀ L : List Int, zCd c2 n2 L → n2 < 270 → zCd s' ln' (L ++ [1000 * 9 + 0])) (ei : i' = i + 1) :
    zyV (zQue f n ok B) (zQlp f n ok B) f n so0 st0 be0 fa0 dn0 lv0 qt0 ln0 s0 i' s2 p2 b2 f2 d2 l2 t2 ln' s' := fun tb hW => by
  obtain ⟨w1, e1, g1⟩ := h tb hW
  obtain ⟨w2, e2, g2⟩ := zyN w1 hn (hx tb) (by omega)
  obtain ⟨w3, e3, g3⟩ := hq tb w2
  refine ⟨w3, fun y => e3 (e2 (e1 y)), fun hb L hL hl => ?_⟩
  rcases g1 hb L hL hl with ⟨x1, x2⟩ | ⟨x1, x0, K, x2, x3, x4⟩
  · exact Or.inl ⟨e3 (e2 x1), x2⟩
  obtain ⟨_, _, _, q1, q2, q3⟩ := zW_g w1 (zyB_n.mp x1).1
  rw [hs] at q3
  obtain ⟨y1, y2, y3⟩ := g2 x1
  have u2 := x2.1
  have u3 := y2.1
  have u5 := (zLk_l q3).1 rfl
  rcases g3 y1 K x2 (by omega) with ⟨z1, z2⟩ | ⟨z1, K2, pl, z2, z3, z4⟩
  · exact Or.inl ⟨z1, x4 1 none ⟨be, p1, none, q3, y2, z2, Or.inl ⟨rfl, rfl⟩⟩⟩
  have u := zAll_b hB hM _ _ _ _ _ _ _ _ _ z2 (by omega)
  obtain ⟨_, _, _, r1, r2, r3⟩ := zW_g w3 (zyB_n.mp z1).1
  have u4 := z3.1
  have m := hc K2 z3 (by omega)
  have m1 := m.1
  rw [zlen1] at m1
  exact Or.inr ⟨z1, by omega, _, m, by omega, fun k r' hr => x4 (k + 1) r' ⟨be, p1, _, q3, y2, z2, Or.inr ⟨_, _, _, _, _, rfl, hr⟩⟩⟩
theorem zyV_qe (h : zyV (zQue f n ok B) (zQlp f n ok B) f n so0 st0 be0 fa0 dn0 lv0 qt0 ln0 s0 i so st be fa dn lv qt ln s) (hlv : lv ≤ 40) (h0 : 0 ≤ lv0) (hx : 600 ≤ i ∨ so ≠ 258) : zyS (zQue f n ok B) f n so0 st0 be0 fa0 dn0 lv0 qt0 ln0 s0 so st be fa dn lv qt ln s (fun pl => pl = false) := fun tb hW => by
  obtain ⟨w1, e1, g1⟩ := h tb hW
  refine ⟨w1, e1, fun hb L hL hl => ?_⟩
  rcases g1 hb L hL hl with x | ⟨x1, x0, K, x2, x3, x4⟩
  · exact Or.inl x
  obtain ⟨_, _, _, q1, q2, q3⟩ := zW_g w1 (zyB_n.mp x1).1
  refine Or.inr ⟨x1, K, false, x4 0 _ ⟨fun ⟨b, y1⟩ => ?_, rfl⟩, x2, rfl⟩
  have y3 := (zLk_u q1 q3 y1).1
  rcases hx with hx | hx
  · omega
  · exact hx y3
end ZZ
