def zBn (c : Int) (B : zRl_) : Prop := ∀ a lv qt L q lv' qt' K pl, B a lv qt L (some (q, lv', qt', K, pl)) → 0 ≤ a → 4 * (K.length : Int) + 8 * lv + a + c ≤ 4 * (L.length : Int) + 8 * lv' + q ∧ lv + 1 ≤ lv'
theorem zLk_l {f : Nat → Int32} {n p k b : Int} (h : zLk f n p k b) : (k = 258 → p + 2 ≤ b) ∧ (k = 259 → p + 3 ≤ b) ∧ (k = 260 → p + 3 ≤ b) ∧ (k = 261 → p + 4 ≤ b) ∧ (k = 262 ∨ k = 263 → p + 5 ≤ b) ∧ (k ≠ 256 → p < b ∧ p < n) := by
  rcases h with h | ⟨h1, h2, e, h3, h4⟩ | h | h
  · refine ⟨?_, ?_, ?_, ?_, ?_, ?_⟩ <;> intro q <;> omega
  · have hl : p < e := by
      have q := h3.2.2.1
      have q1 := h3.1
      rcases Int.lt_or_le p e with c | c
      · exact c
      · have c2 : e = p := by omega
        subst c2
        exact absurd h2 (q h1)
    rcases h4 with h4 | ⟨_, h4⟩
    · have q := h4.1.1; refine ⟨?_, ?_, ?_, ?_, ?_, ?_⟩ <;> intro q <;> omega
    rcases h4 with h4 | ⟨_, h4⟩
    · have q := h4.1.1; refine ⟨?_, ?_, ?_, ?_, ?_, ?_⟩ <;> intro q <;> omega
    rcases h4 with h4 | ⟨_, h4⟩
    · have q := h4.1.1; refine ⟨?_, ?_, ?_, ?_, ?_, ?_⟩ <;> intro q <;> omega
    rcases h4 with h4 | ⟨_, h4⟩
    · have q := h4.1.1; refine ⟨?_, ?_, ?_, ?_, ?_, ?_⟩ <;> intro q <;> omega
    rcases h4 with ⟨c, b1, b2, b3, b4⟩ | h4
    · have q1 := b1.1
      rcases b4 with b4 | b4
      · have q := b4.1.1; refine ⟨?_, ?_, ?_, ?_, ?_, ?_⟩ <;> intro q <;> omega
      · have q := b4.2.1.1; refine ⟨?_, ?_, ?_, ?_, ?_, ?_⟩ <;> intro q <;> omega
    · refine ⟨?_, ?_, ?_, ?_, ?_, ?_⟩ <;> intro q <;> omega
  · refine ⟨?_, ?_, ?_, ?_, ?_, ?_⟩ <;> intro q <;> omega
  · have q := Int.emod_lt_of_pos (f p.toNat).toInt (show (0 : Int) < 256 by omega)
    refine ⟨?_, ?_, ?_, ?_, ?_, ?_⟩ <;> intro q <;> omega
theorem zlen1 {L : List Int} {v : Int} : ((L ++ [v]).length : Int) = (L.length : Int) + 1 := by rw [List.length_append, List.length_singleton]; rfl
theorem zTkn_b {f : Nat → Int32} {n : Int} : zBn 4 (zTkn f n) := fun a lv qt L q lv' qt' K pl h ha => by
  rcases h with h | ⟨h0, e, c, h1, h2, h3⟩
  · cases h.2
  · have a1 := h1.1
    have a2 := h2.1
    rcases h3 with ⟨b1, d, b2, b3⟩ | ⟨b1, b2⟩
    · have a3 := b2.1; cases b3; rw [zlen1]; omega
    · cases b2; rw [zlen1]; omega
theorem zPhr_b {f : Nat → Int32} {n : Int} : zBn 5 (zPhr f n) := fun a lv qt L q lv' qt' K pl h ha => by
  rcases h with h | ⟨h0, h⟩
  · cases h.2
  · rcases h with ⟨c, h1, h2, h3⟩ | ⟨c, d, h1, h2, h3, h4⟩ | ⟨h1, h2⟩
    · cases h3
    · have a1 := h1.1; have a2 := h3.1; cases h4; rw [zlen1]; omega
    · cases h2
theorem zMrk_b {f : Nat → Int32} {n : Int} : zBn 5 (zMrk f n) := fun a lv qt L q lv' qt' K pl h ha => by
  rcases h with h | ⟨h0, p, x, h1, h2, h3⟩
  · cases h.2
  have a1 := h1.1
  rcases h3 with h3 | ⟨v, q0, hx, h3⟩
  · cases h3.2
  have a2 := zIni_p (by omega) (hx ▸ h2)
  rcases h3 with h3 | ⟨h3, p2, y, h4, h5, h6⟩
  · cases h3.2
  have a3 := h4.1
  rcases h6 with h6 | ⟨w, q2, hy, h6⟩
  · cases h6.2
  have a4 := zIni_p (by omega) (hy ▸ h5)
  rcases h6 with h6 | ⟨h6, d, h7, h8⟩
  · cases h6.2
  have a5 := h7.1
  cases h8
  rw [zlen1]
  omega
theorem zBar_b {f : Nat → Int32} {n : Int} {ok : Prop} {B : zRl_} (hB : zBn 4 B) : zBn 5 (zBar f n ok B) := fun a lv qt L q lv' qt' K pl h ha => by
  rcases h with ⟨hs, h⟩ | ⟨hs, h⟩
  · rcases h with h | ⟨h0, p, x, h1, h2, h3⟩
    · cases h.2
    have a1 := h1.1
    rcases h3 with h3 | ⟨q0, l, t, K, pl0, hx, h3⟩
    · cases h3.2
    have a2 := hB _ _ _ _ _ _ _ _ _ (hx ▸ h2) (by omega)
    rcases h3 with h3 | ⟨h3, d, h4, h5⟩
    · cases h3.2
    have a3 := h4.1
    cases h5
    omega
  rcases h with ⟨h1, h⟩ | ⟨h1, h⟩
  · exact zMrk_b _ _ _ _ _ _ _ _ _ h ha
  rcases h with ⟨h2, h⟩ | ⟨h2, h⟩
  · exact zPhr_b _ _ _ _ _ _ _ _ _ h ha
  rcases h with ⟨⟨b, h3⟩, h⟩ | ⟨h3, h⟩
  · have k1 := (zLk_l h3).2.2.2.2.2 (by omega)
    have k2 := zLk_t h3
    rcases h with h | ⟨h0, e, c, g1, g2, g3⟩
    · cases h.2
    · have e1 := zRe_u ha g1 k2.2
      have a2 := g2.1
      rcases g3 with ⟨b1, d, b2, b3⟩ | ⟨b1, b2⟩
      · have a3 := b2.1; cases b3; rw [zlen1]; omega
      · cases b2; rw [zlen1]; omega
  · cases h
theorem zFs_b {f : Nat → Int32} {n : Int} : ∀ {k : Nat} {a x : Int} {M : List Int}, zFs f n k a x M → 0 ≤ a → a + 5 * (k : Int) ≤ x ∧ M.length = k := by
  intro k
  induction k with
  | zero => intro a x M h ha; rw [h.1, h.2]; exact ⟨by omega, rfl⟩
  | succ k ih =>
    intro a x M h ha
    obtain ⟨kd, b, p, M', h1, h2, h3, h4, h5⟩ := h
    have hb := (zLk_l h1).2.2.2.2.1 h2
    have hp := h3.1
    have q := ih h4 (by omega)
    exact ⟨by omega, by rw [h5, List.length_append, List.length_singleton, q.2]⟩
theorem zUni_b {f : Nat → Int32} {n : Int} {ok : Prop} {B : zRl_} (hB : zBn 4 B) : zBn 5 (zUni f n ok B) := fun a lv qt L q lv' qt' K pl h ha => by
  obtain ⟨k, x, M, h1, h2⟩ := h
  have hx := zFs_b h1 ha
  rcases h2 with h2 | ⟨h2, h3, u, h4, h5⟩
  · cases h2.2.2
  rcases h5 with h5 | ⟨q0, l, t, K, pl0, hu, h5⟩
  · cases h5.2
  have a2 := zBar_b hB _ _ _ _ _ _ _ _ _ (hu ▸ h4) (by omega)
  rcases h5 with h5 | h5
  · cases h5.2
  · have h6 := h5.2
    cases h6
    rw [List.length_append]
    omega
theorem zNea_b {f : Nat → Int32} {n : Int} {ok : Prop} {B : zRl_} (hB : zBn 4 B) (hM : zMon B) : zBn 5 (zNea f n ok B) := fun a lv qt L q lv' qt' K pl h ha => by
  obtain ⟨x, h1, h2⟩ := h
  rcases h2 with h2 | ⟨q0, l, t, K, pl0, hx, h2⟩
  · cases h2.2
  have hq := zUni_b hB _ _ _ _ _ _ _ _ _ (hx ▸ h1) ha
  rcases h2 with h2 | ⟨b, p, e, h3, h4, h5, h6⟩
  · cases h2.2; omega
  have hb := (zLk_l h3).2.2.2.1 rfl
  have hp := h4.1
  have he := h5.1
  rcases h6 with h6 | ⟨h6, p2, y, h7, h8, h9⟩
  · cases h6.2
  have hp2 := h7.1
  rcases h9 with h9 | ⟨q2, l2, t2, K2, pl2, hy, h9⟩
  · cases h9.2
  have h0 := zUni_m hM _ _ _ _ _ _ _ _ _ (hx ▸ h1) ha
  have hq2 := zUni_b hB _ _ _ _ _ _ _ _ _ (hy ▸ h8) (by omega)
  rcases h9 with h9 | h9
  · cases h9.2
  · have h9 := h9.2
    cases h9
    rw [zlen1]
    omega
theorem zNs_b {f : Nat → Int32} {n : Int} : ∀ {k : Nat} {a x : Int}, zNs f n k a x → 0 ≤ a → a + 3 * (k : Int) ≤ x := by
  intro k
  induction k with
  | zero => intro a x h ha; have h : x = a := h; omega
  | succ k ih =>
    intro a x h ha
    obtain ⟨b, p, h1, h2, h3⟩ := h
    have hb := (zLk_l h1).2.2.1 rfl
    have hp := h2.1
    have q := ih h3 (by omega)
    omega
theorem zNot_b {f : Nat → Int32} {n : Int} {ok : Prop} {B : zRl_} (hB : zBn 4 B) (hM : zMon B) {a lv qt : Int} {L : List Int} {q lv' qt' : Int} {K : List Int} {pl : Bool} (h : zNot f n ok B a lv qt L (some (q, lv', qt', K, pl))) (ha : 0 ≤ a) : (4 * (K.length : Int) + 8 * lv + a + 5 ≤ 4 * (L.length : Int) + 8 * lv' + q ∧ lv + 1 ≤ lv') ∧ (pl = true → 4 * (K.length : Int) + 8 * lv + a + 8 ≤ 4 * (L.length : Int) + 8 * lv' + q) := by
  obtain ⟨k, x, h1, h2⟩ := h
  have hx := zNs_b h1 ha
  rcases h2 with h2 | ⟨h2, h3, u, h4, h5⟩
  · cases h2.2.2
  rcases h5 with h5 | ⟨q0, l, t, K, pl0, hu, h5⟩
  · cases h5.2
  have a2 := zNea_b hB hM _ _ _ _ _ _ _ _ _ (hu ▸ h4) (by omega)
  cases h5
  exact ⟨by omega, fun e => by have e := of_decide_eq_true e; omega⟩
theorem zAlp_b {f : Nat → Int32} {n : Int} {ok : Prop} {B : zRl_} (hB : zBn 4 B) (hM : zMon B) : ∀ {k : Nat} {a lv qt : Int} {L : List Int} {q lv' qt' : Int} {L' : List Int} {pl : Bool}, zAlp f n ok B k a lv qt L (some (q, lv', qt', L', pl)) → 0 ≤ a → 4 * (L'.length : Int) + 8 * lv + a ≤ 4 * (L.length : Int) + 8 * lv' + q ∧ lv ≤ lv' := by
  intro k
  induction k with
  | zero => intro a lv qt L q lv' qt' L' pl h ha; have h2 := h.2; cases h2; omega
  | succ k ih =>
    intro a lv qt L q lv' qt' L' pl h ha
    obtain ⟨h0, p, x, h1, h2, h3⟩ := h
    have hp : a ≤ p := by
      rcases h1 with ⟨b, h1, h4⟩ | ⟨h1, h4⟩
      · have hb := zLk_b h1
        have hp := h4.1
        omega
      · omega
    rcases h3 with h3 | ⟨q0, l, t, K, pl0, hx, h3⟩
    · cases h3.2
    have hq := zNot_m hM _ _ _ _ _ _ _ _ _ (hx ▸ h2) (by omega)
    have hq2 := (zNot_b hB hM (hx ▸ h2) (by omega)).1
    have q2 := ih h3 (by omega)
    rw [zlen1] at q2
    omega
theorem zAll_b {f : Nat → Int32} {n : Int} {ok : Prop} {B : zRl_} (hB : zBn 4 B) (hM : zMon B) : zBn 4 (zAll f n ok B) := fun a lv qt L q lv' qt' L' pl h ha => by
  obtain ⟨x, h1, h2⟩ := h
  rcases h2 with h2 | ⟨q0, l, t, K, pl0, k, hx, h2⟩
  · cases h2.2
  have hq := zNot_m hM _ _ _ _ _ _ _ _ _ (hx ▸ h1) ha
  have hq2 := zNot_b hB hM (hx ▸ h1) ha
  have q2 := zAlp_b hB hM h2 (by omega)
  cases pl0 with
  | true => have hq3 := hq2.2 rfl; rw [if_pos rfl, zlen1] at q2; omega
  | false => rw [if_neg (by decide)] at q2; omega
theorem zQlp_b {f : Nat → Int32} {n : Int} {ok : Prop} {B : zRl_} (hB : zBn 4 B) (hM : zMon B) : ∀ {k : Nat} {a lv qt : Int} {L : List Int} {q lv' qt' : Int} {L' : List Int} {pl : Bool}, zQlp f n ok B k a lv qt L (some (q, lv', qt', L', pl)) → 0 ≤ a → 4 * (L'.length : Int) + 8 * lv + a ≤ 4 * (L.length : Int) + 8 * lv' + q ∧ lv ≤ lv' := by
  intro k
  induction k with
  | zero => intro a lv qt L q lv' qt' L' pl h ha; have h2 := h.2; cases h2; omega
  | succ k ih =>
    intro a lv qt L q lv' qt' L' pl h ha
    obtain ⟨b, p, x, h1, h4, h2, h3⟩ := h
    have hb := zLk_b h1
    have hp := h4.1
    rcases h3 with h3 | ⟨q0, l, t, K, pl0, hx, h3⟩
    · cases h3.2
    have hq := zAll_m hM _ _ _ _ _ _ _ _ _ (hx ▸ h2) (by omega)
    have hq2 := zAll_b hB hM _ _ _ _ _ _ _ _ _ (hx ▸ h2) (by omega)
    have q2 := ih h3 (by omega)
    rw [zlen1] at q2
    omega
theorem zQue_b {f : Nat → Int32} {n : Int} {ok : Prop} {B : zRl_} (hB : zBn 4 B) (hM : zMon B) : zBn 4 (zQue f n ok B) := fun a lv qt L q lv' qt' L' pl h ha => by
  obtain ⟨x, h1, h2⟩ := h
  rcases h2 with h2 | ⟨q0, l, t, K, pl0, k, hx, h2⟩
  · cases h2.2
  have hq := zAll_m hM _ _ _ _ _ _ _ _ _ (hx ▸ h1) ha
  have hq2 := zAll_b hB hM _ _ _ _ _ _ _ _ _ (hx ▸ h1) ha
  have q2 := zQlp_b hB hM h2 (by omega)
  omega
theorem zQry_b {f : Nat → Int32} {n : Int} : ∀ d : Nat, zBn 4 (zQry f n d) := by
  intro d
  induction d with
  | zero => exact zQue_b (fun _ _ _ _ _ _ _ _ _ h => h.elim) (fun _ _ _ _ _ _ _ _ _ h => h.elim)
  | succ d ih => exact zQue_b ih (zQry_dm d).2
def zokR : Nat → Prop
  | 0 => False
  | _ + 1 => True
def zsbR (f : Nat → Int32) (n : Int) : Nat → zRl_
  | 0 => fun _ _ _ _ _ => False
  | d + 1 => zQry f n d
theorem zQry_e {f : Nat → Int32} {n : Int} (d : Nat) : zQry f n d = zQue f n (zokR d) (zsbR f n d) := by cases d <;> rfl
theorem zsbR_b {f : Nat → Int32} {n : Int} (d : Nat) : zBn 4 (zsbR f n d) := by
  cases d with
  | zero => exact fun _ _ _ _ _ _ _ _ _ h => h.elim
  | succ d => exact zQry_b d
theorem zsbR_m {f : Nat → Int32} {n : Int} (d : Nat) : zMon (zsbR f n d) := by
  cases d with
  | zero => exact fun _ _ _ _ _ _ _ _ _ h => h.elim
  | succ d => exact (zQry_dm d).2
theorem zRe_x {f : Nat → Int32} {n : Int} : ∀ k : Nat, ∀ p : Int, 0 ≤ p → (n - p).toNat = k → ∃ d, zRe f n p d := by
  intro k
  induction k with
  | zero => intro p hp hk; exact ⟨p, by omega, zAt_0 (by omega), fun h => by omega, Or.inr rfl⟩
  | succ k ih =>
    intro p hp hk
    by_cases c : zTok (f p.toNat).toInt
    · obtain ⟨d, h1, h2, h3, h4⟩ := ih (p + 1) (by omega) (by omega)
      refine ⟨d, by omega, fun j a b => ?_, h3, Or.inl (by omega)⟩
      by_cases e : (j : Int) = p
      · rw [show j = p.toNat from by omega]; exact c
      · exact h2 j (by omega) b
    · exact ⟨p, by omega, zAt_0 (by omega), fun _ => c, Or.inr rfl⟩
theorem zFs_s {f : Nat → Int32} {n : Int} : ∀ {k : Nat} {a x kd b p : Int} {M : List Int}, zFs f n k a x M → zLk f n x kd b → (kd = 262 ∨ kd = 263) → zBl f n b p → zFs f n (k + 1) a p ((if kd = 262 then 6000 else 7000) :: M) := by
  intro k
  induction k with
  | zero =>
    intro a x kd b p M h h1 h2 h3
    have e1 := h.1
    have e2 := h.2
    subst e1; subst e2
    exact ⟨kd, b, p, [], h1, h2, h3, ⟨rfl, rfl⟩, rfl⟩
  | succ k ih =>
    intro a x kd b p M h h1 h2 h3
    obtain ⟨kd', b', p', M', g1, g2, g3, g4, g5⟩ := h
    exact ⟨kd', b', p', _, g1, g2, g3, ih g4 h1 h2 h3, by rw [g5]; rfl⟩
theorem zNs_s {f : Nat → Int32} {n : Int} : ∀ {k : Nat} {a x b p : Int}, zNs f n k a x → zLk f n x 260 b → zBl f n b p → zNs f n (k + 1) a p := by
  intro k
  induction k with
  | zero =>
    intro a x b p h h1 h3
    have e1 : x = a := h
    subst e1
    exact ⟨b, p, h1, h3, rfl⟩
  | succ k ih =>
    intro a x b p h h1 h3
    obtain ⟨b', p', g1, g3, g4⟩ := h
    exact ⟨b', p', g1, g3, ih g4 h1 h3⟩
def zyB (so dn : Int) : Prop := so = 265 ∨ dn ≠ -1
theorem zyB_n {so dn : Int} : ¬ zyB so dn ↔ so ≠ 265 ∧ dn = -1 := by unfold zyB; omega
def zFb (fa so' fa' k p : Int) : Prop := so' = 265 ∧ (fa ≠ 0 → fa' = fa) ∧ (fa = 0 → 1 ≤ k → k ≤ 4 → 0 ≤ p → p ≤ 700 → fa' ≠ 0)
section ZY
variable {f : Nat → Int32} {n so st be fa dn lv qt ln so' st' be' fa' dn' lv' qt' ln' k p r : Int} {s s' : zQs} {R R' : zRl_} {P Q : Bool → Prop} {ok : Prop} {B : zRl_}
theorem zFb_i (h0 : so' = 265) (h1 : fa ≠ 0 → fa' = fa) (h2 : fa = 0 → 1 ≤ k → k ≤ 4 → 0 ≤ p → p ≤ 700 → fa' ≠ 0) : zFb fa so' fa' k p := ⟨h0, h1, h2⟩
theorem zFb_W (h : zW f n so st be fa dn) (hn : n ≤ 600) (hf : zFb fa so' fa' k p) (hk : 1 ≤ k ∧ k ≤ 4) (hp : so ≠ 265 → 0 ≤ st → st ≤ n → 0 ≤ p ∧ p ≤ 700) : zW f n so' st' be' fa' dn' := zW_f h hn hf.1 hf.2.1 hf.2.2 hk hp
theorem zNx_i (x1 : so = 265 ∨ dn ≠ -1 → so' = 265) (x2 : dn = -1 → fa' = fa) (x3 : fa ≠ 0 → fa' = fa) (x4 : dn ≠ -1 → fa = 0 → 0 ≤ dn → dn ≤ 700 → fa' ≠ 0) (x5 : 0 ≤ be → be ≤ 602 → so ≠ 265 ∧ dn = -1 → zBl f n be st' ∧ zLk f n st' so' be') : zNx f n so be fa dn so' st' be' fa' := ⟨x1, x2, x3, x4, x5⟩
theorem zyN (h : zW f n so st be fa dn) (hn : n ≤ 600) (hx : zNx f n so be fa dn so' st' be' fa') (he : so ≠ 256) : zW f n so' st' be' fa' dn ∧ (zyB so dn → zyB so' dn) ∧ (¬ zyB so dn → ¬ zyB so' dn ∧ zBl f n be st' ∧ zLk f n st' so' be') := by
  refine ⟨zW_n h hn hx he, fun hb => Or.inl (hx.1 hb), fun hb => ?_⟩
  have g := zyB_n.mp hb
  have a := zW_x h hn hx.2.2.2.2 g he
  exact ⟨zyB_n.mpr ⟨zLk_k a.2, g.2⟩, a.1, a.2⟩
def zyS (R : zRl_) (f : Nat → Int32) (n so st be fa dn lv qt ln : Int) (s : zQs) (so' st' be' fa' dn' lv' qt' ln' : Int) (s' : zQs) (P : Bool → Prop) : Prop :=
  zTy f n → zW f n so st be fa dn → zW f n so' st' be' fa' dn' ∧ (zyB so dn → zyB so' dn') ∧ (¬ zyB so dn → ∀ L : List Int, zCe s ln L → 4 * ln ≤ 8 * lv + st →
    (zyB so' dn' ∧ R st lv qt L none) ∨ (¬ zyB so' dn' ∧ ∃ K pl, R st lv qt L (some (st', lv', qt', K, pl)) ∧ zCe s' ln' K ∧ P pl))
theorem zyS_w (h : zyS R f n so st be fa dn lv qt ln s so' st' be' fa' dn' lv' qt' ln' s' P) (hP : ∀ pl, P pl → Q pl) : zyS R f n so st be fa dn lv qt ln s so' st' be' fa' dn' lv' qt' ln' s' Q := fun tb hW => by
  obtain ⟨a, b, c⟩ := h tb hW
  refine ⟨a, b, fun hb L hc hl => ?_⟩
  rcases c hb L hc hl with x | ⟨x, K, pl, y, z, w⟩
  · exact Or.inl x
  · exact Or.inr ⟨x, K, pl, y, z, hP pl w⟩
theorem zyS_q {r r' : Int} (h : zyS R f n so st be fa dn lv qt ln s so' st' be' fa' dn' lv' qt' ln' s' (fun pl => pl = true ↔ r = 1)) (e : r' = r) : zyS R f n so st be fa dn lv qt ln s so' st' be' fa' dn' lv' qt' ln' s' (fun pl => pl = true ↔ r' = 1) := by rw [e]; exact h
theorem zyS_r (h : zyS R f n so st be fa dn lv qt ln s so' st' be' fa' dn' lv' qt' ln' s' P) (hR : zTy f n → so ≠ 265 → 0 ≤ st → zLk f n st so be → ∀ L r, R st lv qt L r → R' st lv qt L r) : zyS R' f n so st be fa dn lv qt ln s so' st' be' fa' dn' lv' qt' ln' s' P := fun tb hW => by
  obtain ⟨a, b, c⟩ := h tb hW
  refine ⟨a, b, fun hb L hc hl => ?_⟩
  have g := zyB_n.mp hb
  obtain ⟨_, _, _, q1, _, q2⟩ := zW_g hW g.1
  rcases c hb L hc hl with x | ⟨x, K, pl, y, z, w⟩
  · exact Or.inl ⟨x.1, hR tb g.1 q1 q2 _ _ x.2⟩
  · exact Or.inr ⟨x, K, pl, hR tb g.1 q1 q2 _ _ y, z, w⟩
theorem zyS_m (hl : lv ≤ 40) (hn : n ≤ 600) (h0 : so = 265 ∨ dn ≠ -1 → so' = 265) (h1 : zTy f n → zW f n so st be fa dn → so ≠ 256 → zW f n so' st' be' fa' dn) (h2 : ∀ L : List Int, zTy f n → zW f n so st be fa dn → so ≠ 265 ∧ dn = -1 → so = 91 → zCe s ln L → ln < 270 → (so' = 265 ∧ zMrk f n st lv qt L none) ∨ (so' ≠ 265 ∧ zMrk f n st lv qt L (some (st', lv', qt', L ++ [4000 + lv], false)) ∧ zCe s' ln' (L ++ [4000 + lv]))) (hs : so = 91) : zyS (zMrk f n) f n so st be fa dn lv qt ln s so' st' be' fa' dn lv' qt' ln' s' (fun pl => pl = false) := fun tb hW => by
  refine ⟨h1 tb hW (by omega), fun hb => Or.inl (h0 hb), fun hb L hc hq => ?_⟩
  have g := zyB_n.mp hb
  have q := zW_g hW g.1
  rcases h2 L tb hW g hs hc (by omega) with x | ⟨x, y, z⟩
  · exact Or.inl ⟨Or.inl x.1, x.2⟩
  · exact Or.inr ⟨zyB_n.mpr ⟨x, g.2⟩, _, false, y, z, rfl⟩
theorem zyS_t (hl : lv ≤ 40) (hn : n ≤ 600) (h0 : so = 265 ∨ dn ≠ -1 → so' = 265) (h1 : zTy f n → zW f n so st be fa dn → so ≠ 256 → zW f n so' st' be' fa' dn) (h2 : ∀ L : List Int, zTy f n → zW f n so st be fa dn → so ≠ 265 ∧ dn = -1 → so = 257 → zCe s ln L → ln < 270 → (so' = 265 ∧ zTkn f n st lv qt L none) ∨ (so' ≠ 265 ∧ ∃ K : List Int, zTkn f n st lv qt L (some (st', lv', qt', K, true)) ∧ zCe s' ln' K)) (hs : so = 257) : zyS (zTkn f n) f n so st be fa dn lv qt ln s so' st' be' fa' dn lv' qt' ln' s' (fun pl => pl = true) := fun tb hW => by
  refine ⟨h1 tb hW (by omega), fun hb => Or.inl (h0 hb), fun hb L hc hq => ?_⟩
  have g := zyB_n.mp hb
  have q := zW_g hW g.1
  rcases h2 L tb hW g hs hc (by omega) with x | ⟨x, K, y, z⟩
  · exact Or.inl ⟨Or.inl x.1, x.2⟩
  · exact Or.inr ⟨zyB_n.mpr ⟨x, g.2⟩, K, true, y, z, rfl⟩
theorem zSc_n {v : Int} (tb : zTy f n) (hp : 0 ≤ st) (h : zLk f n st so be) (hs : so ≠ v) (h0 : 0 ≤ v) (h1 : v ≤ 127) (hv : v ≠ 46) (ht : ¬ zTok v) : ¬ zSc f n st v := fun y => hs ((zLk_s tb hp h h0 h1 hv ht).1.mpr y)
theorem zSc_y {v : Int} (tb : zTy f n) (hp : 0 ≤ st) (h : zLk f n st so be) (hs : so = v) (h0 : 0 ≤ v) (h1 : v ≤ 127) (hv : v ≠ 46) (ht : ¬ zTok v) : zSc f n st v ∧ be = st + 1 := ⟨(zLk_s tb hp h h0 h1 hv ht).1.mp hs, (zLk_s tb hp h h0 h1 hv ht).2 hs⟩
theorem zyBar_m (h : zyS (zMrk f n) f n so st be fa dn lv qt ln s so' st' be' fa' dn' lv' qt' ln' s' P) (hs : so = 91) : zyS (zBar f n ok B) f n so st be fa dn lv qt ln s so' st' be' fa' dn' lv' qt' ln' s' P :=
  zyS_r h (fun tb _ hp hk L r y => Or.inr ⟨zSc_n tb hp hk (by omega) (by decide) (by decide) (by decide) (by unfold zTok; omega), Or.inl ⟨(zSc_y tb hp hk hs (by decide) (by decide) (by decide) (by unfold zTok; omega)).1, y⟩⟩)
theorem zyBar_p (h : zyS (zPhr f n) f n so st be fa dn lv qt ln s so' st' be' fa' dn' lv' qt' ln' s' P) (hs : so = 34) : zyS (zBar f n ok B) f n so st be fa dn lv qt ln s so' st' be' fa' dn' lv' qt' ln' s' P :=
  zyS_r h (fun tb _ hp hk L r y => Or.inr ⟨zSc_n tb hp hk (by omega) (by decide) (by decide) (by decide) (by unfold zTok; omega), Or.inr ⟨zSc_n tb hp hk (by omega) (by decide) (by decide) (by decide) (by unfold zTok; omega), Or.inl ⟨(zSc_y tb hp hk hs (by decide) (by decide) (by decide) (by unfold zTok; omega)).1, y⟩⟩⟩)
theorem zyBar_t (h : zyS (zTkn f n) f n so st be fa dn lv qt ln s so' st' be' fa' dn' lv' qt' ln' s' P) (hs : so = 257) : zyS (zBar f n ok B) f n so st be fa dn lv qt ln s so' st' be' fa' dn' lv' qt' ln' s' P :=
  zyS_r h (fun tb _ hp hk L r y => Or.inr ⟨zSc_n tb hp hk (by omega) (by decide) (by decide) (by decide) (by unfold zTok; omega), Or.inr ⟨zSc_n tb hp hk (by omega) (by decide) (by decide) (by decide) (by unfold zTok; omega), Or.inr ⟨zSc_n tb hp hk (by omega) (by decide) (by decide) (by decide) (by unfold zTok; omega), Or.inl ⟨⟨be, hs ▸ hk⟩, y⟩⟩⟩⟩)
theorem zyBar_x (hn : n ≤ 600) (hf : zFb fa so' fa' k p) (hk : 1 ≤ k ∧ k ≤ 4) (hp : p = st) (h1 : so ≠ 40) (h2 : so ≠ 91) (h3 : so ≠ 34) (h4 : so ≠ 257) : zyS (zBar f n ok B) f n so st be fa dn lv qt ln s so' st' be' fa' dn' lv' qt' ln' s' P := fun tb hW => by
  refine ⟨zFb_W hW hn hf hk (fun _ a b => ⟨by omega, by omega⟩), fun _ => Or.inl hf.1, fun hb L hc hq => Or.inl ⟨Or.inl hf.1, ?_⟩⟩
  have g := zyB_n.mp hb
  obtain ⟨_, _, _, q1, _, q2⟩ := zW_g hW g.1
  refine Or.inr ⟨zSc_n tb q1 q2 (by omega) (by decide) (by decide) (by decide) (by unfold zTok; omega), Or.inr ⟨zSc_n tb q1 q2 (by omega) (by decide) (by decide) (by decide) (by unfold zTok; omega), Or.inr ⟨zSc_n tb q1 q2 (by omega) (by decide) (by decide) (by decide) (by unfold zTok; omega), Or.inr ⟨fun ⟨b, y⟩ => h4 (zLk_u q1 q2 y).1, rfl⟩⟩⟩⟩
theorem zyBar_g0 (hn : n ≤ 600) (hs : so = 40) (hok : ¬ ok) (hf : zFb fa so' fa' k p) (hk : 1 ≤ k ∧ k ≤ 4) (hp : p = st) : zyS (zBar f n ok B) f n so st be fa dn lv qt ln s so' st' be' fa' dn' lv' qt' ln' s' P := fun tb hW => by
  refine ⟨zFb_W hW hn hf hk (fun _ a b => ⟨by omega, by omega⟩), fun _ => Or.inl hf.1, fun hb L hc hq => Or.inl ⟨Or.inl hf.1, ?_⟩⟩
  have g := zyB_n.mp hb
  obtain ⟨_, _, _, q1, _, q2⟩ := zW_g hW g.1
  exact Or.inl ⟨(zSc_y tb q1 q2 hs (by decide) (by decide) (by decide) (by unfold zTok; omega)).1, Or.inl ⟨hok, rfl⟩⟩
def zyTk (f : Nat → Int32) (n w so st be fa dn so' st' be' fa' : Int) : Prop := (so = 265 ∨ dn ≠ -1 → so' = 265) ∧ (so ≠ w → so' = 265) ∧ (zTy f n → zW f n so st be fa dn → so ≠ 256 ∨ w ≠ 256 → zW f n so' st' be' fa' dn) ∧ (zTy f n → zW f n so st be fa dn → so ≠ 265 ∧ dn = -1 → so = w → w ≠ 256 → zBl f n be st' ∧ zLk f n st' so' be')
theorem zyTk_i {w : Int} (h0 : so = 265 ∨ dn ≠ -1 → so' = 265) (h1 : so ≠ w → so' = 265) (h2 : zTy f n → zW f n so st be fa dn → so ≠ 256 ∨ w ≠ 256 → zW f n so' st' be' fa' dn) (h3 : zTy f n → zW f n so st be fa dn → so ≠ 265 ∧ dn = -1 → so = w → w ≠ 256 → zBl f n be st' ∧ zLk f n st' so' be') : zyTk f n w so st be fa dn so' st' be' fa' := ⟨h0, h1, h2, h3⟩
theorem zyBar_g {s1 p1 b1 f1 s2 q2 b2 f2 d2 lv2 qt2 ln2 : Int} {c2 : zQs} (hn : n ≤ 600) (hs : so = 40) (hok : ok) (hx : zTy f n → zNx f n so be fa dn s1 p1 b1 f1) (hq : zyS B f n s1 p1 b1 f1 dn lv qt ln s s2 q2 b2 f2 d2 lv2 qt2 ln2 c2 P) (ht : zyTk f n 41 s2 q2 b2 f2 d2 so' st' be' fa') : zyS (zBar f n ok B) f n so st be fa dn lv qt ln s so' st' be' fa' d2 lv2 qt2 ln2 c2 (fun pl => pl = false) := fun tb hW => by
  obtain ⟨w1, e1, g1⟩ := zyN hW hn (hx tb) (by omega)
  obtain ⟨w2, e2, g2⟩ := hq tb w1
  obtain ⟨t0, t1, t2, t3⟩ := ht
  refine ⟨t2 tb w2 (Or.inr (by decide)), fun hb => Or.inl (t0 (e2 (e1 hb))), fun hb L hc hl => ?_⟩
  obtain ⟨c1, c2, c3⟩ := g1 hb
  obtain ⟨_, _, _, q1, _, q3⟩ := zW_g hW (zyB_n.mp hb).1
  obtain ⟨x40, xbe⟩ := zSc_y tb q1 q3 hs (by decide) (by decide) (by decide) (by unfold zTok; omega)
  subst xbe
  have hp := c2.1
  rcases g2 c1 L hc (by omega) with ⟨x1, x2⟩ | ⟨x1, K, pl, x2, x3, x4⟩
  · exact Or.inl ⟨Or.inl (t0 x1), Or.inl ⟨x40, Or.inr ⟨hok, _, none, c2, x2, Or.inl ⟨rfl, rfl⟩⟩⟩⟩
  · have y2 := zyB_n.mp x1
    obtain ⟨_, _, _, r1, _, r3⟩ := zW_g w2 y2.1
    by_cases c : s2 = 41
    · obtain ⟨d1, d3⟩ := t3 tb w2 y2 c (by decide)
      obtain ⟨x41, xb2⟩ := zSc_y tb r1 r3 c (by decide) (by decide) (by decide) (by unfold zTok; omega)
      subst xb2
      exact Or.inr ⟨zyB_n.mpr ⟨zLk_k d3, y2.2⟩, K, false, Or.inl ⟨x40, Or.inr ⟨hok, _, _, c2, x2, Or.inr ⟨_, _, _, _, _, rfl, Or.inr ⟨x41, _, d1, rfl⟩⟩⟩⟩, x3, rfl⟩
    · exact Or.inl ⟨Or.inl (t1 c), Or.inl ⟨x40, Or.inr ⟨hok, _, _, c2, x2, Or.inr ⟨_, _, _, _, _, rfl, Or.inl ⟨zSc_n tb r1 r3 c (by decide) (by decide) (by decide) (by unfold zTok; omega), rfl⟩⟩⟩⟩⟩
def zyC (c : Int) (k : Nat) (M : List Int) : Prop := M.length = k ∧ 0 ≤ c ∧ ∀ j : Nat, j < k → M.getD j 0 = if c / 2 ^ j % 2 = 0 then 6000 else 7000
theorem zyC_0 : zyC 0 0 [] := ⟨rfl, by decide, fun j hj => by omega⟩
theorem zyC_s {c c' : Int} {k : Nat} {M : List Int} {v : Int} (h : zyC c k M) (hv : (v = 6000 ∧ c' = 2 * c) ∨ (v = 7000 ∧ c' = 2 * c + 1)) : zyC c' (k + 1) (v :: M) := by
  obtain ⟨h1, h2, h3⟩ := h
  refine ⟨by rw [List.length_cons, h1], by omega, fun j hj => ?_⟩
  cases j with
  | zero =>
    show v = _
    rw [show (2 : Int) ^ 0 = 1 from rfl, Int.ediv_one]
    rcases hv with hv | hv
    · rw [if_pos (by omega), hv.1]
    · rw [if_neg (by omega), hv.1]
  | succ j =>
    show M.getD j 0 = _
    rw [h3 j (by omega), Int.pow_succ, Int.mul_comm, ← Int.ediv_ediv_of_nonneg (by omega : (0 : Int) ≤ 2), show c' / 2 = c from by omega]
def zyL (f : Nat → Int32) (n so0 st0 be0 fa0 dn0 i c inn so st be fa dn : Int) : Prop := zTy f n → zW f n so0 st0 be0 fa0 dn0 → zW f n so st be fa dn ∧ (0 < i → 0 ≤ inn ∧ inn ≤ 600) ∧ (zyB so0 dn0 → zyB so dn) ∧ (¬ zyB so0 dn0 → (zyB so dn ∧ ∃ a' M, zFs f n 12 st0 a' M ∧ zFl f n a') ∨ (¬ zyB so dn ∧ i ≤ 12 ∧ ∃ M, zFs f n i.toNat st0 st M ∧ zyC c i.toNat M))
variable {so0 st0 be0 fa0 dn0 lv0 qt0 ln0 i i' c c' inn inn' : Int} {s0 : zQs}
theorem zyL_0 (hi : i = 0) (hc : c = 0) : zyL f n so st be fa dn i c inn so st be fa dn := fun tb hW => by
  subst hi; subst hc
  exact ⟨hW, fun h => absurd h (by omega), fun h => h, fun h => Or.inr ⟨h, by decide, [], ⟨rfl, rfl⟩, zyC_0⟩⟩
theorem zyL_s (h : zyL f n so0 st0 be0 fa0 dn0 i c inn so st be fa dn) (hn : n ≤ 600) (hi0 : 0 ≤ i) (hi : i < 12) (hx : zTy f n → zNx f n so be fa dn so' st' be' fa') (hc : (so = 262 ∧ c' = 2 * c) ∨ (so = 263 ∧ c' = 2 * c + 1)) (ei : i' = i + 1) (hin : inn' = st) : zyL f n so0 st0 be0 fa0 dn0 i' c' inn' so' st' be' fa' dn := fun tb hW => by
  obtain ⟨w1, h1, h2, h3⟩ := h tb hW
  obtain ⟨w2, e2, g2⟩ := zyN w1 hn (hx tb) (by omega)
  obtain ⟨_, _, _, q1, q2, q3⟩ := zW_g w1 (by omega)
  refine ⟨w2, fun _ => ⟨by omega, by omega⟩, fun hb => e2 (h2 hb), fun hb => ?_⟩
  rcases h3 hb with ⟨x, y⟩ | ⟨x, _, M, y, z⟩
  · exact Or.inl ⟨e2 x, y⟩
  · obtain ⟨g3, g4, g5⟩ := g2 x
    refine Or.inr ⟨g3, by omega, (if so = 262 then 6000 else 7000) :: M, ?_, ?_⟩
    · rw [show i'.toNat = i.toNat + 1 from by omega]
      exact zFs_s y q3 (by omega) g4
    · rw [show i'.toNat = i.toNat + 1 from by omega]
      refine zyC_s z ?_
      rcases hc with hc | hc
      · exact Or.inl ⟨if_pos hc.1, hc.2⟩
      · exact Or.inr ⟨if_neg (by omega), hc.2⟩
theorem zyL_f {s1 f1 : Int} (h : zyL f n so0 st0 be0 fa0 dn0 i c inn so st be fa dn) (hn : n ≤ 600) (hi : i = 12) (hk : so = 262 ∨ so = 263) (hf : zFb fa s1 f1 3 st) (hx : zTy f n → zNx f n s1 be f1 dn so' st' be' fa') (hin : inn' = st) : zyL f n so0 st0 be0 fa0 dn0 i' c' inn' so' st' be' fa' dn := fun tb hW => by
  obtain ⟨w1, h1, h2, h3⟩ := h tb hW
  obtain ⟨_, _, _, q1, q2, q3⟩ := zW_g w1 (by omega)
  have w2 : zW f n s1 st be f1 dn := zFb_W w1 hn hf (by decide) (fun _ a b => ⟨by omega, by omega⟩)
  have e1 := hf.1
  obtain ⟨w3, e3, g3⟩ := zyN w2 hn (hx tb) (by omega)
  have hb3 := e3 (Or.inl e1)
  refine ⟨w3, fun _ => ⟨by omega, by omega⟩, fun _ => hb3, fun hb => Or.inl ⟨hb3, ?_⟩⟩
  rcases h3 hb with ⟨x, y⟩ | ⟨x, _, M, y, z⟩
  · exact y
  · rw [show i.toNat = 12 from by omega] at y
    exact ⟨st, M, y, so, be, q3, hk⟩
def zyU (f : Nat → Int32) (n : Int) (ok : Prop) (B : zRl_) (so0 st0 be0 fa0 dn0 lv0 qt0 ln0 : Int) (s0 : zQs) (i c so st be fa dn lv qt ln : Int) (s : zQs) (j r : Int) : Prop := zTy f n → zW f n so0 st0 be0 fa0 dn0 → zW f n so st be fa dn ∧ (zyB so0 dn0 → zyB so dn) ∧ (¬ zyB so0 dn0 → ∀ L : List Int, zCe s0 ln0 L → 4 * ln0 ≤ 8 * lv0 + st0 →
  (zyB so dn ∧ zUni f n ok B st0 lv0 qt0 L none) ∨ (¬ zyB so dn ∧ ∃ K M pl, zUni f n ok B st0 lv0 qt0 L (some (st, lv, qt, K ++ M, pl)) ∧ zCe s ln (K ++ M.take j.toNat) ∧ zyC c i.toNat M ∧ K.length + M.length ≤ 269 ∧ (pl = true ↔ r = 1)))
theorem zyU_0 {j s2 f2 st2 be2 d2 lv2 qt2 ln2 : Int} {c2 : zQs} (hB : zBn 4 B) (h : zyL f n so0 st0 be0 fa0 dn0 i c inn so st be fa dn) (hn : n ≤ 600) (hlv : lv2 ≤ 40) (hi0 : 0 ≤ i) (hx : 12 < i ∨ (so ≠ 262 ∧ so ≠ 263)) (hb : zyS (zBar f n ok B) f n so st be fa dn lv0 qt0 ln0 s0 s2 st2 be2 f2 d2 lv2 qt2 ln2 c2 (fun pl => pl = true ↔ r = 1)) (hj : j = 0) (hr : r = 0 ∨ r = 1)
    (hE : (0 < i ∧ r = 0 ∧ zFb f2 so' fa' 4 inn) ∨ ((i ≤ 0 ∨ r ≠ 0) ∧ so' = s2 ∧ fa' = f2)) : zyU f n ok B so0 st0 be0 fa0 dn0 lv0 qt0 ln0 s0 i c so' st2 be2 fa' d2 lv2 qt2 ln2 c2 j r := fun tb hW => by
  subst hj
  obtain ⟨w1, h1, h2, h3⟩ := h tb hW
  obtain ⟨w2, e2, g2⟩ := hb tb w1
  have w3 : zW f n so' st2 be2 fa' d2 := by
    rcases hE with ⟨a1, a2, a3⟩ | ⟨a1, a2, a3⟩
    · exact zFb_W w2 hn a3 (by decide) (fun _ _ _ => ⟨(h1 a1).1, by have := (h1 a1).2; omega⟩)
    · rw [a2, a3]; exact w2
  have e3 : zyB s2 d2 → zyB so' d2 := fun y => by
    rcases hE with ⟨a1, a2, a3⟩ | ⟨a1, a2, a3⟩
    · exact Or.inl a3.1
    · rw [a2]; exact y
  refine ⟨w3, fun y => e3 (e2 (h2 y)), fun y L hc hl => ?_⟩
  obtain ⟨_, _, _, p1, _, _⟩ := zW_g hW (zyB_n.mp y).1
  rcases h3 y with ⟨x1, a', M, x2, x3⟩ | ⟨x1, x0, M, x2, x3⟩
  · exact Or.inl ⟨e3 (e2 x1), 12, a', M, x2, Or.inl ⟨rfl, x3, rfl⟩⟩
  · have x4 := zFs_b x2 p1
    obtain ⟨_, _, _, q1, q2, q3⟩ := zW_g w1 (zyB_n.mp x1).1
    have hnf : ¬ zFl f n st := fun ⟨kd, b, y1, y2⟩ => by
      have y3 := (zLk_u q1 q3 y1).1
      omega
    rcases g2 x1 L hc (by omega) with ⟨z1, z2⟩ | ⟨z1, K, pl, z2, z3, z4⟩
    · exact Or.inl ⟨e3 z1, i.toNat, st, M, x2, Or.inr ⟨by omega, hnf, none, z2, Or.inl ⟨rfl, rfl⟩⟩⟩
    · have z5 := zBar_b hB _ _ _ _ _ _ _ _ _ z2 q1
      have z6 := (zyB_n.mp z1).1
      obtain ⟨_, _, _, r1, r2, r3⟩ := zW_g w2 z6
      have z7 := hc.1
      rcases hE with ⟨a1, a2, a3⟩ | ⟨a1, a2, a3⟩
      · have z8 : pl = false := by
          cases pl with
          | true => have := z4.mp rfl; omega
          | false => rfl
        exact Or.inl ⟨Or.inl a3.1, i.toNat, st, M, x2, Or.inr ⟨by omega, hnf, _, z2, Or.inr ⟨_, _, _, _, _, rfl, Or.inl ⟨⟨by omega, z8⟩, rfl⟩⟩⟩⟩
      · rw [a2]
        refine Or.inr ⟨z1, K, M, pl, ⟨i.toNat, st, M, x2, Or.inr ⟨by omega, hnf, _, z2, Or.inr ⟨_, _, _, _, _, rfl, Or.inr ⟨fun o => ?_, rfl⟩⟩⟩⟩, ?_, x3, by omega, z4⟩
        · have o1 := o.1
          have o2 : r = 1 := by omega
          have o3 := z4.mpr o2
          rw [o.2] at o3
          cases o3
        · rw [show (0 : Int).toNat = 0 from rfl, List.take_zero, List.append_nil]
          exact z3
theorem ztk {M : List Int} {j : Nat} (h : j < M.length) : M.take (j + 1) = M.take j ++ [M.getD j 0] := by
  rw [List.take_succ, List.getElem?_eq_getElem h]
  simp [List.getD, List.getElem?_eq_getElem h]
theorem zyU_s {j j' w : Int} (h : zyU f n ok B so0 st0 be0 fa0 dn0 lv0 qt0 ln0 s0 i c so st be fa dn lv qt ln s j r) (hj : j < i) (hj0 : 0 ≤ j) (hw : (c / 2 ^ j.toNat % 2 = 0 ∧ w = 6) ∨ (c / 2 ^ j.toNat % 2 ≠ 0 ∧ w = 7)) (ha : ∀ L : List Int, zCe s ln L → ln < 270 → zCe s' ln' (L ++ [1000 * w + 0])) (ej : j' = j + 1) : zyU f n ok B so0 st0 be0 fa0 dn0 lv0 qt0 ln0 s0 i c so st be fa dn lv qt ln' s' j' r := fun tb hW => by
  obtain ⟨w1, h1, h2⟩ := h tb hW
  refine ⟨w1, h1, fun hb L hc hl => ?_⟩
  rcases h2 hb L hc hl with x | ⟨x, K, M, pl, x1, x2, x3, x4, x5⟩
  · exact Or.inl x
  · have y1 := x3.1
    have y2 : j.toNat < M.length := by omega
    have y3 := x2.1
    have y4 : (M.take j.toNat).length = j.toNat := by rw [List.length_take]; omega
    rw [List.length_append, y4] at y3
    have y5 := ha _ x2 (by omega)
    refine Or.inr ⟨x, K, M, pl, x1, ?_, x3, x4, x5⟩
    rw [show j'.toNat = j.toNat + 1 from by omega, ztk y2, x3.2.2 _ (by omega), ← List.append_assoc]
    rcases hw with ⟨z1, z2⟩ | ⟨z1, z2⟩
    · rw [if_pos z1]; rw [z2] at y5; exact y5
    · rw [if_neg z1]; rw [z2] at y5; exact y5
theorem zyU_e {j : Int} (h : zyU f n ok B so0 st0 be0 fa0 dn0 lv0 qt0 ln0 s0 i c so st be fa dn lv qt ln s j r) (hj : i ≤ j) : zyS (zUni f n ok B) f n so0 st0 be0 fa0 dn0 lv0 qt0 ln0 s0 so st be fa dn lv qt ln s (fun pl => pl = true ↔ r = 1) := fun tb hW => by
  obtain ⟨w1, h1, h2⟩ := h tb hW
  refine ⟨w1, h1, fun hb L hc hl => ?_⟩
  rcases h2 hb L hc hl with x | ⟨x, K, M, pl, x1, x2, x3, x4, x5⟩
  · exact Or.inl x
  · rw [List.take_of_length_le (by have := x3.1; omega)] at x2
    exact Or.inr ⟨x, _, pl, x1, x2, x5⟩
end ZY
theorem zybit {c s z y : Int32} (e1 : z = (c.toUInt32 >>> (s.toUInt32 &&& Int32.toUInt32 31)).toInt32) (e2 : y = z &&& 1) (h0 : 0 ≤ c.toInt) (hs : 0 ≤ s.toInt) (hs2 : s.toInt ≤ 12) : y.toInt = c.toInt / 2 ^ s.toInt.toNat % 2 := by
  have key : ∀ k : Nat, k ≤ 12 → s = Int32.ofNat k → y.toInt = c.toInt / 2 ^ k % 2 := by
    intro k hk es
    have hN : c.toBitVec.toNat < 4294967296 := c.toBitVec.isLt
    have hc := ztoi c
    have hz := ztoi z
    have hy := ztoi y
    have h1 := pk_ushr c (Int32.ofNat k) k (by
      have q : ∀ k : Nat, k ≤ 12 → (((Int32.ofNat k).toUInt32 &&& Int32.toUInt32 31).toBitVec % 32).toNat = k := by decide
      exact q k hk)
    rw [es] at e1
    rw [← e1] at h1
    have h2 : y.toBitVec.toNat = z.toBitVec.toNat &&& 1 := by rw [e2]; rfl
    have h3 : z.toBitVec.toNat &&& 1 = z.toBitVec.toNat % 2 := Nat.and_two_pow_sub_one_eq_mod z.toBitVec.toNat 1
    rw [h2, h3] at hy
    rw [if_pos (by omega)] at hy
    have hc2 : c.toInt = (c.toBitVec.toNat : Int) := by
      rw [hc] at h0 ⊢
      split at h0
      · rw [if_pos (by assumption)]
      · omega
    rw [hy, h1, hc2]
    exact rfl
  have q2 : ∀ k : Nat, k ≤ 12 → (Int32.ofNat k).toInt = (k : Int) := by decide
  have es : s = Int32.ofNat s.toInt.toNat := zeqi.mpr (by rw [q2 _ (by omega)]; omega)
  exact key s.toInt.toNat (by omega) es
def zyA (f : Nat → Int32) (n p : Int) (r : Option (Int × Int)) : Prop := ∃ e, zRe f n p e ∧ ((¬ (zDgs f p e 3 ∧ 1 ≤ zvl f p (e - p).toNat ∧ zvl f p (e - p).toNat ≤ 200) ∧ r = none) ∨ ((zDgs f p e 3 ∧ 1 ≤ zvl f p (e - p).toNat ∧ zvl f p (e - p).toNat ≤ 200) ∧ ∃ p2, zBl f n e p2 ∧ r = some (zvl f p (e - p).toNat, p2)))
def zyP (f : Nat → Int32) (n so st be fa dn so' st' be' fa' v : Int) : Prop := zTy f n → zW f n so st be fa dn → zW f n so' st' be' fa' dn ∧ (zyB so dn → zyB so' dn) ∧ (¬ zyB so dn → (zyB so' dn ∧ zyA f n st none) ∨ (¬ zyB so' dn ∧ zyA f n st (some (v, st'))))
section ZZ
variable {f : Nat → Int32} {n so st be fa dn lv qt ln so' st' be' fa' dn' lv' qt' ln' k p r v i i' : Int} {s s' : zQs} {ok : Prop} {B : zRl_} {P : Bool → Prop}
theorem zyP_a {s1 f1 : Int} (hn : n ≤ 600) (hs : so ≠ 257) (hf : zFb fa s1 f1 1 st) (hx : zTy f n → zNx f n s1 be f1 dn so' st' be' fa') : zyP f n so st be fa dn so' st' be' fa' v := fun tb hW => by
  have e1 := hf.1
  have w1 : zW f n s1 st be f1 dn := zFb_W hW hn hf (by decide) (fun _ a b => ⟨by omega, by omega⟩)
  obtain ⟨w2, e2, _⟩ := zyN w1 hn (hx tb) (by omega)
  have e3 := e2 (Or.inl e1)
  refine ⟨w2, fun _ => e3, fun hb => Or.inl ⟨e3, ?_⟩⟩
  obtain ⟨_, _, _, q1, _, q3⟩ := zW_g hW (zyB_n.mp hb).1
  obtain ⟨e, he⟩ := zRe_x (f := f) (n := n) _ st q1 rfl
  exact ⟨e, he, Or.inl ⟨fun y => zLk_d q1 q3 hs he y.1, rfl⟩⟩
theorem zyP_b {s1 f1 : Int} (hn : n ≤ 600) (hs : so = 257) (hd : zTy f n → 0 ≤ st → be ≤ n → zDr f st be 3 v) (hv : v < 1 ∨ 200 < v) (hf : zFb fa s1 f1 k st) (hk : 1 ≤ k ∧ k ≤ 4) (hx : zTy f n → zNx f n s1 be f1 dn so' st' be' fa') : zyP f n so st be fa dn so' st' be' fa' v := fun tb hW => by
  have e1 := hf.1
  have w1 : zW f n s1 st be f1 dn := zFb_W hW hn hf hk (fun _ a b => ⟨by omega, by omega⟩)
  obtain ⟨w2, e2, _⟩ := zyN w1 hn (hx tb) (by omega)
  have e3 := e2 (Or.inl e1)
  refine ⟨w2, fun _ => e3, fun hb => Or.inl ⟨e3, ?_⟩⟩
  obtain ⟨_, _, _, q1, _, q3⟩ := zW_g hW (zyB_n.mp hb).1
  rw [hs] at q3
  have q4 := (zLk_t q3).2
  refine ⟨be, q4, Or.inl ⟨fun y => ?_, rfl⟩⟩
  rcases hd tb q1 (zLk_n q3 (by decide)) with y1 | y1
  · exact y1.2 y.1
  · have y2 := y1.1
    have y3 := y.2
    omega
theorem zyP_c (hn : n ≤ 600) (hs : so = 257) (hd : zTy f n → 0 ≤ st → be ≤ n → zDr f st be 3 v) (hv : 1 ≤ v ∧ v ≤ 200) (hx : zTy f n → zNx f n so be fa dn so' st' be' fa') : zyP f n so st be fa dn so' st' be' fa' v := fun tb hW => by
  obtain ⟨w2, e2, g2⟩ := zyN hW hn (hx tb) (by omega)
  refine ⟨w2, e2, fun hb => ?_⟩
  obtain ⟨_, _, _, q1, _, q3⟩ := zW_g hW (zyB_n.mp hb).1
  rw [hs] at q3
  have q4 := (zLk_t q3).2
  obtain ⟨g3, g4, g5⟩ := g2 hb
  rcases hd tb q1 (zLk_n q3 (by decide)) with y1 | y1
  · omega
  · have y2 := y1.1
    exact Or.inr ⟨g3, be, q4, Or.inr ⟨⟨y1.2, by omega, by omega⟩, st', g4, by rw [y2]⟩⟩
theorem zyNe_a (h : zyS (zUni f n ok B) f n so st be fa dn lv qt ln s so' st' be' fa' dn' lv' qt' ln' s' P) (hs : so' ≠ 261) : zyS (zNea f n ok B) f n so st be fa dn lv qt ln s so' st' be' fa' dn' lv' qt' ln' s' (fun pl => pl = false) := fun tb hW => by
  obtain ⟨a, b, c⟩ := h tb hW
  refine ⟨a, b, fun hb L hc hl => ?_⟩
  rcases c hb L hc hl with x | ⟨x, K, pl, y, z, w⟩
  · exact Or.inl ⟨x.1, none, x.2, Or.inl ⟨rfl, rfl⟩⟩
  · obtain ⟨_, _, _, q1, _, q3⟩ := zW_g a (zyB_n.mp x).1
    exact Or.inr ⟨x, K, false, ⟨_, y, Or.inr ⟨_, _, _, _, _, rfl, Or.inl ⟨fun ⟨b', y'⟩ => hs (zLk_u q1 q3 y').1, rfl⟩⟩⟩, z, rfl⟩
theorem zW_d {d : Int} (h : zW f n so st be fa dn) (h0 : 0 ≤ d) (h1 : d ≤ 600) : zW f n so st be fa d := by
  rcases h with h | ⟨a1, a2, a3, a4, a5⟩
  · exact Or.inl h
  · exact Or.inr ⟨a1, a2, by omega, h1, a5⟩
theorem zyNe_b {r1 r2 s1 p1 b1 f1 d1 l1 t1 n1 s2 p2 b2 f2 s3 p3 b3 f3 s4 p4 b4 f4 d4 l4 t4 n4 : Int} {c1 c4 : zQs} (hB : zBn 4 B) (hn : n ≤ 600) (hl4 : l4 ≤ 40)
    (h1 : zyS (zUni f n ok B) f n so st be fa dn lv qt ln s s1 p1 b1 f1 d1 l1 t1 n1 c1 (fun pl => pl = true ↔ r1 = 1)) (hs : s1 = 261) (hx : zTy f n → zNx f n s1 b1 f1 d1 s2 p2 b2 f2) (ha : zyP f n s2 p2 b2 f2 d1 s3 p3 b3 f3 v)
    (h2 : zyS (zUni f n ok B) f n s3 p3 b3 f3 d1 l1 t1 n1 c1 s4 p4 b4 f4 d4 l4 t4 n4 c4 (fun pl => pl = true ↔ r2 = 1))
    (hE : (r1 = 1 ∧ r2 = 1 ∧ so' = s4 ∧ fa' = f4 ∧ dn' = d4) ∨ ((r1 ≠ 1 ∨ r2 ≠ 1) ∧ ((so' = s4 ∧ fa' = f4 ∧ dn' = p1) ∨ (zFb f4 so' fa' 4 p1 ∧ dn' = d4))))
    (hc : 0 ≤ v → ∀ L : List Int, zCe c4 n4 L → n4 < 270 → zCe s' ln' (L ++ [1000 * 5 + v])) : zyS (zNea f n ok B) f n so st be fa dn lv qt ln s so' p4 b4 fa' dn' l4 t4 ln' s' (fun pl => pl = false) := fun tb hW => by
  obtain ⟨w1, e1, g1⟩ := h1 tb hW
  obtain ⟨w2, e2, g2⟩ := zyN w1 hn (hx tb) (by omega)
  obtain ⟨w3, e3, g3⟩ := ha tb w2
  obtain ⟨w4, e4, g4⟩ := h2 tb w3
  obtain ⟨_, _, _, q1, q2, q3⟩ := zW_g w1 (by omega)
  have e5 : zyB s4 d4 → zyB so' dn' := fun y => by
    rcases hE with ⟨_, _, a1, a2, a3⟩ | ⟨_, ⟨a1, a2, a3⟩ | ⟨a1, a2⟩⟩
    · rw [a1, a3]; exact y
    · exact Or.inr (by omega)
    · exact Or.inl a1.1
  have w5 : zW f n so' p4 b4 fa' dn' := by
    rcases hE with ⟨_, _, a1, a2, a3⟩ | ⟨_, ⟨a1, a2, a3⟩ | ⟨a1, a2⟩⟩
    · rw [a1, a2, a3]; exact w4
    · rw [a1, a2, a3]; exact zW_d w4 q1 (by omega)
    · exact zFb_W w4 hn a1 (by decide) (fun _ _ _ => ⟨by omega, by omega⟩)
  refine ⟨w5, fun y => e5 (e4 (e3 (e2 (e1 y)))), fun hb L hL hl => ?_⟩
  obtain ⟨_, _, _, o1, _, _⟩ := zW_g hW (zyB_n.mp hb).1
  rcases g1 hb L hL hl with ⟨x1, x2⟩ | ⟨x1, K1, pl1, x2, x3, x4⟩
  · exact Or.inl ⟨e5 (e4 (e3 (e2 x1))), none, x2, Or.inl ⟨rfl, rfl⟩⟩
  have k261 : zLk f n p1 261 b1 := hs ▸ q3
  obtain ⟨y1, y2, y3⟩ := g2 x1
  have u1 := zUni_b hB _ _ _ _ _ _ _ _ _ x2 o1
  have u2 := zLk_b q3
  have u3 := y2.1
  have u4 := hL.1
  have u5 := x3.1
  rcases g3 y1 with ⟨z1, e, z2, z3⟩ | ⟨z1, e, z2, z3⟩
  · rcases z3 with z3 | ⟨_, p2', _, z3⟩
    · exact Or.inl ⟨e5 (e4 z1), _, x2, Or.inr ⟨_, _, _, _, _, rfl, Or.inr ⟨b1, p2, e, k261, y2, z2, Or.inl ⟨z3.1, rfl⟩⟩⟩⟩
    · cases z3
  rcases z3 with z3 | ⟨z3, p2', z4, z5⟩
  · cases z3.2
  cases z5
  have u6 := z2.1
  have u7 := z4.1
  rcases g4 z1 K1 x3 (by omega) with ⟨m1, m2⟩ | ⟨m1, K2, pl2, m2, m3, m4⟩
  · exact Or.inl ⟨e5 m1, _, x2, Or.inr ⟨_, _, _, _, _, rfl, Or.inr ⟨b1, p2, e, k261, y2, z2, Or.inr ⟨z3, _, none, z4, m2, Or.inl ⟨rfl, rfl⟩⟩⟩⟩⟩
  have u8 := zUni_b hB _ _ _ _ _ _ _ _ _ m2 (by omega)
  obtain ⟨_, _, _, v1, v2, v3⟩ := zW_g w4 (zyB_n.mp m1).1
  have u9 := m3.1
  have N : ∀ r, (¬ (pl1 = true ∧ pl2 = true) ∧ r = none) ∨ ((pl1 = true ∧ pl2 = true) ∧ r = some (p4, l4, t4, K2 ++ [5000 + zvl f p2 (e - p2).toNat], false)) → zNea f n ok B st lv qt L r := fun r hr => ⟨_, x2, Or.inr ⟨_, _, _, _, _, rfl, Or.inr ⟨b1, p2, e, k261, y2, z2, Or.inr ⟨z3, _, _, z4, m2, Or.inr ⟨_, _, _, _, _, rfl, hr⟩⟩⟩⟩⟩
  rcases hE with ⟨a0, a9, a1, a2, a3⟩ | ⟨a0, a1⟩
  · have m5 := hc (by have := z3.2.1; omega) K2 m3 (by omega)
    rw [a1, a3]
    exact Or.inr ⟨m1, _, false, N _ (Or.inr ⟨⟨x4.mpr a0, m4.mpr a9⟩, rfl⟩), m5, rfl⟩
  · refine Or.inl ⟨?_, N _ (Or.inl ⟨fun o => ?_, rfl⟩)⟩
    · rcases a1 with ⟨a1, a2, a3⟩ | ⟨a1, a2⟩
      · exact Or.inr (by omega)
      · exact Or.inl a1.1
    · have o1 := x4.mp o.1
      have o2 := m4.mp o.2
      omega
def zyK (f : Nat → Int32) (n so0 st0 be0 fa0 dn0 i so st be fa dn : Int) : Prop := zTy f n → zW f n so0 st0 be0 fa0 dn0 → zW f n so st be fa dn ∧ (zyB so0 dn0 → zyB so dn) ∧ (¬ zyB so0 dn0 → (zyB so dn ∧ ∃ a', zNs f n 40 st0 a' ∧ zKd f n a' 260) ∨ (¬ zyB so dn ∧ i ≤ 40 ∧ zNs f n i.toNat st0 st))
variable {so0 st0 be0 fa0 dn0 lv0 qt0 ln0 : Int} {s0 : zQs}
theorem zyK_0 (hi : i = 0) : zyK f n so st be fa dn i so st be fa dn := fun tb hW => by
  subst hi
  exact ⟨hW, fun h => h, fun h => Or.inr ⟨h, by decide, rfl⟩⟩
theorem zyK_s (h : zyK f n so0 st0 be0 fa0 dn0 i so st be fa dn) (hn : n ≤ 600) (hi0 : 0 ≤ i) (hi : i < 40) (hs : so = 260) (hx : zTy f n → zNx f n so be fa dn so' st' be' fa') (ei : i' = i + 1) : zyK f n so0 st0 be0 fa0 dn0 i' so' st' be' fa' dn := fun tb hW => by
  obtain ⟨w1, h2, h3⟩ := h tb hW
  obtain ⟨w2, e2, g2⟩ := zyN w1 hn (hx tb) (by omega)
  obtain ⟨_, _, _, q1, q2, q3⟩ := zW_g w1 (by omega)
  refine ⟨w2, fun hb => e2 (h2 hb), fun hb => ?_⟩
  rcases h3 hb with ⟨x, y⟩ | ⟨x, _, y⟩
  · exact Or.inl ⟨e2 x, y⟩
  · obtain ⟨g3, g4, g5⟩ := g2 x
    refine Or.inr ⟨g3, by omega, ?_⟩
    rw [show i'.toNat = i.toNat + 1 from by omega]
    exact zNs_s y (hs ▸ q3) g4
theorem zyK_f {s1 f1 : Int} (h : zyK f n so0 st0 be0 fa0 dn0 i so st be fa dn) (hn : n ≤ 600) (hi : i = 40) (hs : so = 260) (hf : zFb fa s1 f1 3 st) (hx : zTy f n → zNx f n s1 be f1 dn so' st' be' fa') : zyK f n so0 st0 be0 fa0 dn0 i' so' st' be' fa' dn := fun tb hW => by
  obtain ⟨w1, h2, h3⟩ := h tb hW
  obtain ⟨_, _, _, q1, q2, q3⟩ := zW_g w1 (by omega)
  have w2 : zW f n s1 st be f1 dn := zFb_W w1 hn hf (by decide) (fun _ a b => ⟨by omega, by omega⟩)
  have e1 := hf.1
  obtain ⟨w3, e3, g3⟩ := zyN w2 hn (hx tb) (by omega)
  have hb3 := e3 (Or.inl e1)
  refine ⟨w3, fun _ => hb3, fun hb => Or.inl ⟨hb3, ?_⟩⟩
  rcases h3 hb with ⟨x, y⟩ | ⟨x, _, y⟩
  · exact y
  · rw [show i.toNat = 40 from by omega] at y
    exact ⟨st, y, be, hs ▸ q3⟩
theorem zyK_e (h : zyK f n so0 st0 be0 fa0 dn0 i so st be fa dn) (hi0 : 0 ≤ i) (hx : 40 < i ∨ so ≠ 260) (hb : zyS (zNea f n ok B) f n so st be fa dn lv0 qt0 ln0 s0 so' st' be' fa' dn' lv' qt' ln' s' P) (hr : r = i % 2) : zyS (zNot f n ok B) f n so0 st0 be0 fa0 dn0 lv0 qt0 ln0 s0 so' st' be' fa' dn' lv' qt' ln' s' (fun pl => pl = true ↔ r = 1) := fun tb hW => by
  obtain ⟨w1, h2, h3⟩ := h tb hW
  obtain ⟨w2, e2, g2⟩ := hb tb w1
  refine ⟨w2, fun y => e2 (h2 y), fun y L hc hl => ?_⟩
  obtain ⟨_, _, _, p1, _, _⟩ := zW_g hW (zyB_n.mp y).1
  rcases h3 y with ⟨x1, a', x2, x3⟩ | ⟨x1, x0, x2⟩
  · exact Or.inl ⟨e2 x1, 40, a', x2, Or.inl ⟨rfl, x3, rfl⟩⟩
  · have x4 := zNs_b x2 p1
    obtain ⟨_, _, _, q1, q2, q3⟩ := zW_g w1 (zyB_n.mp x1).1
    have hnf : ¬ zKd f n st 260 := fun ⟨b, y1⟩ => by
      have y3 := (zLk_u q1 q3 y1).1
      omega
    rcases g2 x1 L hc (by omega) with ⟨z1, z2⟩ | ⟨z1, K, pl, z2, z3, z4⟩
    · exact Or.inl ⟨z1, i.toNat, st, x2, Or.inr ⟨by omega, hnf, none, z2, Or.inl ⟨rfl, rfl⟩⟩⟩
    · refine Or.inr ⟨z1, K, decide (i.toNat % 2 = 1), ⟨i.toNat, st, x2, Or.inr ⟨by omega, hnf, _, z2, Or.inr ⟨_, _, _, _, _, rfl, rfl⟩⟩⟩, z3, ?_⟩
      show (decide (i.toNat % 2 = 1) = true ↔ r = 1)
      rw [decide_eq_true_iff]
      omega
def zyV (R : zRl_) (T : Nat → zRl_) (f : Nat → Int32) (n so0 st0 be0 fa0 dn0 lv0 qt0 ln0 : Int) (s0 : zQs) (i so st be fa dn lv qt ln : Int) (s : zQs) : Prop := zTy f n → zW f n so0 st0 be0 fa0 dn0 → zW f n so st be fa dn ∧ (zyB so0 dn0 → zyB so dn) ∧ (¬ zyB so0 dn0 → ∀ L : List Int, zCe s0 ln0 L → 4 * ln0 ≤ 8 * lv0 + st0 →
  (zyB so dn ∧ R st0 lv0 qt0 L none) ∨ (¬ zyB so dn ∧ lv0 + 1 + i ≤ lv ∧ ∃ K, zCe s ln K ∧ 4 * ln + 4 ≤ 8 * lv + st ∧ ∀ k r, T k st lv qt K r → R st0 lv0 qt0 L r))
theorem zyV_a0 {s1 : zQs} {n1 : Int} (hB : zBn 4 B) (hM : zMon B) (hn : n ≤ 600) (hlv : lv' ≤ 40) (h : zyS (zNot f n ok B) f n so st be fa dn lv qt ln s so' st' be' fa' dn' lv' qt' n1 s1 (fun pl => pl = true ↔ r = 1)) (hi : i = 0)
    (hE : (r = 1 ∧ ∀ L : List Int, zCe s1 n1 L → n1 < 270 → zCe s' ln' (L ++ [1000 * 10 + 0])) ∨ (r ≠ 1 ∧ s' = s1 ∧ ln' = n1)) : zyV (zAll f n ok B) (zAlp f n ok B) f n so st be fa dn lv qt ln s i so' st' be' fa' dn' lv' qt' ln' s' := fun tb hW => by
  subst hi
  obtain ⟨a, b, c⟩ := h tb hW
  refine ⟨a, b, fun hb L hc hl => ?_⟩
  obtain ⟨_, _, _, p1, _, _⟩ := zW_g hW (zyB_n.mp hb).1
  rcases c hb L hc hl with x | ⟨x, K, pl, y, z, w⟩
  · exact Or.inl ⟨x.1, none, x.2, Or.inl ⟨rfl, rfl⟩⟩
  · have u := zNot_b hB hM y p1
    obtain ⟨_, _, _, q1, q2, q3⟩ := zW_g a (zyB_n.mp x).1
    have u1 := hc.1
    have u2 := z.1
    rcases hE with ⟨e1, e2⟩ | ⟨e1, e2, e3⟩
    · have ht := w.mpr e1
      have u3 := u.2 ht
      have m := e2 K z (by omega)
      have m1 := m.1
      rw [zlen1] at m1
      refine Or.inr ⟨x, by omega, _, m, by omega, fun k r hr => ⟨_, y, Or.inr ⟨_, _, _, _, _, k, rfl, ?_⟩⟩⟩
      rw [if_pos ht]
      exact hr
    · have ht : ¬ pl = true := fun o => e1 (w.mp o)
      rw [e2, e3]
      refine Or.inr ⟨x, by omega, _, z, by omega, fun k r hr => ⟨_, y, Or.inr ⟨_, _, _, _, _, k, rfl, ?_⟩⟩⟩
      rw [if_neg ht]
      exact hr
def zyG (so : Int) : Prop := so = 259 ∨ so = 260 ∨ so = 257 ∨ so = 262 ∨ so = 263 ∨ so = 34 ∨ so = 40 ∨ so = 91
theorem zyV_as {w s1 p1 b1 f1 s2 p2 b2 f2 d2 l2 t2 n2 : Int} {c2 : zQs} (hB : zBn 4 B) (hM : zMon B) (hn : n ≤ 600) (hlv : l2 ≤ 40) (h : zyV (zAll f n ok B) (zAlp f n ok B) f n so0 st0 be0 fa0 dn0 lv0 qt0 ln0 s0 i so st be fa dn lv qt ln s) (hg : zyG so)
    (hA : (so = 259 ∧ (zTy f n → zNx f n so be fa dn s1 p1 b1 f1)) ∨ (so ≠ 259 ∧ s1 = so ∧ p1 = st ∧ b1 = be ∧ f1 = fa)) (hq : zyS (zNot f n ok B) f n s1 p1 b1 f1 dn lv qt ln s s2 p2 b2 f2 d2 l2 t2 n2 c2 (fun pl => pl = true ↔ r = 1)) (hw : (r = 1 ∧ w = 11) ∨ (r ≠ 1 ∧ w = 8)) (hc : ∀ L : List Int, zCe c2 n2 L → n2 < 270 → zCe s' ln' (L ++ [1000 * w + 0])) (ei : i' = i + 1) :
    zyV (zAll f n ok B) (zAlp f n ok B) f n so0 st0 be0 fa0 dn0 lv0 qt0 ln0 s0 i' s2 p2 b2 f2 d2 l2 t2 ln' s' := fun tb hW => by
  obtain ⟨w1, e1, g1⟩ := h tb hW
  have st1 : zW f n s1 p1 b1 f1 dn ∧ (zyB so dn → zyB s1 dn) ∧ (¬ zyB so dn → ¬ zyB s1 dn ∧ st ≤ p1 ∧ ((∃ b, zLk f n st 259 b ∧ zBl f n b p1) ∨ (¬ zKd f n st 259 ∧ p1 = st))) := by
    rcases hA with ⟨a1, a2⟩ | ⟨a1, a2, a3, a4, a5⟩
    · obtain ⟨x1, x2, x3⟩ := zyN w1 hn (a2 tb) (by omega)
      refine ⟨x1, x2, fun y => ?_⟩
      obtain ⟨y1, y2, y3⟩ := x3 y
      obtain ⟨_, _, _, q1, q2, q3⟩ := zW_g w1 (zyB_n.mp y).1
      have y4 := y2.1
      have y5 := zLk_b q3
      exact ⟨y1, by omega, Or.inl ⟨be, a1 ▸ q3, y2⟩⟩
    · rw [a2, a3, a4, a5]
      refine ⟨w1, fun y => y, fun y => ⟨y, by omega, Or.inr ⟨fun ⟨b, y1⟩ => ?_, rfl⟩⟩⟩
      obtain ⟨_, _, _, q1, q2, q3⟩ := zW_g w1 (zyB_n.mp y).1
      exact a1 (zLk_u q1 q3 y1).1
  obtain ⟨w2, e2, g2⟩ := st1
  obtain ⟨w3, e3, g3⟩ := hq tb w2
  refine ⟨w3, fun y => e3 (e2 (e1 y)), fun hb L hL hl => ?_⟩
  rcases g1 hb L hL hl with ⟨x1, x2⟩ | ⟨x1, x0, K, x2, x3, x4⟩
  · exact Or.inl ⟨e3 (e2 x1), x2⟩
  obtain ⟨_, _, _, q1, q2, q3⟩ := zW_g w1 (zyB_n.mp x1).1
  have hgo : zGo f n st := ⟨so, ⟨be, q3⟩, hg⟩
  obtain ⟨y1, y2, y3⟩ := g2 x1
  have u2 := x2.1
  rcases g3 y1 K x2 (by omega) with ⟨z1, z2⟩ | ⟨z1, K2, pl, z2, z3, z4⟩
  · exact Or.inl ⟨z1, x4 1 none ⟨hgo, p1, none, y3, z2, Or.inl ⟨rfl, rfl⟩⟩⟩
  have u := (zNot_b hB hM z2 (by omega)).1
  obtain ⟨_, _, _, r1, r2, r3⟩ := zW_g w3 (zyB_n.mp z1).1
  have u4 := z3.1
  have m := hc K2 z3 (by omega)
  have m1 := m.1
  rw [zlen1] at m1
  refine Or.inr ⟨z1, by omega, _, m, by omega, fun k r' hr => x4 (k + 1) r' ⟨hgo, p1, _, y3, z2, Or.inr ⟨_, _, _, _, _, rfl, ?_⟩⟩⟩
  rcases hw with ⟨o1, o2⟩ | ⟨o1, o2⟩
  · rw [if_pos (z4.mpr o1)]
    rw [o2] at hr
    exact hr
  · rw [if_neg (fun o => o1 (z4.mp o))]
    rw [o2] at hr
    exact hr
theorem zyV_ae (h : zyV (zAll f n ok B) (zAlp f n ok B) f n so0 st0 be0 fa0 dn0 lv0 qt0 ln0 s0 i so st be fa dn lv qt ln s) (hlv : lv ≤ 40) (h0 : 0 ≤ lv0) (hx : 600 ≤ i ∨ ¬ zyG so) : zyS (zAll f n ok B) f n so0 st0 be0 fa0 dn0 lv0 qt0 ln0 s0 so st be fa dn lv qt ln s (fun pl => pl = false) := fun tb hW => by
  obtain ⟨w1, e1, g1⟩ := h tb hW
  refine ⟨w1, e1, fun hb L hL hl => ?_⟩
  rcases g1 hb L hL hl with x | ⟨x1, x0, K, x2, x3, x4⟩
  · exact Or.inl x
  obtain ⟨_, _, _, q1, q2, q3⟩ := zW_g w1 (zyB_n.mp x1).1
  refine Or.inr ⟨x1, K, false, x4 0 _ ⟨fun ⟨k, ⟨b, y1⟩, y2⟩ => ?_, rfl⟩, x2, rfl⟩
  have y3 := (zLk_u q1 q3 y1).1
  rcases hx with hx | hx
  · omega
  · exact hx (by rw [y3]; exact y2)
theorem zyV_q0 (hB : zBn 4 B) (hM : zMon B) (h : zyS (zAll f n ok B) f n so st be fa dn lv qt ln s so' st' be' fa' dn' lv' qt' ln' s' P) (hi : i = 0) : zyV (zQue f n ok B) (zQlp f n ok B) f n so st be fa dn lv qt ln s i so' st' be' fa' dn' lv' qt' ln' s' := fun tb hW => by
  subst hi
  obtain ⟨a, b, c⟩ := h tb hW
  refine ⟨a, b, fun hb L hc hl => ?_⟩
  obtain ⟨_, _, _, p1, _, _⟩ := zW_g hW (zyB_n.mp hb).1
  rcases c hb L hc hl with x | ⟨x, K, pl, y, z, w⟩
  · exact Or.inl ⟨x.1, none, x.2, Or.inl ⟨rfl, rfl⟩⟩
  · have u := zAll_b hB hM _ _ _ _ _ _ _ _ _ y p1
    have u1 := hc.1
    have u2 := z.1
    exact Or.inr ⟨x, by omega, K, z, by omega, fun k r hr => ⟨_, y, Or.inr ⟨_, _, _, _, _, k, rfl, hr⟩⟩⟩
theorem zyV_qs {s1 p1 b1 f1 s2 p2 b2 f2 d2 l2 t2 n2 : Int} {c2 : zQs} (hB : zBn 4 B) (hM : zMon B) (hn : n ≤ 600) (hlv : l2 ≤ 40) (h : zyV (zQue f n ok B) (zQlp f n ok B) f n so0 st0 be0 fa0 dn0 lv0 qt0 ln0 s0 i so st be fa dn lv qt ln s) (hs : so = 258)
    (hx : zTy f n → zNx f n so be fa dn s1 p1 b1 f1) (hq : zyS (zAll f n ok B) f n s1 p1 b1 f1 dn lv qt ln s s2 p2 b2 f2 d2 l2 t2 n2 c2 P) (hc : ∀ L : List Int, zCe c2 n2 L → n2 < 270 → zCe s' ln' (L ++ [1000 * 9 + 0])) (ei : i' = i + 1) :
    zyV (zQue f n ok B) (zQlp f n ok B) f n so0 st0 be0 fa0 dn0 lv0 qt0 ln0 s0 i' s2 p2 b2 f2 d2 l2 t2 ln' s' := fun tb hW => by
  obtain ⟨w1, e1, g1⟩ := h tb hW
  obtain ⟨w2, e2, g2⟩ := zyN w1 hn (hx tb) (by omega)
  obtain ⟨w3, e3, g3⟩ := hq tb w2
  refine ⟨w3, fun y => e3 (e2 (e1 y)), fun hb L hL hl => ?_⟩
  rcases g1 hb L hL hl with ⟨x1, x2⟩ | ⟨x1, x0, K, x2, x3, x4⟩
  · exact Or.inl ⟨e3 (e2 x1), x2⟩
  obtain ⟨_, _, _, q1, q2, q3⟩ := zW_g w1 (zyB_n.mp x1).1
  rw [hs] at q3
  obtain ⟨y1, y2, y3⟩ := g2 x1
  have u2 := x2.1
  have u3 := y2.1
  have u5 := (zLk_l q3).1 rfl
  rcases g3 y1 K x2 (by omega) with ⟨z1, z2⟩ | ⟨z1, K2, pl, z2, z3, z4⟩
  · exact Or.inl ⟨z1, x4 1 none ⟨be, p1, none, q3, y2, z2, Or.inl ⟨rfl, rfl⟩⟩⟩
  have u := zAll_b hB hM _ _ _ _ _ _ _ _ _ z2 (by omega)
  obtain ⟨_, _, _, r1, r2, r3⟩ := zW_g w3 (zyB_n.mp z1).1
  have u4 := z3.1
  have m := hc K2 z3 (by omega)
  have m1 := m.1
  rw [zlen1] at m1
  exact Or.inr ⟨z1, by omega, _, m, by omega, fun k r' hr => x4 (k + 1) r' ⟨be, p1, _, q3, y2, z2, Or.inr ⟨_, _, _, _, _, rfl, hr⟩⟩⟩
theorem zyV_qe (h : zyV (zQue f n ok B) (zQlp f n ok B) f n so0 st0 be0 fa0 dn0 lv0 qt0 ln0 s0 i so st be fa dn lv qt ln s) (hlv : lv ≤ 40) (h0 : 0 ≤ lv0) (hx : 600 ≤ i ∨ so ≠ 258) : zyS (zQue f n ok B) f n so0 st0 be0 fa0 dn0 lv0 qt0 ln0 s0 so st be fa dn lv qt ln s (fun pl => pl = false) := fun tb hW => by
  obtain ⟨w1, e1, g1⟩ := h tb hW
  refine ⟨w1, e1, fun hb L hL hl => ?_⟩
  rcases g1 hb L hL hl with x | ⟨x1, x0, K, x2, x3, x4⟩
  · exact Or.inl x
  obtain ⟨_, _, _, q1, q2, q3⟩ := zW_g w1 (zyB_n.mp x1).1
  refine Or.inr ⟨x1, K, false, x4 0 _ ⟨fun ⟨b, y1⟩ => ?_, rfl⟩, x2, rfl⟩
  have y3 := (zLk_u q1 q3 y1).1
  rcases hx with hx | hx
  · omega
  · exact hx y3
end ZZ
theorem zts_1 {f : Nat → Int32} {p : Int} {k : Nat} (h : zTok (f (p + k).toNat).toInt) (h2 : k = 0 ∨ ¬ zTok (f (p + k - 1).toNat).toInt) : zts f p (k + 1) = zts f p k + 1 := by
  show _ + (if _ then (1 : Int) else 0) = _
  rw [if_pos]
  refine ⟨by unfold zTok at h; omega, ?_⟩
  rcases h2 with h2 | h2
  · exact Or.inl h2
  · exact Or.inr (by unfold zTok at h2; omega)
theorem zts_0 {f : Nat → Int32} {p : Int} {k : Nat} (h : ¬ (zTok (f (p + k).toNat).toInt ∧ (k = 0 ∨ ¬ zTok (f (p + k - 1).toNat).toInt))) : zts f p (k + 1) = zts f p k := by
  show _ + (if _ then (1 : Int) else 0) = _
  rw [if_neg, Int.add_zero]
  intro q
  refine h ⟨by unfold zTok; have q1 := q.1; omega, ?_⟩
  rcases q.2 with h2 | h2
  · exact Or.inl h2
  · exact Or.inr (by unfold zTok; omega)
theorem zts_m {f : Nat → Int32} {p : Int} : ∀ {k j : Nat}, zts f p k ≤ zts f p (k + j) := by
  intro k j
  induction j with
  | zero => exact Int.le_refl _
  | succ j ih =>
    have q : zts f p (k + j) ≤ zts f p (k + (j + 1)) := by
      show zts f p (k + j) ≤ zts f p (k + j) + (if _ then (1 : Int) else 0)
      split <;> omega
    omega
def zStt (f : Nat → Int32) (n p : Int) : Prop := zIn f n p ∧ ¬ zIn f n (p - 1)
def zyF (f : Nat → Int32) (n so0 st0 be0 fa0 dn0 lv0 qt0 at' so fa qt : Int) : Prop := zTy f n → zW f n so0 st0 be0 fa0 dn0 → so0 = 34 → zW f n so st0 be0 fa dn0 ∧ (zyB so0 dn0 → so = 265) ∧ (40 ≤ lv0 → so = 265) ∧ (¬ zyB so0 dn0 → lv0 < 40 → (so = 265 ∧ ∀ L : List Int, zPhr f n st0 lv0 qt0 L none) ∨ (so = 34 ∧ st0 + 1 ≤ at' ∧ at' ≤ n ∧ (∀ j : Nat, st0 + 1 ≤ (j : Int) → (j : Int) < at' → (f j).toInt ≠ 34) ∧ qt = qt0 + zts f (st0 + 1) (at' - (st0 + 1)).toNat))
section ZF
variable {f : Nat → Int32} {n so st be fa dn lv qt ln so' st' be' fa' lv' qt' ln' so0 st0 be0 fa0 dn0 lv0 qt0 ln0 at1 at2 : Int} {s s' s0 : zQs}
theorem zyF_0 {s1 f1 : Int} (hn : n ≤ 600) (t0 : lv < 40 → s1 = so ∧ f1 = fa) (t1 : 40 ≤ lv → s1 = 265) (t2 : so = 265 → s1 = 265) (t3 : zW f n so st be fa dn → zW f n s1 st be f1 dn) (e0 : dn = -1 → so' = s1 ∧ fa' = f1) (e1 : dn ≠ -1 → so' = 265) (e2 : f1 ≠ 0 → fa' = f1) (e3 : dn ≠ -1 → f1 = 0 → 0 ≤ dn → dn ≤ 700 → fa' ≠ 0) (ha : at1 = be) (hq : qt' = qt) : zyF f n so st be fa dn lv qt at1 so' fa' qt' := fun tb hW hs => by
  have w1 := t3 hW
  have w2 : zW f n so' st be fa' dn := by
    by_cases c : dn = -1
    · rw [(e0 c).1, (e0 c).2]; exact w1
    · refine Or.inl ⟨e1 c, ?_⟩
      rcases w1 with w1 | ⟨a1, a2, a3, a4, a5⟩
      · rw [e2 w1.2]; exact w1.2
      · exact e3 c a2 (by omega) (by omega)
  refine ⟨w2, fun y => ?_, fun y => ?_, fun y l => Or.inr ?_⟩
  · rcases y with y | y
    · omega
    · exact e1 y
  · by_cases c : dn = -1
    · rw [(e0 c).1, t1 y]
    · exact e1 c
  · have g := zyB_n.mp y
    obtain ⟨_, _, _, q1, q2, q3⟩ := zW_g hW g.1
    obtain ⟨x34, xbe⟩ := zSc_y tb q1 q3 hs (by decide) (by decide) (by decide) (by unfold zTok; omega)
    have x1 := x34.1
    refine ⟨by rw [(e0 g.2).1, (t0 l).1, hs], by omega, by omega, fun j a b => by omega, ?_⟩
    rw [hq, show (at1 - (st + 1)).toNat = 0 from by omega]
    show qt = qt + 0
    omega
theorem zyF_a {r : Int} {c : Int32} (tb : zTy f n) (h : 0 ≤ c.toInt ∧ c.toInt < n → r = (f c.toNatClampNeg &&& 255).toInt) (h0 : 0 ≤ c.toInt) (hn : c.toInt < n) : r = 34 ↔ (f c.toInt.toNat).toInt = 34 := by
  have q2 := h ⟨h0, hn⟩
  have q3 : c.toNatClampNeg = c.toInt.toNat := rfl
  have q4 := tb c.toNatClampNeg (by omega)
  rw [zand256] at q2
  rw [← q3]
  omega
theorem zyF_t1 (tb : zTy f n) (hW : zW f n so0 st0 be0 fa0 dn0) (hs : so0 = 34) (hb : ¬ zyB so0 dn0) (h1 : st0 + 1 ≤ at1) (hn : at1 < n) : (zStt f n at1 → zts f (st0 + 1) (at1 + 1 - (st0 + 1)).toNat = zts f (st0 + 1) (at1 - (st0 + 1)).toNat + 1) ∧ (¬ zStt f n at1 → zts f (st0 + 1) (at1 + 1 - (st0 + 1)).toNat = zts f (st0 + 1) (at1 - (st0 + 1)).toNat) := by
  have g := zyB_n.mp hb
  obtain ⟨_, _, _, q1, q2, q3⟩ := zW_g hW g.1
  obtain ⟨x34, xbe⟩ := zSc_y tb q1 q3 hs (by decide) (by decide) (by decide) (by unfold zTok; omega)
  have e1 : (at1 + 1 - (st0 + 1)).toNat = (at1 - (st0 + 1)).toNat + 1 := by omega
  have e2 : st0 + 1 + (((at1 - (st0 + 1)).toNat : Nat) : Int) = at1 := by omega
  have e3 : ¬ zIn f n st0 := fun y => by
    have y1 := y.2.2
    rw [x34.2] at y1
    exact absurd y1 (by unfold zTok; omega)
  rw [e1]
  refine ⟨fun y => zts_1 (by rw [e2]; exact y.1.2.2) ?_, fun y => zts_0 (fun z => y ?_)⟩
  · by_cases c : at1 = st0 + 1
    · exact Or.inl (by omega)
    · refine Or.inr (fun z => y.2 ⟨by omega, by omega, ?_⟩)
      rw [e2] at z
      exact z
  · rw [e2] at z
    refine ⟨⟨by omega, hn, z.1⟩, fun z2 => ?_⟩
    rcases z.2 with z3 | z3
    · have z4 : at1 - 1 = st0 := by omega
      rw [z4] at z2
      exact e3 z2
    · exact z3 z2.2.2
theorem zyF_s (h : zyF f n so0 st0 be0 fa0 dn0 lv0 qt0 at1 so fa qt) (hs : so = 34) (hn : at1 < n) (hq : zTy f n → 0 ≤ at1 → (f at1.toNat).toInt ≠ 34) (hE : (zStt f n at1 ∧ qt' = qt + 1) ∨ (¬ zStt f n at1 ∧ qt' = qt)) (ea : at2 = at1 + 1) : zyF f n so0 st0 be0 fa0 dn0 lv0 qt0 at2 so fa qt' := fun tb hW h0 => by
  obtain ⟨w, h1, h2, h3⟩ := h tb hW h0
  refine ⟨w, h1, h2, fun y l => ?_⟩
  rcases h3 y l with x | ⟨x1, x2, x3, x4, x5⟩
  · exact Or.inl x
  · have g := zyB_n.mp y
    obtain ⟨_, _, _, q1, q2, q3⟩ := zW_g hW g.1
    have u := zyF_t1 tb hW h0 y x2 hn
    refine Or.inr ⟨x1, by omega, by omega, fun j a b => ?_, ?_⟩
    · by_cases c : (j : Int) = at1
      · have c2 := hq tb (by omega)
        rw [show at1.toNat = j from by omega] at c2
        exact c2
      · exact x4 j a (by omega)
    · rw [ea]
      rcases hE with hE | hE
      · rw [u.1 hE.1]; omega
      · rw [u.2 hE.1]; omega
theorem zyF_x {k : Int} (h : zyF f n so0 st0 be0 fa0 dn0 lv0 qt0 at1 so fa qt) (h6 : n ≤ 600) (hs : so = 34) (hn : at1 < n) (hst : zStt f n at1) (hq : 160 ≤ qt) (hf : zFb fa so' fa' k at1) (hk : 1 ≤ k ∧ k ≤ 4) : zyF f n so0 st0 be0 fa0 dn0 lv0 qt0 at2 so' fa' qt' := fun tb hW h0 => by
  obtain ⟨w, h1, h2, h3⟩ := h tb hW h0
  have h00 := hst.1.1
  refine ⟨zFb_W w h6 hf hk (fun _ _ _ => ⟨by omega, by omega⟩), fun _ => hf.1, fun _ => hf.1, fun y l => Or.inl ⟨hf.1, fun L => Or.inr ⟨l, ?_⟩⟩⟩
  rcases h3 y l with x | ⟨x1, x2, x3, x4, x5⟩
  · omega
  · have u := (zyF_t1 tb hW h0 y x2 hn).1 hst
    by_cases c : ∃ c, zQc f n (st0 + 1) c
    · obtain ⟨c, hc⟩ := c
      refine Or.inl ⟨c, hc, Or.inr ?_, rfl⟩
      obtain ⟨c1, c2, c3, c4⟩ := hc
      have g := zyB_n.mp y
      obtain ⟨_, _, _, q1, q2, q3⟩ := zW_g hW g.1
      have c5 : at1 < c := by
        rcases Int.lt_trichotomy at1 c with d | d | d
        · exact d
        · have d1 := hst.1.2.2
          rw [d, c3] at d1
          exact absurd d1 (by unfold zTok; omega)
        · exact absurd c3 (x4 c.toNat (by omega) (by omega))
      have m := zts_m (f := f) (p := st0 + 1) (k := (at1 + 1 - (st0 + 1)).toNat) (j := (c - (at1 + 1)).toNat)
      rw [show (at1 + 1 - (st0 + 1)).toNat + (c - (at1 + 1)).toNat = (c - (st0 + 1)).toNat from by omega] at m
      omega
    · exact Or.inr (Or.inr ⟨fun d hd => c ⟨d, hd⟩, rfl⟩)
def zyH (f : Nat → Int32) (n so st be fa dn ph fi at1 so' st' be' fa' : Int) : Prop := zTy f n → zW f n so st be fa dn → 0 ≤ at1 → at1 < n → zW f n so' st' be' fa' dn ∧ (zyB so dn → zyB so' dn) ∧ (¬ zyB so dn → (ph = fi ∧ zyB so' dn) ∨ (ph ≠ fi ∧ ¬ zyB so' dn ∧ zBl f n (at1 + 1) st'))
theorem zyH_f {ph fi s1 f1 b1 : Int} (h6 : n ≤ 600) (he : ph = fi) (hf : zFb fa s1 f1 1 at1) (hb : b1 = at1 + 1) (hx : zTy f n → zNx f n s1 b1 f1 dn so' st' be' fa') : zyH f n so st be fa dn ph fi at1 so' st' be' fa' := fun tb hW h0 hn => by
  have e1 := hf.1
  have w1 : zW f n s1 st be f1 dn := zFb_W hW h6 hf (by decide) (fun _ a b => ⟨by omega, by omega⟩)
  have w2 := zW_n2 w1 h6 (hx tb) (fun y => absurd e1 y)
  have e3 : zyB so' dn := Or.inl ((hx tb).1 (Or.inl e1))
  exact ⟨w2, fun _ => e3, fun _ => Or.inl ⟨he, e3⟩⟩
theorem zyH_n {ph fi b1 : Int} (h6 : n ≤ 600) (he : ph ≠ fi) (hb : b1 = at1 + 1) (hx : zTy f n → zNx f n so b1 fa dn so' st' be' fa') : zyH f n so st be fa dn ph fi at1 so' st' be' fa' := fun tb hW h0 hn => by
  have w2 := zW_n2 hW h6 (hx tb) (fun y => ⟨by omega, by omega⟩)
  refine ⟨w2, fun y => Or.inl ((hx tb).1 y), fun y => Or.inr ⟨he, ?_⟩⟩
  have g := zyB_n.mp y
  have a := (hx tb).2.2.2.2 (by omega) (by omega) g
  subst hb
  exact ⟨zyB_n.mpr ⟨zLk_k a.2, g.2⟩, a.1⟩
theorem zyPh_a {fi : Int} (h : zyF f n so0 st0 be0 fa0 dn0 lv0 qt0 at1 so fa qt) (hlv : lv0 ≤ 40) (h6 : n ≤ 600) (hs0 : so0 = 34) (hs : so = 34) (hn : at1 < n) (ha0 : 0 ≤ at1) (hq : zTy f n → (f at1.toNat).toInt = 34) (hqt : qt ≤ 160) (hfi : fi = qt0) (hc : zyH f n so st0 be0 fa dn0 qt fi at1 so' st' be' fa') (hl : lv0 < 40 → lv' = lv0 + 1) (hd : ∀ L : List Int, zCe s0 ln0 L → ln0 < 270 → lv0 < 40 → zCe s' ln' (L ++ [1000 * 3 + lv0])) : zyS (zPhr f n) f n so0 st0 be0 fa0 dn0 lv0 qt0 ln0 s0 so' st' be' fa' dn0 lv' qt ln' s' (fun pl => pl = true) := fun tb hW => by
  obtain ⟨w, h1, h2, h3⟩ := h tb hW hs0
  obtain ⟨w2, g1, g2⟩ := hc tb w ha0 hn
  have hb0 : ¬ zyB so0 dn0 := fun y => by have := h1 y; omega
  have hl0 : lv0 < 40 := by
    rcases Int.lt_or_le lv0 40 with c | c
    · exact c
    · have := h2 c; omega
  refine ⟨w2, fun y => absurd y hb0, fun _ L hL hle => ?_⟩
  have g := zyB_n.mp hb0
  obtain ⟨_, _, _, q1, q2, q3⟩ := zW_g hW g.1
  have hb1 : ¬ zyB so dn0 := zyB_n.mpr ⟨by omega, g.2⟩
  rcases h3 hb0 hl0 with x | ⟨x1, x2, x3, x4, x5⟩
  · omega
  have hqc : zQc f n (st0 + 1) at1 := ⟨x2, hn, hq tb, x4⟩
  rcases g2 hb1 with ⟨y1, y2⟩ | ⟨y1, y2, y3⟩
  · exact Or.inl ⟨y2, Or.inr ⟨hl0, Or.inl ⟨at1, hqc, Or.inl (by omega), rfl⟩⟩⟩
  · have m := hd L hL (by omega) hl0
    refine Or.inr ⟨y2, _, true, Or.inr ⟨hl0, Or.inr (Or.inl ⟨at1, st', hqc, fun o => ?_, y3, ?_⟩)⟩, m, rfl⟩
    · rcases o with o | o <;> omega
    · rw [hl hl0, x5]; rfl
theorem zyPh_b {k p : Int} (h : zyF f n so0 st0 be0 fa0 dn0 lv0 qt0 at1 so fa qt) (h6 : n ≤ 600) (hs0 : so0 = 34) (hx : n ≤ at1 ∨ so ≠ 34) (hf : zFb fa so' fa' k p) (hk : 1 ≤ k ∧ k ≤ 4) (hp : p = n) (hn0 : 0 ≤ n) {P : Bool → Prop} : zyS (zPhr f n) f n so0 st0 be0 fa0 dn0 lv0 qt0 ln0 s0 so' st0 be0 fa' dn0 lv' qt' ln' s' P := fun tb hW => by
  obtain ⟨w, h1, h2, h3⟩ := h tb hW hs0
  refine ⟨zFb_W w h6 hf hk (fun _ _ _ => ⟨by omega, by omega⟩), fun _ => Or.inl hf.1, fun y L hL hle => Or.inl ⟨Or.inl hf.1, ?_⟩⟩
  by_cases l : 40 ≤ lv0
  · exact Or.inl ⟨l, rfl⟩
  rcases h3 y (by omega) with x | ⟨x1, x2, x3, x4, x5⟩
  · exact x.2 L
  · refine Or.inr ⟨by omega, Or.inr (Or.inr ⟨fun c hc => ?_, rfl⟩)⟩
    obtain ⟨c1, c2, c3, c4⟩ := hc
    have g := zyB_n.mp y
    obtain ⟨_, _, _, q1, q2, q3⟩ := zW_g hW g.1
    exact x4 c.toNat (by omega) (by omega) c3
def zyR (f : Nat → Int32) (n r ln : Int) (s : zQs) : Prop := zTy f n → ∃ K, zPar f n K ∧ ((r ≠ 0 ∧ K = []) ∨ (r = 0 ∧ zCe s ln K))
theorem zyR_i {s1 p1 b1 f1 s2 p2 b2 f2 d2 l2 q2 dn1 z1 z2 z3 z4 z5 : Int} {c0 : Nat → Int32} {d0 m0 : Int} {P : Bool → Prop} {d : Nat} (h6 : n ≤ 600) (h00 : 0 ≤ n) (hd : d = 12) (hx : zTy f n → zNx f n 256 z1 z2 dn1 s1 p1 b1 f1) (e1 : z1 = 0) (e2 : z2 = 0) (e3 : dn1 = -1) (hq : zyS (zQry f n d) f n s1 p1 b1 f1 dn1 z3 z5 z4 (c0, d0, m0) s2 p2 b2 f2 d2 l2 q2 ln s P) (e4 : z3 = 0) (e6 : z5 = 0) (e5 : z4 = 0) (hd0 : d0 = 0) (hm0 : m0 = 0)
    (hE : (s2 = 256 ∧ (d2 = -1 → fa' = f2) ∧ (f2 ≠ 0 → fa' = f2) ∧ (d2 ≠ -1 → f2 = 0 → 0 ≤ d2 → d2 ≤ 700 → fa' ≠ 0)) ∨ (s2 ≠ 256 ∧ zFb f2 so' fa' 1 p2)) : zyR f n fa' ln s := fun tb => by
  subst e1; subst e2; subst e3; subst e4; subst e5; subst e6; subst hd
  obtain ⟨x1, x2, x3, x4, x5⟩ := hx tb
  have a := x5 (by decide) (by decide) ⟨by decide, rfl⟩
  have a1 := a.1.1
  have a2 := a.1.2.2.2
  have w1 : zW f n s1 p1 b1 f1 (-1) := by
    exact Or.inr ⟨zLk_k a.2, x2 rfl, by decide, by decide, by omega, by omega, a.2⟩
  obtain ⟨w2, g1, g2⟩ := hq tb w1
  have hb : ¬ zyB s1 (-1) := zyB_n.mpr ⟨zLk_k a.2, rfl⟩
  have hbad : zyB s2 d2 → fa' ≠ 0 := fun y => by
    rcases w2 with w2 | ⟨v1, v2, v3, v4, v5, v6, v7⟩
    · rcases hE with ⟨o1, _⟩ | ⟨o1, o2, o3, o4⟩
      · omega
      · rw [o3 w2.2]; exact w2.2
    · rcases hE with ⟨o1, o2, o3, o4⟩ | ⟨o1, o2, o3, o4⟩
      · rcases y with y | y
        · omega
        · exact o4 y v2 (by omega) (by omega)
      · exact o4 v2 (by decide) (by decide) v5 (by omega)
  rcases g2 hb [] (zCe_0 rfl hd0 hm0) (by omega) with ⟨y1, y2⟩ | ⟨y1, K, pl, y2, y3, y4⟩
  · exact ⟨[], ⟨p1, none, a.1, y2, Or.inl ⟨rfl, rfl⟩⟩, Or.inl ⟨hbad y1, rfl⟩⟩
  · have g := zyB_n.mp y1
    obtain ⟨v2, _, _, v5, v6, v7⟩ := zW_g w2 g.1
    rcases hE with ⟨o1, o2, o3, o4⟩ | ⟨o1, o2, o3, o4⟩
    · exact ⟨K, ⟨p1, _, a.1, y2, Or.inr ⟨_, _, _, _, _, rfl, Or.inr ⟨⟨b2, o1 ▸ v7⟩, rfl⟩⟩⟩, Or.inr ⟨by rw [o2 g.2]; exact v2, y3⟩⟩
    · exact ⟨[], ⟨p1, _, a.1, y2, Or.inr ⟨_, _, _, _, _, rfl, Or.inl ⟨fun ⟨b, y⟩ => o1 (zLk_u v5 v7 y).1, rfl⟩⟩⟩, Or.inl ⟨o4 v2 (by decide) (by decide) v5 (by omega), rfl⟩⟩
def zyT (f : Nat → Int32) (n ln : Int) (s : zQs) : Prop := zTy f n → ∃ K, zPar f n K ∧ zCe s ln K
theorem zyT_a {r : Int} (h : zyR f n r ln s) (hr : r = 0) : zyT f n ln s := fun tb => by
  obtain ⟨K, h1, h2 | h2⟩ := h tb
  · exact absurd hr h2.1
  · exact ⟨K, h1, h2.2⟩
theorem zyT_b {r l0 d1 m1 : Int} {s0 : zQs} {s1 : Nat → Int32} (h : zyR f n r l0 s0) (hr : r ≠ 0) (hl : ln = 0) (hd : d1 = 0) (hm : m1 = 0) : zyT f n ln (s1, d1, m1) := fun tb => by
  obtain ⟨K, h1, h2 | h2⟩ := h tb
  · exact ⟨[], h2.2 ▸ h1, zCe_0 hl hd hm⟩
  · exact absurd h2.1 hr
theorem zSaL {g h : Nat → Int64} {v : Int64} {f : Nat → Int32} {n i : Int} {r : Int32} (e : h = vp_updL g (0 : Int32).toNatClampNeg v) (ev : v = r.toInt64) (hs : zSa f n i r.toInt) : zSa f n i (h 0).toInt := by
  have q : h 0 = r.toInt64 := by rw [e, ← ev]; rfl
  rw [q, Int32.toInt_toInt64]
  exact hs
theorem zsbR_e {o o' : Int} (h : o < 12) (e : o' = o + 1) : zsbR f n (12 - o).toNat = zQry f n (12 - o').toNat := by
  rw [show (12 - o).toNat = (12 - o').toNat + 1 from by omega]
  rfl
theorem zokR_y {o : Int} (h : o < 12) : zokR (12 - o).toNat := by
  rw [show (12 - o).toNat = (11 - o).toNat + 1 from by omega]
  exact trivial
theorem zokR_n {o : Int} (h : 12 ≤ o) : ¬ zokR (12 - o).toNat := by
  rw [show (12 - o).toNat = 0 from by omega]
  exact id
def zyC2 (c i : Int) : Prop := 0 ≤ c ∧ c < 2 ^ i.toNat
theorem zyC2_0 {c i : Int} (hc : c = 0) (hi : i = 0) : zyC2 c i := by subst hc; subst hi; exact ⟨by decide, by decide⟩
theorem zyC2_s {c i c' i' : Int} (h : zyC2 c i) (hc : c' = 2 * c ∨ c' = 2 * c + 1) (hi : i' = i + 1) (h0 : 0 ≤ i) : zyC2 c' i' := by
  obtain ⟨h1, h2⟩ := h
  refine ⟨by omega, ?_⟩
  rw [show i'.toNat = i.toNat + 1 from by omega, Int.pow_succ]
  omega
theorem zyC2_b {c i : Int} (h : zyC2 c i) (hi : i ≤ 12) : c ≤ 4095 := by
  have key : ∀ k : Nat, k ≤ 12 → (2 : Int) ^ k ≤ 4096 := by decide
  have h1 := h.2
  have h2 := key i.toNat (by omega)
  omega
end ZF
section ZM
variable {f : Nat → Int32} {n p h b k b' v : Int}
theorem zMl_s (hm : zMl f n p h b) (hv : v ≠ 46) (ht : ¬ zTok v) : (zSg f p h v ↔ zSc f n p v) ∧ (zSg f p h v → b = p + 1) := by
  rcases hm with ⟨a1, a2⟩ | ⟨a1, a2, a3, a4⟩ | ⟨a1, a2, a3, a4, a5⟩ | ⟨a1, a2, a3, a4, a5⟩
  · exact ⟨⟨fun y => by have := y.1; omega, fun y => by have := y.1; omega⟩, fun y => by have := y.1; omega⟩
  · exact ⟨⟨fun y => by have := y.1; omega, fun y => absurd (y.2 ▸ a2) ht⟩, fun y => by have := y.1; omega⟩
  · exact ⟨⟨fun y => by have := y.1; omega, fun y => absurd (y.2.symm.trans a3.1) hv⟩, fun y => by have := y.1; omega⟩
  · exact ⟨⟨fun y => ⟨a1, y.2⟩, fun y => ⟨a4, y.2⟩⟩, fun _ => a5⟩
theorem zMl_d (hm : zMl f n p h b) : (h = 3 ↔ (p < n ∧ zDd f n p)) ∧ (h = 3 → b = p + 2) := by
  rcases hm with ⟨a1, a2⟩ | ⟨a1, a2, a3, a4⟩ | ⟨a1, a2, a3, a4, a5⟩ | ⟨a1, a2, a3, a4, a5⟩
  · exact ⟨⟨fun y => by omega, fun y => by omega⟩, fun y => by omega⟩
  · exact ⟨⟨fun y => by omega, fun y => by
      have q := y.2.1
      rw [q] at a2
      exact absurd a2 (by unfold zTok; omega)⟩, fun y => by omega⟩
  · exact ⟨⟨fun _ => ⟨a1, a3⟩, fun _ => a4⟩, fun _ => a5⟩
  · exact ⟨⟨fun y => by omega, fun y => absurd y.2 a3⟩, fun y => by omega⟩
theorem zMl_1 (hm : zMl f n p h b) (h1 : h = 1) : p < n ∧ zTok (f p.toNat).toInt ∧ zRe f n p b := by
  rcases hm with ⟨a1, a2⟩ | ⟨a1, a2, a3, a4⟩ | ⟨a1, a2, a3, a4, a5⟩ | ⟨a1, a2, a3, a4, a5⟩
  · omega
  · exact ⟨a1, a2, a4⟩
  · omega
  · omega
theorem zMl_t (hm : zMl f n p h b) (h1 : h ≠ 1) : ¬ (p < n ∧ zTok (f p.toNat).toInt) := by
  rcases hm with ⟨a1, a2⟩ | ⟨a1, a2, a3, a4⟩ | ⟨a1, a2, a3, a4, a5⟩ | ⟨a1, a2, a3, a4, a5⟩
  · exact fun y => by omega
  · exact absurd a3 h1
  · exact fun y => a2 y.2
  · exact fun y => a2 y.2
theorem zMl_0 (hm : zMl f n p h b) : h = 0 ↔ n ≤ p := by
  rcases hm with ⟨a1, a2⟩ | ⟨a1, a2, a3, a4⟩ | ⟨a1, a2, a3, a4, a5⟩ | ⟨a1, a2, a3, a4, a5⟩ <;> omega
theorem zLk_w (hp : 0 ≤ p) (hm : zMl f n p h b) (h1 : h = 1) : zLk f n p k b' ↔ zKw f n p b k b' := by
  obtain ⟨a1, a2, a3⟩ := zMl_1 hm h1
  constructor
  · intro y
    rcases y with y | ⟨y1, y2, e, y3, y4⟩ | y | y
    · omega
    · have q := zRe_u hp y3 a3
      rw [q] at y4
      exact y4
    · exact absurd a2 y.2.1
    · exact absurd a2 y.2.1
  · exact fun y => Or.inr (Or.inl ⟨a1, a2, b, a3, y⟩)
theorem zLk_v (hm : zMl f n p h b) (hk : zLk f n p k b') (h1 : 257 ≤ k) (h2 : k ≠ 264) : h = 1 := by
  rcases Classical.em (h = 1) with c | c
  · exact c
  · have t := zMl_t hm c
    rcases hk with y | ⟨y1, y2, _⟩ | y | y
    · omega
    · exact absurd ⟨y1, y2⟩ t
    · omega
    · have q := Int.emod_lt_of_pos (f p.toNat).toInt (show (0 : Int) < 256 by omega); omega
theorem zSp_b {l l' : Int} {s s' : Nat} (h1 : zSpl f p b s l) (h2 : l ≠ l') : ¬ zSpl f p b s' l' := fun y => by
  have y1 := h1.1
  have y2 := y.1
  omega
theorem zSp_c {l : Int} {s s' : Nat} (h1 : zSpl f p b s l) (hl : 0 < l) (h2 : zCs s 0 ≠ zCs s' 0) : ¬ zSpl f p b s' l := fun y => by
  have y1 := h1.2 0 (by omega)
  have y2 := y.2 0 (by omega)
  exact h2 (y1.symm.trans y2)
theorem zKw_or : zKw f n p b 258 b' ↔ zSpl f p b 7 2 ∧ b' = b := by
  constructor
  · intro y
    rcases y with y | ⟨_, y⟩
    · exact ⟨y.1, y.2.2⟩
    rcases y with y | ⟨_, y⟩
    · omega
    rcases y with y | ⟨_, y⟩
    · omega
    rcases y with y | ⟨_, y⟩
    · omega
    rcases y with ⟨c, y1, y2, y3, y4⟩ | y
    · rcases y4 with y4 | y4 <;> omega
    · omega
  · exact fun y => Or.inl ⟨y.1, rfl, y.2⟩
theorem zKw_and : zKw f n p b 259 b' ↔ zSpl f p b 8 3 ∧ b' = b := by
  constructor
  · intro y
    rcases y with y | ⟨_, y⟩
    · omega
    rcases y with y | ⟨_, y⟩
    · exact ⟨y.1, y.2.2⟩
    rcases y with y | ⟨_, y⟩
    · omega
    rcases y with y | ⟨_, y⟩
    · omega
    rcases y with ⟨c, y1, y2, y3, y4⟩ | y
    · rcases y4 with y4 | y4 <;> omega
    · omega
  · exact fun y => Or.inr ⟨zSp_b y.1 (by decide), Or.inl ⟨y.1, rfl, y.2⟩⟩
theorem zKw_not : zKw f n p b 260 b' ↔ zSpl f p b 9 3 ∧ b' = b := by
  constructor
  · intro y
    rcases y with y | ⟨_, y⟩
    · omega
    rcases y with y | ⟨_, y⟩
    · omega
    rcases y with y | ⟨_, y⟩
    · exact ⟨y.1, y.2.2⟩
    rcases y with y | ⟨_, y⟩
    · omega
    rcases y with ⟨c, y1, y2, y3, y4⟩ | y
    · rcases y4 with y4 | y4 <;> omega
    · omega
  · exact fun y => Or.inr ⟨zSp_b y.1 (by decide), Or.inr ⟨zSp_c y.1 (by decide) (by decide), Or.inl ⟨y.1, rfl, y.2⟩⟩⟩
theorem zKw_near : zKw f n p b 261 b' ↔ zSpl f p b 10 4 ∧ b' = b := by
  constructor
  · intro y
    rcases y with y | ⟨_, y⟩
    · omega
    rcases y with y | ⟨_, y⟩
    · omega
    rcases y with y | ⟨_, y⟩
    · omega
    rcases y with y | ⟨_, y⟩
    · exact ⟨y.1, y.2.2⟩
    rcases y with ⟨c, y1, y2, y3, y4⟩ | y
    · rcases y4 with y4 | y4 <;> omega
    · omega
  · exact fun y => Or.inr ⟨zSp_b y.1 (by decide), Or.inr ⟨zSp_b y.1 (by decide), Or.inr ⟨zSp_b y.1 (by decide), Or.inl ⟨y.1, rfl, y.2⟩⟩⟩⟩
theorem zKw_fl (he : 0 ≤ b) {c : Int} (hc : zBl f n b c) : (zKw f n p b 262 b' ↔ zSpl f p b 11 5 ∧ zCo f n c ∧ b' = c + 1) ∧ (zKw f n p b 263 b' ↔ zSpl f p b 12 4 ∧ zCo f n c ∧ b' = c + 1) := by
  refine ⟨⟨fun y => ?_, fun y => ?_⟩, ⟨fun y => ?_, fun y => ?_⟩⟩
  · rcases y with y | ⟨_, y⟩
    · omega
    rcases y with y | ⟨_, y⟩
    · omega
    rcases y with y | ⟨_, y⟩
    · omega
    rcases y with y | ⟨_, y⟩
    · omega
    rcases y with ⟨d, y1, y2, y3, y4⟩ | y
    · have q := zBl_u he y1 hc
      subst q
      rcases y4 with y4 | y4
      · exact ⟨y4.1, y2, y3⟩
      · omega
    · omega
  · exact Or.inr ⟨zSp_b y.1 (by decide), Or.inr ⟨zSp_b y.1 (by decide), Or.inr ⟨zSp_b y.1 (by decide), Or.inr ⟨zSp_b y.1 (by decide), Or.inl ⟨c, hc, y.2.1, y.2.2, Or.inl ⟨y.1, rfl⟩⟩⟩⟩⟩⟩
  · rcases y with y | ⟨_, y⟩
    · omega
    rcases y with y | ⟨_, y⟩
    · omega
    rcases y with y | ⟨_, y⟩
    · omega
    rcases y with y | ⟨_, y⟩
    · omega
    rcases y with ⟨d, y1, y2, y3, y4⟩ | y
    · have q := zBl_u he y1 hc
      subst q
      rcases y4 with y4 | y4
      · omega
      · exact ⟨y4.2.1, y2, y3⟩
    · omega
  · exact Or.inr ⟨zSp_b y.1 (by decide), Or.inr ⟨zSp_b y.1 (by decide), Or.inr ⟨zSp_b y.1 (by decide), Or.inr ⟨zSp_c y.1 (by decide) (by decide), Or.inl ⟨c, hc, y.2.1, y.2.2, Or.inr ⟨zSp_b y.1 (by decide), y.1, rfl⟩⟩⟩⟩⟩⟩
theorem zMl_sp (hp : 0 ≤ p) (hm : zMl f n p h b) (h1 : h = 1) {s : Nat} {l : Int} : zSpl f p b s l ↔ zSpm f p b s l := zSpl_m (zMl_1 hm h1).2.2.2.1 hp
theorem zMl_b (hm : zMl f n p h b) (h1 : h = 1) : p ≤ b ∧ b ≤ n ∧ p < b := by
  obtain ⟨a1, a2, a3⟩ := zMl_1 hm h1
  have q := a3.2.2.1
  have q1 := a3.1
  have q2 := a3.2.2.2
  have q3 : p < b := by
    rcases Int.lt_or_le p b with c | c
    · exact c
    · have c2 : b = p := by omega
      subst c2
      exact absurd a2 (q a1)
  omega
theorem zmK {s : Nat} {l : Int} (hp : 0 ≤ p) (hm : zMl f n p h b) (hk : 257 ≤ k) (hk2 : k ≠ 264) (hw : ∀ b', zKw f n p b k b' ↔ zSpl f p b s l ∧ b' = b) : (h = 1 ∧ zSpm f p b s l ↔ zKd f n p k) ∧ (h = 1 ∧ zSpm f p b s l → zLk f n p k b) := by
  refine ⟨⟨fun y => ⟨b, (zLk_w hp hm y.1).mpr ((hw b).mpr ⟨(zMl_sp hp hm y.1).mpr y.2, rfl⟩)⟩, fun ⟨b', y⟩ => ?_⟩, fun y => (zLk_w hp hm y.1).mpr ((hw b).mpr ⟨(zMl_sp hp hm y.1).mpr y.2, rfl⟩)⟩
  have h1 := zLk_v hm y hk hk2
  exact ⟨h1, (zMl_sp hp hm h1).mp ((hw b').mp ((zLk_w hp hm h1).mp y)).1⟩
theorem zm_or (hp : 0 ≤ p) (hm : zMl f n p h b) : (h = 1 ∧ zSpm f p b 7 2 ↔ zKd f n p 258) ∧ (h = 1 ∧ zSpm f p b 7 2 → zLk f n p 258 b) := zmK (k := 258) (s := 7) (l := 2) hp hm (by decide) (by decide) (fun _ => zKw_or)
theorem zm_and (hp : 0 ≤ p) (hm : zMl f n p h b) : (h = 1 ∧ zSpm f p b 8 3 ↔ zKd f n p 259) ∧ (h = 1 ∧ zSpm f p b 8 3 → zLk f n p 259 b) := zmK (k := 259) (s := 8) (l := 3) hp hm (by decide) (by decide) (fun _ => zKw_and)
theorem zm_not (hp : 0 ≤ p) (hm : zMl f n p h b) : (h = 1 ∧ zSpm f p b 9 3 ↔ zKd f n p 260) ∧ (h = 1 ∧ zSpm f p b 9 3 → zLk f n p 260 b) := zmK (k := 260) (s := 9) (l := 3) hp hm (by decide) (by decide) (fun _ => zKw_not)
theorem zm_near (hp : 0 ≤ p) (hm : zMl f n p h b) : (h = 1 ∧ zSpm f p b 10 4 ↔ zKd f n p 261) ∧ (h = 1 ∧ zSpm f p b 10 4 → zLk f n p 261 b) := zmK (k := 261) (s := 10) (l := 4) hp hm (by decide) (by decide) (fun _ => zKw_near)
def zIf (f : Nat → Int32) (n p h b : Int) : Prop := h = 1 ∧ (zSpm f p b 11 5 ∨ zSpm f p b 12 4) ∧ zFc f n b
theorem zm_fl (hp : 0 ≤ p) (hm : zMl f n p h b) : zIf f n p h b ↔ zFl f n p := by
  constructor
  · rintro ⟨y1, y2, c, y3, y4⟩
    have hb := zMl_b hm y1
    have w := zKw_fl (p := p) (b' := c + 1) (show 0 ≤ b by omega) y3
    rcases y2 with y2 | y2
    · exact ⟨262, c + 1, (zLk_w hp hm y1).mpr (w.1.mpr ⟨(zMl_sp hp hm y1).mpr y2, y4, rfl⟩), Or.inl rfl⟩
    · exact ⟨263, c + 1, (zLk_w hp hm y1).mpr (w.2.mpr ⟨(zMl_sp hp hm y1).mpr y2, y4, rfl⟩), Or.inr rfl⟩
  · rintro ⟨kd, b', y, hk⟩
    have h1 := zLk_v hm y (by omega) (by omega)
    have hb := zMl_b hm h1
    obtain ⟨c, hc⟩ := zBl_x (f := f) (n := n) _ b (by omega) rfl
    have w := zKw_fl (p := p) (b' := b') (show 0 ≤ b by omega) hc
    have y2 := (zLk_w hp hm h1).mp y
    rcases hk with hk | hk
    · rw [hk] at y2
      have y3 := w.1.mp y2
      exact ⟨h1, Or.inl ((zMl_sp hp hm h1).mp y3.1), c, hc, y3.2.1⟩
    · rw [hk] at y2
      have y3 := w.2.mp y2
      exact ⟨h1, Or.inr ((zMl_sp hp hm h1).mp y3.1), c, hc, y3.2.1⟩
theorem zm_fs {c h1 b1 : Int} (hp : 0 ≤ p) (hm : zMl f n p h b) (y : zIf f n p h b) (hc : zBl f n b c) (hm2 : zMl f n c h1 b1) : b1 = c + 1 ∧ zLk f n p (if b - p = 5 then 262 else 263) b1 := by
  obtain ⟨y1, y2, d, y3, y4⟩ := y
  have hb := zMl_b hm y1
  have q := zBl_u (show 0 ≤ b by omega) y3 hc
  subst q
  have s := zMl_s (v := 58) hm2 (by decide) (by unfold zTok; omega)
  have e := s.2 (s.1.mpr ⟨y4.1, y4.2⟩)
  refine ⟨e, ?_⟩
  have w := zKw_fl (p := p) (b' := b1) (show 0 ≤ b by omega) y3
  rcases y2 with y2 | y2
  · rw [if_pos y2.1]
    exact (zLk_w hp hm y1).mpr (w.1.mpr ⟨(zMl_sp hp hm y1).mpr y2, y4, e⟩)
  · rw [if_neg (by have := y2.1; omega)]
    exact (zLk_w hp hm y1).mpr (w.2.mpr ⟨(zMl_sp hp hm y1).mpr y2, y4, e⟩)
def zBg (f : Nat → Int32) (p h b : Int) : Prop := (h = 1 ∧ ¬ zSpm f p b 7 2 ∧ ¬ zSpm f p b 8 3 ∧ ¬ zSpm f p b 10 4) ∨ zSg f p h 40 ∨ zSg f p h 91 ∨ zSg f p h 34
theorem zm_tk (hp : 0 ≤ p) (hm : zMl f n p h b) (h1 : h = 1) (g1 : ¬ zSpm f p b 7 2) (g2 : ¬ zSpm f p b 8 3) (g3 : ¬ zSpm f p b 10 4) (g4 : ¬ (h = 1 ∧ zSpm f p b 9 3)) (g5 : ¬ zFl f n p) : zLk f n p 257 b := by
  refine (zLk_w hp hm h1).mpr (Or.inr ⟨fun y => g1 ((zMl_sp hp hm h1).mp y), Or.inr ⟨fun y => g2 ((zMl_sp hp hm h1).mp y), Or.inr ⟨fun y => g4 ⟨h1, (zMl_sp hp hm h1).mp y⟩, Or.inr ⟨fun y => g3 ((zMl_sp hp hm h1).mp y), Or.inr ⟨fun y => g5 ((zm_fl hp hm).mp ⟨h1, ?_, y.2⟩), rfl, rfl⟩⟩⟩⟩⟩)
  rcases y.1 with z | z
  · exact Or.inl ((zMl_sp hp hm h1).mp z)
  · exact Or.inr ((zMl_sp hp hm h1).mp z)
theorem zm_nt (hp : 0 ≤ p) (hm : zMl f n p h b) (hx : ¬ (h = 1 ∧ ¬ zSpm f p b 7 2 ∧ ¬ zSpm f p b 8 3 ∧ ¬ zSpm f p b 10 4) ∨ (h = 1 ∧ zSpm f p b 9 3)) : ¬ ∃ b', zLk f n p 257 b' := fun ⟨b', y⟩ => by
  have h1 := zLk_v hm y (by decide) (by decide)
  have w := (zLk_w hp hm h1).mp y
  rcases w with w | ⟨w1, w⟩
  · omega
  rcases w with w | ⟨w2, w⟩
  · omega
  rcases w with w | ⟨w3, w⟩
  · omega
  rcases w with w | ⟨w4, w⟩
  · omega
  rcases hx with hx | hx
  · exact hx ⟨h1, fun z => w1 ((zMl_sp hp hm h1).mpr z), fun z => w2 ((zMl_sp hp hm h1).mpr z), fun z => w4 ((zMl_sp hp hm h1).mpr z)⟩
  · exact w3 ((zMl_sp hp hm h1).mpr hx.2)
theorem zm_sc (hm : zMl f n p h b) (hv : zSg f p h v) (hk : v = 34 ∨ v = 40 ∨ v = 91) : ∃ b', zLk f n p v b' := by
  have s := (zMl_s hm (v := v) (by omega) (by unfold zTok; omega)).1.mp hv
  refine ⟨p + 1, Or.inr (Or.inr (Or.inr ⟨s.1, ?_, ?_, ?_, rfl⟩))⟩
  · rw [s.2]; unfold zTok; omega
  · intro y; have := y.1; have := s.2; omega
  · rw [s.2]; omega
theorem zm_go (tb : zTy f n) (hp : 0 ≤ p) (hm : zMl f n p h b) : ((h = 1 ∧ zSpm f p b 8 3) ∨ zBg f p h b) ↔ zGo f n p := by
  constructor
  · intro y
    rcases y with y | y | y | y | y
    · exact ⟨259, (zm_and hp hm).1.mp y, by omega⟩
    · obtain ⟨y1, y2, y3, y4⟩ := y
      by_cases c : h = 1 ∧ zSpm f p b 9 3
      · exact ⟨260, (zm_not hp hm).1.mp c, by omega⟩
      · by_cases d : zFl f n p
        · obtain ⟨kd, b', d1, d2⟩ := d
          exact ⟨kd, ⟨b', d1⟩, by omega⟩
        · exact ⟨257, ⟨b, zm_tk hp hm y1 y2 y3 y4 c d⟩, by omega⟩
    · exact ⟨40, zm_sc hm y (by omega), by omega⟩
    · exact ⟨91, zm_sc hm y (by omega), by omega⟩
    · exact ⟨34, zm_sc hm y (by omega), by omega⟩
  · rintro ⟨k, ⟨b', y⟩, hk⟩
    have sg : ∀ v : Int, (v = 34 ∨ v = 40 ∨ v = 91) → k = v → zSg f p h v := fun v hv e => by
      have s := (zLk_s tb hp y (v := v) (by omega) (by omega) (by omega) (by unfold zTok; omega)).1.mp e
      exact (zMl_s hm (v := v) (by omega) (by unfold zTok; omega)).1.mpr s
    by_cases c : k = 34 ∨ k = 40 ∨ k = 91
    · rcases c with c | c | c
      · exact Or.inr (Or.inr (Or.inr (Or.inr (sg 34 (by omega) c))))
      · exact Or.inr (Or.inr (Or.inl (sg 40 (by omega) c)))
      · exact Or.inr (Or.inr (Or.inr (Or.inl (sg 91 (by omega) c))))
    · have h1 := zLk_v hm y (by omega) (by omega)
      by_cases d : k = 259
      · rw [d] at y
        exact Or.inl ((zm_and hp hm).1.mpr ⟨b', y⟩)
      · refine Or.inr (Or.inl ⟨h1, fun z => ?_, fun z => ?_, fun z => ?_⟩)
        · have e := (zLk_u hp ((zm_or hp hm).2 ⟨h1, z⟩) y).1; omega
        · have e := (zLk_u hp ((zm_and hp hm).2 ⟨h1, z⟩) y).1; omega
        · have e := (zLk_u hp ((zm_near hp hm).2 ⟨h1, z⟩) y).1; omega
theorem zm_end (hp : 0 ≤ p) (hm : zMl f n p h b) : h = 0 ↔ zKd f n p 256 := by
  rw [zMl_0 hm]
  constructor
  · exact fun y => ⟨p + 1, Or.inl ⟨y, rfl, rfl⟩⟩
  · rintro ⟨b', y⟩
    rcases y with y | ⟨y1, y2, e, y3, y4⟩ | y | y
    · exact y.1
    · exfalso
      rcases y4 with y | ⟨_, y⟩
      · omega
      rcases y with y | ⟨_, y⟩
      · omega
      rcases y with y | ⟨_, y⟩
      · omega
      rcases y with y | ⟨_, y⟩
      · omega
      rcases y with ⟨d, y1, y2, y3, y4⟩ | y
      · rcases y4 with y4 | y4 <;> omega
      · omega
    · omega
    · have q := Int.emod_lt_of_pos (f p.toNat).toInt (show (0 : Int) < 256 by omega); omega
end ZM
def zNk (w b w' b' : Nat → Int32) (m : Int) : Prop := ∀ j : Nat, (j : Int) < m → w' j = w j ∧ b' j = b j
theorem zNk_rf {w b : Nat → Int32} {m : Int} : zNk w b w b m := fun _ _ => ⟨rfl, rfl⟩
theorem zNk_tr {w b w1 b1 w2 b2 : Nat → Int32} {m m' : Int} (h1 : zNk w b w1 b1 m) (h2 : zNk w1 b1 w2 b2 m') (e : m ≤ m') : zNk w b w2 b2 m := fun j hj => ⟨((h2 j (by omega)).1).trans (h1 j hj).1, ((h2 j (by omega)).2).trans (h1 j hj).2⟩
def zHp (w b : Nat → Int32) (r : Int) : Prop := (b r.toNat).toInt = 0 ∧ ((w r.toNat).toInt = 1 ∨ (w r.toNat).toInt = 2 ∨ (w r.toNat).toInt = 3 ∨ (w r.toNat).toInt = 6 ∨ (w r.toNat).toInt = 7)
theorem zHp_k {w b w' b' : Nat → Int32} {m r : Int} (h : zNk w b w' b' m) (h0 : 0 ≤ r) (hr : r < m) : zHp w' b' r ↔ zHp w b r := by
  have q := h r.toNat (by omega)
  unfold zHp
  rw [q.1, q.2]
theorem zNk_u {w b w1 b1 b2 : Nat → Int32} {m : Int} {I x : Int32} (h : zNk w b w1 b1 m) (e : b2 = upd b1 I.toNatClampNeg x) (hm : m ≤ I.toInt) (h0 : 0 ≤ I.toInt) : zNk w b w1 b2 m := fun j hj => by
  have q : I.toNatClampNeg = I.toInt.toNat := rfl
  rw [e, pk_un (by omega)]
  exact h j hj
theorem zup1 {g g' : Nat → Int32} {I : Int32} (e : g' = upd g I.toNatClampNeg (vp_nar .boolean 1)) : (g' I.toInt.toNat).toInt ≠ 0 := by
  have q : I.toInt.toNat = I.toNatClampNeg := rfl
  rw [e, q, pk_us]
  decide
theorem zHp_y {w b : Nat → Int32} {I z y : Int32} (e5 : y = b I.toNatClampNeg) (h5 : y.toInt = 0) (e : z = w I.toNatClampNeg) (h : z.toInt = 1 ∨ z.toInt = 2 ∨ z.toInt = 3 ∨ z.toInt = 6 ∨ z.toInt = 7) : zHp w b I.toInt := by
  have q : I.toInt.toNat = I.toNatClampNeg := rfl
  unfold zHp
  rw [q, ← e5, ← e]
  exact ⟨h5, h⟩
theorem zHp_b {w b : Nat → Int32} {I y : Int32} (e5 : y = b I.toNatClampNeg) (h5 : y.toInt ≠ 0) : ¬ zHp w b I.toInt := fun h => by
  have q : I.toInt.toNat = I.toNatClampNeg := rfl
  have h1 := h.1
  rw [q, ← e5] at h1
  exact h5 h1
theorem zHp_w {w b : Nat → Int32} {I z1 z2 z3 z4 z5 : Int32} (e1 : z1 = w I.toNatClampNeg) (e2 : z2 = w I.toNatClampNeg) (e3 : z3 = w I.toNatClampNeg) (e4 : z4 = w I.toNatClampNeg) (e5 : z5 = w I.toNatClampNeg) (h1 : z1.toInt ≠ 1) (h2 : z2.toInt ≠ 2) (h3 : z3.toInt ≠ 3) (h4 : z4.toInt ≠ 6) (h5 : z5.toInt ≠ 7) : ¬ zHp w b I.toInt := fun h => by
  have q : I.toInt.toNat = I.toNatClampNeg := rfl
  have h6 := h.2
  rw [q] at h6
  rw [e1] at h1; rw [e2] at h2; rw [e3] at h3; rw [e4] at h4; rw [e5] at h5
  omega
def zxN (w b w' b' cd cd' : Nat → Int32) (m cn cn' v l : Int) : Prop := zNk w b w' b' m ∧ (w' m.toNat).toInt = v ∧ (b' m.toNat).toInt = 0 ∧ (1 ≤ v → v ≤ 11 → -1 ≤ l → l ≤ 999 → ∀ L : List Int, zCd cd cn L → zCd cd' cn' (L ++ [1000 * v + l]))
theorem zxN_i {w b w' b' cd cd' : Nat → Int32} {M C v l z y : Int32} {cn' : Int} (e1 : w' = upd w M.toNatClampNeg v) (e2 : b' = upd b M.toNatClampNeg (vp_nar .boolean 0)) (e3 : cd' = upd cd C.toNatClampNeg y) (ez : z = 1000 * v) (ey : y = z + l) (hm : 0 ≤ M.toInt) (hc : cn' = C.toInt + 1) : zxN w b w' b' cd cd' M.toInt C.toInt cn' v.toInt l.toInt := by
  have q : M.toNatClampNeg = M.toInt.toNat := rfl
  refine ⟨fun j hj => ?_, ?_, ?_, fun h1 h2 h3 h4 L hL => ?_⟩
  · rw [e1, e2, pk_un (by omega), pk_un (by omega)]; exact ⟨rfl, rfl⟩
  · rw [e1, q, pk_us]
  · rw [e2, q, pk_us]; decide
  · have b1 := zmul (by decide : (1000 : Int32).toInt = 1000) rfl ez (by omega) (by omega)
    have b2 := zadd rfl rfl ey (by omega) (by omega)
    rw [e3]
    exact zCd_p hL rfl (by omega) hc
def zxS (R : zRl_) (f : Nat → Int32) (n fr ha be lv qt cn : Int) (cd : Nat → Int32) (fr' ha' be' lv' qt' cn' : Int) (cd' : Nat → Int32) (P : Bool → Prop) : Prop := zTy f n → zMl f n fr ha be → zMl f n fr' ha' be' ∧ ∀ L : List Int, zCd cd cn L → ∃ K pl, R fr lv qt L (some (fr', lv', qt', K, pl)) ∧ zCd cd' cn' K ∧ P pl
def zxX (R : zRl_) (f : Nat → Int32) (n fr ha be lv qt cn : Int) (cd : Nat → Int32) : Prop := zTy f n → zMl f n fr ha be → ∀ L : List Int, zCd cd cn L → R fr lv qt L none
section ZX
variable {f : Nat → Int32} {n fr ha be lv qt cn fr' ha' be' lv' qt' cn' c h1 b1 d h2 b2 m r v w k p q : Int} {cd cd' wh br wh' br' : Nat → Int32} {R R' : zRl_} {P Q : Bool → Prop}
theorem zxS_w (h : zxS R f n fr ha be lv qt cn cd fr' ha' be' lv' qt' cn' cd' P) (hP : ∀ pl, P pl → Q pl) : zxS R f n fr ha be lv qt cn cd fr' ha' be' lv' qt' cn' cd' Q := fun tb hm => by
  obtain ⟨a, b⟩ := h tb hm
  refine ⟨a, fun L hL => ?_⟩
  obtain ⟨K, pl, x, y, z⟩ := b L hL
  exact ⟨K, pl, x, y, hP pl z⟩
theorem zxS_q {r' : Int} (h : zxS R f n fr ha be lv qt cn cd fr' ha' be' lv' qt' cn' cd' (fun pl => pl = true ↔ zHp wh br r)) (e : r' = r) : zxS R f n fr ha be lv qt cn cd fr' ha' be' lv' qt' cn' cd' (fun pl => pl = true ↔ zHp wh br r') := by rw [e]; exact h
theorem zxS_r (h : zxS R f n fr ha be lv qt cn cd fr' ha' be' lv' qt' cn' cd' P) (hR : zTy f n → zMl f n fr ha be → ∀ L r, R fr lv qt L r → R' fr lv qt L r) : zxS R' f n fr ha be lv qt cn cd fr' ha' be' lv' qt' cn' cd' P := fun tb hm => by
  obtain ⟨a, b⟩ := h tb hm
  refine ⟨a, fun L hL => ?_⟩
  obtain ⟨K, pl, x, y, z⟩ := b L hL
  exact ⟨K, pl, hR tb hm _ _ x, y, z⟩
theorem zxX_r (h : zxX R f n fr ha be lv qt cn cd) (hR : zTy f n → zMl f n fr ha be → ∀ L r, R fr lv qt L r → R' fr lv qt L r) : zxX R' f n fr ha be lv qt cn cd := fun tb hm L hL => hR tb hm _ _ (h tb hm L hL)
theorem zxT_x (hl : 40 ≤ lv) : zxX (zTkn f n) f n fr ha be lv qt cn cd := fun _ _ _ _ => Or.inl ⟨hl, rfl⟩
theorem zxT_a {l9 : Int} (ha1 : ha = 1) (hlv : lv < 40) (hl0 : 0 ≤ lv) (k1 : zBl f n be c) (m1 : zMl f n c h1 b1) (hs : ¬ zSg f c h1 42) (hN : zxN wh br wh' br' cd cd' m cn cn' v l9) (hl9 : l9 = lv) (hv : v = 1) (hl' : lv' = lv + 1) (hr : r = m) : zxS (zTkn f n) f n fr ha be lv qt cn cd c h1 b1 lv' qt cn' cd' (fun pl => pl = true ↔ zHp wh' br' r) := fun tb hm => by
  subst hl9
  obtain ⟨n1, n2, n3, n4⟩ := hN
  subst hv; subst hl'; subst hr
  refine ⟨m1, fun L hL => ⟨_, true, Or.inr ⟨hlv, be, c, (zMl_1 hm ha1).2.2, k1, Or.inr ⟨fun y => hs ((zMl_s m1 (by decide) (by unfold zTok; omega)).1.mpr y), rfl⟩⟩, n4 (by decide) (by decide) (by omega) (by omega) L hL, fun _ => ⟨n3, by omega⟩, fun _ => rfl⟩⟩
theorem zxT_b {l9 : Int} (ha1 : ha = 1) (hlv : lv < 40) (hl0 : 0 ≤ lv) (k1 : zBl f n be c) (m1 : zMl f n c h1 b1) (hs : zSg f c h1 42) (k2 : zBl f n b1 d) (m2 : zMl f n d h2 b2) (hN : zxN wh br wh' br' cd cd' m cn cn' v l9) (hl9 : l9 = lv) (hv : v = 2) (hl' : lv' = lv + 1) (hr : r = m) : zxS (zTkn f n) f n fr ha be lv qt cn cd d h2 b2 lv' qt cn' cd' (fun pl => pl = true ↔ zHp wh' br' r) := fun tb hm => by
  subst hl9
  obtain ⟨n1, n2, n3, n4⟩ := hN
  subst hv; subst hl'; subst hr
  have s := zMl_s m1 (v := 42) (by decide) (by unfold zTok; omega)
  have e := s.2 hs
  subst e
  refine ⟨m2, fun L hL => ⟨_, true, Or.inr ⟨hlv, be, c, (zMl_1 hm ha1).2.2, k1, Or.inl ⟨s.1.mp hs, d, k2, rfl⟩⟩, n4 (by decide) (by decide) (by omega) (by omega) L hL, fun _ => ⟨n3, by omega⟩, fun _ => rfl⟩⟩
theorem zDv_m {K z : Int32} {j : Int} (h : zDv f p K.toInt v) (e : z = f K.toNatClampNeg) (hd : 48 ≤ z.toInt ∧ z.toInt ≤ 57) (hp : 0 ≤ p) (hi : p ≤ K.toInt) (hw : w = 10 * v + z.toInt - 48) (hj : j = K.toInt + 1) : zDv f p j w := by
  have q2 : K.toNatClampNeg = K.toInt.toNat := rfl
  obtain ⟨h1, h2⟩ := h
  refine ⟨fun i a b => ?_, ?_⟩
  · by_cases c : (i : Int) < K.toInt
    · exact h1 i a c
    · rw [show i = K.toNatClampNeg from by omega, ← e]; exact hd
  · rw [hj, show (K.toInt + 1 - p).toNat = (K.toInt - p).toNat + 1 from by omega]
    show w = 10 * zvl f p (K.toInt - p).toNat + (f (p.toNat + (K.toInt - p).toNat)).toInt - 48
    rw [← h2, show p.toNat + (K.toInt - p).toNat = K.toNatClampNeg from by omega, ← e]
    exact hw
def zxQ (f : Nat → Int32) (n p mi q h b : Int) : Prop := ((zSc f n p 45 ∧ q = p + 1 ∧ mi = 1) ∨ (¬ zSc f n p 45 ∧ q = p ∧ mi = 0)) ∧ zMl f n q h b
variable {mi h b : Int}
theorem zxQ_0 (hm : zMl f n p h b) (hs : ¬ zSg f p h 45) (e : mi = 0) : zxQ f n p mi p h b := ⟨Or.inr ⟨fun y => hs ((zMl_s hm (by decide) (by unfold zTok; omega)).1.mpr y), rfl, e⟩, hm⟩
theorem zxQ_1 {D : Int32} {x : Int} (hm : zMl f n p h b) (hs : zSg f p h 45) (hp : 0 ≤ p) (e : D.toInt = p + 1) (hx : D.toInt < n → x = (f D.toNatClampNeg).toInt) (hx2 : n ≤ D.toInt → x = 0) (hd : 48 ≤ x ∧ x ≤ 57) (em : mi = 1) (k1 : zBl f n b c) (m1 : zMl f n c h1 b1) : zxQ f n p mi c h1 b1 := by
  have s := zMl_s hm (v := 45) (by decide) (by unfold zTok; omega)
  have eb := s.2 hs
  have hn : D.toInt < n := by
    rcases Int.lt_or_le D.toInt n with c | c
    · exact c
    · have := hx2 c; omega
  have hx := hx hn
  have q : D.toNatClampNeg = D.toInt.toNat := rfl
  have ec : c = p + 1 := by
    refine zBl_u (p := b) (by omega) k1 ⟨by omega, zBq_0 (by omega), fun _ => ?_, Or.inr (by omega)⟩
    rw [← e, ← q, ← hx]
    unfold zBk
    omega
  exact ⟨Or.inl ⟨s.1.mp hs, ec, em⟩, m1⟩
theorem zxI_a {D : Int32} {x : Int} (hm : zMl f n p h b) (hs : zSg f p h 45) (hp : 0 ≤ p) (e : D.toInt = p + 1) (hx : D.toInt < n → x = (f D.toNatClampNeg).toInt) (hd : x < 48 ∨ 57 < x) : zIni f n p none := by
  have s := zMl_s hm (v := 45) (by decide) (by unfold zTok; omega)
  obtain ⟨e', he⟩ := zRe_x (f := f) (n := n) _ (p + 1) (by omega) rfl
  refine ⟨p + 1, e', Or.inl ⟨s.1.mp hs, rfl⟩, he, Or.inr ⟨fun y => ?_, rfl⟩⟩
  have y1 := y.1
  have y2 := y.2.2 (p + 1).toNat (by omega) (by omega)
  have y3 := he.2.2.2
  have q : D.toNatClampNeg = D.toInt.toNat := rfl
  have hx := hx (by omega)
  rw [q, e] at hx
  omega
theorem zxQ_q (hq : zxQ f n p mi q h b) : ((zSc f n p 45 ∧ q = p + 1) ∨ (¬ zSc f n p 45 ∧ q = p)) := by
  rcases hq.1 with y | y
  · exact Or.inl ⟨y.1, y.2.1⟩
  · exact Or.inr ⟨y.1, y.2.1⟩
theorem zxI_b (hq : zxQ f n p mi q h b) (hp : 0 ≤ q) (hh : h ≠ 1) : zIni f n p none := by
  obtain ⟨e, he⟩ := zRe_x (f := f) (n := n) _ q hp rfl
  have e0 := zRe_0 he hp (zMl_t hq.2 hh)
  exact ⟨q, e, zxQ_q hq, he, Or.inr ⟨zDgs_0 (by omega), rfl⟩⟩
theorem zxI_c (hq : zxQ f n p mi q h b) (hh : h = 1) (hl : 9 < b - q) : zIni f n p none := ⟨q, b, zxQ_q hq, (zMl_1 hq.2 hh).2.2, Or.inr ⟨fun y => by have := y.2.1; omega, rfl⟩⟩
theorem zxI_d {K z : Int32} (hq : zxQ f n p mi q h b) (hh : h = 1) (hp : 0 ≤ q) (h1 : q ≤ K.toInt) (h2 : K.toInt < b) (e : z = f K.toNatClampNeg) (hd : z.toInt < 48 ∨ 57 < z.toInt) : zIni f n p none := ⟨q, b, zxQ_q hq, (zMl_1 hq.2 hh).2.2, Or.inr ⟨fun y => by
  have q2 : K.toNatClampNeg = K.toInt.toNat := rfl
  have y1 := y.2.2 K.toNatClampNeg (by omega) (by omega)
  rw [← e] at y1
  omega, rfl⟩⟩
theorem zxI_e (hq : zxQ f n p mi q h b) (hh : h = 1) (hl : b - q ≤ 9) (hv : zDv f q k v) (hk : k = b) (hb : zBl f n b d) (hr : (mi = 1 ∧ r = - v) ∨ (mi = 0 ∧ r = v)) : zIni f n p (some (r, d)) := by
  have hbb := zMl_b hq.2 hh
  subst hk
  have dg : zDgs f q k 9 := ⟨by omega, hl, hv.1⟩
  refine ⟨q, k, zxQ_q hq, (zMl_1 hq.2 hh).2.2, Or.inl ⟨dg, d, hb, ?_⟩⟩
  rw [← hv.2]
  rcases hq.1 with y | y
  · exact Or.inl ⟨y.1, by rw [show r = - v by omega]⟩
  · exact Or.inr ⟨y.1, by rw [show r = v by omega]⟩
def zxW (f : Nat → Int32) (n fr ha be fr' ha' be' r : Int) : Prop := zMl f n fr ha be → zMl f n fr' ha' be' ∧ zIni f n fr (some (r, fr'))
def zxWx (f : Nat → Int32) (n fr ha be : Int) : Prop := zMl f n fr ha be → zIni f n fr none
theorem zxM_x (hl : 40 ≤ lv) : zxX (zMrk f n) f n fr ha be lv qt cn cd := fun _ _ _ _ => Or.inl ⟨hl, rfl⟩
theorem zxM_1 (ha2 : zSg f fr ha 91) (hlv : lv < 40) (k1 : zBl f n be c) (m1 : zMl f n c h1 b1) (hx : zxWx f n c h1 b1) : zxX (zMrk f n) f n fr ha be lv qt cn cd := fun tb hm L hL => by
  have e := (zMl_s hm (v := 91) (by decide) (by unfold zTok; omega)).2 ha2
  subst e
  exact Or.inr ⟨hlv, c, none, k1, hx m1, Or.inl ⟨rfl, rfl⟩⟩
theorem zxM_2 (ha2 : zSg f fr ha 91) (hlv : lv < 40) (k1 : zBl f n be c) (m1 : zMl f n c h1 b1) (hw : zxW f n c h1 b1 d h2 b2 v) (hh : h2 ≠ 3) : zxX (zMrk f n) f n fr ha be lv qt cn cd := fun tb hm L hL => by
  have e := (zMl_s hm (v := 91) (by decide) (by unfold zTok; omega)).2 ha2
  subst e
  obtain ⟨w1, w2⟩ := hw m1
  exact Or.inr ⟨hlv, c, _, k1, w2, Or.inr ⟨v, d, rfl, Or.inl ⟨fun y => hh ((zMl_d w1).1.mpr y), rfl⟩⟩⟩
variable {c2 h3 b3 d2 h4 b4 d3 h5 b5 : Int}
def zxV (f : Nat → Int32) (n fr ha be a : Int) : Prop := zMl f n fr ha be → zIni f n fr none ∨ ∃ v d, zIni f n fr (some (v, d)) ∧ v < a
theorem zxM_3 (ha2 : zSg f fr ha 91) (hlv : lv < 40) (k1 : zBl f n be c) (m1 : zMl f n c h1 b1) (hw : zxW f n c h1 b1 d h2 b2 v) (hh : h2 = 3) (k2 : zBl f n b2 c2) (m2 : zMl f n c2 h3 b3) (hx : zxV f n c2 h3 b3 v) : zxX (zMrk f n) f n fr ha be lv qt cn cd := fun tb hm L hL => by
  have e := (zMl_s hm (v := 91) (by decide) (by unfold zTok; omega)).2 ha2
  subst e
  obtain ⟨w1, w2⟩ := hw m1
  have dd := zMl_d w1
  have e2 := dd.2 hh
  subst e2
  refine Or.inr ⟨hlv, c, _, k1, w2, Or.inr ⟨v, d, rfl, Or.inr ⟨dd.1.mp hh, c2, ?_⟩⟩⟩
  rcases hx m2 with y | ⟨v', d', y1, y2⟩
  · exact ⟨none, k2, y, Or.inl ⟨rfl, rfl⟩⟩
  · exact ⟨_, k2, y1, Or.inr ⟨v', d', rfl, Or.inl ⟨fun o => by have := o.1; omega, rfl⟩⟩⟩
theorem zxM_4 (ha2 : zSg f fr ha 91) (hlv : lv < 40) (k1 : zBl f n be c) (m1 : zMl f n c h1 b1) (hw : zxW f n c h1 b1 d h2 b2 v) (hh : h2 = 3) (k2 : zBl f n b2 c2) (m2 : zMl f n c2 h3 b3) (hy : zxW f n c2 h3 b3 d2 h4 b4 w) (hs : ¬ zSg f d2 h4 93) : zxX (zMrk f n) f n fr ha be lv qt cn cd := fun tb hm L hL => by
  have e := (zMl_s hm (v := 91) (by decide) (by unfold zTok; omega)).2 ha2
  subst e
  obtain ⟨w1, w2⟩ := hw m1
  obtain ⟨w3, w4⟩ := hy m2
  have dd := zMl_d w1
  have e2 := dd.2 hh
  subst e2
  exact Or.inr ⟨hlv, c, _, k1, w2, Or.inr ⟨v, d, rfl, Or.inr ⟨dd.1.mp hh, c2, _, k2, w4, Or.inr ⟨w, d2, rfl, Or.inl ⟨fun o => hs ((zMl_s w3 (by decide) (by unfold zTok; omega)).1.mpr o.2), rfl⟩⟩⟩⟩⟩
theorem zxM_5 {l9 : Int} (ha2 : zSg f fr ha 91) (hlv : lv < 40) (hl0 : 0 ≤ lv) (k1 : zBl f n be c) (m1 : zMl f n c h1 b1) (hw : zxW f n c h1 b1 d h2 b2 v) (hh : h2 = 3) (k2 : zBl f n b2 c2) (m2 : zMl f n c2 h3 b3) (hy : zxW f n c2 h3 b3 d2 h4 b4 w) (hvw : v ≤ w) (hs : zSg f d2 h4 93) (k3 : zBl f n b4 d3) (m3 : zMl f n d3 h5 b5) (hN : zxN wh br wh' br' cd cd' m cn cn' k l9) (hl9 : l9 = lv) (hv : k = 4) (hl' : lv' = lv + 1) (hr : r = m) : zxS (zMrk f n) f n fr ha be lv qt cn cd d3 h5 b5 lv' qt cn' cd' (fun pl => pl = true ↔ zHp wh' br' r) := fun tb hm => by
  have e := (zMl_s hm (v := 91) (by decide) (by unfold zTok; omega)).2 ha2
  subst e
  obtain ⟨w1, w2⟩ := hw m1
  obtain ⟨w3, w4⟩ := hy m2
  have dd := zMl_d w1
  have e2 := dd.2 hh
  subst e2
  have s := zMl_s w3 (v := 93) (by decide) (by unfold zTok; omega)
  have e3 := s.2 hs
  subst e3
  subst hl9
  obtain ⟨n1, n2, n3, n4⟩ := hN
  subst hv; subst hl'; subst hr
  refine ⟨m3, fun L hL => ⟨_, false, Or.inr ⟨hlv, c, _, k1, w2, Or.inr ⟨v, d, rfl, Or.inr ⟨dd.1.mp hh, c2, _, k2, w4, Or.inr ⟨w, d2, rfl, Or.inr ⟨⟨hvw, s.1.mp hs⟩, d3, k3, rfl⟩⟩⟩⟩⟩, n4 (by decide) (by decide) (by omega) (by omega) L hL, ?_⟩⟩
  refine ⟨fun y => absurd y (by decide), fun y => ?_⟩
  have y2 := y.2
  omega
def zxF (f : Nat → Int32) (n p k c qt0 qt : Int) : Prop := p ≤ k ∧ k ≤ n ∧ (∀ j : Nat, p ≤ (j : Int) → (j : Int) < k → (f j).toInt ≠ 34) ∧ c = zts f p (k - p).toNat ∧ qt = qt0 + c ∧ (k < n → zTok (f k.toNat).toInt → k = p ∨ ¬ zTok (f (k - 1).toNat).toInt)
variable {qt0 : Int}
theorem zxF_0 (hk : k = p) (hn : p ≤ n) (hc : c = 0) (hq : qt = qt0) : zxF f n p k c qt0 qt := by
  subst hk; subst hc; subst hq
  exact ⟨by omega, hn, fun j a b => by omega, by rw [show (k - k).toNat = 0 from by omega]; rfl, by omega, fun _ _ => Or.inl rfl⟩
theorem zxF_n {K z y : Int32} {k' : Int} (h : zxF f n p K.toInt c qt0 qt) (hp : 0 ≤ p) (hn : K.toInt < n) (e : z = f K.toNatClampNeg) (hz : z.toInt ≠ 34) (e2 : y = f K.toNatClampNeg) (hy : ¬ zTok y.toInt) (hk : k' = K.toInt + 1) : zxF f n p k' c qt0 qt := by
  obtain ⟨h1, h2, h3, h4, h5, h6⟩ := h
  have q : K.toNatClampNeg = K.toInt.toNat := rfl
  subst hk
  have ht : ¬ zTok (f K.toInt.toNat).toInt := by rw [← q, ← e2]; exact hy
  refine ⟨by omega, by omega, fun j a b => ?_, ?_, h5, fun _ _ => Or.inr ?_⟩
  · by_cases d : (j : Int) < K.toInt
    · exact h3 j a d
    · rw [show j = K.toNatClampNeg from by omega, ← e]; exact hz
  · rw [show (K.toInt + 1 - p).toNat = (K.toInt - p).toNat + 1 from by omega, zts_0 (fun z => ?_)]
    · exact h4
    · have z1 := z.1
      rw [show (p + (((K.toInt - p).toNat : Nat) : Int)) = K.toInt from by omega] at z1
      exact ht z1
  · rw [show K.toInt + 1 - 1 = K.toInt from by omega]; exact ht
theorem zts_r {k j : Nat} (h0 : 0 ≤ p) (ha : ∀ i : Nat, k ≤ i → i < k + j → zTok (f (p.toNat + i)).toInt) (hs : k = 0 ∨ ¬ zTok (f (p + k - 1).toNat).toInt) (hj : 0 < j) : zts f p (k + j) = zts f p k + 1 := by
  induction j with
  | zero => omega
  | succ j ih =>
    by_cases c : j = 0
    · subst c
      refine zts_1 ?_ hs
      have q := ha k (by omega) (by omega)
      rw [show (p + (k : Int)).toNat = p.toNat + k from by omega]; exact q
    · have q := ih (fun i a b => ha i a (by omega)) (by omega)
      rw [← Nat.add_assoc, zts_0 (fun z => ?_), q]
      rcases z.2 with z | z
      · omega
      · refine z ?_
        have q := ha (k + j - 1) (by omega) (by omega)
        rw [show (p + ((k + j : Nat) : Int) - 1).toNat = p.toNat + (k + j - 1) from by omega]; exact q
theorem zxF_t {K y : Int32} {k' c' qt' : Int} (h : zxF f n p K.toInt c qt0 qt) (hp : 0 ≤ p) (hn : K.toInt < n) (e2 : y = f K.toNatClampNeg) (hy : zTok y.toInt) (hr : zRe f n K.toInt k') (hk : K.toInt < k') (hc : c' = c + 1) (hq : qt' = qt + 1) : zxF f n p k' c' qt0 qt' := by
  obtain ⟨h1, h2, h3, h4, h5, h6⟩ := h
  have q : K.toNatClampNeg = K.toInt.toNat := rfl
  have ht : zTok (f K.toInt.toNat).toInt := by rw [← q, ← e2]; exact hy
  obtain ⟨r1, r2, r3, r4⟩ := hr
  refine ⟨by omega, by omega, fun j a b => ?_, ?_, by omega, fun a b => absurd b (r3 a)⟩
  · by_cases d : (j : Int) < K.toInt
    · exact h3 j a d
    · intro z
      have z1 := r2 j (by omega) b
      rw [z] at z1
      exact absurd z1 (by unfold zTok; omega)
  · have e := zts_r (f := f) (p := p) (k := (K.toInt - p).toNat) (j := (k' - K.toInt).toNat) hp (fun i a b => by
      have z1 := r2 (p.toNat + i) (by omega) (by omega)
      exact z1) (by
      rcases h6 hn ht with z | z
      · exact Or.inl (by omega)
      · refine Or.inr ?_
        rw [show p + (((K.toInt - p).toNat : Nat) : Int) - 1 = K.toInt - 1 from by omega]; exact z) (by omega)
    rw [show (K.toInt - p).toNat + (k' - K.toInt).toNat = (k' - p).toNat from by omega] at e
    omega
theorem zxP_x (hl : 40 ≤ lv) : zxX (zPhr f n) f n fr ha be lv qt cn cd := fun _ _ _ _ => Or.inl ⟨hl, rfl⟩
theorem zxP_1 {K y : Int32} (ha2 : zSg f fr ha 34) (hlv : lv < 40) (hf0 : 0 ≤ fr) (h : zxF f n be K.toInt c qt qt') (hn : K.toInt < n) (e2 : y = f K.toNatClampNeg) (hy : zTok y.toInt) (hq : qt' = 160) : zxX (zPhr f n) f n fr ha be lv qt cn cd := fun tb hm L hL => by
  have e := (zMl_s hm (v := 34) (by decide) (by unfold zTok; omega)).2 ha2
  subst e
  obtain ⟨h1, h2, h3, h4, h5, h6⟩ := h
  have q : K.toNatClampNeg = K.toInt.toNat := rfl
  have ht : zTok (f K.toInt.toNat).toInt := by rw [← q, ← e2]; exact hy
  refine Or.inr ⟨hlv, ?_⟩
  by_cases c : ∃ c, zQc f n (fr + 1) c
  · obtain ⟨c, hc⟩ := c
    refine Or.inl ⟨c, hc, Or.inr ?_, rfl⟩
    obtain ⟨c1, c2, c3, c4⟩ := hc
    have c5 : K.toInt < c := by
      rcases Int.lt_trichotomy K.toInt c with d | d | d
      · exact d
      · rw [d, c3] at ht
        exact absurd ht (by unfold zTok; omega)
      · exact absurd c3 (h3 c.toNat (by omega) (by omega))
    have m1 := zts_1 (f := f) (p := fr + 1) (k := (K.toInt - (fr + 1)).toNat) (by
      rw [show fr + 1 + (((K.toInt - (fr + 1)).toNat : Nat) : Int) = K.toInt from by omega]; exact ht) (by
      rcases h6 hn ht with z | z
      · exact Or.inl (by omega)
      · refine Or.inr ?_
        rw [show fr + 1 + (((K.toInt - (fr + 1)).toNat : Nat) : Int) - 1 = K.toInt - 1 from by omega]; exact z)
    have m := zts_m (f := f) (p := fr + 1) (k := (K.toInt - (fr + 1)).toNat + 1) (j := (c - (K.toInt + 1)).toNat)
    rw [show (K.toInt - (fr + 1)).toNat + 1 + (c - (K.toInt + 1)).toNat = (c - (fr + 1)).toNat from by omega] at m
    omega
  · exact Or.inr (Or.inr ⟨fun d hd => c ⟨d, hd⟩, rfl⟩)
theorem zxP_2 (ha2 : zSg f fr ha 34) (hlv : lv < 40) (hf0 : 0 ≤ fr) (h : zxF f n be k c qt qt') (hn : k = n) : zxX (zPhr f n) f n fr ha be lv qt cn cd := fun tb hm L hL => by
  have e := (zMl_s hm (v := 34) (by decide) (by unfold zTok; omega)).2 ha2
  subst e
  obtain ⟨h1, h2, h3, h4, h5, h6⟩ := h
  refine Or.inr ⟨hlv, Or.inr (Or.inr ⟨fun d hd => ?_, rfl⟩)⟩
  exact h3 d.toNat (by have := hd.1; omega) (by have := hd.2.1; have := hd.1; omega) hd.2.2.1
theorem zxP_3 (ha2 : zSg f fr ha 34) (hlv : lv < 40) (hf0 : 0 ≤ fr) (h : zxF f n be k c qt qt') (hn : k < n) (hq : (f k.toNat).toInt = 34) (hc : c = 0) : zxX (zPhr f n) f n fr ha be lv qt cn cd := fun tb hm L hL => by
  have e := (zMl_s hm (v := 34) (by decide) (by unfold zTok; omega)).2 ha2
  subst e
  obtain ⟨h1, h2, h3, h4, h5, h6⟩ := h
  exact Or.inr ⟨hlv, Or.inl ⟨k, ⟨h1, hn, hq, h3⟩, Or.inl (by omega), rfl⟩⟩
theorem zxP_4 {l9 : Int} {B1 : Int} (ha2 : zSg f fr ha 34) (hlv : lv < 40) (hl0 : 0 ≤ lv) (hf0 : 0 ≤ fr) (h : zxF f n be k c qt qt') (hn : k < n) (hq : (f k.toNat).toInt = 34) (hc : c ≠ 0) (h16 : qt' ≤ 160) (hB : B1 = k + 1) (k1 : zBl f n B1 d) (m1 : zMl f n d h1 b1) (hN : zxN wh br wh' br' cd cd' m cn cn' v l9) (hl9 : l9 = lv) (hv : v = 3) (hl' : lv' = lv + 1) (hr : r = m) : zxS (zPhr f n) f n fr ha be lv qt cn cd d h1 b1 lv' qt' cn' cd' (fun pl => pl = true ↔ zHp wh' br' r) := fun tb hm => by
  have e := (zMl_s hm (v := 34) (by decide) (by unfold zTok; omega)).2 ha2
  subst e; subst hB
  obtain ⟨h1, h2, h3, h4, h5, h6⟩ := h
  subst hl9
  obtain ⟨n1, n2, n3, n4⟩ := hN
  subst hv; subst hl'; subst hr
  refine ⟨m1, fun L hL => ⟨_, true, Or.inr ⟨hlv, Or.inr (Or.inl ⟨k, d, ⟨h1, hn, hq, h3⟩, fun o => by rcases o with o | o <;> omega, k1, ?_⟩)⟩, n4 (by decide) (by decide) (by omega) (by omega) L hL, fun _ => ⟨n3, by omega⟩, fun _ => rfl⟩⟩
  rw [h5, h4]
  rfl
end ZX
section ZU
variable {f : Nat → Int32} {n fr ha be lv qt cn fr' ha' be' lv' qt' cn' c h1 b1 d h2 b2 m r v w k p q : Int} {cd cd' wh br wh' br' : Nat → Int32} {R R' : zRl_} {P Q : Bool → Prop} {ok : Prop} {B : zRl_}
theorem zxB_m (h : zxS (zMrk f n) f n fr ha be lv qt cn cd fr' ha' be' lv' qt' cn' cd' P) (hs : zSg f fr ha 91) : zxS (zBar f n ok B) f n fr ha be lv qt cn cd fr' ha' be' lv' qt' cn' cd' P :=
  zxS_r h (fun _ hm L r y => Or.inr ⟨fun z => by have a := (zMl_s hm (v := 40) (by decide) (by unfold zTok; omega)).1.mpr z; have := a.2; have := hs.2; omega, Or.inl ⟨(zMl_s hm (by decide) (by unfold zTok; omega)).1.mp hs, y⟩⟩)
theorem zxB_mx (h : zxX (zMrk f n) f n fr ha be lv qt cn cd) (hs : zSg f fr ha 91) : zxX (zBar f n ok B) f n fr ha be lv qt cn cd :=
  zxX_r h (fun _ hm L r y => Or.inr ⟨fun z => by have a := (zMl_s hm (v := 40) (by decide) (by unfold zTok; omega)).1.mpr z; have := a.2; have := hs.2; omega, Or.inl ⟨(zMl_s hm (by decide) (by unfold zTok; omega)).1.mp hs, y⟩⟩)
theorem zxB_p (h : zxS (zPhr f n) f n fr ha be lv qt cn cd fr' ha' be' lv' qt' cn' cd' P) (hs : zSg f fr ha 34) : zxS (zBar f n ok B) f n fr ha be lv qt cn cd fr' ha' be' lv' qt' cn' cd' P :=
  zxS_r h (fun _ hm L r y => Or.inr ⟨fun z => by have a := (zMl_s hm (v := 40) (by decide) (by unfold zTok; omega)).1.mpr z; have := a.2; have := hs.2; omega, Or.inr ⟨fun z => by have a := (zMl_s hm (v := 91) (by decide) (by unfold zTok; omega)).1.mpr z; have := a.2; have := hs.2; omega, Or.inl ⟨(zMl_s hm (by decide) (by unfold zTok; omega)).1.mp hs, y⟩⟩⟩)
theorem zxB_px (h : zxX (zPhr f n) f n fr ha be lv qt cn cd) (hs : zSg f fr ha 34) : zxX (zBar f n ok B) f n fr ha be lv qt cn cd :=
  zxX_r h (fun _ hm L r y => Or.inr ⟨fun z => by have a := (zMl_s hm (v := 40) (by decide) (by unfold zTok; omega)).1.mpr z; have := a.2; have := hs.2; omega, Or.inr ⟨fun z => by have a := (zMl_s hm (v := 91) (by decide) (by unfold zTok; omega)).1.mpr z; have := a.2; have := hs.2; omega, Or.inl ⟨(zMl_s hm (by decide) (by unfold zTok; omega)).1.mp hs, y⟩⟩⟩)
theorem zMl_n {v : Int} (hm : zMl f n fr ha be) (hh : ¬ zSg f fr ha v) (hv : v ≠ 46) (ht : ¬ zTok v) : ¬ zSc f n fr v := fun y => hh ((zMl_s hm hv ht).1.mpr y)
theorem zxB_t (hp : 0 ≤ fr) (hfl : ¬ zFl f n fr) (h : zxS (zTkn f n) f n fr ha be lv qt cn cd fr' ha' be' lv' qt' cn' cd' P) (s1 : ¬ zSg f fr ha 40) (s2 : ¬ zSg f fr ha 91) (s3 : ¬ zSg f fr ha 34) (h1 : ha = 1) (hb : zBg f fr ha be) (hn : ¬ (ha = 1 ∧ zSpm f fr be 9 3)) : zxS (zBar f n ok B) f n fr ha be lv qt cn cd fr' ha' be' lv' qt' cn' cd' P :=
  zxS_r h (fun _ hm L r y => by
    have hb : ha = 1 ∧ ¬ zSpm f fr be 7 2 ∧ ¬ zSpm f fr be 8 3 ∧ ¬ zSpm f fr be 10 4 := by
      rcases hb with z | z | z | z
      · exact z
      · exact absurd z s1
      · exact absurd z s2
      · exact absurd z s3
    exact Or.inr ⟨zMl_n hm s1 (by decide) (by unfold zTok; omega), Or.inr ⟨zMl_n hm s2 (by decide) (by unfold zTok; omega), Or.inr ⟨zMl_n hm s3 (by decide) (by unfold zTok; omega), Or.inl ⟨⟨be, zm_tk hp hm h1 hb.2.1 hb.2.2.1 hb.2.2.2 hn hfl⟩, y⟩⟩⟩⟩)
theorem zxB_tx (hp : 0 ≤ fr) (hfl : ¬ zFl f n fr) (h : zxX (zTkn f n) f n fr ha be lv qt cn cd) (s1 : ¬ zSg f fr ha 40) (s2 : ¬ zSg f fr ha 91) (s3 : ¬ zSg f fr ha 34) (h1 : ha = 1) (hb : zBg f fr ha be) (hn : ¬ (ha = 1 ∧ zSpm f fr be 9 3)) : zxX (zBar f n ok B) f n fr ha be lv qt cn cd :=
  zxX_r h (fun _ hm L r y => by
    have hb : ha = 1 ∧ ¬ zSpm f fr be 7 2 ∧ ¬ zSpm f fr be 8 3 ∧ ¬ zSpm f fr be 10 4 := by
      rcases hb with z | z | z | z
      · exact z
      · exact absurd z s1
      · exact absurd z s2
      · exact absurd z s3
    exact Or.inr ⟨zMl_n hm s1 (by decide) (by unfold zTok; omega), Or.inr ⟨zMl_n hm s2 (by decide) (by unfold zTok; omega), Or.inr ⟨zMl_n hm s3 (by decide) (by unfold zTok; omega), Or.inl ⟨⟨be, zm_tk hp hm h1 hb.2.1 hb.2.2.1 hb.2.2.2 hn hfl⟩, y⟩⟩⟩⟩)
theorem zxB_n (hp : 0 ≤ fr) (s1 : ¬ zSg f fr ha 40) (s2 : ¬ zSg f fr ha 91) (s3 : ¬ zSg f fr ha 34) (hx : ha ≠ 1 ∨ ¬ zBg f fr ha be ∨ (ha = 1 ∧ zSpm f fr be 9 3)) : zxX (zBar f n ok B) f n fr ha be lv qt cn cd := fun tb hm L hL => by
  refine Or.inr ⟨zMl_n hm s1 (by decide) (by unfold zTok; omega), Or.inr ⟨zMl_n hm s2 (by decide) (by unfold zTok; omega), Or.inr ⟨zMl_n hm s3 (by decide) (by unfold zTok; omega), Or.inr ⟨zm_nt hp hm ?_, rfl⟩⟩⟩⟩
  rcases hx with hx | hx | hx
  · exact Or.inl (fun y => hx y.1)
  · exact Or.inl (fun y => hx (Or.inl y))
  · exact Or.inr hx
theorem zxB_g0 (hs : zSg f fr ha 40) (hok : ¬ ok) : zxX (zBar f n ok B) f n fr ha be lv qt cn cd := fun tb hm L hL => Or.inl ⟨(zMl_s hm (by decide) (by unfold zTok; omega)).1.mp hs, Or.inl ⟨hok, rfl⟩⟩
theorem zxB_g1 (hs : zSg f fr ha 40) (hok : ok) (k1 : zBl f n be c) (m1 : zMl f n c h1 b1) (hx : zxX B f n c h1 b1 lv qt cn cd) : zxX (zBar f n ok B) f n fr ha be lv qt cn cd := fun tb hm L hL => by
  have s := zMl_s hm (v := 40) (by decide) (by unfold zTok; omega)
  have e := s.2 hs
  subst e
  exact Or.inl ⟨s.1.mp hs, Or.inr ⟨hok, c, none, k1, hx tb m1 L hL, Or.inl ⟨rfl, rfl⟩⟩⟩
theorem zxB_g2 (hs : zSg f fr ha 40) (hok : ok) (k1 : zBl f n be c) (m1 : zMl f n c h1 b1) (hq : zxS B f n c h1 b1 lv qt cn cd d h2 b2 lv' qt' cn' cd' P) (hn : ¬ zSg f d h2 41) : zxX (zBar f n ok B) f n fr ha be lv qt cn cd := fun tb hm L hL => by
  have s := zMl_s hm (v := 40) (by decide) (by unfold zTok; omega)
  have e := s.2 hs
  subst e
  obtain ⟨a, b⟩ := hq tb m1
  obtain ⟨K, pl, x, y, z⟩ := b L hL
  exact Or.inl ⟨s.1.mp hs, Or.inr ⟨hok, c, _, k1, x, Or.inr ⟨_, _, _, _, _, rfl, Or.inl ⟨zMl_n a hn (by decide) (by unfold zTok; omega), rfl⟩⟩⟩⟩
theorem zxB_g3 {d3 h3 b3 : Int} (hs : zSg f fr ha 40) (hok : ok) (k1 : zBl f n be c) (m1 : zMl f n c h1 b1) (hq : zxS B f n c h1 b1 lv qt cn cd d h2 b2 lv' qt' cn' cd' P) (hn : zSg f d h2 41) (k2 : zBl f n b2 d3) (m2 : zMl f n d3 h3 b3) (hb : (br' r.toNat).toInt ≠ 0) : zxS (zBar f n ok B) f n fr ha be lv qt cn cd d3 h3 b3 lv' qt' cn' cd' (fun pl => pl = true ↔ zHp wh' br' r) := fun tb hm => by
  have s := zMl_s hm (v := 40) (by decide) (by unfold zTok; omega)
  have e := s.2 hs
  subst e
  obtain ⟨a, b⟩ := hq tb m1
  have s2 := zMl_s a (v := 41) (by decide) (by unfold zTok; omega)
  have e2 := s2.2 hn
  subst e2
  refine ⟨m2, fun L hL => ?_⟩
  obtain ⟨K, pl, x, y, z⟩ := b L hL
  exact ⟨K, false, Or.inl ⟨s.1.mp hs, Or.inr ⟨hok, c, _, k1, x, Or.inr ⟨_, _, _, _, _, rfl, Or.inr ⟨s2.1.mp hn, d3, k2, rfl⟩⟩⟩⟩, y, fun o => absurd o (by decide), fun o => absurd o.1 hb⟩
def zxK (g : Nat → Int32) (b k : Int) (M : List Int) : Prop := M.length = k.toNat ∧ ∀ i : Nat, (i : Int) < k → M.getD i 0 = 1000 * (g (b + k - 1 - i).toNat).toInt
theorem zxK_0 {g : Nat → Int32} {b : Int} (hk : k = 0) : zxK g b k [] := by subst hk; exact ⟨rfl, fun i hi => by omega⟩
theorem zxK_s {g g' : Nat → Int32} {b k k' : Int} {M : List Int} {I K : Int32} (h : zxK g b k M) (e : g' = upd g I.toNatClampNeg K) (hI : I.toInt = b + k) (hb : 0 ≤ b) (hk : 0 ≤ k) (hk' : k' = k + 1) (hv : v = 1000 * K.toInt) : zxK g' b k' (v :: M) := by
  subst hk'
  have q : I.toNatClampNeg = (b + k).toNat := by have q : I.toNatClampNeg = I.toInt.toNat := rfl; omega
  refine ⟨by rw [List.length_cons, h.1]; omega, fun i hi => ?_⟩
  cases i with
  | zero =>
    show v = _
    rw [e, show (b + (k + 1) - 1 - ((0 : Nat) : Int)).toNat = I.toNatClampNeg from by omega, pk_us]
    exact hv
  | succ i =>
    show M.getD i 0 = _
    rw [h.2 i (by omega), e, pk_un (by omega), show (b + (k + 1) - 1 - ((i + 1 : Nat) : Int)).toNat = (b + k - 1 - (i : Int)).toNat from by omega]
theorem zxK_e {g g' : Nat → Int32} {b b' k : Int} {M : List Int} (h : zxK g b k M) (he : zEq g g' b') (hb : 0 ≤ b) (hk : b + k ≤ b') : zxK g' b k M := ⟨h.1, fun i hi => by rw [h.2 i hi, he (b + k - 1 - i).toNat (by omega)]⟩
def zxL (f : Nat → Int32) (n fr ha be : Int) (g : Nat → Int32) (b k fr' ha' be' : Int) : Prop := zMl f n fr ha be → zMl f n fr' ha' be' ∧ ∃ M, zFs f n k.toNat fr fr' M ∧ zxK g b k M
theorem zxL_0 {g : Nat → Int32} {b : Int} (hk : k = 0) : zxL f n fr ha be g b k fr ha be := fun hm => by
  refine ⟨hm, [], ?_, zxK_0 hk⟩
  subst hk
  exact ⟨rfl, rfl⟩
theorem zxL_s {g g' : Nat → Int32} {b k' : Int} {I K : Int32} (h : zxL f n fr ha be g b k p q r) (hp : 0 ≤ p) (hy : zIf f n p q r) (k1 : zBl f n r c) (m1 : zMl f n c h1 b1) (k2 : zBl f n b1 d) (m2 : zMl f n d h2 b2) (e : g' = upd g I.toNatClampNeg K) (hI : I.toInt = b + k) (hb : 0 ≤ b) (hk : 0 ≤ k) (hk' : k' = k + 1) (hK : (r - p = 5 ∧ K.toInt = 6) ∨ (r - p ≠ 5 ∧ K.toInt = 7)) : zxL f n fr ha be g' b k' d h2 b2 := fun hm => by
  obtain ⟨a, M, x, y⟩ := h hm
  have z := (zm_fs hp a hy k1 m1).2
  refine ⟨m2, (if (if r - p = 5 then (262 : Int) else 263) = 262 then 6000 else 7000) :: M, ?_, zxK_s y e hI hb hk hk' ?_⟩
  · rw [show k'.toNat = k.toNat + 1 from by omega]
    refine zFs_s x z ?_ k2
    split
    · exact Or.inl rfl
    · exact Or.inr rfl
  · rcases hK with hK | hK
    · rw [if_pos hK.1, if_pos rfl, hK.2]; rfl
    · rw [if_neg hK.1, if_neg (by decide), hK.2]; rfl
theorem zxL_e {g g' : Nat → Int32} {b b' : Int} (h : zxL f n fr ha be g b k p q r) (he : zEq g g' b') (hb : 0 ≤ b) (hk : b + k ≤ b') : zxL f n fr ha be g' b k p q r := fun hm => by
  obtain ⟨a, M, x, y⟩ := h hm
  exact ⟨a, M, x, zxK_e y he hb hk⟩
theorem zxU_x {g : Nat → Int32} {b : Int} (h : zxL f n fr ha be g b k p q r) (hp : 0 ≤ p) (hk : k = 12) (hy : zIf f n p q r) : zxX (zUni f n ok B) f n fr ha be lv qt cn cd := fun tb hm L hL => by
  obtain ⟨a, M, x, y⟩ := h hm
  subst hk
  exact ⟨12, p, M, x, Or.inl ⟨rfl, (zm_fl hp a).mp hy, rfl⟩⟩
theorem zxU_b {g : Nat → Int32} {b : Int} (h : zxL f n fr ha be g b k p q r) (hp : 0 ≤ p) (hk : k ≤ 12) (hy : ¬ zIf f n p q r) (hx : ¬ zFl f n p → zxX (zBar f n ok B) f n p q r lv qt cn cd) : zxX (zUni f n ok B) f n fr ha be lv qt cn cd := fun tb hm L hL => by
  obtain ⟨a, M, x, y⟩ := h hm
  have nf : ¬ zFl f n p := fun z => hy ((zm_fl hp a).mpr z)
  exact ⟨k.toNat, p, M, x, Or.inr ⟨by omega, nf, none, hx nf tb a L hL, Or.inl ⟨rfl, rfl⟩⟩⟩
def zxU (f : Nat → Int32) (n : Int) (ok : Prop) (B : zRl_) (fr ha be lv qt cn : Int) (cd g : Nat → Int32) (b k fr' ha' be' lv' qt' cn' : Int) (cd' wh br : Nat → Int32) (j r : Int) : Prop := zTy f n → zMl f n fr ha be → zMl f n fr' ha' be' ∧ ∀ L : List Int, zCd cd cn L → ∃ M K pl x, zFs f n k.toNat fr x M ∧ ¬ zFl f n x ∧ zxK g b k M ∧ zBar f n ok B x lv qt L (some (fr', lv', qt', K, pl)) ∧ zCd cd' cn' (K ++ M.take (k - 1 - j).toNat) ∧ ((j = k - 1 ∧ (pl = true ↔ zHp wh br r)) ∨ (j < k - 1 ∧ pl = true ∧ zHp wh br r))
theorem zxU_0 {g g' : Nat → Int32} {b b' j : Int} (h : zxL f n fr ha be g b k p q r) (hp : 0 ≤ p) (hy : ¬ zIf f n p q r) (hb : ¬ zFl f n p → zxS (zBar f n ok B) f n p q r lv qt cn cd fr' ha' be' lv' qt' cn' cd' (fun pl => pl = true ↔ zHp wh br w)) (he : zEq g g' b') (hb0 : 0 ≤ b) (hk : b + k ≤ b') (hj : j = k - 1) : zxU f n ok B fr ha be lv qt cn cd g' b k fr' ha' be' lv' qt' cn' cd' wh br j w := fun tb hm => by
  obtain ⟨a, M, x, y⟩ := h hm
  have nf : ¬ zFl f n p := fun z => hy ((zm_fl hp a).mpr z)
  obtain ⟨s1, s2⟩ := hb nf tb a
  refine ⟨s1, fun L hL => ?_⟩
  obtain ⟨K, pl, z1, z2, z3⟩ := s2 L hL
  refine ⟨M, K, pl, p, x, nf, zxK_e y he hb0 hk, z1, ?_, Or.inl ⟨hj, z3⟩⟩
  rw [show (k - 1 - j).toNat = 0 from by omega, List.take_zero, List.append_nil]
  exact z2
theorem zxU_k {g : Nat → Int32} {b j : Int} (h : zxU f n ok B fr ha be lv qt cn cd g b k fr' ha' be' lv' qt' cn' cd' wh br j r) (hk : k ≤ 12) (hj : 0 ≤ j) (hn : ¬ zHp wh br r) : zxX (zUni f n ok B) f n fr ha be lv qt cn cd := fun tb hm L hL => by
  obtain ⟨a, s⟩ := h tb hm
  obtain ⟨M, K, pl, x, s1, s2, s3, s4, s5, s6⟩ := s L hL
  rcases s6 with ⟨z1, z2⟩ | ⟨z1, z2, z3⟩
  · have z3 : pl = false := by
      cases pl with
      | true => exact absurd (z2.mp rfl) hn
      | false => rfl
    exact ⟨k.toNat, x, M, s1, Or.inr ⟨by omega, s2, _, s4, Or.inr ⟨_, _, _, _, _, rfl, Or.inl ⟨⟨by omega, z3⟩, rfl⟩⟩⟩⟩
  · exact absurd z3 hn
theorem zxU_s {g : Nat → Int32} {b j j' cn2 r' l0 : Int} {cd2 wh2 br2 : Nat → Int32} {I K0 : Int32} (h : zxU f n ok B fr ha be lv qt cn cd g b k fr' ha' be' lv' qt' cn' cd' wh br j r) (hj : 0 ≤ j) (hp : zHp wh br r) (hb : 0 ≤ b) (e : K0 = g I.toNatClampNeg) (hI : I.toInt = b + j) (h67 : K0.toInt = 6 ∨ K0.toInt = 7) (hN : zxN wh br wh2 br2 cd' cd2 m cn' cn2 K0.toInt l0) (hl0 : l0 = 0) (hr : r' = m) (hj' : j' = j - 1) (hjk : j < k) : zxU f n ok B fr ha be lv qt cn cd g b k fr' ha' be' lv' qt' cn2 cd2 wh2 br2 j' r' := fun tb hm => by
  obtain ⟨a, s⟩ := h tb hm
  obtain ⟨n1, n2, n3, n4⟩ := hN
  subst hr; subst hl0
  refine ⟨a, fun L hL => ?_⟩
  obtain ⟨M, K, pl, x, s1, s2, s3, s4, s5, s6⟩ := s L hL
  have q : I.toNatClampNeg = I.toInt.toNat := rfl
  have y1 := s3.1
  have y2 := s3.2 (k - 1 - j).toNat (by omega)
  have y3 := n4 (by omega) (by omega) (by decide) (by decide) _ s5
  refine ⟨M, K, pl, x, s1, s2, s3, s4, ?_, Or.inr ⟨by omega, ?_, n3, by omega⟩⟩
  · rw [show (k - 1 - j').toNat = (k - 1 - j).toNat + 1 from by omega, ztk (by omega), y2, ← List.append_assoc]
    rw [show (b + k - 1 - (((k - 1 - j).toNat : Nat) : Int)).toNat = I.toNatClampNeg from by omega, ← e]
    rw [show 1000 * K0.toInt + 0 = 1000 * K0.toInt from by omega] at y3
    exact y3
  · rcases s6 with z | z
    · exact z.2.mpr hp
    · exact z.2.1
theorem zxU_e {g : Nat → Int32} {b j : Int} (h : zxU f n ok B fr ha be lv qt cn cd g b k fr' ha' be' lv' qt' cn' cd' wh br j r) (hk : k ≤ 12) (hk0 : 0 ≤ k) (hj : j < 0) : zxS (zUni f n ok B) f n fr ha be lv qt cn cd fr' ha' be' lv' qt' cn' cd' (fun pl => pl = true ↔ zHp wh br r) := fun tb hm => by
  obtain ⟨a, s⟩ := h tb hm
  refine ⟨a, fun L hL => ?_⟩
  obtain ⟨M, K, pl, x, s1, s2, s3, s4, s5, s6⟩ := s L hL
  rw [List.take_of_length_le (by have := s3.1; omega)] at s5
  refine ⟨K ++ M, pl, ⟨k.toNat, x, M, s1, Or.inr ⟨by omega, s2, _, s4, Or.inr ⟨_, _, _, _, _, rfl, Or.inr ⟨fun o => ?_, rfl⟩⟩⟩⟩, s5, ?_⟩
  · rcases s6 with z | z
    · omega
    · rw [z.2.1] at o
      exact absurd o.2 (by decide)
  · rcases s6 with z | z
    · exact z.2
    · exact ⟨fun _ => z.2.2, fun _ => z.2.1⟩
def zxA (f : Nat → Int32) (n p h b : Int) (v : Int) (k : Int) : Prop := h = 1 ∧ b - p ≤ 3 ∧ zDv f p k v
theorem zyA_a (hp : 0 ≤ p) (hm : zMl f n p h1 b1) (hh : h1 ≠ 1) : zyA f n p none := by
  obtain ⟨e, he⟩ := zRe_x (f := f) (n := n) _ p hp rfl
  have e0 := zRe_0 he hp (zMl_t hm hh)
  exact ⟨e, he, Or.inl ⟨fun y => zDgs_0 (by omega) y.1, rfl⟩⟩
theorem zyA_b (hm : zMl f n p h1 b1) (hh : h1 = 1) (hl : 3 < b1 - p) : zyA f n p none := ⟨b1, (zMl_1 hm hh).2.2, Or.inl ⟨fun y => by have := y.1.2.1; omega, rfl⟩⟩
theorem zyA_c {K z : Int32} (hm : zMl f n p h1 b1) (hh : h1 = 1) (h2 : p ≤ K.toInt) (h0 : 0 ≤ p) (h3 : K.toInt < b1) (e : z = f K.toNatClampNeg) (hd : z.toInt < 48 ∨ 57 < z.toInt) : zyA f n p none := ⟨b1, (zMl_1 hm hh).2.2, Or.inl ⟨fun y => by
  have q2 : K.toNatClampNeg = K.toInt.toNat := rfl
  have y1 := y.1.2.2 K.toNatClampNeg (by omega) (by omega)
  rw [← e] at y1
  omega, rfl⟩⟩
theorem zyA_d (hm : zMl f n p h1 b1) (hh : h1 = 1) (hv : zDv f p k v) (hk : k = b1) (hr : v < 1 ∨ 200 < v) : zyA f n p none := by
  subst hk
  refine ⟨k, (zMl_1 hm hh).2.2, Or.inl ⟨fun y => ?_, rfl⟩⟩
  have y1 := hv.2
  have y2 := y.2
  omega
theorem zyA_e (hm : zMl f n p h1 b1) (hh : h1 = 1) (hl : b1 - p ≤ 3) (hv : zDv f p k v) (hk : k = b1) (hr : 1 ≤ v ∧ v ≤ 200) (hb : zBl f n b1 d) : zyA f n p (some (v, d)) := by
  subst hk
  have hb2 := zMl_b hm hh
  have y1 := hv.2
  exact ⟨k, (zMl_1 hm hh).2.2, Or.inr ⟨⟨⟨by omega, hl, hv.1⟩, by omega, by omega⟩, d, hb, by rw [y1]⟩⟩
theorem zxE_a (h : zxS (zUni f n ok B) f n fr ha be lv qt cn cd fr' ha' be' lv' qt' cn' cd' P) (hp : 0 ≤ fr') (hs : ¬ (ha' = 1 ∧ zSpm f fr' be' 10 4)) : zxS (zNea f n ok B) f n fr ha be lv qt cn cd fr' ha' be' lv' qt' cn' cd' (fun pl => pl = false) := fun tb hm => by
  obtain ⟨a, b⟩ := h tb hm
  refine ⟨a, fun L hL => ?_⟩
  obtain ⟨K, pl, x, y, z⟩ := b L hL
  exact ⟨K, false, ⟨_, x, Or.inr ⟨_, _, _, _, _, rfl, Or.inl ⟨fun o => hs ((zm_near hp a).1.mpr o), rfl⟩⟩⟩, y, rfl⟩
theorem zxE_x (h : zxX (zUni f n ok B) f n fr ha be lv qt cn cd) : zxX (zNea f n ok B) f n fr ha be lv qt cn cd := fun tb hm L hL => ⟨none, h tb hm L hL, Or.inl ⟨rfl, rfl⟩⟩
theorem zxE_b (h : zxS (zUni f n ok B) f n fr ha be lv qt cn cd fr' ha' be' lv' qt' cn' cd' P) (hp : 0 ≤ fr') (hs : ha' = 1 ∧ zSpm f fr' be' 10 4) (k1 : zBl f n be' c) (hA : zyA f n c none) : zxX (zNea f n ok B) f n fr ha be lv qt cn cd := fun tb hm L hL => by
  obtain ⟨a, b⟩ := h tb hm
  obtain ⟨K, pl, x, y, z⟩ := b L hL
  obtain ⟨e, z1, z2⟩ := hA
  rcases z2 with z2 | ⟨_, _, _, z2⟩
  · exact ⟨_, x, Or.inr ⟨_, _, _, _, _, rfl, Or.inr ⟨be', c, e, (zm_near hp a).2 hs, k1, z1, Or.inl ⟨z2.1, rfl⟩⟩⟩⟩
  · cases z2
variable {l4 t4 n4 d4 h4 b4 : Int} {c4 wh4 br4 : Nat → Int32}
theorem zxE_c (h : zxS (zUni f n ok B) f n fr ha be lv qt cn cd fr' ha' be' lv' qt' cn' cd' P) (hp : 0 ≤ fr') (hs : ha' = 1 ∧ zSpm f fr' be' 10 4) (k1 : zBl f n be' c) (hA : zyA f n c (some (v, d))) (m2 : zMl f n d h2 b2) (hx : zxX (zUni f n ok B) f n d h2 b2 lv' qt' cn' cd') : zxX (zNea f n ok B) f n fr ha be lv qt cn cd := fun tb hm L hL => by
  obtain ⟨a, b⟩ := h tb hm
  obtain ⟨K, pl, x, y, z⟩ := b L hL
  obtain ⟨e, z1, z2⟩ := hA
  rcases z2 with z2 | ⟨z2, p2, z3, z4⟩
  · cases z2.2
  · cases z4
    exact ⟨_, x, Or.inr ⟨_, _, _, _, _, rfl, Or.inr ⟨be', c, e, (zm_near hp a).2 hs, k1, z1, Or.inr ⟨z2, _, none, z3, hx tb m2 K y, Or.inl ⟨rfl, rfl⟩⟩⟩⟩⟩
theorem zxE_d {r2 : Int} (h : zxS (zUni f n ok B) f n fr ha be lv qt cn cd fr' ha' be' lv' qt' cn' cd' (fun pl => pl = true ↔ zHp wh br r)) (hp : 0 ≤ fr') (hs : ha' = 1 ∧ zSpm f fr' be' 10 4) (k1 : zBl f n be' c) (hA : zyA f n c (some (v, d))) (m2 : zMl f n d h2 b2) (hu : zxS (zUni f n ok B) f n d h2 b2 lv' qt' cn' cd' d4 h4 b4 l4 t4 n4 c4 (fun pl => pl = true ↔ zHp wh4 br4 r2)) (hk : zNk wh br wh4 br4 m) (hr0 : 0 ≤ r) (hr : r < m) (hx : ¬ zHp wh4 br4 r ∨ ¬ zHp wh4 br4 r2) : zxX (zNea f n ok B) f n fr ha be lv qt cn cd := fun tb hm L hL => by
  obtain ⟨a, b⟩ := h tb hm
  obtain ⟨K, pl, x, y, z⟩ := b L hL
  obtain ⟨a2, b2⟩ := hu tb m2
  obtain ⟨K2, pl2, x2, y2, z6⟩ := b2 K y
  obtain ⟨e, z1, z2⟩ := hA
  rcases z2 with z2 | ⟨z2, p2, z3, z4⟩
  · cases z2.2
  · cases z4
    refine ⟨_, x, Or.inr ⟨_, _, _, _, _, rfl, Or.inr ⟨be', c, e, (zm_near hp a).2 hs, k1, z1, Or.inr ⟨z2, _, _, z3, x2, Or.inr ⟨_, _, _, _, _, rfl, Or.inl ⟨fun o => ?_, rfl⟩⟩⟩⟩⟩⟩
    rcases hx with hx | hx
    · exact hx ((zHp_k hk hr0 hr).mpr (z.mp o.1))
    · exact hx (z6.mp o.2)
theorem zxE_e {r2 m2' n5 : Int} {c5 wh5 br5 : Nat → Int32} (h : zxS (zUni f n ok B) f n fr ha be lv qt cn cd fr' ha' be' lv' qt' cn' cd' (fun pl => pl = true ↔ zHp wh br r)) (hp : 0 ≤ fr') (hs : ha' = 1 ∧ zSpm f fr' be' 10 4) (k1 : zBl f n be' c) (hA : zyA f n c (some (v, d))) (m2 : zMl f n d h2 b2) (hu : zxS (zUni f n ok B) f n d h2 b2 lv' qt' cn' cd' d4 h4 b4 l4 t4 n4 c4 (fun pl => pl = true ↔ zHp wh4 br4 r2)) (hk : zNk wh br wh4 br4 m) (hr0 : 0 ≤ r) (hr : r < m) (hx : zHp wh4 br4 r ∧ zHp wh4 br4 r2) (hN : zxN wh4 br4 wh5 br5 c4 c5 m2' n4 n5 w v) (hw : w = 5) (hv : 1 ≤ v ∧ v ≤ 200) : zxS (zNea f n ok B) f n fr ha be lv qt cn cd d4 h4 b4 l4 t4 n5 c5 (fun pl => pl = false) := fun tb hm => by
  obtain ⟨a, b⟩ := h tb hm
  obtain ⟨a2, b2⟩ := hu tb m2
  obtain ⟨_, _, _, n6⟩ := hN
  subst hw
  refine ⟨a2, fun L hL => ?_⟩
  obtain ⟨K, pl, x, y, z⟩ := b L hL
  obtain ⟨K2, pl2, x2, y2, z6⟩ := b2 K y
  obtain ⟨e, z1, z2⟩ := hA
  rcases z2 with z2 | ⟨z2, p2, z3, z4⟩
  · cases z2.2
  · cases z4
    exact ⟨_, false, ⟨_, x, Or.inr ⟨_, _, _, _, _, rfl, Or.inr ⟨be', c, e, (zm_near hp a).2 hs, k1, z1, Or.inr ⟨z2, _, _, z3, x2, Or.inr ⟨_, _, _, _, _, rfl, Or.inr ⟨⟨z.mpr ((zHp_k hk hr0 hr).mp hx.1), z6.mpr hx.2⟩, rfl⟩⟩⟩⟩⟩⟩, n6 (by decide) (by decide) (by omega) (by omega) K2 y2, rfl⟩
def zxH (f : Nat → Int32) (n fr ha be k fr' ha' be' : Int) : Prop := zMl f n fr ha be → zMl f n fr' ha' be' ∧ zNs f n k.toNat fr fr'
theorem zxH_0 (hk : k = 0) : zxH f n fr ha be k fr ha be := fun hm => ⟨hm, by subst hk; rfl⟩
theorem zxH_s {k' : Int} (h : zxH f n fr ha be k p q r) (hp : 0 ≤ p) (hs : q = 1 ∧ zSpm f p r 9 3) (k1 : zBl f n r c) (m1 : zMl f n c h1 b1) (hk0 : 0 ≤ k) (hk : k' = k + 1) : zxH f n fr ha be k' c h1 b1 := fun hm => by
  obtain ⟨a, b⟩ := h hm
  refine ⟨m1, ?_⟩
  rw [show k'.toNat = k.toNat + 1 from by omega]
  exact zNs_s b ((zm_not hp a).2 hs) k1
theorem zxO_x (h : zxH f n fr ha be k p q r) (hp : 0 ≤ p) (hs : q = 1 ∧ zSpm f p r 9 3) (hk : k = 40) : zxX (zNot f n ok B) f n fr ha be lv qt cn cd := fun tb hm L hL => by
  obtain ⟨a, b⟩ := h hm
  subst hk
  exact ⟨40, p, b, Or.inl ⟨rfl, (zm_not hp a).1.mp hs, rfl⟩⟩
theorem zxO_n (h : zxH f n fr ha be k p q r) (hp : 0 ≤ p) (hs : ¬ (q = 1 ∧ zSpm f p r 9 3)) (hk : k ≤ 40) (hx : zxX (zNea f n ok B) f n p q r lv qt cn cd) : zxX (zNot f n ok B) f n fr ha be lv qt cn cd := fun tb hm L hL => by
  obtain ⟨a, b⟩ := h hm
  exact ⟨k.toNat, p, b, Or.inr ⟨by omega, fun o => hs ((zm_not hp a).1.mpr o), none, hx tb a L hL, Or.inl ⟨rfl, rfl⟩⟩⟩
theorem zxO_e {o : Int} (h : zxH f n fr ha be k p q r) (hp : 0 ≤ p) (hs : ¬ (q = 1 ∧ zSpm f p r 9 3)) (hk : k ≤ 40) (hk0 : 0 ≤ k) (hb : zxS (zNea f n ok B) f n p q r lv qt cn cd fr' ha' be' lv' qt' cn' cd' P) (ho : (k % 2 = 1 ∧ o = 1) ∨ (k % 2 ≠ 1 ∧ o = 0)) : zxS (zNot f n ok B) f n fr ha be lv qt cn cd fr' ha' be' lv' qt' cn' cd' (fun pl => pl = true ↔ o = 1) := fun tb hm => by
  obtain ⟨a, b⟩ := h hm
  obtain ⟨s1, s2⟩ := hb tb a
  refine ⟨s1, fun L hL => ?_⟩
  obtain ⟨K, pl, x, y, z⟩ := s2 L hL
  refine ⟨K, decide (k.toNat % 2 = 1), ⟨k.toNat, p, b, Or.inr ⟨by omega, fun o => hs ((zm_not hp a).1.mpr o), _, x, Or.inr ⟨_, _, _, _, _, rfl, rfl⟩⟩⟩, y, ?_⟩
  show (decide (k.toNat % 2 = 1) = true ↔ o = 1)
  rw [decide_eq_true_iff]
  omega
def zxY (R : zRl_) (T : Nat → zRl_) (f : Nat → Int32) (n fr ha be lv qt cn : Int) (cd : Nat → Int32) (fr' ha' be' lv' qt' cn' : Int) (cd' : Nat → Int32) : Prop := zTy f n → zMl f n fr ha be → zMl f n fr' ha' be' ∧ ∀ L : List Int, zCd cd cn L → ∃ K, zCd cd' cn' K ∧ ∀ k r, T k fr' lv' qt' K r → R fr lv qt L r
theorem zxY_a0 {o n1 l0 : Int} {c1 : Nat → Int32} (h : zxS (zNot f n ok B) f n fr ha be lv qt cn cd fr' ha' be' lv' qt' n1 c1 (fun pl => pl = true ↔ o = 1)) (hE : (o = 1 ∧ zxN wh br wh' br' c1 cd' m n1 cn' w l0 ∧ w = 10 ∧ l0 = 0) ∨ (o ≠ 1 ∧ cd' = c1 ∧ cn' = n1)) : zxY (zAll f n ok B) (zAlp f n ok B) f n fr ha be lv qt cn cd fr' ha' be' lv' qt' cn' cd' := fun tb hm => by
  obtain ⟨a, b⟩ := h tb hm
  refine ⟨a, fun L hL => ?_⟩
  obtain ⟨K, pl, x, y, z⟩ := b L hL
  rcases hE with ⟨e1, ⟨_, _, _, e2⟩, e3, e4⟩ | ⟨e1, e2, e3⟩
  · subst e3; subst e4
    refine ⟨_, e2 (by decide) (by decide) (by decide) (by decide) K y, fun k r hr => ⟨_, x, Or.inr ⟨_, _, _, _, _, k, rfl, ?_⟩⟩⟩
    rw [if_pos (z.mpr e1)]
    exact hr
  · subst e2; subst e3
    refine ⟨K, y, fun k r hr => ⟨_, x, Or.inr ⟨_, _, _, _, _, k, rfl, ?_⟩⟩⟩
    rw [if_neg (fun o => e1 (z.mp o))]
    exact hr
theorem zxA_x (h : zxX (zNot f n ok B) f n fr ha be lv qt cn cd) : zxX (zAll f n ok B) f n fr ha be lv qt cn cd := fun tb hm L hL => ⟨none, h tb hm L hL, Or.inl ⟨rfl, rfl⟩⟩
variable {an g0 : Int}
theorem zxY_go (hp : 0 ≤ p) (hm : zMl f n p q r) (tb : zTy f n) (hA : (an = 1 ∧ (q = 1 ∧ zSpm f p r 8 3) ∧ zBl f n r c ∧ zMl f n c h1 b1) ∨ (an = 0 ∧ ¬ (q = 1 ∧ zSpm f p r 8 3) ∧ zBg f p q r ∧ c = p ∧ h1 = q ∧ b1 = r)) : zGo f n p ∧ zMl f n c h1 b1 ∧ ((∃ b, zLk f n p 259 b ∧ zBl f n b c) ∨ (¬ zKd f n p 259 ∧ c = p)) := by
  rcases hA with ⟨_, a1, a2, a3⟩ | ⟨_, a1, a2, a3, a4, a5⟩
  · exact ⟨(zm_go tb hp hm).mp (Or.inl a1), a3, Or.inl ⟨r, (zm_and hp hm).2 a1, a2⟩⟩
  · subst a3; subst a4; subst a5
    exact ⟨(zm_go tb hp hm).mp (Or.inr a2), hm, Or.inr ⟨fun o => a1 ((zm_and hp hm).1.mpr o), rfl⟩⟩
theorem zxY_ax (h : zxY (zAll f n ok B) (zAlp f n ok B) f n fr ha be lv qt cn cd p q r lv' qt' cn' cd') (hp : 0 ≤ p) (hA : (an = 1 ∧ (q = 1 ∧ zSpm f p r 8 3) ∧ zBl f n r c ∧ zMl f n c h1 b1) ∨ (an = 0 ∧ ¬ (q = 1 ∧ zSpm f p r 8 3) ∧ zBg f p q r ∧ c = p ∧ h1 = q ∧ b1 = r)) (hx : zxX (zNot f n ok B) f n c h1 b1 lv' qt' cn' cd') : zxX (zAll f n ok B) f n fr ha be lv qt cn cd := fun tb hm L hL => by
  obtain ⟨a, b⟩ := h tb hm
  obtain ⟨K, x, y⟩ := b L hL
  obtain ⟨g1, g2, g3⟩ := zxY_go hp a tb hA
  exact y 1 none ⟨g1, c, none, g3, hx tb g2 K x, Or.inl ⟨rfl, rfl⟩⟩
theorem zxY_as {o n1 l1 t1 n2 l0 d2 : Int} {c1 cd2 : Nat → Int32} (h : zxY (zAll f n ok B) (zAlp f n ok B) f n fr ha be lv qt cn cd p q r lv' qt' cn' cd') (hp : 0 ≤ p) (hA : (an = 1 ∧ (q = 1 ∧ zSpm f p r 8 3) ∧ zBl f n r c ∧ zMl f n c h1 b1) ∨ (an = 0 ∧ ¬ (q = 1 ∧ zSpm f p r 8 3) ∧ zBg f p q r ∧ c = p ∧ h1 = q ∧ b1 = r)) (hq : zxS (zNot f n ok B) f n c h1 b1 lv' qt' cn' cd' d2 h2 b2 l1 t1 n1 c1 (fun pl => pl = true ↔ o = 1)) (hw : (o = 1 ∧ w = 11) ∨ (o ≠ 1 ∧ w = 8)) (hN : zxN wh br wh' br' c1 cd2 m n1 n2 w l0) (hl0 : l0 = 0) : zxY (zAll f n ok B) (zAlp f n ok B) f n fr ha be lv qt cn cd d2 h2 b2 l1 t1 n2 cd2 := fun tb hm => by
  obtain ⟨a, b⟩ := h tb hm
  obtain ⟨g1, g2, g3⟩ := zxY_go hp a tb hA
  obtain ⟨s1, s2⟩ := hq tb g2
  refine ⟨s1, fun L hL => ?_⟩
  obtain ⟨K, x, y⟩ := b L hL
  obtain ⟨K2, pl, z1, z2, z3⟩ := s2 K x
  subst hl0
  refine ⟨_, hN.2.2.2 (by omega) (by omega) (by decide) (by decide) K2 z2, fun k r' hr => y (k + 1) r' ⟨g1, c, _, g3, z1, Or.inr ⟨_, _, _, _, _, rfl, ?_⟩⟩⟩
  rcases hw with ⟨o1, o2⟩ | ⟨o1, o2⟩
  · rw [if_pos (z3.mpr o1)]
    rw [o2] at hr
    exact hr
  · rw [if_neg (fun o => o1 (z3.mp o))]
    rw [o2] at hr
    exact hr
theorem zxY_ae (h : zxY (zAll f n ok B) (zAlp f n ok B) f n fr ha be lv qt cn cd p q r lv' qt' cn' cd') (hp : 0 ≤ p) (h1 : ¬ (q = 1 ∧ zSpm f p r 8 3)) (h2 : ¬ zBg f p q r) : zxS (zAll f n ok B) f n fr ha be lv qt cn cd p q r lv' qt' cn' cd' (fun pl => pl = false) := fun tb hm => by
  obtain ⟨a, b⟩ := h tb hm
  refine ⟨a, fun L hL => ?_⟩
  obtain ⟨K, x, y⟩ := b L hL
  refine ⟨K, false, y 0 _ ⟨fun o => ?_, rfl⟩, x, rfl⟩
  rcases (zm_go tb hp a).mpr o with z | z
  · exact h1 z
  · exact h2 z
theorem zxQ_x0 (h : zxX (zAll f n ok B) f n fr ha be lv qt cn cd) : zxX (zQue f n ok B) f n fr ha be lv qt cn cd := fun tb hm L hL => ⟨none, h tb hm L hL, Or.inl ⟨rfl, rfl⟩⟩
theorem zxY_q0 (h : zxS (zAll f n ok B) f n fr ha be lv qt cn cd fr' ha' be' lv' qt' cn' cd' P) : zxY (zQue f n ok B) (zQlp f n ok B) f n fr ha be lv qt cn cd fr' ha' be' lv' qt' cn' cd' := fun tb hm => by
  obtain ⟨a, b⟩ := h tb hm
  refine ⟨a, fun L hL => ?_⟩
  obtain ⟨K, pl, x, y, z⟩ := b L hL
  exact ⟨K, y, fun k r hr => ⟨_, x, Or.inr ⟨_, _, _, _, _, k, rfl, hr⟩⟩⟩
theorem zxY_qx (h : zxY (zQue f n ok B) (zQlp f n ok B) f n fr ha be lv qt cn cd p q r lv' qt' cn' cd') (hp : 0 ≤ p) (hs : q = 1 ∧ zSpm f p r 7 2) (k1 : zBl f n r c) (m1 : zMl f n c h1 b1) (hx : zxX (zAll f n ok B) f n c h1 b1 lv' qt' cn' cd') : zxX (zQue f n ok B) f n fr ha be lv qt cn cd := fun tb hm L hL => by
  obtain ⟨a, b⟩ := h tb hm
  obtain ⟨K, x, y⟩ := b L hL
  exact y 1 none ⟨r, c, none, (zm_or hp a).2 hs, k1, hx tb m1 K x, Or.inl ⟨rfl, rfl⟩⟩
theorem zxY_qs {n1 l1 t1 n2 l0 d2 : Int} {c1 cd2 : Nat → Int32} (h : zxY (zQue f n ok B) (zQlp f n ok B) f n fr ha be lv qt cn cd p q r lv' qt' cn' cd') (hp : 0 ≤ p) (hs : q = 1 ∧ zSpm f p r 7 2) (k1 : zBl f n r c) (m1 : zMl f n c h1 b1) (hq : zxS (zAll f n ok B) f n c h1 b1 lv' qt' cn' cd' d2 h2 b2 l1 t1 n1 c1 P) (hN : zxN wh br wh' br' c1 cd2 m n1 n2 w l0) (hw : w = 9) (hl0 : l0 = 0) : zxY (zQue f n ok B) (zQlp f n ok B) f n fr ha be lv qt cn cd d2 h2 b2 l1 t1 n2 cd2 := fun tb hm => by
  obtain ⟨a, b⟩ := h tb hm
  obtain ⟨s1, s2⟩ := hq tb m1
  refine ⟨s1, fun L hL => ?_⟩
  obtain ⟨K, x, y⟩ := b L hL
  obtain ⟨K2, pl, z1, z2, z3⟩ := s2 K x
  subst hl0; subst hw
  exact ⟨_, hN.2.2.2 (by decide) (by decide) (by decide) (by decide) K2 z2, fun k r' hr => y (k + 1) r' ⟨r, c, _, (zm_or hp a).2 hs, k1, z1, Or.inr ⟨_, _, _, _, _, rfl, hr⟩⟩⟩
theorem zxY_qe (h : zxY (zQue f n ok B) (zQlp f n ok B) f n fr ha be lv qt cn cd p q r lv' qt' cn' cd') (hp : 0 ≤ p) (h1 : ¬ (q = 1 ∧ zSpm f p r 7 2)) : zxS (zQue f n ok B) f n fr ha be lv qt cn cd p q r lv' qt' cn' cd' (fun pl => pl = false) := fun tb hm => by
  obtain ⟨a, b⟩ := h tb hm
  refine ⟨a, fun L hL => ?_⟩
  obtain ⟨K, x, y⟩ := b L hL
  exact ⟨K, false, y 0 _ ⟨fun o => h1 ((zm_or hp a).1.mpr o), rfl⟩, x, rfl⟩
theorem zxS_Du {D D' : Nat} (h : zxS (zUni f n (zokR D') (zsbR f n D')) f n fr ha be lv qt cn cd fr' ha' be' lv' qt' cn' cd' P) (e : D' = D) : zxS (zUni f n (zokR D) (zsbR f n D)) f n fr ha be lv qt cn cd fr' ha' be' lv' qt' cn' cd' P := by rw [← e]; exact h
theorem zxX_Du {D D' : Nat} (h : zxX (zUni f n (zokR D') (zsbR f n D')) f n fr ha be lv qt cn cd) (e : D' = D) : zxX (zUni f n (zokR D) (zsbR f n D)) f n fr ha be lv qt cn cd := by rw [← e]; exact h
theorem zxS_Dn {D D' : Nat} (h : zxS (zNot f n (zokR D') (zsbR f n D')) f n fr ha be lv qt cn cd fr' ha' be' lv' qt' cn' cd' P) (e : D' = D) : zxS (zNot f n (zokR D) (zsbR f n D)) f n fr ha be lv qt cn cd fr' ha' be' lv' qt' cn' cd' P := by rw [← e]; exact h
theorem zxX_Dn {D D' : Nat} (h : zxX (zNot f n (zokR D') (zsbR f n D')) f n fr ha be lv qt cn cd) (e : D' = D) : zxX (zNot f n (zokR D) (zsbR f n D)) f n fr ha be lv qt cn cd := by rw [← e]; exact h
theorem zxS_Da {D D' : Nat} (h : zxS (zAll f n (zokR D') (zsbR f n D')) f n fr ha be lv qt cn cd fr' ha' be' lv' qt' cn' cd' P) (e : D' = D) : zxS (zAll f n (zokR D) (zsbR f n D)) f n fr ha be lv qt cn cd fr' ha' be' lv' qt' cn' cd' P := by rw [← e]; exact h
theorem zxX_Da {D D' : Nat} (h : zxX (zAll f n (zokR D') (zsbR f n D')) f n fr ha be lv qt cn cd) (e : D' = D) : zxX (zAll f n (zokR D) (zsbR f n D)) f n fr ha be lv qt cn cd := by rw [← e]; exact h
def zxR (f : Nat → Int32) (n cn : Int) (cd : Nat → Int32) : Prop := zTy f n → ∃ K, zPar f n K ∧ zCd cd cn K
theorem zxR_x {D : Nat} {z0 z1 z2 z3 : Int} (hd : D = 12) (k1 : zBl f n z0 c) (e0 : z0 = 0) (m1 : zMl f n c h1 b1) (hx : zxX (zQry f n D) f n c h1 b1 z1 z2 z3 cd) (e1 : z1 = 0) (e2 : z2 = 0) (e3 : z3 = 0) (hc : cn' = 0) : zxR f n cn' cd' := fun tb => by
  subst e0; subst e1; subst e2; subst e3; subst hd
  exact ⟨[], ⟨c, none, k1, hx tb m1 [] (zCd_0 rfl), Or.inl ⟨rfl, rfl⟩⟩, zCd_0 hc⟩
theorem zxR_y {D : Nat} {z0 z1 z2 z3 n2 : Int} {cd2 : Nat → Int32} (hd : D = 12) (k1 : zBl f n z0 c) (e0 : z0 = 0) (m1 : zMl f n c h1 b1) (hq : zxS (zQry f n D) f n c h1 b1 z1 z2 z3 cd p q r lv' qt' n2 cd2 P) (e1 : z1 = 0) (e2 : z2 = 0) (e3 : z3 = 0) (hp : 0 ≤ p) (hE : (q ≠ 0 ∧ cn' = 0) ∨ (q = 0 ∧ cn' = n2 ∧ cd' = cd2)) : zxR f n cn' cd' := fun tb => by
  subst e0; subst e1; subst e2; subst e3; subst hd
  obtain ⟨a, b⟩ := hq tb m1
  obtain ⟨K, pl, x, y, z⟩ := b [] (zCd_0 rfl)
  rcases hE with ⟨o1, o2⟩ | ⟨o1, o2, o3⟩
  · exact ⟨[], ⟨c, _, k1, x, Or.inr ⟨_, _, _, _, _, rfl, Or.inl ⟨fun o => o1 ((zm_end hp a).mpr o), rfl⟩⟩⟩, zCd_0 o2⟩
  · rw [o2, o3]
    exact ⟨K, ⟨c, _, k1, x, Or.inr ⟨_, _, _, _, _, rfl, Or.inr ⟨(zm_end hp a).mp o1, rfl⟩⟩⟩, y⟩
end ZU
