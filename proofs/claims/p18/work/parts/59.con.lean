def zBn (c : Int) (B : zRl_) : Prop := ∀ a lv qt L q lv' qt' K pl, B a lv qt L (some (q, lv', qt', K, pl)) → 0 ≤ a → 4 * (K.length : Int) + 8 * lv + a + c ≤ 4 * (L.length : Int) + 8 * lv' + q ∧ lv + 1 ≤ lv'
theorem zLk_l {f : Nat → Int32} {n p k b : Int} (h : zLk f n p k b) : (k = 258 → p + 2 ≤ b) ∧ (k = 259 → p + 3 ≤ b) ∧ (k = 260 → p + 3 ≤ b) ∧ (k = 261 → p + 4 ≤ b) ∧ (k = 262 ∨ k = 263 → p + 5 ≤ b) ∧ (k ≠ 256 → p < b ∧ p < n) := by
  rcases h with h | ⟨h1, h2, e, h3, h4⟩ | h | h
  · refine ⟨?_, ?_, ?_, ?_, ?_, ?_⟩ <;> intro q <;> omega
  · have hl : p < e := by
      have q := h3.2.2.1
      have q1 := h3.1
      rcases Int.lt_or_le p e with c | c
      · exact c
      · have c2 : e = p := by omega
        subst c2
        exact absurd h2 (q h1)
    rcases h4 with h4 | ⟨_, h4⟩
    · have q := h4.1.1; refine ⟨?_, ?_, ?_, ?_, ?_, ?_⟩ <;> intro q <;> omega
    rcases h4 with h4 | ⟨_, h4⟩
    · have q := h4.1.1; refine ⟨?_, ?_, ?_, ?_, ?_, ?_⟩ <;> intro q <;> omega
    rcases h4 with h4 | ⟨_, h4⟩
    · have q := h4.1.1; refine ⟨?_, ?_, ?_, ?_, ?_, ?_⟩ <;> intro q <;> omega
    rcases h4 with h4 | ⟨_, h4⟩
    · have q := h4.1.1; refine ⟨?_, ?_, ?_, ?_, ?_, ?_⟩ <;> intro q <;> omega
    rcases h4 with ⟨c, b1, b2, b3, b4⟩ | h4
    · have q1 := b1.1
      rcases b4 with b4 | b4
      · have q := b4.1.1; refine ⟨?_, ?_, ?_, ?_, ?_, ?_⟩ <;> intro q <;> omega
      · have q := b4.2.1.1; refine ⟨?_, ?_, ?_, ?_, ?_, ?_⟩ <;> intro q <;> omega
    · refine ⟨?_, ?_, ?_, ?_, ?_, ?_⟩ <;> intro q <;> omega
  · refine ⟨?_, ?_, ?_, ?_, ?_, ?_⟩ <;> intro q <;> omega
  · have q := Int.emod_lt_of_pos (f p.toNat).toInt (show (0 : Int) < 256 by omega)
    refine ⟨?_, ?_, ?_, ?_, ?_, ?_⟩ <;> intro q <;> omega
theorem zlen1 {L : List Int} {v : Int} : ((L ++ [v]).length : Int) = (L.length : Int) + 1 := by rw [List.length_append, List.length_singleton]; rfl
theorem zTkn_b {f : Nat → Int32} {n : Int} : zBn 4 (zTkn f n) := fun a lv qt L q lv' qt' K pl h ha => by
  rcases h with h | ⟨h0, e, c, h1, h2, h3⟩
  · cases h.2
  · have a1 := h1.1
    have a2 := h2.1
    rcases h3 with ⟨b1, d, b2, b3⟩ | ⟨b1, b2⟩
    · have a3 := b2.1; cases b3; rw [zlen1]; omega
    · cases b2; rw [zlen1]; omega
theorem zPhr_b {f : Nat → Int32} {n : Int} : zBn 5 (zPhr f n) := fun a lv qt L q lv' qt' K pl h ha => by
  rcases h with h | ⟨h0, h⟩
  · cases h.2
  · rcases h with ⟨c, h1, h2, h3⟩ | ⟨c, d, h1, h2, h3, h4⟩ | ⟨h1, h2⟩
    · cases h3
    · have a1 := h1.1; have a2 := h3.1; cases h4; rw [zlen1]; omega
    · cases h2
theorem zMrk_b {f : Nat → Int32} {n : Int} : zBn 5 (zMrk f n) := fun a lv qt L q lv' qt' K pl h ha => by
  rcases h with h | ⟨h0, p, x, h1, h2, h3⟩
  · cases h.2
  have a1 := h1.1
  rcases h3 with h3 | ⟨v, q0, hx, h3⟩
  · cases h3.2
  have a2 := zIni_p (by omega) (hx ▸ h2)
  rcases h3 with h3 | ⟨h3, p2, y, h4, h5, h6⟩
  · cases h3.2
  have a3 := h4.1
  rcases h6 with h6 | ⟨w, q2, hy, h6⟩
  · cases h6.2
  have a4 := zIni_p (by omega) (hy ▸ h5)
  rcases h6 with h6 | ⟨h6, d, h7, h8⟩
  · cases h6.2
  have a5 := h7.1
  cases h8
  rw [zlen1]
  omega
theorem zBar_b {f : Nat → Int32} {n : Int} {ok : Prop} {B : zRl_} (hB : zBn 4 B) : zBn 5 (zBar f n ok B) := fun a lv qt L q lv' qt' K pl h ha => by
  rcases h with ⟨hs, h⟩ | ⟨hs, h⟩
  · rcases h with h | ⟨h0, p, x, h1, h2, h3⟩
    · cases h.2
    have a1 := h1.1
    rcases h3 with h3 | ⟨q0, l, t, K, pl0, hx, h3⟩
    · cases h3.2
    have a2 := hB _ _ _ _ _ _ _ _ _ (hx ▸ h2) (by omega)
    rcases h3 with h3 | ⟨h3, d, h4, h5⟩
    · cases h3.2
    have a3 := h4.1
    cases h5
    omega
  rcases h with ⟨h1, h⟩ | ⟨h1, h⟩
  · exact zMrk_b _ _ _ _ _ _ _ _ _ h ha
  rcases h with ⟨h2, h⟩ | ⟨h2, h⟩
  · exact zPhr_b _ _ _ _ _ _ _ _ _ h ha
  rcases h with ⟨⟨b, h3⟩, h⟩ | ⟨h3, h⟩
  · have k1 := (zLk_l h3).2.2.2.2.2 (by omega)
    have k2 := zLk_t h3
    rcases h with h | ⟨h0, e, c, g1, g2, g3⟩
    · cases h.2
    · have e1 := zRe_u ha g1 k2.2
      have a2 := g2.1
      rcases g3 with ⟨b1, d, b2, b3⟩ | ⟨b1, b2⟩
      · have a3 := b2.1; cases b3; rw [zlen1]; omega
      · cases b2; rw [zlen1]; omega
  · cases h
theorem zFs_b {f : Nat → Int32} {n : Int} : ∀ {k : Nat} {a x : Int} {M : List Int}, zFs f n k a x M → 0 ≤ a → a + 5 * (k : Int) ≤ x ∧ M.length = k := by
  intro k
  induction k with
  | zero => intro a x M h ha; rw [h.1, h.2]; exact ⟨by omega, rfl⟩
  | succ k ih =>
    intro a x M h ha
    obtain ⟨kd, b, p, M', h1, h2, h3, h4, h5⟩ := h
    have hb := (zLk_l h1).2.2.2.2.1 h2
    have hp := h3.1
    have q := ih h4 (by omega)
    exact ⟨by omega, by rw [h5, List.length_append, List.length_singleton, q.2]⟩
theorem zUni_b {f : Nat → Int32} {n : Int} {ok : Prop} {B : zRl_} (hB : zBn 4 B) : zBn 5 (zUni f n ok B) := fun a lv qt L q lv' qt' K pl h ha => by
  obtain ⟨k, x, M, h1, h2⟩ := h
  have hx := zFs_b h1 ha
  rcases h2 with h2 | ⟨h2, h3, u, h4, h5⟩
  · cases h2.2.2
  rcases h5 with h5 | ⟨q0, l, t, K, pl0, hu, h5⟩
  · cases h5.2
  have a2 := zBar_b hB _ _ _ _ _ _ _ _ _ (hu ▸ h4) (by omega)
  rcases h5 with h5 | h5
  · cases h5.2
  · have h6 := h5.2
    cases h6
    rw [List.length_append]
    omega
theorem zNea_b {f : Nat → Int32} {n : Int} {ok : Prop} {B : zRl_} (hB : zBn 4 B) (hM : zMon B) : zBn 5 (zNea f n ok B) := fun a lv qt L q lv' qt' K pl h ha => by
  obtain ⟨x, h1, h2⟩ := h
  rcases h2 with h2 | ⟨q0, l, t, K, pl0, hx, h2⟩
  · cases h2.2
  have hq := zUni_b hB _ _ _ _ _ _ _ _ _ (hx ▸ h1) ha
  rcases h2 with h2 | ⟨b, p, e, h3, h4, h5, h6⟩
  · cases h2.2; omega
  have hb := (zLk_l h3).2.2.2.1 rfl
  have hp := h4.1
  have he := h5.1
  rcases h6 with h6 | ⟨h6, p2, y, h7, h8, h9⟩
  · cases h6.2
  have hp2 := h7.1
  rcases h9 with h9 | ⟨q2, l2, t2, K2, pl2, hy, h9⟩
  · cases h9.2
  have h0 := zUni_m hM _ _ _ _ _ _ _ _ _ (hx ▸ h1) ha
  have hq2 := zUni_b hB _ _ _ _ _ _ _ _ _ (hy ▸ h8) (by omega)
  rcases h9 with h9 | h9
  · cases h9.2
  · have h9 := h9.2
    cases h9
    rw [zlen1]
    omega
theorem zNs_b {f : Nat → Int32} {n : Int} : ∀ {k : Nat} {a x : Int}, zNs f n k a x → 0 ≤ a → a + 3 * (k : Int) ≤ x := by
  intro k
  induction k with
  | zero => intro a x h ha; have h : x = a := h; omega
  | succ k ih =>
    intro a x h ha
    obtain ⟨b, p, h1, h2, h3⟩ := h
    have hb := (zLk_l h1).2.2.1 rfl
    have hp := h2.1
    have q := ih h3 (by omega)
    omega
theorem zNot_b {f : Nat → Int32} {n : Int} {ok : Prop} {B : zRl_} (hB : zBn 4 B) (hM : zMon B) {a lv qt : Int} {L : List Int} {q lv' qt' : Int} {K : List Int} {pl : Bool} (h : zNot f n ok B a lv qt L (some (q, lv', qt', K, pl))) (ha : 0 ≤ a) : (4 * (K.length : Int) + 8 * lv + a + 5 ≤ 4 * (L.length : Int) + 8 * lv' + q ∧ lv + 1 ≤ lv') ∧ (pl = true → 4 * (K.length : Int) + 8 * lv + a + 8 ≤ 4 * (L.length : Int) + 8 * lv' + q) := by
  obtain ⟨k, x, h1, h2⟩ := h
  have hx := zNs_b h1 ha
  rcases h2 with h2 | ⟨h2, h3, u, h4, h5⟩
  · cases h2.2.2
  rcases h5 with h5 | ⟨q0, l, t, K, pl0, hu, h5⟩
  · cases h5.2
  have a2 := zNea_b hB hM _ _ _ _ _ _ _ _ _ (hu ▸ h4) (by omega)
  cases h5
  exact ⟨by omega, fun e => by have e := of_decide_eq_true e; omega⟩
theorem zAlp_b {f : Nat → Int32} {n : Int} {ok : Prop} {B : zRl_} (hB : zBn 4 B) (hM : zMon B) : ∀ {k : Nat} {a lv qt : Int} {L : List Int} {q lv' qt' : Int} {L' : List Int} {pl : Bool}, zAlp f n ok B k a lv qt L (some (q, lv', qt', L', pl)) → 0 ≤ a → 4 * (L'.length : Int) + 8 * lv + a ≤ 4 * (L.length : Int) + 8 * lv' + q ∧ lv ≤ lv' := by
  intro k
  induction k with
  | zero => intro a lv qt L q lv' qt' L' pl h ha; have h2 := h.2; cases h2; omega
  | succ k ih =>
    intro a lv qt L q lv' qt' L' pl h ha
    obtain ⟨h0, p, x, h1, h2, h3⟩ := h
    have hp : a ≤ p := by
      rcases h1 with ⟨b, h1, h4⟩ | ⟨h1, h4⟩
      · have hb := zLk_b h1
        have hp := h4.1
        omega
      · omega
    rcases h3 with h3 | ⟨q0, l, t, K, pl0, hx, h3⟩
    · cases h3.2
    have hq := zNot_m hM _ _ _ _ _ _ _ _ _ (hx ▸ h2) (by omega)
    have hq2 := (zNot_b hB hM (hx ▸ h2) (by omega)).1
    have q2 := ih h3 (by omega)
    rw [zlen1] at q2
    omega
theorem zAll_b {f : Nat → Int32} {n : Int} {ok : Prop} {B : zRl_} (hB : zBn 4 B) (hM : zMon B) : zBn 4 (zAll f n ok B) := fun a lv qt L q lv' qt' L' pl h ha => by
  obtain ⟨x, h1, h2⟩ := h
  rcases h2 with h2 | ⟨q0, l, t, K, pl0, k, hx, h2⟩
  · cases h2.2
  have hq := zNot_m hM _ _ _ _ _ _ _ _ _ (hx ▸ h1) ha
  have hq2 := zNot_b hB hM (hx ▸ h1) ha
  have q2 := zAlp_b hB hM h2 (by omega)
  cases pl0 with
  | true => have hq3 := hq2.2 rfl; rw [if_pos rfl, zlen1] at q2; omega
  | false => rw [if_neg (by decide)] at q2; omega
theorem zQlp_b {f : Nat → Int32} {n : Int} {ok : Prop} {B : zRl_} (hB : zBn 4 B) (hM : zMon B) : ∀ {k : Nat} {a lv qt : Int} {L : List Int} {q lv' qt' : Int} {L' : List Int} {pl : Bool}, zQlp f n ok B k a lv qt L (some (q, lv', qt', L', pl)) → 0 ≤ a → 4 * (L'.length : Int) + 8 * lv + a ≤ 4 * (L.length : Int) + 8 * lv' + q ∧ lv ≤ lv' := by
  intro k
  induction k with
  | zero => intro a lv qt L q lv' qt' L' pl h ha; have h2 := h.2; cases h2; omega
  | succ k ih =>
    intro a lv qt L q lv' qt' L' pl h ha
    obtain ⟨b, p, x, h1, h4, h2, h3⟩ := h
    have hb := zLk_b h1
    have hp := h4.1
    rcases h3 with h3 | ⟨q0, l, t, K, pl0, hx, h3⟩
    · cases h3.2
    have hq := zAll_m hM _ _ _ _ _ _ _ _ _ (hx ▸ h2) (by omega)
    have hq2 := zAll_b hB hM _ _ _ _ _ _ _ _ _ (hx ▸ h2) (by omega)
    have q2 := ih h3 (by omega)
    rw [zlen1] at q2
    omega
theorem zQue_b {f : Nat → Int32} {n : Int} {ok : Prop} {B : zRl_} (hB : zBn 4 B) (hM : zMon B) : zBn 4 (zQue f n ok B) := fun a lv qt L q lv' qt' L' pl h ha => by
  obtain ⟨x, h1, h2⟩ := h
  rcases h2 with h2 | ⟨q0, l, t, K, pl0, k, hx, h2⟩
  · cases h2.2
  have hq := zAll_m hM _ _ _ _ _ _ _ _ _ (hx ▸ h1) ha
  have hq2 := zAll_b hB hM _ _ _ _ _ _ _ _ _ (hx ▸ h1) ha
  have q2 := zQlp_b hB hM h2 (by omega)
  omega
theorem zQry_b {f : Nat → Int32} {n : Int} : ∀ d : Nat, zBn 4 (zQry f n d) := by
  intro d
  induction d with
  | zero => exact zQue_b (fun _ _ _ _ _ _ _ _ _ h => h.elim) (fun _ _ _ _ _ _ _ _ _ h => h.elim)
  | succ d ih => exact zQue_b ih (zQry_dm d).2
def zokR : Nat → Prop
  | 0 => False
  | _ + 1 => True
def zsbR (f : Nat → Int32) (n : Int) : Nat → zRl_
  | 0 => fun _ _ _ _ _ => False
  | d + 1 => zQry f n d
theorem zQry_e {f : Nat → Int32} {n : Int} (d : Nat) : zQry f n d = zQue f n (zokR d) (zsbR f n d) := by cases d <;> rfl
theorem zsbR_b {f : Nat → Int32} {n : Int} (d : Nat) : zBn 4 (zsbR f n d) := by
  cases d with
  | zero => exact fun _ _ _ _ _ _ _ _ _ h => h.elim
  | succ d => exact zQry_b d
theorem zsbR_m {f : Nat → Int32} {n : Int} (d : Nat) : zMon (zsbR f n d) := by
  cases d with
  | zero => exact fun _ _ _ _ _ _ _ _ _ h => h.elim
  | succ d => exact (zQry_dm d).2
theorem zRe_x {f : Nat → Int32} {n : Int} : ∀ k : Nat, ∀ p : Int, 0 ≤ p → (n - p).toNat = k → ∃ d, zRe f n p d := by
  intro k
  induction k with
  | zero => intro p hp hk; exact ⟨p, by omega, zAt_0 (by omega), fun h => by omega, Or.inr rfl⟩
  | succ k ih =>
    intro p hp hk
    by_cases c : zTok (f p.toNat).toInt
    · obtain ⟨d, h1, h2, h3, h4⟩ := ih (p + 1) (by omega) (by omega)
      refine ⟨d, by omega, fun j a b => ?_, h3, Or.inl (by omega)⟩
      by_cases e : (j : Int) = p
      · rw [show j = p.toNat from by omega]; exact c
      · exact h2 j (by omega) b
    · exact ⟨p, by omega, zAt_0 (by omega), fun _ => c, Or.inr rfl⟩
theorem zFs_s {f : Nat → Int32} {n : Int} : ∀ {k : Nat} {a x kd b p : Int} {M : List Int}, zFs f n k a x M → zLk f n x kd b → (kd = 262 ∨ kd = 263) → zBl f n b p → zFs f n (k + 1) a p ((if kd = 262 then 6000 else 7000) :: M) := by
  intro k
  induction k with
  | zero =>
    intro a x kd b p M h h1 h2 h3
    have e1 := h.1
    have e2 := h.2
    subst e1; subst e2
    exact ⟨kd, b, p, [], h1, h2, h3, ⟨rfl, rfl⟩, rfl⟩
  | succ k ih =>
    intro a x kd b p M h h1 h2 h3
    obtain ⟨kd', b', p', M', g1, g2, g3, g4, g5⟩ := h
    exact ⟨kd', b', p', _, g1, g2, g3, ih g4 h1 h2 h3, by rw [g5]; rfl⟩
theorem zNs_s {f : Nat → Int32} {n : Int} : ∀ {k : Nat} {a x b p : Int}, zNs f n k a x → zLk f n x 260 b → zBl f n b p → zNs f n (k + 1) a p := by
  intro k
  induction k with
  | zero =>
    intro a x b p h h1 h3
    have e1 : x = a := h
    subst e1
    exact ⟨b, p, h1, h3, rfl⟩
  | succ k ih =>
    intro a x b p h h1 h3
    obtain ⟨b', p', g1, g3, g4⟩ := h
    exact ⟨b', p', g1, g3, ih g4 h1 h3⟩
