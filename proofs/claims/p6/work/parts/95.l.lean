def zAz (su : Nat → Int32) (j s : Int) : Prop := (∀ w : Nat, (w : Int) < j → 0 ≤ (su w).toInt) → s = (zsu (fun w => (su w).toInt.toNat) j.toNat : Nat)
theorem zAz_0 {su : Nat → Int32} {j s : Int} (h : j = 0) (h2 : s = 0) : zAz su j s := fun _ => by subst h; rw [h2]; rfl
theorem zAz_s {su : Nat → Int32} {j s j' s' : Int} {i z : Int32} (h : zAz su j s) (hi : i.toInt = j) (h0 : 0 ≤ j) (ez : z = su i.toNatClampNeg) (hs : s' = s + z.toInt) (e : j' = j + 1) : zAz su j' s' := fun hp => by
  have ei : i.toNatClampNeg = j.toNat := by have : i.toNatClampNeg = i.toInt.toNat := rfl; omega
  rw [ei] at ez
  have q := h (fun w hw => hp w (by omega))
  have q2 := hp j.toNat (by omega)
  rw [← ez] at q2
  rw [show j'.toNat = j.toNat + 1 from by omega]
  show s' = ((zsu (fun w => (su w).toInt.toNat) j.toNat + (su j.toNat).toInt.toNat : Nat) : Int)
  rw [← ez, hs, q]
  omega
def zAn (g sz : Nat → Int32) (W : Int) (ta ke : Nat → Int32) (D r : Int) : Prop := ∀ (T : Nat → Nat → Int) (V : List Int), zMd g sz W ta ke D T V → r = (zsu (fun i => (zBv T V D.toNat i).length) 400 : Nat)
theorem zAn_e {g sz su ld ta ke : Nat → Int32} {W D j r : Int} (h : zM1 su ld ta ke W D) (ht : zAz su j r) (hj : W ≤ j) (hj2 : j ≤ W) : zAn g sz W ta ke D r := fun T V hh => by
  have l := hh.1.2.1
  have l4 := hh.1.2.2.1
  have e : ∀ w : Nat, (w : Int) < W → (su w).toInt = ((zBv T V D.toNat w).length : Int) := fun w hw => by rw [(h w hw).1, zMd_B hh hw]
  rw [ht (fun w hw => by rw [e w (by omega)]; omega)]
  have a : zsu (fun w => (su w).toInt.toNat) j.toNat = zsu (fun w => (zBv T V D.toNat w).length) j.toNat := zsu_c (fun w hw => by rw [e w (by omega), Int.toNat_natCast])
  have b := zsu_0 (F := fun w => (zBv T V D.toNat w).length) (m := j.toNat) (n := 400) (by omega) (fun q q1 _ => by rw [(zBv_n (T := T) (K := V) (d := D.toNat) (k := q) (by omega)).1]; rfl)
  rw [a, ← b]
theorem zAn_c {g sz ta ke : Nat → Int32} {W D r r' : Int} (h : zAn g sz W ta ke D r) (e : r' = r) : zAn g sz W ta ke D r' := by rw [e]; exact h
theorem zTn_c {g sz ta ke : Nat → Int32} {W D r r' : Int} (h : zTn g sz W ta ke D r) (e : r' = r) : zTn g sz W ta ke D r' := by rw [e]; exact h
def zSg (on : Nat → Int32) (j s : Int) : Prop := s = (zsu (fun d => if (on d).toInt ≠ 0 then 1 else 0) j.toNat : Nat)
theorem zSg_0 {on : Nat → Int32} {j s : Int} (h : j = 0) (h2 : s = 0) : zSg on j s := by unfold zSg; subst h; rw [h2]; rfl
theorem zSg_s {on : Nat → Int32} {j s j' s' : Int} {i z : Int32} (h : zSg on j s) (hi : i.toInt = j) (h0 : 0 ≤ j) (ez : z = on i.toNatClampNeg) (hs : (z.toInt ≠ 0 ∧ s' = s + 1) ∨ (z.toInt = 0 ∧ s' = s)) (e : j' = j + 1) : zSg on j' s' := by
  have ei : i.toNatClampNeg = j.toNat := by have : i.toNatClampNeg = i.toInt.toNat := rfl; omega
  rw [ei] at ez
  unfold zSg at h ⊢
  rw [show j'.toNat = j.toNat + 1 from by omega]
  show s' = ((zsu (fun d => if (on d).toInt ≠ 0 then 1 else 0) j.toNat + (if (on j.toNat).toInt ≠ 0 then 1 else 0) : Nat) : Int)
  rw [← ez]
  rcases hs with ⟨a, b⟩ | ⟨a, b⟩
  · rw [if_pos a]; omega
  · rw [if_neg (fun q => q a)]; omega
theorem zSg_e {on : Nat → Int32} {j s j' s' : Int} (h : zSg on j s) (e : j' = j) (e2 : s' = s) : zSg on j' s' := by rw [e, e2]; exact h
def zQc (w d o n t a s p r : Int) : Prop := (w = 0 → r = d) ∧ (w = 1 → r = o) ∧ (w = 2 → r = n) ∧ (w = 3 → r = t) ∧ (w = 4 → r = a) ∧ (w = 5 → r = s) ∧ (w = 6 → r = p) ∧ ((w < 0 ∨ 6 < w) → r = -1)
def zQr (on : Nat → Int32) (D : Int) (g sz : Nat → Int32) (W : Int) (ta ke : Nat → Int32) (s p w r : Int) : Prop := (w = 0 → r = D) ∧ (w = 1 → zSg on D r) ∧ (w = 2 → r = W) ∧ (w = 3 → zTn g sz W ta ke D r) ∧ (w = 4 → zAn g sz W ta ke D r) ∧ (w = 5 → r = s) ∧ (w = 6 → r = p) ∧ ((w < 0 ∨ 6 < w) → r = -1)
def zDc (on ln mk wc : Nat → Int32) (P : Int32) (w r : Int) : Prop := (w = 0 → r = if (on P.toNatClampNeg).toInt ≠ 0 then 1 else 0) ∧ (w = 1 → r = (ln P.toNatClampNeg).toInt) ∧ (w = 2 → r = (mk P.toNatClampNeg).toInt) ∧ (w = 3 → r = (wc P.toNatClampNeg).toInt) ∧ ((w < 0 ∨ 3 < w) → r = -1)
theorem zDc_0 {on ln mk wc : Nat → Int32} {P : Int32} {w r : Int} (hw : w = 0) (h : ((on P.toNatClampNeg).toInt ≠ 0 ∧ r = 1) ∨ ((on P.toNatClampNeg).toInt = 0 ∧ r = 0)) : zDc on ln mk wc P w r := by
  refine ⟨fun _ => ?_, fun q => by omega, fun q => by omega, fun q => by omega, fun q => by omega⟩
  rcases h with ⟨a, b⟩ | ⟨a, b⟩
  · rw [if_pos a, b]
  · rw [if_neg (fun q => q a), b]
theorem zDc_i {on ln mk wc : Nat → Int32} {P : Int32} {w r : Int} (hw : w ≠ 0) (h : (w = 1 ∧ r = (ln P.toNatClampNeg).toInt) ∨ (w = 2 ∧ r = (mk P.toNatClampNeg).toInt) ∨ (w = 3 ∧ r = (wc P.toNatClampNeg).toInt) ∨ ((w < 0 ∨ 3 < w) ∧ r = -1)) : zDc on ln mk wc P w r := by
  refine ⟨fun q => absurd q hw, fun q => ?_, fun q => ?_, fun q => ?_, fun q => ?_⟩ <;> (rcases h with ⟨a, b⟩ | ⟨a, b⟩ | ⟨a, b⟩ | ⟨a, b⟩ <;> first | exact b | (exfalso; omega))
theorem zDc_e {on ln mk wc : Nat → Int32} {P : Int32} {w r r' : Int} (h : zDc on ln mk wc P w r) (e : r' = r) : zDc on ln mk wc P w r' := by rw [e]; exact h
theorem zDc_L {on ln mk wc : Nat → Int32} {P R : Int32} {w : Int} {f f0 : Nat → Int64} {y : Int64} (ef : f = vp_updL f0 (0 : Int32).toNatClampNeg y) (ey : y = R.toInt64) (h : zDc on ln mk wc P w R.toInt) : zDc on ln mk wc P w (f 0).toInt := by
  have e : (f 0).toInt = R.toInt := by
    rw [ef, ey]
    show (if (0 : Nat) = 0 then R.toInt64 else f0 0).toInt = R.toInt
    rw [if_pos rfl, Int32.toInt_toInt64]
  rw [e]; exact h
def zMb (ti bo : Nat → Int32) (D : Int) (T : Nat → Nat → Int) : Prop := ∀ d : Nat, (d : Int) < D → 0 ≤ (ti d).toInt ∧ (ti d).toInt ≤ 512 ∧ 0 ≤ (bo d).toInt ∧ (bo d).toInt ≤ 512 ∧ ∀ q : Nat, T d q ≠ 0 → (q : Int) < (ti d).toInt ∨ (512 ≤ q ∧ (q : Int) < 512 + (bo d).toInt)
theorem zte_y {ta : Nat → Int32} {d w n n' k k' a b : Int} (h : n + a = b + (zp ta d w k.toNat).1) (h0 : 0 ≤ k) (hv : (ta (1024 * d + k).toNat).toInt = w + 1) (e : n' = n + 1) (ek : k' = k + 1) : n' + a = b + (zp ta d w k'.toNat).1 := by
  rw [show k'.toNat = k.toNat + 1 from by omega, zp_y (by rw [show ((k.toNat : Nat) : Int) = k from by omega]; exact hv)]
  show n' + a = b + ((zp ta d w k.toNat).1 + 1)
  omega
theorem zte_n {ta : Nat → Int32} {d w n n' k k' a b : Int} (h : n + a = b + (zp ta d w k.toNat).1) (h0 : 0 ≤ k) (hv : (ta (1024 * d + k).toNat).toInt ≠ w + 1) (e : n' = n) (ek : k' = k + 1) : n' + a = b + (zp ta d w k'.toNat).1 := by
  rw [show k'.toNat = k.toNat + 1 from by omega, zp_n (by rw [show ((k.toNat : Nat) : Int) = k from by omega]; exact hv), e]
  exact h
theorem zte_0 {ta : Nat → Int32} {d w n k : Int} (hn : n = 0) (hk : k = 0) : n + 0 = 0 + (zp ta d w k.toNat).1 := by subst hn; subst hk; rfl
theorem zte_m {ta : Nat → Int32} {d w n k t k2 : Int} (h : n + 0 = 0 + (zp ta d w k.toNat).1) (e : k = t) (e2 : k2 = 512) : n + (zp ta d w 512).1 = (zp ta d w t.toNat).1 + (zp ta d w k2.toNat).1 := by
  subst e; subst e2
  have : (512 : Int).toNat = 512 := rfl
  rw [this]; omega
def zTf (ta ti bo : Nat → Int32) (D : Int32) (w r : Int) : Prop := r + (zp ta D.toInt w 512).1 = (zp ta D.toInt w (ti D.toNatClampNeg).toInt.toNat).1 + (zp ta D.toInt w (512 + (bo D.toNatClampNeg).toInt).toNat).1
theorem zTf_e {ta ti bo : Nat → Int32} {D : Int32} {w r n k : Int} (h : n + (zp ta D.toInt w 512).1 = (zp ta D.toInt w (ti D.toNatClampNeg).toInt.toNat).1 + (zp ta D.toInt w k.toNat).1) (ek : k = 512 + (bo D.toNatClampNeg).toInt) (er : r = n) : zTf ta ti bo D w r := by
  unfold zTf
  rw [er, ← ek]; exact h
theorem zTm_r {t : Nat → Int} {x a b : Int} (hx : x ≠ 0) (a0 : 0 ≤ a) (a5 : a ≤ 512) (b0 : 0 ≤ b) (b5 : b ≤ 512) (hz : ∀ q : Nat, t q ≠ 0 → (q : Int) < a ∨ (512 ≤ q ∧ (q : Int) < 512 + b)) : (zTm t x 1024 : Int) + zTm t x 512 = zTm t x a.toNat + zTm t x (512 + b).toNat := by
  have e1 := (zPn_z (t := t) (w := x) (a := a.toNat) (k := 512) (by omega) (fun j h1 h2 e => by
    rcases hz j (by rw [e]; exact hx) with c | c <;> omega)).2.2
  have e2 := (zPn_z (t := t) (w := x) (a := (512 + b).toNat) (k := 1024) (by omega) (fun j h1 h2 e => by
    rcases hz j (by rw [e]; exact hx) with c | c <;> omega)).2.2
  omega
section ZKR
variable {g sz ta ke ti bo : Nat → Int32} {W D w n n' d d' r : Int} {T : Nat → Nat → Int} {V : List Int} {x : Int}
theorem zTf_T {E : Int32} (hm : zMd g sz W ta ke D T V) (hb : zMb ti bo D T) (hv : V[w.toNat]? = some x) (h0 : 0 ≤ w) (e0 : 0 ≤ E.toInt) (e1 : E.toInt < D) (h : zTf ta ti bo E w r) : r = (zTm (T E.toNatClampNeg) x 1024 : Int) := by
  have cl := zclamp e0
  obtain ⟨h1, h2, h3, h4, h5⟩ := hm
  have hx := h1.2.2.2.2 _ (List.mem_of_getElem? hv)
  obtain ⟨q1, q2, q3⟩ := h4 E.toNatClampNeg (by omega)
  obtain ⟨b1, b2, b3, b4, b5⟩ := hb E.toNatClampNeg (by omega)
  have key : ∀ k : Nat, k ≤ 1024 → (zp ta E.toInt w k).1 = (zTm (T E.toNatClampNeg) x k : Int) := fun k hk => by
    rw [zp_T (t := T E.toNatClampNeg) (x := x) (fun j hj => by
      rw [show (1024 * E.toInt + (j : Int)).toNat = 1024 * E.toNatClampNeg + j from by omega]
      have := zRw_i q1 (zMv_nd h1) hv hx (show j < 1024 from by omega)
      rw [show ((w.toNat : Nat) : Int) = w from by omega] at this
      exact this)]
  unfold zTf at h
  rw [key _ (by omega), key _ (by omega), key _ (by omega)] at h
  have := zTm_r (t := T E.toNatClampNeg) hx b1 b2 b3 b4 b5
  omega
def zKq (g sz : Nat → Int32) (W : Int) (ta ke ti bo : Nat → Int32) (D w d n : Int) : Prop := ∀ (T : Nat → Nat → Int) (V : List Int) (x : Int), zMd g sz W ta ke D T V → zMb ti bo D T → V[w.toNat]? = some x → n = (zHn T x d.toNat : Int)
theorem zKq_0 (hd : d = 0) (hn : n = 0) : zKq g sz W ta ke ti bo D w d n := fun T V x _ _ _ => by subst hd; rw [hn]; rfl
theorem zKq_k {E : Int32} (h : zKq g sz W ta ke ti bo D w E.toInt n) (e0 : 0 ≤ E.toInt) (e1 : E.toInt < D) (hk : (ke E.toNatClampNeg).toInt = 0) (hd : d' = E.toInt + 1) (hn : n' = n) : zKq g sz W ta ke ti bo D w d' n' := fun T V x hm hb hv => by
  have cl := zclamp e0
  have q := h T V x hm hb hv
  have hx := hm.1.2.2.2.2 _ (List.mem_of_getElem? hv)
  have z := (hm.2.2.2.1 E.toNatClampNeg (by omega)).2.2 hk
  have c : ¬ 0 < zTm (T E.toInt.toNat) x 1024 := by
    rw [show E.toInt.toNat = E.toNatClampNeg from rfl, (zPn_0 (t := T E.toNatClampNeg) (w := x) (fun k e => hx (by rw [← e]; exact z k))).2.2]; omega
  rw [show d'.toNat = E.toInt.toNat + 1 from by omega, zHn_n c, hn, q]
theorem zKq_t {E : Int32} {t : Int} (h : zKq g sz W ta ke ti bo D w E.toInt n) (h0 : 0 ≤ w) (e0 : 0 ≤ E.toInt) (e1 : E.toInt < D) (ht : zTf ta ti bo E w t) (hd : d' = E.toInt + 1) (hn : (0 < t ∧ n' = n + 1) ∨ (t ≤ 0 ∧ n' = n)) : zKq g sz W ta ke ti bo D w d' n' := fun T V x hm hb hv => by
  have q := h T V x hm hb hv
  have e := zTf_T hm hb hv h0 e0 e1 ht
  have ee : E.toNatClampNeg = E.toInt.toNat := rfl
  rw [ee] at e
  rw [show d'.toNat = E.toInt.toNat + 1 from by omega]
  by_cases c : 0 < zTm (T E.toInt.toNat) x 1024
  · rw [zHn_y c]; omega
  · rw [zHn_n c]; omega
theorem zKq_e (h : zKq g sz W ta ke ti bo D w d n) (hd : D ≤ d) (hd2 : d ≤ D) (hr : r = n) : zKq g sz W ta ke ti bo D w D r := fun T V x hm hb hv => by
  rw [hr, h T V x hm hb hv, show d = D from by omega]
end ZKR
def zLk (T : Nat → Nat → Int) (V : List Int) (D : Int) (f : Nat → Int32) (n r : Int) : Prop := ∃ x : Int, zFW f n x ∧ (x ∈ V → r = (zHn T x D.toNat : Int)) ∧ (x ∉ V → r = 0)
def zLr (f : Nat → Int32) (n : Int) (g sz : Nat → Int32) (W : Int) (ta ke ti bo : Nat → Int32) (D r : Int) : Prop := ∀ (T : Nat → Nat → Int) (V : List Int), zMd g sz W ta ke D T V → zMb ti bo D T → zLk T V D f n r
def zLc (f : Nat → Int32) (n : Int) (s : Nat → Int64) (i fr : Nat → Int32) (nw : Int) (ro cs nxc fc lc bt : Nat → Int32) (ch ru ab tk : Int) (h l : Nat → Int32) (D r : Int) : Prop := ∀ (T : Nat → Nat → Int) (V : List Int), zKl s i fr nw ro cs nxc fc lc bt ch ru ab tk h l D T V → zLk T V D f n r
theorem zLr_0 {f g sz ta ke ti bo : Nat → Int32} {n W D r : Int} (h : ∀ i : Int, ¬ zIn f n i) (hr : r = 0) : zLr f n g sz W ta ke ti bo D r := fun T V hm _ => ⟨0, Or.inl ⟨rfl, h⟩, fun q => absurd rfl (hm.1.2.2.2.2 0 q), fun _ => hr⟩
theorem zLr_n {f g sz ta ke ti bo wd : Nat → Int32} {n W D r s p : Int} (hw : zTw f n wd s) (hf : zFd g sz wd s W p) (hp : p = -1) (hr : r = 0) : zLr f n g sz W ta ke ti bo D r := fun T V hm _ => by
  rcases zMv_f hm.1 hf hw.2.2.1 hw.2.2.2.2 (by have := hw.2.2.2.1; omega) rfl with ⟨-, q⟩ | ⟨q, -⟩
  · exact ⟨_, hw.1, fun c => absurd c q, fun _ => hr⟩
  · omega
theorem zLr_y {f g sz ta ke ti bo wd : Nat → Int32} {n W D r s p : Int} (hw : zTw f n wd s) (hf : zFd g sz wd s W p) (hp : p ≠ -1) (hk : zKq g sz W ta ke ti bo D p D r) : zLr f n g sz W ta ke ti bo D r := fun T V hm hb => by
  rcases zMv_f hm.1 hf hw.2.2.1 hw.2.2.2.2 (by have := hw.2.2.2.1; omega) rfl with ⟨q, -⟩ | ⟨-, q⟩
  · exact absurd q hp
  · exact ⟨_, hw.1, fun _ => hk T V _ hm hb q, fun c => absurd (List.mem_of_getElem? q) c⟩
theorem zLc_i {f : Nat → Int32} {s : Nat → Int64} {i fr ro cs nxc fc lc bt h l : Nat → Int32} {n nw ch ru ab tk D r x : Int} {I : Int32} (hw : zFW f n x) (hf : ∀ V : List Int, zVo s i fr nw V → zIf V x I.toInt) (h1 : zW (0 ≤ I.toInt → I.toInt ≤ 399 → r = (h I.toNatClampNeg).toInt)) (h0 : I.toInt < 0 → r = 0) : zLc f n s i fr nw ro cs nxc fc lc bt ch ru ab tk h l D r := fun T V hk => by
  rcases hf V hk.1 with ⟨q, q2⟩ | ⟨q, q2⟩
  · exact ⟨x, hw, fun c => absurd c q2, fun _ => h0 (by omega)⟩
  · have lt : I.toInt.toNat < V.length := by
      rcases Nat.lt_or_ge I.toInt.toNat V.length with c | c
      · exact c
      · rw [List.getElem?_eq_none c] at q2; exact absurd q2 (by simp)
    have l1 := hk.1.2.1
    have l2 := hk.1.2.2.1
    refine ⟨x, hw, fun _ => ?_, fun c => absurd (List.mem_of_getElem? q2) c⟩
    rw [h1 q (by omega), show I.toNatClampNeg = I.toInt.toNat from rfl, (hk.2.2.2.2.1 _ (by omega)).1]
    unfold zHv
    rw [q2]
    rfl
def zEn (f : Nat → Int32) (n : Int) (g sz : Nat → Int32) (W : Int) (ta ke : Nat → Int32) (D : Int) (sg ssz : Nat → Int32) (sn : Int) (ti bo ti3 bo3 : Nat → Int32) : Prop := ∀ (S : Int → Bool) (T : Nat → Nat → Int) (V : List Int), zTy f n → n ≤ 600 → 0 ≤ n → zMs sg ssz sn → (∀ x, S x = true ↔ zQ sg ssz sn x) → zMd g sz W ta ke D T V → (∀ d : Nat, (d : Int) < D → ti3 d = ti d ∧ bo3 d = bo d) ∧ (zac f n S T V D → 0 ≤ (ti3 D.toNat).toInt ∧ (ti3 D.toNat).toInt ≤ 512 ∧ 0 ≤ (bo3 D.toNat).toInt ∧ (bo3 D.toNat).toInt ≤ 512 ∧ ∀ q : Nat, (zRq f n S V n.toNat).1 q ≠ 0 → (q : Int) < (ti3 D.toNat).toInt ∨ (512 ≤ q ∧ (q : Int) < 512 + (bo3 D.toNat).toInt))
theorem zEn_r {f g sz ta ke sg ssz g3 sz3 ta3 ke3 on ln mk un on3 ln3 mk3 un3 ti bo ti3 bo3 : Nat → Int32} {n W D sn W3 D3 r : Int} (h : zEm f n g sz W ta ke D sg ssz sn g3 sz3 W3 ta3 ke3 D3 on ln mk un on3 ln3 mk3 un3 r) (hr : r = -2) (e1 : zEq ti ti3 D) (e2 : zEq bo bo3 D) : zEn f n g sz W ta ke D sg ssz sn ti bo ti3 bo3 := fun S T V a1 a2 a3 a4 a5 a6 => by
  refine ⟨fun d hd => ⟨e1 d hd, e2 d hd⟩, fun hz => ?_⟩
  rcases h S T V a1 a2 a3 a4 a5 a6 with ⟨-, q, -⟩ | ⟨q, -⟩
  · have := a6.2.1; omega
  · exact absurd hz q
theorem zEn_a {f g sz ta ke sg ssz g3 sz3 ta3 ti bo ti3 bo3 : Nat → Int32} {n W D sn W3 k place isB crowd kept tt : Int} (h : zNe f n g sz W ta ke D sg ssz sn g3 sz3 W3 ta3 k place isB crowd kept tt) (hD : D < 120) (hx : n ≤ k ∨ crowd ≠ 0) (hc : crowd = 0) (b1 : (isB = 1 ∧ (ti3 D.toNat).toInt = tt ∧ (bo3 D.toNat).toInt = place - 512) ∨ (isB ≠ 1 ∧ (ti3 D.toNat).toInt = min place 512)) (b2 : 0 ≤ (bo3 D.toNat).toInt ∧ (bo3 D.toNat).toInt ≤ 512 ∧ (ti3 D.toNat).toInt ≤ 512) (b3 : 0 ≤ (ti3 D.toNat).toInt) (e1 : zEq ti ti3 D) (e2 : zEq bo bo3 D) : zEn f n g sz W ta ke D sg ssz sn ti bo ti3 bo3 := fun S T V q1 q2 q3 q4 q5 q6 => by
  refine ⟨fun d hd => ⟨e1 d hd, e2 d hd⟩, fun hz => ⟨b3, b2.2.2, b2.1, b2.2.1, fun q hq => ?_⟩⟩
  obtain ⟨x1, x2, x3⟩ := zNe_x (S := S) (T := T) (V := V) h hx ⟨q1, q2, q3, q4, q5, q6, hD⟩
  rcases x3 with ⟨y1, -⟩ | ⟨-, y2, N, y3⟩
  · exact absurd hc y1
  · obtain ⟨c1, c2, c3, c4, c5, c6, c7, c8, c9⟩ := y2
    rcases b1 with ⟨z1, z2, z3⟩ | ⟨z1, z2⟩
    · have c9' := c9 z1
      by_cases a : (q : Int) < tt
      · exact Or.inl (by omega)
      · by_cases b : q < 512
        · exact absurd (c9'.2 q (by omega) b) hq
        · refine Or.inr ⟨by omega, ?_⟩
          by_cases c : (q : Int) < place
          · omega
          · exact absurd (c7.2.1 q (by omega)) hq
    · have : place < 512 := by omega
      refine Or.inl ?_
      by_cases c : (q : Int) < place
      · omega
      · exact absurd (c7.2.1 q (by omega)) hq
section ZOR
variable {L L' : Nat → Int} {m m' k : Nat}
theorem zpk_s (i : Nat) : zpk L m (i + 1) = 37 * zpk L m i + (if i < m then zdt (L i) else 0) := rfl
theorem zdg_b {i : Nat} (h : ∀ k, k < m → zVl (L k)) : 0 ≤ (if i < m then zdt (L i) else 0) ∧ (if i < m then zdt (L i) else 0) ≤ 36 := by
  by_cases c : i < m
  · rw [if_pos c]; have := zdt_v (h i c); omega
  · rw [if_neg c]; omega
theorem zpk_q (hp : ∀ j, j < k → (j < m ↔ j < m') ∧ (j < m → L j = L' j)) : ∀ i : Nat, i ≤ k → zpk L m i = zpk L' m' i := by
  intro i
  induction i with
  | zero => intro _; rfl
  | succ i ih =>
    intro hi
    rw [zpk_s, zpk_s, ih (by omega)]
    have q := hp i (by omega)
    by_cases c : i < m
    · rw [if_pos c, if_pos (q.1.mp c), q.2 c]
    · rw [if_neg c, if_neg (fun d => c (q.1.mpr d))]
theorem zpk_lt (h : ∀ k, k < m → zVl (L k)) (h' : ∀ k, k < m' → zVl (L' k)) (hp : ∀ j, j < k → (j < m ↔ j < m') ∧ (j < m → L j = L' j)) (hd : (if k < m then zdt (L k) else 0) < (if k < m' then zdt (L' k) else 0)) : ∀ i : Nat, k < i → zpk L m i < zpk L' m' i := by
  intro i
  induction i with
  | zero => intro c; omega
  | succ i ih =>
    intro hi
    rw [zpk_s, zpk_s]
    by_cases c : i = k
    · rw [c, zpk_q hp k (Nat.le_refl _)]; omega
    · have q := ih (by omega)
      have d1 := zdg_b (i := i) h
      have d2 := zdg_b (i := i) h'
      omega
theorem zdt_m {a b : Int} (ha : zVl a) (hb : zVl b) : a < b ↔ zdt a < zdt b := by
  unfold zVl at ha hb
  unfold zdt
  by_cases c : 97 ≤ a <;> by_cases d : 97 ≤ b <;> simp only [c, d, if_true, if_false] <;> omega
end ZOR
def zOd (g sz : Nat → Int32) (v w k : Int) : Prop := ∀ j : Nat, (j : Int) < k → (j : Int) < (sz v.toNat).toInt ∧ (j : Int) < (sz w.toNat).toInt ∧ g (12 * v.toNat + j) = g (12 * w.toNat + j)
def zOr (g sz : Nat → Int32) (W v w r : Int) : Prop := zMs g sz W → 0 ≤ v → v < W → 0 ≤ w → w < W → (r < 0 ↔ zkw g sz v.toNat < zkw g sz w.toNat) ∧ (0 < r ↔ zkw g sz w.toNat < zkw g sz v.toNat)
section ZOS
variable {g sz : Nat → Int32} {W v w k k' r : Int}
theorem zOd_0 (h : k ≤ 0) : zOd g sz v w k := fun j hj => by omega
theorem zOd_s {A B y z I J : Int32} (h : zOd g sz v w k) (k0 : 0 ≤ k) (v0 : 0 ≤ v) (w0 : 0 ≤ w) (eA : A = sz v.toNat) (eB : B = sz w.toNat) (hA : k < A.toInt) (hB : k < B.toInt) (ey : y = g I.toNatClampNeg) (ez : z = g J.toNatClampNeg) (hI : I.toInt = 12 * v + k) (hJ : J.toInt = 12 * w + k) (he : y.toInt = z.toInt) (e : k' = k + 1) : zOd g sz v w k' := fun j hj => by
  by_cases c : (j : Int) < k
  · exact h j c
  · have ej : j = k.toNat := by omega
    have eI : I.toNatClampNeg = 12 * v.toNat + j := by have : I.toNatClampNeg = I.toInt.toNat := rfl; omega
    have eJ : J.toNatClampNeg = 12 * w.toNat + j := by have : J.toNatClampNeg = J.toInt.toNat := rfl; omega
    rw [eI] at ey
    rw [eJ] at ez
    exact ⟨by rw [← eA]; omega, by rw [← eB]; omega, zeqi.mpr (by rw [← ey, ← ez]; exact he)⟩
theorem zOr_k (hm : zMs g sz W) (v0 : 0 ≤ v) (hv : v < W) (w0 : 0 ≤ w) (hw : w < W) {k : Nat} (hk : k < 12) (h : zOd g sz v w k) (hd : (if k < (sz v.toNat).toInt.toNat then zdt (g (12 * v.toNat + k)).toInt else 0) < (if k < (sz w.toNat).toInt.toNat then zdt (g (12 * w.toNat + k)).toInt else 0)) : zkw g sz v.toNat < zkw g sz w.toNat := by
  have a := hm.1 v.toNat (by omega)
  have b := hm.1 w.toNat (by omega)
  unfold zkw
  refine zpk_lt (k := k) (fun j hj => a.2.2 j (by omega)) (fun j hj => b.2.2 j (by omega)) (fun j hj => ?_) hd 12 hk
  have q := h j (by omega)
  exact ⟨⟨fun _ => by omega, fun _ => by omega⟩, fun _ => by rw [q.2.2]⟩
theorem zOd_y (h : zOd g sz v w k) : zOd g sz w v k := fun j hj => ⟨(h j hj).2.1, (h j hj).1, (h j hj).2.2.symm⟩
theorem zOr_d {A B y z I J R : Int32} (h : zOd g sz v w k) (k0 : 0 ≤ k) (k2 : k < 12) (eA : A = sz v.toNat) (eB : B = sz w.toNat) (hA : k < A.toInt) (hB : k < B.toInt) (ey : y = g I.toNatClampNeg) (ez : z = g J.toNatClampNeg) (v0 : 0 ≤ v) (w0 : 0 ≤ w) (hI : I.toInt = 12 * v + k) (hJ : J.toInt = 12 * w + k) (hne : y.toInt ≠ z.toInt) (eR : R = y - z) : zOr g sz W v w R.toInt := fun hm _ hv _ hw => by
  have eI : I.toNatClampNeg = 12 * v.toNat + k.toNat := by have : I.toNatClampNeg = I.toInt.toNat := rfl; omega
  have eJ : J.toNatClampNeg = 12 * w.toNat + k.toNat := by have : J.toNatClampNeg = J.toInt.toNat := rfl; omega
  rw [eI] at ey
  rw [eJ] at ez
  have a := (hm.1 v.toNat (by omega)).2.2 k.toNat (by rw [← eA]; omega)
  have b := (hm.1 w.toNat (by omega)).2.2 k.toNat (by rw [← eB]; omega)
  have hk : zOd g sz v w (k.toNat : Int) := by rw [show ((k.toNat : Nat) : Int) = k from by omega]; exact h
  have c1 : k.toNat < (sz v.toNat).toInt.toNat := by rw [← eA]; omega
  have c2 : k.toNat < (sz w.toNat).toInt.toNat := by rw [← eB]; omega
  have a' := a
  have b' := b
  rw [← ey] at a'
  rw [← ez] at b'
  unfold zVl at a' b'
  have hr := zsub (x := y) (y := z) rfl rfl eR (by omega) (by omega)
  have m1 := zdt_m a b
  have m2 := zdt_m b a
  rw [← ey, ← ez] at m1 m2
  have f1 : y.toInt < z.toInt → zkw g sz v.toNat < zkw g sz w.toNat := fun q => zOr_k hm v0 hv w0 hw (k := k.toNat) (by omega) hk (by rw [if_pos c1, if_pos c2, ← ey, ← ez]; exact m1.mp q)
  have f2 : z.toInt < y.toInt → zkw g sz w.toNat < zkw g sz v.toNat := fun q => zOr_k hm w0 hw v0 hv (k := k.toNat) (by omega) (zOd_y hk) (by rw [if_pos c1, if_pos c2, ← ey, ← ez]; exact m2.mp q)
  by_cases c : y.toInt < z.toInt
  · have := f1 c
    exact ⟨⟨fun _ => this, fun _ => by omega⟩, ⟨fun q => by omega, fun q => by omega⟩⟩
  · have := f2 (by omega)
    exact ⟨⟨fun q => by omega, fun q => by omega⟩, ⟨fun _ => this, fun _ => by omega⟩⟩
theorem zOr_e {A B : Int32} (h : zOd g sz v w k) (k0 : 0 ≤ k) (v0 : 0 ≤ v) (w0 : 0 ≤ w) (eA : A = sz v.toNat) (eB : B = sz w.toNat) (hx : A.toInt ≤ k ∨ B.toInt ≤ k) (hr : r = A.toInt - B.toInt) : zOr g sz W v w r := fun hm _ hv _ hw => by
  have a := hm.1 v.toNat (by omega)
  have b := hm.1 w.toNat (by omega)
  rw [← eA] at a
  rw [← eB] at b
  have kk : k ≤ A.toInt ∧ k ≤ B.toInt := by
    by_cases c : k ≤ 0
    · omega
    · have q := h (k - 1).toNat (by omega)
      rw [← eA, ← eB] at q
      omega
  have hk : zOd g sz v w (k.toNat : Int) := by rw [show ((k.toNat : Nat) : Int) = k from by omega]; exact h
  rcases Int.lt_trichotomy A.toInt B.toInt with c | c | c
  · have f := zOr_k hm v0 hv w0 hw (k := k.toNat) (by omega) hk (by
      rw [if_neg (by rw [← eA]; omega), if_pos (by rw [← eB]; omega)]
      have := zdt_v (b.2.2 k.toNat (by omega)); omega)
    exact ⟨⟨fun _ => f, fun _ => by omega⟩, ⟨fun q => by omega, fun q => by omega⟩⟩
  · have e : zkw g sz v.toNat = zkw g sz w.toNat := by
      unfold zkw
      rw [← eA, ← eB, c]
      refine zpk_c (fun j hj => ?_) 12
      show (g (12 * v.toNat + j)).toInt = (g (12 * w.toNat + j)).toInt
      rw [(h j (by omega)).2.2]
    exact ⟨⟨fun q => by omega, fun q => by omega⟩, ⟨fun q => by omega, fun q => by omega⟩⟩
  · have f := zOr_k hm w0 hw v0 hv (k := k.toNat) (by omega) (zOd_y hk) (by
      rw [if_neg (by rw [← eB]; omega), if_pos (by rw [← eA]; omega)]
      have := zdt_v (a.2.2 k.toNat (by omega)); omega)
    exact ⟨⟨fun q => by omega, fun q => by omega⟩, ⟨fun _ => f, fun _ => by omega⟩⟩
end ZOS
def zSt (so g sz : Nat → Int32) (k : Int) : Prop := (∀ a b : Nat, a < b → (b : Int) < k → zkw g sz (so a).toInt.toNat < zkw g sz (so b).toInt.toNat) ∧ (∀ a : Nat, (a : Int) < k → 0 ≤ (so a).toInt ∧ (so a).toInt < k) ∧ ∀ j : Nat, (j : Int) < k → ∃ a : Nat, (a : Int) < k ∧ (so a).toInt = j
def zSn (so g sz : Nat → Int32) (W k i : Int) : Prop := zMs g sz W → 0 ≤ i ∧ i ≤ k ∧ ∃ so0 : Nat → Int32, zSt so0 g sz k ∧ (∀ a : Nat, (a : Int) < i → so a = so0 a) ∧ (∀ a : Nat, i ≤ (a : Int) → (a : Int) < k → (so (a + 1)).toInt = (so0 a).toInt ∧ zkw g sz k.toNat < zkw g sz (so0 a).toInt.toNat)
section ZSO
variable {so so' g sz : Nat → Int32} {W k k' i i' r : Int}
theorem zSt_0 (h : k = 0) : zSt so g sz k := ⟨fun a b _ hb => by omega, fun a ha => by omega, fun j hj => by omega⟩
theorem zSn_0 (h : zMs g sz W → zSt so g sz k) (h0 : 0 ≤ k) (hi : i = k) : zSn so g sz W k i := fun hm => ⟨by omega, by omega, so, h hm, fun _ _ => rfl, fun a h1 h2 => by omega⟩
theorem zSn_s {I J x z : Int32} (h : zSn so g sz W k i) (hkW : k < W) (k0 : 0 ≤ k) (hi : 0 < i) (ez : z = so J.toNatClampNeg) (hJ : J.toInt = i - 1) (ho : zOr g sz W z.toInt k r) (hr : 0 < r) (e : so' = upd so I.toNatClampNeg x) (hI : I.toInt = i) (hx : 0 ≤ z.toInt → z.toInt ≤ 399 → x.toInt = z.toInt) (hW : W ≤ 400) (hi' : i' = i - 1) : zSn so' g sz W k i' := fun hm => by
  obtain ⟨a1, a2, so0, b1, b2, b3⟩ := h hm
  have eJ : J.toNatClampNeg = (i - 1).toNat := by have : J.toNatClampNeg = J.toInt.toNat := rfl; omega
  have eI : I.toNatClampNeg = i.toNat := by have : I.toNatClampNeg = I.toInt.toNat := rfl; omega
  rw [eJ] at ez
  rw [eI] at e
  have c1 := b2 (i - 1).toNat (by omega)
  have c2 := b1.2.1 (i - 1).toNat (by omega)
  rw [c1] at ez
  rw [← ez] at c2
  have o := (ho hm (by omega) (by omega) k0 hkW).2.mp hr
  refine ⟨by omega, by omega, so0, b1, fun a ha => ?_, fun a h1 h2 => ?_⟩
  · rw [e, pk_un (by omega)]; exact b2 a (by omega)
  · by_cases c : (a : Int) = i - 1
    · rw [e, show a + 1 = i.toNat from by omega, pk_us, show a = (i - 1).toNat from by omega, ← ez]
      exact ⟨hx (by omega) (by omega), o⟩
    · rw [e, pk_un (by omega)]
      exact b3 a (by omega) h2
theorem zSt_i {I x : Int32} (h : zSn so g sz W k i) (hkW : k < W) (k0 : 0 ≤ k) (hx : i ≤ 0 ∨ ∃ (J z : Int32) (r : Int), z = so J.toNatClampNeg ∧ J.toInt = i - 1 ∧ zOr g sz W z.toInt k r ∧ r ≤ 0) (e : so' = upd so I.toNatClampNeg x) (hI : I.toInt = i) (hxk : x.toInt = k) (hk' : k' = k + 1) : zMs g sz W → zSt so' g sz k' := fun hm => by
  obtain ⟨a1, a2, so0, b1, b2, b3⟩ := h hm
  have eI : I.toNatClampNeg = i.toNat := by have : I.toNatClampNeg = I.toInt.toNat := rfl; omega
  rw [eI] at e
  have below : ∀ a : Nat, (a : Int) < i → zkw g sz (so0 a).toInt.toNat < zkw g sz k.toNat := fun a ha => by
    rcases hx with c | ⟨J, z, r, z1, z2, z3, z4⟩
    · omega
    · have eJ : J.toNatClampNeg = (i - 1).toNat := by have : J.toNatClampNeg = J.toInt.toNat := rfl; omega
      rw [eJ, b2 (i - 1).toNat (by omega)] at z1
      have c2 := b1.2.1 (i - 1).toNat (by omega)
      rw [← z1] at c2
      have o := z3 hm (by omega) (by omega) k0 hkW
      have ne : zkw g sz z.toInt.toNat ≠ zkw g sz k.toNat := hm.2 _ _ (by omega) (by omega)
      have lt : zkw g sz z.toInt.toNat < zkw g sz k.toNat := by omega
      by_cases d : a = (i - 1).toNat
      · rw [d, ← z1]; exact lt
      · have := b1.1 a (i - 1).toNat (by omega) (by omega)
        rw [← z1] at this
        omega
  have val : ∀ a : Nat, (a : Int) < k + 1 → ((a : Int) < i ∧ so' a = so0 a) ∨ ((a : Int) = i ∧ (so' a).toInt = k) ∨ (i < (a : Int) ∧ ∃ b : Nat, a = b + 1 ∧ i ≤ (b : Int) ∧ (so' a).toInt = (so0 b).toInt ∧ zkw g sz k.toNat < zkw g sz (so0 b).toInt.toNat) := fun a ha => by
    rcases Int.lt_trichotomy (a : Int) i with c | c | c
    · exact Or.inl ⟨c, by rw [e, pk_un (by omega)]; exact b2 a c⟩
    · exact Or.inr (Or.inl ⟨c, by rw [e, show a = i.toNat from by omega, pk_us]; exact hxk⟩)
    · obtain ⟨b, hb⟩ : ∃ b, a = b + 1 := ⟨a - 1, by omega⟩
      have q := b3 b (by omega) (by omega)
      refine Or.inr (Or.inr ⟨c, b, hb, by omega, ?_, q.2⟩)
      rw [e, pk_un (by omega), hb]
      exact q.1
  subst hk'
  refine ⟨fun a b hab hb => ?_, fun a ha => ?_, fun j hj => ?_⟩
  · rcases val a (by omega) with ⟨p1, p2⟩ | ⟨p1, p2⟩ | ⟨p1, c, p2, p3, p4, p5⟩ <;> rcases val b hb with ⟨q1, q2⟩ | ⟨q1, q2⟩ | ⟨q1, d, q2, q3, q4, q5⟩
    · rw [p2, q2]; exact b1.1 a b hab (by omega)
    · rw [p2, q2]; exact below a p1
    · rw [p2, q4]; have := below a p1; omega
    · omega
    · omega
    · rw [p2, q4]; exact q5
    · omega
    · omega
    · rw [p4, q4]; exact b1.1 c d (by omega) (by omega)
  · rcases val a ha with ⟨p1, p2⟩ | ⟨p1, p2⟩ | ⟨p1, c, p2, p3, p4, p5⟩
    · rw [p2]; have := b1.2.1 a (by omega); omega
    · omega
    · rw [p4]; have := b1.2.1 c (by omega); omega
  · by_cases c : (j : Int) = k
    · rcases val i.toNat (by omega) with ⟨p1, -⟩ | ⟨p1, p2⟩ | ⟨p1, -⟩
      · omega
      · exact ⟨i.toNat, by omega, by omega⟩
      · omega
    · obtain ⟨a, q1, q2⟩ := b1.2.2 j (by omega)
      by_cases d : (a : Int) < i
      · refine ⟨a, by omega, ?_⟩
        rw [e, pk_un (by omega), b2 a d]; exact q2
      · refine ⟨a + 1, by omega, ?_⟩
        have q := b3 a (by omega) q1
        rw [e, pk_un (by omega), q.1]; exact q2
end ZSO
def zby (x : Int) (i : Nat) : Int := if i < 12 then (if x / 37 ^ (11 - i) % 37 = 0 then 0 else if 10 < x / 37 ^ (11 - i) % 37 then x / 37 ^ (11 - i) % 37 + 86 else x / 37 ^ (11 - i) % 37 + 47) else 0
theorem zpk_dv {L : Nat → Int} {m : Nat} (h : ∀ k, k < m → zVl (L k)) : ∀ (j i : Nat), zpk L m (i + j) / 37 ^ j = zpk L m i := by
  intro j
  induction j with
  | zero => intro i; rw [Nat.add_zero, Int.pow_zero, Int.ediv_one]
  | succ j ih =>
    intro i
    have q := ih (i + 1)
    rw [show i + 1 + j = i + (j + 1) from by omega] at q
    have e : (37 : Int) ^ (j + 1) = 37 ^ j * 37 := Int.pow_succ 37 j
    have d := zdg_b (i := i) h
    rw [e, ← Int.ediv_ediv_of_nonneg (by exact Int.pow_nonneg (by decide)), q, zpk_s]
    omega
theorem zpk_y {L : Nat → Int} {m i : Nat} (h : ∀ k, k < m → zVl (L k)) (hm : m ≤ 12) : zby (zpk L m 12) i = if i < m then L i else 0 := by
  unfold zby
  by_cases c : i < 12
  · rw [if_pos c]
    have q := zpk_dv h (11 - i) (i + 1)
    rw [show i + 1 + (11 - i) = 12 from by omega] at q
    rw [q, zpk_s]
    have b := zpk_b h i
    by_cases d : i < m
    · have v := h i d
      have dv := zdt_v v
      rw [if_pos d, if_pos d, show (37 * zpk L m i + zdt (L i)) % 37 = zdt (L i) from by omega, if_neg (by omega)]
      unfold zVl at v
      unfold zdt at dv ⊢
      by_cases f : 97 ≤ L i
      · simp only [f, if_true]
        rw [if_pos (by omega)]; omega
      · simp only [f, if_false]
        rw [if_neg (by omega)]; omega
    · rw [if_neg d, if_neg d, show (37 * zpk L m i + 0) % 37 = 0 from by omega, if_pos rfl]
  · rw [if_neg c, if_neg (by omega)]
theorem zSt_c {so g sz : Nat → Int32} {W k k' : Int} (h : zMs g sz W → zSt so g sz k) (e : k' = k) : zMs g sz W → zSt so g sz k' := by rw [e]; exact h
def zBx (w r j : Int) : Prop := 0 ≤ w → r = w / 37 ^ (11 - j).toNat
theorem zBx_0 {w r j : Int} (h : j = 11) (e : r = w) : zBx w r j := fun _ => by subst h; rw [e]; show w = w / 37 ^ 0; rw [Int.pow_zero, Int.ediv_one]
theorem zBx_n {w r j : Int} (h : zBx w r j) (h0 : 0 ≤ w) : 0 ≤ r := by
  rw [h h0]; exact Int.ediv_nonneg h0 (Int.pow_nonneg (by decide))
theorem zBx_s {w : Int} {r y : Int64} {j j' : Int} (h : zBx w r.toInt j) (e : y = r / 37) (h1 : j ≤ 11) (hj : j' = j - 1) : zBx w y.toInt j' := fun h0 => by
  have n := zBx_n h h0
  have q : y.toInt = r.toInt / 37 := by
    rw [e, Int64.toInt_div_of_ne_left _ _ (fun c => by rw [c] at n; exact absurd n (by decide)), Int.tdiv_eq_ediv_of_nonneg n]
    rfl
  rw [q, h h0, show (11 - j').toNat = (11 - j).toNat + 1 from by omega, Int.pow_succ, Int.ediv_ediv_of_nonneg (Int.pow_nonneg (by decide))]
theorem zBx_m {w : Int} {r y : Int64} {j : Int} {z : Int32} (h : zBx w r.toInt j) (e : y = r - r / 37 * 37) (ez : z = y.toInt32) : 0 ≤ w → z.toInt = w / 37 ^ (11 - j).toNat % 37 := fun h0 => by
  have n := zBx_n h h0
  have q : y.toInt = r.toInt % 37 := by
    have d : (r / 37).toInt = r.toInt / 37 := by
      rw [Int64.toInt_div_of_ne_left _ _ (fun c => by rw [c] at n; exact absurd n (by decide)), Int.tdiv_eq_ediv_of_nonneg n]
      rfl
    have up := r.toInt_lt
    have m : (r / 37 * 37).toInt = r.toInt / 37 * 37 := by
      rw [Int64.toInt_mul, d]
      exact zbm64 (by show _ ≤ r.toInt / 37 * 37; omega) (by show r.toInt / 37 * 37 ≤ _; omega)
    rw [e, Int64.toInt_sub, m, zbm64 (by omega) (by omega)]
    omega
  have b : 0 ≤ r.toInt % 37 ∧ r.toInt % 37 < 37 := ⟨Int.emod_nonneg _ (by decide), Int.emod_lt_of_pos _ (by decide)⟩
  rw [ez, Int64.toInt_toInt32, q, ← h h0]
  exact Int.bmod_eq_of_le (by omega) (by omega)
theorem zBx_b {w v j : Int} (h : 0 ≤ w → v = w / 37 ^ (11 - j).toNat % 37) : 0 ≤ w → 0 ≤ v ∧ v < 37 := fun h0 => by
  rw [h h0]; exact ⟨Int.emod_nonneg _ (by decide), Int.emod_lt_of_pos _ (by decide)⟩
def zBz (w i r : Int) : Prop := 0 ≤ w → 0 ≤ i → r = zby w i.toNat
theorem zBz_o {w i r : Int} (h : i < 0 ∨ 12 ≤ i) (hr : r = 0) : zBz w i r := fun _ h0 => by
  unfold zby
  rw [if_neg (by omega), hr]
theorem zBz_i {w i j r v : Int} (h : 0 ≤ w → v = w / 37 ^ (11 - j).toNat % 37) (hi : i < 12) (hj : j = i) (hr : 0 ≤ w → (v = 0 ∧ r = 0) ∨ (10 < v ∧ r = v + 86) ∨ (v ≠ 0 ∧ v ≤ 10 ∧ r = v + 47)) : zBz w i r := fun h0 i0 => by
  have e := h h0
  rw [show (11 - j).toNat = 11 - i.toNat from by omega] at e
  unfold zby
  rw [if_pos (by omega), ← e]
  rcases hr h0 with ⟨a, b⟩ | ⟨a, b⟩ | ⟨a, b, c⟩
  · rw [if_pos a, b]
  · rw [if_neg (by omega), if_pos a, b]
  · rw [if_neg a, if_neg (by omega), c]
def zLe (s : Nat → Int64) (k : Int32) (i r : Int) : Prop := 0 ≤ (s k.toNatClampNeg).toInt → r = zby (s k.toNatClampNeg).toInt i.toNat
def zLf2 (so g sz : Nat → Int32) (W : Int) (k : Int32) (i r : Int) : Prop := zMs g sz W → zSt so g sz W → 0 ≤ k.toInt → k.toInt < W → 0 ≤ i → r = zby (zkw g sz (so k.toNatClampNeg).toInt.toNat) i.toNat
theorem zLf2_i {so g sz : Nat → Int32} {W i r : Int} {k S A y I : Int32} (eS : S = so k.toNatClampNeg) (eA : A = sz S.toNatClampNeg) (h : (i < A.toInt ∧ y = g I.toNatClampNeg ∧ I.toInt = 12 * S.toInt + i ∧ r = y.toInt) ∨ (A.toInt ≤ i ∧ r = 0)) : zLf2 so g sz W k i r := fun hm hs h0 hk i0 => by
  have cl := zclamp h0
  have b := hs.2.1 k.toNatClampNeg (by omega)
  rw [← eS] at b ⊢
  have eS' : S.toNatClampNeg = S.toInt.toNat := rfl
  rw [eS'] at eA
  have a := hm.1 S.toInt.toNat (by omega)
  rw [← eA] at a
  unfold zkw
  rw [← eA, zpk_y (fun j hj => a.2.2 j (by omega)) (by omega)]
  rcases h with ⟨h1, h2, h3, h4⟩ | ⟨h1, h2⟩
  · have eI : I.toNatClampNeg = 12 * S.toInt.toNat + i.toNat := by have : I.toNatClampNeg = I.toInt.toNat := rfl; omega
    rw [if_pos (by omega), h4, h2, eI]
  · rw [if_neg (by omega), h2]
theorem zLe_i {s : Nat → Int64} {k : Int32} {i r w : Int} (hw : w = (s k.toNatClampNeg).toInt) (h : zBz w i r) (hi : 0 ≤ i) : zLe s k i r := fun h0 => by
  rw [hw] at h; exact h h0 hi
theorem zLe_L {s : Nat → Int64} {k R : Int32} {i : Int} {f f0 : Nat → Int64} {y : Int64} (ef : f = vp_updL f0 (0 : Int32).toNatClampNeg y) (ey : y = R.toInt64) (h : zLe s k i R.toInt) : zLe s k i (f 0).toInt := by
  have q : f 0 = R.toInt64 := by rw [ef, ← ey]; rfl
  rw [q, Int32.toInt_toInt64]
  exact h
def zLg (so so' g sz : Nat → Int32) (W fl : Int) (k : Int32) (i r fl' : Int) : Prop := zMs g sz W → (fl ≠ 0 → zSt so g sz W) → ((0 ≤ k.toInt ∧ k.toInt < W ∧ 0 ≤ i → r = zby (zkw g sz (so' k.toNatClampNeg).toInt.toNat) i.toNat) ∧ (fl' ≠ 0 → zSt so' g sz W))
theorem zLg_x {so g sz : Nat → Int32} {W fl i r fl' : Int} {k : Int32} (h : ¬ (0 ≤ k.toInt ∧ k.toInt < W ∧ 0 ≤ i)) (e : fl' = fl) : zLg so so g sz W fl k i r fl' := fun _ hs => ⟨fun q => absurd q h, by rw [e]; exact hs⟩
theorem zLg_1 {so g sz : Nat → Int32} {W fl i r fl' : Int} {k : Int32} (hf : fl ≠ 0) (h : zLf2 so g sz W k i r) (e : fl' = fl) : zLg so so g sz W fl k i r fl' := fun hm hs => ⟨fun q => h hm (hs hf) q.1 q.2.1 q.2.2, by rw [e]; exact hs⟩
theorem zLg_2 {so so' g sz : Nat → Int32} {W fl i r fl' : Int} {k : Int32} (hs : zMs g sz W → zSt so' g sz W) (h : zLf2 so' g sz W k i r) : zLg so so' g sz W fl k i r fl' := fun hm _ => ⟨fun q => h hm (hs hm) q.1 q.2.1 q.2.2, fun _ => hs hm⟩
def zSv (fl' fl : Int) (g' g sz' sz : Nat → Int32) (W' W : Int) : Prop := fl' = 0 ∨ (fl' = fl ∧ g' = g ∧ sz' = sz ∧ W' = W)
theorem zSv_r {fl : Int} {g sz : Nat → Int32} {W : Int} : zSv fl fl g g sz sz W W := Or.inr ⟨rfl, rfl, rfl, rfl⟩
def zxr (c : Int) (b : Nat → Int) (p : Nat → Int) (i : Int) : Nat → Int
  | 0 => i
  | j + 1 => min (p j + (if c = b j then 0 else 1)) (min (p (j + 1)) (zxr c b p i j) + 1)
def zxd (a b : Nat → Int) : Nat → Nat → Int
  | 0 => fun j => (j : Int)
  | i + 1 => zxr (a i) b (zxd a b i) ((i : Int) + 1)
section ZXD
variable {a b a' b' : Nat → Int}
theorem zxd_0 (j : Nat) : zxd a b 0 j = (j : Int) := rfl
theorem zxd_z (i : Nat) : zxd a b i 0 = (i : Int) := by
  cases i with
  | zero => rfl
  | succ i => show ((i : Int) + 1) = ((i + 1 : Nat) : Int); omega
theorem zxd_s (i j : Nat) : zxd a b (i + 1) (j + 1) = min (zxd a b i j + (if a i = b j then 0 else 1)) (min (zxd a b i (j + 1)) (zxd a b (i + 1) j) + 1) := rfl
theorem zxd_b : ∀ i j : Nat, 0 ≤ zxd a b i j ∧ zxd a b i j ≤ (i : Int) + j ∧ (i : Int) ≤ zxd a b i j + j ∧ (j : Int) ≤ zxd a b i j + i := by
  intro i
  induction i with
  | zero => intro j; rw [zxd_0]; omega
  | succ i ih =>
    intro j
    induction j with
    | zero => rw [zxd_z]; omega
    | succ j jh =>
      have q1 := ih j
      have q2 := ih (j + 1)
      rw [zxd_s]
      by_cases c : a i = b j
      · rw [if_pos c]; omega
      · rw [if_neg c]; omega
theorem zxd_mi {m : Nat} {L : Int} : ∀ k i : Nat, (∀ j : Nat, j ≤ m → L < zxd a b i j) → ∀ j : Nat, j ≤ m → L < zxd a b (i + k) j := by
  intro k
  induction k with
  | zero => intro i h; exact h
  | succ k ih =>
    intro i h j
    have q := ih i h
    rw [show i + (k + 1) = i + k + 1 from by omega]
    induction j with
    | zero => intro _; have q0 := q 0 (Nat.zero_le _); rw [zxd_z] at q0 ⊢; omega
    | succ j jh =>
      intro hj
      have q1 := q j (by omega)
      have q2 := q (j + 1) hj
      have q3 := jh (by omega)
      rw [zxd_s]
      by_cases c : a (i + k) = b j
      · rw [if_pos c]; omega
      · rw [if_neg c]; omega
theorem zxd_c {n m : Nat} (h : ∀ i j : Nat, i < n → j < m → (a i = b j ↔ a' i = b' j)) : ∀ i j : Nat, i ≤ n → j ≤ m → zxd a b i j = zxd a' b' i j := by
  intro i
  induction i with
  | zero => intro j _ _; rfl
  | succ i ih =>
    intro j
    induction j with
    | zero => intro _ _; rfl
    | succ j jh =>
      intro hi hj
      have q := h i j (by omega) (by omega)
      rw [zxd_s, zxd_s, ih j (by omega) (by omega), ih (j + 1) (by omega) hj, jh hi (by omega)]
      by_cases c : a i = b j
      · rw [if_pos c, if_pos (q.mp c)]
      · rw [if_neg c, if_neg (fun d => c (q.mpr d))]
def zxC (a b : Nat → Int) (i m : Int) (C : Nat → Int32) : Prop := ∀ k : Nat, (k : Int) ≤ m → (C k).toInt = zxd a b i.toNat k
def zxL (a b : Nat → Int) (i m j sl le : Int) (C : Nat → Int32) : Prop := sl = zxd a b (i - 1).toNat (j - 1).toNat ∧ (∀ k : Nat, (k : Int) < j → (C k).toInt = zxd a b i.toNat k ∧ le ≤ zxd a b i.toNat k) ∧ ∀ k : Nat, j ≤ (k : Int) → (k : Int) ≤ m → (C k).toInt = zxd a b (i - 1).toNat k
def zxJ (C : Nat → Int32) (j : Int) : Prop := ∀ k : Nat, (k : Int) < j → (C k).toInt = (k : Int)
def zxN (a b : Nat → Int) (i m : Int) (C0 C : Nat → Int32) (r : Int) : Prop := zxC a b (i - 1) m C0 → zxC a b i m C ∧ ∀ k : Nat, (k : Int) ≤ m → r ≤ zxd a b i.toNat k
variable {C C' C0 : Nat → Int32} {i i' m j j' sl sl' le le' r : Int}
theorem zxJ_0 (h : j = 0) : zxJ C j := fun k hk => by omega
theorem zxJ_s {J : Int32} (h : zxJ C j) (h0 : 0 ≤ j) (e : C' = upd C J.toNatClampNeg J) (hJ : J.toInt = j) (hj : j' = j + 1) : zxJ C' j' := fun k hk => by
  have eJ : J.toNatClampNeg = j.toNat := by have : J.toNatClampNeg = J.toInt.toNat := rfl; omega
  rw [eJ] at e
  by_cases c : k = j.toNat
  · rw [e, c, pk_us]; omega
  · rw [e, pk_un c]; exact h k (by omega)
theorem zxC_0 (h : zxJ C j) (hm : m < j) (hi : i = 0) : zxC a b i m C := fun k hk => by
  rw [hi, show (0 : Int).toNat = 0 from rfl, zxd_0]
  exact h k (by omega)
theorem zxC_e (h : zxC a b i m C) (e : i' = i) : zxC a b i' m C := by rw [e]; exact h
theorem zxC_b {z M : Int32} (h : zxC a b i m C) (ez : z = C M.toNatClampNeg) (hM : M.toInt = m) (m0 : 0 ≤ m) (m2 : m ≤ 12) (i2 : i ≤ 12) : 0 ≤ z.toInt ∧ z.toInt ≤ 24 := by
  have eM : M.toNatClampNeg = m.toNat := by have : M.toNatClampNeg = M.toInt.toNat := rfl; omega
  have q := h m.toNat (by omega)
  have bb := zxd_b (a := a) (b := b) i.toNat m.toNat
  rw [ez, eM]
  omega
theorem zxL_0 {z X : Int32} (h : zxC a b (i - 1) m C0) (i1 : 1 ≤ i) (m0 : 0 ≤ m) (ez : z = C0 (0 : Int32).toNatClampNeg) (e : C = upd C0 (0 : Int32).toNatClampNeg X) (hX : X.toInt = i) (hj : j = 1) (hle : le ≤ i) : zxL a b i m j z.toInt le C := by
  have e0 : (0 : Int32).toNatClampNeg = 0 := rfl
  rw [e0] at ez e
  refine ⟨?_, fun k hk => ?_, fun k h1 h2 => ?_⟩
  · rw [show (j - 1).toNat = 0 from by omega, ez]; exact h 0 (by omega)
  · have c : k = 0 := by omega
    subst c
    rw [e, pk_us, zxd_z]
    exact ⟨by omega, by omega⟩
  · rw [e, pk_un (by omega)]; exact h k h2
theorem zxL_s {SL D J K za zb z1 z2 z3 z4 z5 z6 z7 : Int32} (h : zxL a b i m j SL.toInt le C) (i1 : 1 ≤ i) (i2 : i ≤ 12) (j1 : 1 ≤ j) (jm : j ≤ m) (m2 : m ≤ 12) (ea : za.toInt = a (i - 1).toNat) (eb : zb.toInt = b (j - 1).toNat) (hd : (za.toInt = zb.toInt ∧ D.toInt = 0) ∨ (za.toInt ≠ zb.toInt ∧ D.toInt = 1)) (e1 : z1 = SL + D) (e2 : z2 = C J.toNatClampNeg) (e3 : z3 = C J.toNatClampNeg) (e4 : z4 = C K.toNatClampNeg) (hJ : J.toInt = j) (hK : K.toInt = j - 1) (m5 : z5.toInt = min z3.toInt z4.toInt) (e6 : z6 = z5 + 1) (m7 : z7.toInt = min z1.toInt z6.toInt) (ef : C' = upd C J.toNatClampNeg z7) (hle : 0 ≤ z7.toInt → le' ≤ le ∧ le' ≤ z7.toInt) (hs : sl' = z2.toInt) (hj : j' = j + 1) : zxL a b i m j' sl' le' C' := by
  obtain ⟨a1, a2, a3⟩ := h
  have eJ : J.toNatClampNeg = (j - 1).toNat + 1 := by have : J.toNatClampNeg = J.toInt.toNat := rfl; omega
  have eK : K.toNatClampNeg = (j - 1).toNat := by have : K.toNatClampNeg = K.toInt.toNat := rfl; omega
  have ei : i.toNat = (i - 1).toNat + 1 := by omega
  rw [eJ] at e2 e3 ef
  rw [eK] at e4
  have s := zxd_s (a := a) (b := b) (i - 1).toNat (j - 1).toNat
  rw [← ei, ← ea, ← eb] at s
  have v2 : z2.toInt = zxd a b (i - 1).toNat ((j - 1).toNat + 1) := by rw [e2]; exact a3 _ (by omega) (by omega)
  have v3 : z3.toInt = zxd a b (i - 1).toNat ((j - 1).toNat + 1) := by rw [e3]; exact a3 _ (by omega) (by omega)
  have v4 : z4.toInt = zxd a b i.toNat (j - 1).toNat := by rw [e4]; exact (a2 _ (by omega)).1
  have b1 := zxd_b (a := a) (b := b) (i - 1).toNat (j - 1).toNat
  have b2 := zxd_b (a := a) (b := b) (i - 1).toNat ((j - 1).toNat + 1)
  have b3 := zxd_b (a := a) (b := b) i.toNat (j - 1).toNat
  have b4 := zxd_b (a := a) (b := b) i.toNat ((j - 1).toNat + 1)
  have c1 : z1.toInt = SL.toInt + D.toInt := zadd rfl rfl e1 (by omega) (by omega)
  have c6 : z6.toInt = z5.toInt + 1 := zadd rfl (by decide) e6 (by omega) (by omega)
  have v7 : z7.toInt = zxd a b i.toNat ((j - 1).toNat + 1) := by
    rw [s]
    rcases hd with ⟨d1, d2⟩ | ⟨d1, d2⟩
    · rw [if_pos d1]; omega
    · rw [if_neg d1]; omega
  have l := hle (by omega)
  refine ⟨?_, fun k hk => ?_, fun k h1 h2 => ?_⟩
  · rw [hs, v2, show (j' - 1).toNat = (j - 1).toNat + 1 from by omega]
  · by_cases c : k = (j - 1).toNat + 1
    · rw [c, ef, pk_us]
      exact ⟨v7, by omega⟩
    · have q := a2 k (by omega)
      rw [ef, pk_un c]
      exact ⟨q.1, by omega⟩
  · rw [ef, pk_un (by omega)]; exact a3 k (by omega) h2
theorem zxN_i (h : zW (zxC a b (i - 1) m C0 → zxL a b i m j sl le C)) (hj : m < j) (hr : r = le) : zxN a b i m C0 C r := fun h0 => by
  obtain ⟨-, q, -⟩ := h h0
  exact ⟨fun k hk => (q k (by omega)).1, fun k hk => by rw [hr]; exact (q k (by omega)).2⟩
theorem zxL_C (h : zxL a b i m j sl le C) (hj : m < j) (hi : i' = i) : zxC a b i' m C := fun k hk => by
  rw [hi]; exact (h.2.1 k (by omega)).1
theorem zxi {A : Nat → Int32} {z I : Int32} {k : Int} (e : z = A I.toNatClampNeg) (h : I.toInt = k) : z.toInt = (A k.toNat).toInt := by
  have q : I.toNatClampNeg = I.toInt.toNat := rfl
  rw [e, q, h]
theorem zxj {g : Nat → Int32} {z I : Int32} {w k : Int} (e : z = g I.toNatClampNeg) (h : I.toInt = 12 * w + k) (w0 : 0 ≤ w) (k0 : 0 ≤ k) : z.toInt = (g (12 * w.toNat + k.toNat)).toInt := by
  have q : I.toNatClampNeg = I.toInt.toNat := rfl
  rw [e, q, h, show (12 * w + k).toNat = 12 * w.toNat + k.toNat from by omega]
theorem zxb {x z : Int32} (e : z = if 0 ≤ x then x else 0 - x) (h1 : -100 ≤ x.toInt) (h2 : x.toInt ≤ 100) : (0 ≤ x.toInt ∧ z.toInt = x.toInt) ∨ (x.toInt < 0 ∧ z.toInt = 0 - x.toInt) := by
  have k0 : (0 : Int32).toInt = 0 := by decide
  by_cases h : (0 : Int32) ≤ x
  · rw [if_pos h] at e
    have q := Int32.le_iff_toInt_le.mp h
    rw [e]
    omega
  · rw [if_neg h] at e
    have q : ¬ 0 ≤ x.toInt := fun c => h (Int32.le_iff_toInt_le.mpr (by rw [k0]; exact c))
    have v := zsub k0 (rfl : x.toInt = x.toInt) e (by omega) (by omega)
    omega
end ZXD
def zxg (w : Int) (k : Nat) : Int := w / 37 ^ (11 - k) % 37
def zxl (w : Int) : Nat → Nat
  | 0 => 0
  | n + 1 => if zxg w n ≠ 0 then n + 1 else zxl w n
def zxh (w L : Int) : Prop := 0 ≤ L ∧ L ≤ 12 ∧ (0 < L → zxg w (L - 1).toNat ≠ 0) ∧ ∀ k : Nat, L ≤ (k : Int) → k < 12 → zxg w k = 0
theorem zxl_e {w L : Int} (h : zxh w L) : zxl w 12 = L.toNat := by
  have key : ∀ n : Nat, n ≤ 12 → L ≤ (n : Int) → zxl w n = L.toNat := by
    intro n
    induction n with
    | zero => intro _ hl; show 0 = L.toNat; omega
    | succ n ih =>
      intro hn hl
      show (if zxg w n ≠ 0 then n + 1 else zxl w n) = L.toNat
      by_cases c : L = (n : Int) + 1
      · have q := h.2.2.1 (by omega)
        rw [show (L - 1).toNat = n from by omega] at q
        rw [if_pos q]; omega
      · have q := h.2.2.2 n (by omega) (by omega)
        rw [if_neg (fun d => d q)]
        exact ih (by omega) (by omega)
  exact key 12 (Nat.le_refl _) (by have := h.2.1; omega)
def zxw (x y : Int) : Int := zxd (zxg x) (zxg y) (zxl x 12) (zxl y 12)
def zxS (w : Int) (f : Nat → Int32) (r : Int) : Prop := 0 ≤ w → zxh w r ∧ ∀ k : Nat, k < 12 → (f k).toInt = zxg w k
def zxK (w : Int) (f : Nat → Int32) (rest i len : Int) : Prop := zBx w rest i ∧ (0 ≤ w → (∀ k : Nat, i < (k : Int) → k < 12 → (f k).toInt = zxg w k) ∧ ((len = 0 ∧ ∀ k : Nat, i < (k : Int) → k < 12 → zxg w k = 0) ∨ (i + 1 < len ∧ len ≤ 12 ∧ zxg w (len - 1).toNat ≠ 0 ∧ ∀ k : Nat, len ≤ (k : Int) → k < 12 → zxg w k = 0)))
section ZXK
variable {w : Int} {f f' : Nat → Int32} {rest i i' len len' r : Int}
theorem zxK_0 (hi : i = 11) (hr : rest = w) (hl : len = 0) : zxK w f rest i len := ⟨zBx_0 hi hr, fun _ => ⟨fun k h1 h2 => by omega, Or.inl ⟨hl, fun k h1 h2 => by omega⟩⟩⟩
theorem zxK_s {R Y Q : Int64} {z22 z23 I : Int32} (h : zxK w f R.toInt i len) (i0 : 0 ≤ i) (i1 : i ≤ 11) (e21 : Y = R - R / 37 * 37) (e22 : z22 = Y.toInt32) (e23 : z23 = z22.toInt8.toInt32) (ef : f' = upd f I.toNatClampNeg (vp_nar .byte z23)) (hI : I.toInt = i) (e29 : Q = R / 37) (hi' : i' = i - 1) (hl : (len ≠ 0 ∧ len' = len) ∨ (len = 0 ∧ (f' I.toNatClampNeg).toInt = 0 ∧ len' = 0) ∨ (len = 0 ∧ (f' I.toNatClampNeg).toInt ≠ 0 ∧ len' = i + 1)) : zxK w f' Q.toInt i' len' := by
  obtain ⟨h1, h2⟩ := h
  refine ⟨zBx_s h1 e29 i1 hi', fun w0 => ?_⟩
  have v := zBx_m h1 e21 e22
  have vb := zBx_b v w0
  have v' : z22.toInt = zxg w i.toNat := by
    unfold zxg
    rw [show 11 - i.toNat = (11 - i).toNat from by omega]; exact v w0
  have v23 : z23.toInt = z22.toInt := zi2b rfl e23 (by omega) (by omega)
  have st : (vp_nar .byte z23).toInt = zxg w i.toNat := by
    rw [vp_nar_byte, zi2b rfl rfl (by omega) (by omega), v23, v']
  have eI : I.toNatClampNeg = i.toNat := by have : I.toNatClampNeg = I.toInt.toNat := rfl; omega
  rw [eI] at ef hl
  have fi : (f' i.toNat).toInt = zxg w i.toNat := by rw [ef, pk_us]; exact st
  rw [fi] at hl
  obtain ⟨q1, q2⟩ := h2 w0
  refine ⟨fun k k1 k2 => ?_, ?_⟩
  · by_cases c : k = i.toNat
    · rw [c]; exact fi
    · rw [ef, pk_un c]; exact q1 k (by omega) k2
  · rcases q2 with ⟨r1, r2⟩ | ⟨r1, r2, r3, r4⟩
    · rcases hl with ⟨l1, l2⟩ | ⟨l1, l2, l3⟩ | ⟨l1, l2, l3⟩
      · exact absurd r1 l1
      · refine Or.inl ⟨l3, fun k k1 k2 => ?_⟩
        by_cases c : k = i.toNat
        · rw [c]; exact l2
        · exact r2 k (by omega) k2
      · refine Or.inr ⟨by omega, by omega, ?_, fun k k1 k2 => r2 k (by omega) k2⟩
        rw [show (len' - 1).toNat = i.toNat from by omega]; exact l2
    · rcases hl with ⟨l1, l2⟩ | ⟨l1, -⟩ | ⟨l1, -⟩
      · rw [l2]; exact Or.inr ⟨by omega, r2, r3, r4⟩
      · exact absurd l1 (by omega)
      · exact absurd l1 (by omega)
theorem zxK_e (h : zxK w f rest i len) (hi : i < 0) (hi2 : -1 ≤ i) (hr : r = len) : zxS w f r := fun w0 => by
  obtain ⟨q1, q2⟩ := h.2 w0
  refine ⟨?_, fun k hk => q1 k (by omega) hk⟩
  rcases q2 with ⟨r1, r2⟩ | ⟨r1, r2, r3, r4⟩
  · exact ⟨by omega, by omega, fun c => by omega, fun k _ k2 => r2 k (by omega) k2⟩
  · rw [hr]
    exact ⟨by omega, r2, fun _ => r3, r4⟩
end ZXK
def zxD (x y l r : Int) : Prop := 0 ≤ x → 0 ≤ y → (zxw x y ≤ l → r = zxw x y) ∧ (l < zxw x y → l < r)
theorem zxS_e {w r r2 : Int} {f : Nat → Int32} (h : zxS w f r) (e : r2 = r) : zxS w f r2 := by rw [e]; exact h
section ZXW
variable {x y n m l r i : Int} {A B C : Nat → Int32}
theorem zxw_e (hx : zxS x A n) (hy : zxS y B m) (x0 : 0 ≤ x) (y0 : 0 ≤ y) : zxw x y = zxd (fun k => (A k).toInt) (fun k => (B k).toInt) n.toNat m.toNat := by
  obtain ⟨p1, p2⟩ := hx x0
  obtain ⟨q1, q2⟩ := hy y0
  have n2 := p1.2.1
  have m2 := q1.2.1
  unfold zxw
  rw [zxl_e p1, zxl_e q1]
  refine zxd_c (n := n.toNat) (m := m.toNat) (fun i j hi hj => ?_) n.toNat m.toNat (Nat.le_refl _) (Nat.le_refl _)
  have e1 := p2 i (by omega)
  have e2 := q2 j (by omega)
  show zxg x i = zxg y j ↔ (A i).toInt = (B j).toInt
  rw [e1, e2]
theorem zxD_1 (hx : zxS x A n) (hy : zxS y B m) (h : l < n - m ∨ l < m - n) (hr : r = l + 1) : zxD x y l r := fun x0 y0 => by
  have e := zxw_e hx hy x0 y0
  have b := zxd_b (a := fun k => (A k).toInt) (b := fun k => (B k).toInt) n.toNat m.toNat
  have n0 := (hx x0).1.1
  have m0 := (hy y0).1.1
  rw [← e] at b
  exact ⟨fun c => by omega, fun _ => by omega⟩
theorem zxD_2 {t : Int} (hx : zxS x A n) (hy : zxS y B m) (h : ∀ k : Nat, (k : Int) ≤ m → t ≤ zxd (fun k => (A k).toInt) (fun k => (B k).toInt) i.toNat k) (ht : l < t) (i0 : 0 ≤ i) (hi : i ≤ n) (hr : r = l + 1) : zxD x y l r := fun x0 y0 => by
  have e := zxw_e hx hy x0 y0
  have m0 := (hy y0).1.1
  have q := zxd_mi (a := fun k => (A k).toInt) (b := fun k => (B k).toInt) (m := m.toNat) (L := l) (n.toNat - i.toNat) i.toNat (fun j hj => by have := h j (by omega); omega) m.toNat (Nat.le_refl _)
  rw [show i.toNat + (n.toNat - i.toNat) = n.toNat from by omega, ← e] at q
  exact ⟨fun c => by omega, fun _ => by omega⟩
theorem zxD_3 {z M : Int32} (hx : zxS x A n) (hy : zxS y B m) (h : zxC (fun k => (A k).toInt) (fun k => (B k).toInt) i m C) (hi : i = n) (ez : z = C M.toNatClampNeg) (hM : M.toInt = m) (hr : r = z.toInt) : zxD x y l r := fun x0 y0 => by
  have e := zxw_e hx hy x0 y0
  have m0 := (hy y0).1.1
  have eM : M.toNatClampNeg = m.toNat := by have : M.toNatClampNeg = M.toInt.toNat := rfl; omega
  have q := h m.toNat (by omega)
  rw [eM] at ez
  rw [hi, ← ez, ← e, ← hr] at q
  exact ⟨fun _ => q, fun c => by omega⟩
end ZXW
def zxF (F : Nat → Int) (b : Prop) (q p : Int) : Prop := (¬ b ∧ q = 3 ∧ ∀ k : Nat, (k : Int) < p → 2 < F k) ∨ (b ∧ 0 ≤ q ∧ q ≤ 2 ∧ (∃ k : Nat, (k : Int) < p ∧ F k = q) ∧ ∀ k : Nat, (k : Int) < p → q ≤ F k)
section ZXF
variable {F : Nat → Int} {b b' : Prop} {q q' p p' v : Int}
theorem zxF_0 (hb : ¬ b) (hq : q = 3) (hp : p = 0) : zxF F b q p := Or.inl ⟨hb, hq, fun k hk => by omega⟩
theorem zxF_k (h : zxF F b q p) (p0 : 0 ≤ p) (hv : (q ≤ 2 ∧ q ≤ F p.toNat) ∨ (2 < q ∧ 2 < F p.toNat)) (hb : b' ↔ b) (hq : q' = q) (hp : p' = p + 1) : zxF F b' q' p' := by
  rcases h with ⟨h1, h2, h3⟩ | ⟨h1, h2, h3, ⟨k, k1, k2⟩, h4⟩
  · refine Or.inl ⟨fun c => h1 (hb.mp c), by omega, fun k hk => ?_⟩
    by_cases c : k = p.toNat
    · rw [c]; omega
    · exact h3 k (by omega)
  · refine Or.inr ⟨hb.mpr h1, by omega, by omega, ⟨k, by omega, by omega⟩, fun k hk => ?_⟩
    by_cases c : k = p.toNat
    · rw [c]; omega
    · have := h4 k (by omega); omega
theorem zxF_u (h : zxF F b q p) (p0 : 0 ≤ p) (v0 : 0 ≤ v) (v2 : v ≤ 2) (vq : v ≤ q) (e : F p.toNat = v) (hb : b') (hq : q' = v) (hp : p' = p + 1) : zxF F b' q' p' := by
  refine Or.inr ⟨hb, by omega, by omega, ⟨p.toNat, by omega, by omega⟩, fun k hk => ?_⟩
  by_cases c : k = p.toNat
  · rw [c]; omega
  · rcases h with ⟨h1, h2, h3⟩ | ⟨h1, h2, h3, -, h4⟩
    · have := h3 k (by omega); omega
    · have := h4 k (by omega); omega
end ZXF
def zxA (x : Int) (V : List Int) (r : Int) : Prop := (r = -1 ∧ (x = 0 ∨ ∀ y ∈ V, 2 < zxw x y)) ∨ (x ≠ 0 ∧ 0 ≤ r ∧ r ≤ 2 ∧ (∃ y ∈ V, zxw x y = r) ∧ ∀ y ∈ V, r ≤ zxw x y)
theorem zxA_u {x : Int} {V V2 : List Int} {r r2 : Int} (h : zxA x V r) (h2 : zxA x V2 r2) (hp : V.Perm V2) : r = r2 := by
  rcases h with ⟨a1, a2⟩ | ⟨a0, a1, a2, ⟨y, y1, y2⟩, a3⟩ <;> rcases h2 with ⟨b1, b2⟩ | ⟨b0, b1, b2, ⟨z, z1, z2⟩, b3⟩
  · omega
  · rcases a2 with c | c
    · exact absurd c b0
    · have := c z (hp.mem_iff.mpr z1); omega
  · rcases b2 with c | c
    · exact absurd c a0
    · have := c y (hp.mem_iff.mp y1); omega
  · have q1 := b3 y (hp.mem_iff.mp y1)
    have q2 := a3 z (hp.mem_iff.mpr z1)
    omega
def zxV (s : Nat → Int64) (n : Int) : Prop := ∀ k : Nat, (k : Int) < n → 0 < (s k).toInt
def zxP (s : Nat → Int64) (n x y q p : Int) : Prop := zxV s n → 0 ≤ x → zxF (fun k => zxw x (s k).toInt) (y ≠ 0) q p ∧ (x = 0 → y = 0)
section ZXP
variable {s : Nat → Int64} {n x y y' q q' p p' r l : Int}
theorem zxP_0 (hy : y = 0) (hq : q = 3) (hp : p = 0) : zxP s n x y q p := fun _ _ => ⟨zxF_0 (fun c => c hy) hq hp, fun _ => hy⟩
theorem zxP_k {P : Int32} {W : Int64} (h : zxP s n x y q P.toInt) (p0 : 0 ≤ P.toInt) (pn : P.toInt < n) (hw : zW (0 ≤ P.toInt → P.toInt < n → W.toInt = (s P.toNatClampNeg).toInt)) (hd : zxD x W.toInt l r) (hl : l = min q 2) (q0 : 0 ≤ q) (q3 : q ≤ 3) (hr : q < r ∨ 2 < r ∨ r = q) (hy : y' = y) (hq : q' = q) (hp : p' = P.toInt + 1) : zxP s n x y' q' p' := fun hv x0 => by
  obtain ⟨h1, h2⟩ := h hv x0
  have eW := hw p0 pn
  have eP : P.toNatClampNeg = P.toInt.toNat := rfl
  rw [eP] at eW
  have w0 := hv P.toInt.toNat (by omega)
  have d := hd x0 (by omega)
  rw [eW] at d
  refine ⟨zxF_k h1 p0 ?_ (by rw [hy]) hq hp, fun c => by rw [hy]; exact h2 c⟩
  show (q ≤ 2 ∧ q ≤ zxw x (s P.toInt.toNat).toInt) ∨ (2 < q ∧ 2 < zxw x (s P.toInt.toNat).toInt)
  have d1 := d.1
  have d2 := d.2
  by_cases c : zxw x (s P.toInt.toNat).toInt ≤ l
  · have e := d1 c; omega
  · have e := d2 (by omega); omega
theorem zxP_u {P : Int32} {W W' : Int64} (h : zxP s n x y q P.toInt) (p0 : 0 ≤ P.toInt) (pn : P.toInt < n) (hw : zW (0 ≤ P.toInt → P.toInt < n → W.toInt = (s P.toNatClampNeg).toInt)) (hw' : zW (0 ≤ P.toInt → P.toInt < n → W'.toInt = (s P.toNatClampNeg).toInt)) (hd : zxD x W.toInt l r) (hl : l = min q 2) (r0 : 0 ≤ r) (r2 : r ≤ 2) (rq : r ≤ q) (hx : x ≠ 0) (hy : y' = W'.toInt) (hq : q' = r) (hp : p' = P.toInt + 1) : zxP s n x y' q' p' := fun hv x0 => by
  obtain ⟨h1, h2⟩ := h hv x0
  have eW := hw p0 pn
  have eW' := hw' p0 pn
  have eP : P.toNatClampNeg = P.toInt.toNat := rfl
  rw [eP] at eW eW'
  have w0 := hv P.toInt.toNat (by omega)
  have d := hd x0 (by omega)
  rw [eW] at d
  have e : zxw x (s P.toInt.toNat).toInt = r := by
    by_cases c : zxw x (s P.toInt.toNat).toInt ≤ l
    · have e := d.1 c; omega
    · have e := d.2 (by omega); omega
  exact ⟨zxF_u (v := r) h1 p0 r0 r2 rq e (by rw [hy]; omega) hq hp, fun c => absurd c hx⟩
def zxAc (f : Nat → Int32) (nt : Int) (s : Nat → Int64) (i fr : Nat → Int32) (n r : Int) : Prop := ∀ V : List Int, zVo s i fr n V → (∀ y ∈ V, 0 < y) → ∃ x : Int, zFW f nt x ∧ zxA x V r
theorem zFW_n {f : Nat → Int32} {nt x : Int} (h : zFW f nt x) : 0 ≤ x := by
  rcases h with ⟨h, -⟩ | ⟨p, m, h1, -, h2, h3⟩
  · omega
  · have := zWrd_pos h2 h1; omega
theorem zxAc_i {f i fr : Nat → Int32} {nt : Int} (hf : zFW f nt x) (h : zxP s n x y q p) (hp : x = 0 ∨ n ≤ p) (pn : p ≤ n) (hr : (y = 0 ∧ r = -1) ∨ (y ≠ 0 ∧ r = q)) : zxAc f nt s i fr n r := fun V hV hp0 => by
  have hv : zxV s n := fun k hk => hp0 _ ((zVo_m hV).mpr ⟨k, hk, rfl⟩)
  obtain ⟨h1, h2⟩ := h hv (zFW_n hf)
  refine ⟨x, hf, ?_⟩
  rcases h1 with ⟨a1, a2, a3⟩ | ⟨a1, a2, a3, ⟨k, k1, k2⟩, a4⟩
  · have r1 : r = -1 := by
      rcases hr with ⟨-, e⟩ | ⟨c, -⟩
      · exact e
      · exact absurd c a1
    refine Or.inl ⟨r1, ?_⟩
    rcases hp with c | c
    · exact Or.inl c
    · refine Or.inr (fun z hz => ?_)
      obtain ⟨j, q1, q2⟩ := (zVo_m hV).mp hz
      rw [← q2]
      exact a3 j (by omega)
  · have x0 : x ≠ 0 := fun c => a1 (h2 c)
    have np : n ≤ p := by
      rcases hp with c | c
      · exact absurd c x0
      · exact c
    have rq : r = q := by
      rcases hr with ⟨c, -⟩ | ⟨-, e⟩
      · exact absurd c a1
      · exact e
    refine Or.inr ⟨x0, by omega, by omega, ⟨(s k).toInt, (zVo_m hV).mpr ⟨k, by omega, rfl⟩, ?_⟩, fun z hz => ?_⟩
    · rw [rq]; exact k2
    · obtain ⟨j, q1, q2⟩ := (zVo_m hV).mp hz
      rw [← q2, rq]
      exact a4 j (by omega)
end ZXP
theorem zdt_j {a b : Int} (ha : zVl a) (hb : zVl b) : zdt a = zdt b ↔ a = b := by
  unfold zVl at ha hb
  unfold zdt
  by_cases c : 97 ≤ a <;> by_cases d : 97 ≤ b <;> simp only [c, d, if_true, if_false] <;> omega
theorem zpk_g {L : Nat → Int} {m i : Nat} (h : ∀ k, k < m → zVl (L k)) (hi : i < 12) : zxg (zpk L m 12) i = if i < m then zdt (L i) else 0 := by
  unfold zxg
  have q := zpk_dv h (11 - i) (i + 1)
  rw [show i + 1 + (11 - i) = 12 from by omega] at q
  rw [q, zpk_s]
  have d := zdg_b (i := i) h
  generalize (if i < m then zdt (L i) else 0) = e at d ⊢
  omega
theorem zxh_p {L : Nat → Int} {m : Nat} (h : ∀ k, k < m → zVl (L k)) (hm : m ≤ 12) : zxh (zpk L m 12) (m : Int) := by
  refine ⟨by omega, by omega, fun c => ?_, fun k k1 k2 => ?_⟩
  · rw [zpk_g h (by omega), if_pos (by omega)]
    have := zdt_v (h ((m : Int) - 1).toNat (by omega))
    omega
  · rw [zpk_g h k2, if_neg (by omega)]
theorem zxw_p {L L' : Nat → Int} {m m' : Nat} (h : ∀ k, k < m → zVl (L k)) (h' : ∀ k, k < m' → zVl (L' k)) (hm : m ≤ 12) (hm' : m' ≤ 12) : zxw (zpk L m 12) (zpk L' m' 12) = zxd L L' m m' := by
  unfold zxw
  rw [zxl_e (zxh_p h hm), zxl_e (zxh_p h' hm'), Int.toNat_natCast, Int.toNat_natCast]
  refine zxd_c (n := m) (m := m') (fun i j hi hj => ?_) m m' (Nat.le_refl _) (Nat.le_refl _)
  rw [zpk_g h (by omega), zpk_g h' (by omega), if_pos hi, if_pos hj]
  exact zdt_j (h i hi) (h' j hj)
def zxq (wd : Nat → Int32) (s : Int) (g sz : Nat → Int32) (j : Nat) : Int := zxd (fun k => (wd k).toInt) (fun k => (g (12 * j + k)).toInt) s.toNat (sz j).toInt.toNat
def zxAr (f : Nat → Int32) (n : Int) (g sz : Nat → Int32) (W r : Int) : Prop := ∀ V : List Int, zMv g sz W V → ∃ x : Int, zFW f n x ∧ zxA x V r
section ZXQ
variable {f wd g sz row : Nat → Int32} {n s i W q p r : Int} {b : Prop}
theorem zxq_n (j : Nat) : 0 ≤ zxq wd s g sz j := (zxd_b _ _).1
theorem zxq_i {P z M : Int32} (h : zxC (fun k => (wd k).toInt) (fun k => (g (12 * P.toInt.toNat + k)).toInt) i (sz P.toNatClampNeg).toInt row) (hi : i = s) (eM : M = sz P.toNatClampNeg) (ez : z = row M.toNatClampNeg) (m0 : 0 ≤ M.toInt) : z.toInt = zxq wd s g sz P.toInt.toNat := by
  have c := zclamp m0
  have q := h M.toNatClampNeg (by rw [← eM]; omega)
  have e1 : M.toNatClampNeg = (sz P.toInt.toNat).toInt.toNat := congrArg Int32.toNatClampNeg eM
  rw [← ez, hi] at q
  rw [q, e1]
  rfl
theorem zxAr_0 (h : ∀ i : Int, ¬ zIn f n i) (hr : r = -1) : zxAr f n g sz W r := fun V _ => ⟨0, Or.inl ⟨rfl, h⟩, Or.inl ⟨hr, Or.inl rfl⟩⟩
theorem zxAr_i (hw : zTw f n wd s) (hF : zxF (zxq wd s g sz) b q p) (p1 : W ≤ p) (p2 : p ≤ W) (hr : (b ∧ r = q) ∨ (¬ b ∧ r = -1)) : zxAr f n g sz W r := fun V hV => by
  obtain ⟨w1, w2, w3, w4, w5⟩ := hw
  obtain ⟨v1, v2, v3, v4, v5⟩ := hV
  have key : ∀ j : Nat, (j : Int) < W → zxw (zpk (fun k => (wd k).toInt) s.toNat 12) (zkw g sz j) = zxq wd s g sz j := fun j hj => by
    have a := v1.1 j hj
    exact zxw_p (L := fun k => (wd k).toInt) (L' := fun k => (g (12 * j + k)).toInt) (m := s.toNat) (m' := (sz j).toInt.toNat) (fun k hk => w3 k (by omega)) (fun k hk => a.2.2 k (by omega)) (by omega) (by omega)
  have inv : ∀ y ∈ V, ∃ j : Nat, (j : Int) < W ∧ zkw g sz j = y := fun y hy => by
    obtain ⟨j, hj, e⟩ := List.getElem_of_mem hy
    have q := v4 j (by omega)
    rw [List.getElem?_eq_getElem hj, e] at q
    exact ⟨j, by omega, (Option.some.inj q).symm⟩
  refine ⟨_, w1, ?_⟩
  rcases hF with ⟨a1, a2, a3⟩ | ⟨a1, a2, a3, ⟨k, k1, k2⟩, a4⟩
  · refine Or.inl ⟨?_, Or.inr (fun y hy => ?_)⟩
    · rcases hr with ⟨c, -⟩ | ⟨-, e⟩
      · exact absurd c a1
      · exact e
    · obtain ⟨j, j1, j2⟩ := inv y hy
      rw [← j2, key j j1]
      exact a3 j (by omega)
  · have rq : r = q := by
      rcases hr with ⟨-, e⟩ | ⟨c, -⟩
      · exact e
      · exact absurd a1 c
    refine Or.inr ⟨by omega, by omega, by omega, ⟨zkw g sz k, List.mem_of_getElem? (v4 k (by omega)), ?_⟩, fun y hy => ?_⟩
    · rw [key k (by omega), rq]; exact k2
    · obtain ⟨j, j1, j2⟩ := inv y hy
      rw [← j2, key j j1, rq]
      exact a4 j (by omega)
end ZXQ
def zf1 (m : Nat) : Int := if 0 < m then 1 else 0
def zf2 (m : Nat) : Int := (m : Int)
theorem zf1_b (m : Nat) : 0 ≤ zf1 m ∧ zf1 m ≤ (m : Int) := by
  unfold zf1
  by_cases h : 0 < m
  · rw [if_pos h]; omega
  · rw [if_neg h]; omega
theorem zf2_b (m : Nat) : 0 ≤ zf2 m ∧ zf2 m ≤ (m : Int) := by
  unfold zf2; omega
theorem zf1_p {m : Nat} (h : 0 < m) : zf1 m = 1 := if_pos h
def zHg (φ : Nat → Int) (T : Nat → Nat → Int) (w : Int) : Nat → Int
  | 0 => 0
  | d + 1 => zHg φ T w d + φ (zTm (T d) w 1024)
section ZHG
variable {φ : Nat → Int} {T : Nat → Nat → Int} {w : Int} {d : Nat}
theorem zHg_s : zHg φ T w (d + 1) = zHg φ T w d + φ (zTm (T d) w 1024) := rfl
theorem zHg_z (hf : ∀ m : Nat, 0 ≤ φ m ∧ φ m ≤ (m : Int)) {D : Nat} (h : d ≤ D) (hz : ∀ e, d ≤ e → e < D → ¬ 0 < zTm (T e) w 1024) : zHg φ T w D = zHg φ T w d := by
  induction D with
  | zero => rw [show d = 0 from by omega]
  | succ D ih =>
    by_cases c : d = D + 1
    · rw [c]
    · have q := hz D (by omega) (by omega)
      have b := hf (zTm (T D) w 1024)
      have i := ih (by omega) (fun e e1 e2 => hz e e1 (by omega))
      rw [zHg_s, i]
      omega
theorem zHg_b (hf : ∀ m : Nat, 0 ≤ φ m ∧ φ m ≤ (m : Int)) : ∀ d : Nat, 0 ≤ zHg φ T w d ∧ zHg φ T w d ≤ 1024 * (d : Int) := by
  intro d
  induction d with
  | zero => exact ⟨Int.le_refl _, Int.le_refl _⟩
  | succ d ih =>
    have b := hf (zTm (T d) w 1024)
    have t := zTm_b (t := T d) (w := w) (k := 1024)
    rw [zHg_s]
    omega
end ZHG
def zQo (φ : Nat → Int) (ro cs nx fc lc bt : Nat → Int32) (ch ru ab tk : Int) (on : Nat → Int32) (D bl ck wh ins nu pl bl3 ck3 wh3 ins3 nu3 pl3 i n : Int) : Prop := ∀ (B : Nat → List Bool) (T : Nat → Nat → Int) (w : Int), zPB ro cs nx fc lc bt ch ru ab tk B → zRr fc nx B bl ck wh ins (zPq T w D.toNat) → nu = -1 → pl = 0 → 0 ≤ D → D ≤ 120 → w ≠ 0 → ∃ d : Nat, i ≤ (d : Int) ∧ d ≤ D.toNat ∧ zRp fc nx B bl3 ck3 wh3 ins3 nu3 pl3 T w D.toNat d ∧ n = zHg φ (zTo on T) w d
def zQf (φ : Nat → Int) (ro cs nx fc lc bt : Nat → Int32) (ch ru ab tk : Int) (on : Nat → Int32) (D bl ck wh ins nu pl r : Int) : Prop := ∀ (B : Nat → List Bool) (T : Nat → Nat → Int) (w : Int), zPB ro cs nx fc lc bt ch ru ab tk B → zRr fc nx B bl ck wh ins (zPq T w D.toNat) → nu = -1 → pl = 0 → 0 ≤ D → D ≤ 120 → w ≠ 0 → r = zHg φ (zTo on T) w D.toNat
section ZQO
variable {φ : Nat → Int} {ro cs nx fc lc bt on : Nat → Int32} {ch ru ab tk D bl ck wh ins nu pl bl3 ck3 wh3 ins3 nu3 pl3 bl4 ck4 wh4 ins4 nu4 pc4 pl4 pa4 i i' n n' r q : Int}
theorem zQo_0 (hi : i = 0) (hn : n = 0) : zQo φ ro cs nx fc lc bt ch ru ab tk on D bl ck wh ins nu pl bl ck wh ins nu pl i n := fun B T w a1 a6 a7 a8 a9 a10 a11 => ⟨0, by omega, Nat.zero_le _, ⟨[], zPq T w D.toNat, fun m hm => absurd hm List.not_mem_nil, by rw [a8]; rfl, a6, rfl, by rw [a7]; rfl, Nat.zero_le _⟩, hn⟩
theorem zQo_s (hf : ∀ m : Nat, 0 ≤ φ m ∧ φ m ≤ (m : Int)) (h : zQo φ ro cs nx fc lc bt ch ru ab tk on D bl ck wh ins nu pl bl3 ck3 wh3 ins3 nu3 pl3 i n) (hn : zNo ro cs nx fc lc bt ch ru ab tk bl3 ck3 wh3 ins3 bl4 ck4 wh4 ins4 pl3 nu3 nu4 pc4 pl4 pa4 r) (hr : r ≠ 0) (ho : ((on nu4.toNat).toInt ≠ 0 ∧ (0 ≤ n → n ≤ 122880 → 0 < pc4 → pc4 ≤ 1024 → n' = n + φ pc4.toNat)) ∨ ((0 ≤ nu4 → nu4 < D → (on nu4.toNat).toInt = 0) ∧ n' = n)) (hi : i' = i + 1) : zQo φ ro cs nx fc lc bt ch ru ab tk on D bl ck wh ins nu pl bl4 ck4 wh4 ins4 nu4 pl4 i' n' := fun B T w a1 a6 a7 a8 a9 a10 a11 => by
  obtain ⟨d, b1, b2, b3, b4⟩ := h B T w a1 a6 a7 a8 a9 a10 a11
  rcases zRp_n a1 (by omega) b3 hn with ⟨c1, -⟩ | ⟨-, d', R', c1, c2, c3, c4, c5, c6, c7, c8, c9, c10⟩
  · exact absurd c1 hr
  · have z1 := zHg_z (φ := φ) (T := zTo on T) (w := w) (d := d) hf (D := d') c1 (fun e e1 e2 => zTo_z a11 (Or.inr (c3 e e1 e2)))
    have bb := zHg_b (φ := φ) (T := zTo on T) (w := w) hf d
    have t := zTm_b (t := T d') (w := w) (k := 1024)
    refine ⟨d' + 1, by omega, by omega, ⟨zPn (T d') w 1024, R', zPn_r (Nat.le_refl _), by rw [zPn_l]; exact c7.symm, c9, c10, by rw [zLd_y c4]; exact c5, by omega⟩, ?_⟩
    rw [zHg_s, z1, ← b4]
    rcases ho with ⟨o1, o2⟩ | ⟨o1, o2⟩
    · rw [show nu4.toNat = d' from by omega] at o1
      rw [zTo_y o1, o2 (by omega) (by omega) (by omega) (by omega), show pc4.toNat = zTm (T d') w 1024 from by omega]
    · have o := o1 (by omega) (by omega)
      rw [show nu4.toNat = d' from by omega] at o
      have z := zTo_z (T := T) (d := d') a11 (Or.inl o)
      have f := hf (zTm (zTo on T d') w 1024)
      omega
theorem zQf_n (hf : ∀ m : Nat, 0 ≤ φ m ∧ φ m ≤ (m : Int)) (h : zQo φ ro cs nx fc lc bt ch ru ab tk on D bl ck wh ins nu pl bl3 ck3 wh3 ins3 nu3 pl3 i n) (hn : zNo ro cs nx fc lc bt ch ru ab tk bl3 ck3 wh3 ins3 bl4 ck4 wh4 ins4 pl3 nu3 nu4 pc4 pl4 pa4 r) (hr : r = 0) (e : q = n) : zQf φ ro cs nx fc lc bt ch ru ab tk on D bl ck wh ins nu pl q := fun B T w a1 a6 a7 a8 a9 a10 a11 => by
  obtain ⟨d, b1, b2, b3, b4⟩ := h B T w a1 a6 a7 a8 a9 a10 a11
  rcases zRp_n a1 (by omega) b3 hn with ⟨-, c1⟩ | ⟨c1, -⟩
  · rw [zHg_z (φ := φ) (T := zTo on T) (w := w) (d := d) hf (D := D.toNat) b2 (fun e e1 e2 => zTo_z a11 (Or.inr (c1 e e1 e2))), e]
    exact b4
  · omega
theorem zQf_i (h : zQo φ ro cs nx fc lc bt ch ru ab tk on D bl ck wh ins nu pl bl3 ck3 wh3 ins3 nu3 pl3 i n) (hi : 120 ≤ i) (e : q = n) : zQf φ ro cs nx fc lc bt ch ru ab tk on D bl ck wh ins nu pl q := fun B T w a1 a6 a7 a8 a9 a10 a11 => by
  obtain ⟨d, b1, b2, b3, b4⟩ := h B T w a1 a6 a7 a8 a9 a10 a11
  rw [show D.toNat = d from by omega, e]
  exact b4
end ZQO
theorem zTm_ex {t : Nat → Int} {x : Int} : ∀ k : Nat, (0 < zTm t x k ↔ ∃ q : Nat, q < k ∧ t q = x) := by
  intro k
  induction k with
  | zero => exact ⟨fun c => absurd c (Nat.lt_irrefl 0), fun ⟨q, q1, _⟩ => absurd q1 (Nat.not_lt_zero _)⟩
  | succ k ih =>
    show (0 < (if t k = x then zTm t x k + 1 else zTm t x k)) ↔ _
    by_cases c : t k = x
    · rw [if_pos c]
      exact ⟨fun _ => ⟨k, Nat.lt_succ_self k, c⟩, fun _ => Nat.succ_pos _⟩
    · rw [if_neg c, ih]
      constructor
      · rintro ⟨q, q1, q2⟩
        exact ⟨q, by omega, q2⟩
      · rintro ⟨q, q1, q2⟩
        have n : q ≠ k := fun e => c (by rw [← e]; exact q2)
        exact ⟨q, by omega, q2⟩
section ZHX
variable {he h0 of on g sz ta ke ti bo : Nat → Int32} {W D L d d' j n n' wi : Int} {T : Nat → Nat → Int} {V : List Int} {w : Nat} {x : Int} {φ : Nat → Int}
theorem zHw_T (hm : zMd g sz W ta ke D T V) (hb : zMb ti bo D T) (hv : V[w]? = some x) (d0 : 0 ≤ d) (d1 : d < D) : zHw ta ti bo d (w : Int) ↔ 0 < zTm (T d.toNat) x 1024 := by
  obtain ⟨h1, h2, h3, h4, h5⟩ := hm
  have hx := h1.2.2.2.2 _ (List.mem_of_getElem? hv)
  obtain ⟨q1, q2, q3⟩ := h4 d.toNat (by omega)
  obtain ⟨b1, b2, b3, b4, b5⟩ := hb d.toNat (by omega)
  have key : ∀ k : Nat, k < 1024 → ((ta (1024 * d + (k : Int)).toNat).toInt = (w : Int) + 1 ↔ T d.toNat k = x) := fun k hk => by
    rw [show (1024 * d + (k : Int)).toNat = 1024 * d.toNat + k from by omega]
    exact zRw_i q1 (zMv_nd h1) hv hx hk
  rw [zTm_ex]
  constructor
  · rintro (⟨p, p1, p2, p3⟩ | ⟨p, p1, p2, p3⟩)
    · exact ⟨p.toNat, by omega, (key p.toNat (by omega)).mp (by rw [show ((p.toNat : Nat) : Int) = p from by omega]; exact p3)⟩
    · exact ⟨p.toNat, by omega, (key p.toNat (by omega)).mp (by rw [show ((p.toNat : Nat) : Int) = p from by omega]; exact p3)⟩
  · rintro ⟨q, r1, r2⟩
    have z := b5 q (by rw [r2]; exact hx)
    have e := (key q r1).mpr r2
    rcases z with c | ⟨c1, c2⟩
    · exact Or.inl ⟨(q : Int), by omega, c, e⟩
    · exact Or.inr ⟨(q : Int), by omega, c2, e⟩
theorem zMd_l (hm : zMd g sz W ta ke D T V) (hv : V[w]? = some x) : (w : Int) < W ∧ x ≠ 0 := by
  have l := hm.1.2.1
  refine ⟨?_, hm.1.2.2.2.2 _ (List.mem_of_getElem? hv)⟩
  rcases Nat.lt_or_ge w V.length with c | c
  · omega
  · rw [List.getElem?_eq_none c] at hv
    exact absurd hv (by simp)
def zHx (he on g sz : Nat → Int32) (W : Int) (ta ke ti bo : Nat → Int32) (D d : Int) : Prop := ∀ (T : Nat → Nat → Int) (V : List Int), zMd g sz W ta ke D T V → zMb ti bo D T → ∀ (w : Nat) (x : Int), V[w]? = some x → (he w).toInt = zHg zf1 (zTo on T) x d.toNat
theorem zHx_0 (h : zT0 he L) (e : W ≤ L) (hd : d = 0) : zHx he on g sz W ta ke ti bo D d := fun T V hm hb w x hv => by
  have l := zMd_l hm hv
  have q := h w (by omega)
  rw [hd, q]
  rfl
theorem zHx_n (h : zHx he on g sz W ta ke ti bo D d) (d0 : 0 ≤ d) (hn : (on d.toNat).toInt = 0) (e : d' = d + 1) : zHx he on g sz W ta ke ti bo D d' := fun T V hm hb w x hv => by
  have l := zMd_l hm hv
  have z := zTo_z (T := T) (d := d.toNat) l.2 (Or.inl hn)
  have f := zf1_b (zTm (zTo on T d.toNat) x 1024)
  rw [show d'.toNat = d.toNat + 1 from by omega, zHg_s, h T V hm hb w x hv]
  omega
theorem zHx_s (h : zHx h0 on g sz W ta ke ti bo D d) (hi : zHi he h0 of W j) (ej : W ≤ j) (ht : zTc of ta ti bo W d) (hon : (on d.toNat).toInt ≠ 0) (d0 : 0 ≤ d) (d1 : d < D) (e : d' = d + 1) : zHx he on g sz W ta ke ti bo D d' := fun T V hm hb w x hv => by
  have l := zMd_l hm hv
  have q := (hi w l.1).1 (by omega)
  have t := ht w l.1
  rw [zHw_T hm hb hv d0 d1] at t
  rw [show d'.toNat = d.toNat + 1 from by omega, zHg_s, ← h T V hm hb w x hv, zTo_y hon]
  rcases q with ⟨q1, q2⟩ | ⟨q1, q2⟩
  · rw [zf1_p (t.mp q1)]; omega
  · have c : ¬ 0 < zTm (T d.toNat) x 1024 := fun c => by have := t.mpr c; omega
    have f := zf1_b (zTm (T d.toNat) x 1024)
    omega
theorem zHx_e (h : zHx he on g sz W ta ke ti bo D d) (e : d' = d) : zHx he on g sz W ta ke ti bo D d' := by rw [e]; exact h
def zKg (φ : Nat → Int) (on g sz : Nat → Int32) (W : Int) (ta ke ti bo : Nat → Int32) (D wi d n : Int) : Prop := ∀ (T : Nat → Nat → Int) (V : List Int) (x : Int), zMd g sz W ta ke D T V → zMb ti bo D T → V[wi.toNat]? = some x → n = zHg φ (zTo on T) x d.toNat
theorem zKg_0 (hd : d = 0) (hn : n = 0) : zKg φ on g sz W ta ke ti bo D wi d n := fun T V x _ _ _ => by subst hd; rw [hn]; rfl
theorem zKg_n {E : Int32} (hf : ∀ m : Nat, 0 ≤ φ m ∧ φ m ≤ (m : Int)) (h : zKg φ on g sz W ta ke ti bo D wi E.toInt n) (e0 : 0 ≤ E.toInt) (ho : (on E.toNatClampNeg).toInt = 0) (hd : d' = E.toInt + 1) (hn : n' = n) : zKg φ on g sz W ta ke ti bo D wi d' n' := fun T V x hm hb hv => by
  have l := zMd_l hm hv
  have eE : E.toNatClampNeg = E.toInt.toNat := rfl
  rw [eE] at ho
  have z := zTo_z (T := T) (d := E.toInt.toNat) l.2 (Or.inl ho)
  have f := hf (zTm (zTo on T E.toInt.toNat) x 1024)
  rw [show d'.toNat = E.toInt.toNat + 1 from by omega, zHg_s, ← h T V x hm hb hv, hn]
  omega
theorem zKg_t {E : Int32} {t : Int} (hf : ∀ m : Nat, 0 ≤ φ m ∧ φ m ≤ (m : Int)) (h : zKg φ on g sz W ta ke ti bo D wi E.toInt n) (w0 : 0 ≤ wi) (e0 : 0 ≤ E.toInt) (e1 : E.toInt < D) (d2 : D ≤ 120) (ho : (on E.toNatClampNeg).toInt ≠ 0) (ht : zTf ta ti bo E wi t) (hd : d' = E.toInt + 1) (hn : 0 ≤ n → n ≤ 122880 → 0 ≤ t → t ≤ 1024 → n' = n + φ t.toNat) : zKg φ on g sz W ta ke ti bo D wi d' n' := fun T V x hm hb hv => by
  have e := zTf_T hm hb hv w0 e0 e1 ht
  have eE : E.toNatClampNeg = E.toInt.toNat := rfl
  rw [eE] at e ho
  have q := h T V x hm hb hv
  have bb := zHg_b (φ := φ) (T := zTo on T) (w := x) hf E.toInt.toNat
  have tb := zTm_b (t := T E.toInt.toNat) (w := x) (k := 1024)
  rw [show d'.toNat = E.toInt.toNat + 1 from by omega, zHg_s, ← q, zTo_y ho, hn (by omega) (by omega) (by omega) (by omega), show t.toNat = zTm (T E.toInt.toNat) x 1024 from by omega]
theorem zKg_e {r : Int} (h : zKg φ on g sz W ta ke ti bo D wi d n) (h1 : D ≤ d) (h2 : d ≤ D) (hr : r = n) : zKg φ on g sz W ta ke ti bo D wi D r := fun T V x hm hb hv => by
  rw [hr, h T V x hm hb hv, show d = D from by omega]
end ZHX
def zxE (F H K : Nat → Int) (y q kp p : Int) : Prop := (y = 0 ∧ q = 3 ∧ ∀ j : Nat, (j : Int) < p → 2 < F j) ∨ (∃ k : Nat, (k : Int) < p ∧ y = K k ∧ F k = q ∧ 0 ≤ q ∧ q ≤ 2 ∧ kp = H k ∧ ∀ j : Nat, (j : Int) < p → q < F j ∨ (F j = q ∧ (H j < kp ∨ (H j = kp ∧ y ≤ K j))))
section ZXE
variable {F H K : Nat → Int} {y y' q q' kp kp' p p' : Int}
theorem zxE_0 (hy : y = 0) (hq : q = 3) (hp : p = 0) : zxE F H K y q kp p := Or.inl ⟨hy, hq, fun j hj => by omega⟩
theorem zxE_k (h : zxE F H K y q kp p) (p0 : 0 ≤ p) (hv : 2 < F p.toNat ∨ q < F p.toNat ∨ (F p.toNat = q ∧ (H p.toNat < kp ∨ (H p.toNat = kp ∧ y ≤ K p.toNat)))) (hy : y' = y) (hq : q' = q) (hk : kp' = kp) (hp : p' = p + 1) : zxE F H K y' q' kp' p' := by
  subst hy; subst hq; subst hk
  rcases h with ⟨h1, h2, h3⟩ | ⟨k, h1, h2, h3, h4, h5, h6, h7⟩
  · refine Or.inl ⟨h1, h2, fun j hj => ?_⟩
    by_cases c : j = p.toNat
    · rw [c]; omega
    · exact h3 j (by omega)
  · refine Or.inr ⟨k, by omega, h2, h3, h4, h5, h6, fun j hj => ?_⟩
    by_cases c : j = p.toNat
    · rw [c]; omega
    · exact h7 j (by omega)
theorem zxE_u (h : zxE F H K y q kp p) (p0 : 0 ≤ p) (v0 : 0 ≤ F p.toNat) (v2 : F p.toNat ≤ 2) (hv : F p.toNat < q ∨ (F p.toNat = q ∧ (kp < H p.toNat ∨ (H p.toNat = kp ∧ K p.toNat ≤ y)))) (hy : y' = K p.toNat) (hq : q' = F p.toNat) (hk : kp' = H p.toNat) (hp : p' = p + 1) : zxE F H K y' q' kp' p' := by
  refine Or.inr ⟨p.toNat, by omega, hy, by omega, by omega, by omega, hk, fun j hj => ?_⟩
  by_cases c : j = p.toNat
  · rw [c]; omega
  · rcases h with ⟨h1, h2, h3⟩ | ⟨k, h1, h2, h3, h4, h5, h6, h7⟩
    · have := h3 j (by omega); omega
    · have := h7 j (by omega); omega
end ZXE
def zxB (x : Int) (V : List Int) (H : Int → Int) (r y : Int) : Prop := (r = -1 ∧ y = 0 ∧ (x = 0 ∨ ∀ z ∈ V, 2 < zxw x z)) ∨ (x ≠ 0 ∧ 0 ≤ r ∧ r ≤ 2 ∧ y ∈ V ∧ zxw x y = r ∧ ∀ z ∈ V, r < zxw x z ∨ (zxw x z = r ∧ (H z < H y ∨ (H z = H y ∧ y ≤ z))))
theorem zxB_u {x : Int} {V V2 : List Int} {H H2 : Int → Int} {r r2 y y2 : Int} (h : zxB x V H r y) (h2 : zxB x V2 H2 r2 y2) (hp : V.Perm V2) (hH : ∀ z ∈ V, H z = H2 z) : r = r2 ∧ y = y2 := by
  rcases h with ⟨a1, a2, a3⟩ | ⟨a1, a2, a3, a4, a5, a6⟩ <;> rcases h2 with ⟨b1, b2, b3⟩ | ⟨b1, b2, b3, b4, b5, b6⟩
  · exact ⟨by omega, by omega⟩
  · rcases a3 with c | c
    · exact absurd c b1
    · have := c y2 (hp.mem_iff.mpr b4); omega
  · rcases b3 with c | c
    · exact absurd c a1
    · have := c y (hp.mem_iff.mp a4); omega
  · have q1 := b6 y (hp.mem_iff.mp a4)
    have q2 := a6 y2 (hp.mem_iff.mpr b4)
    have e1 := hH y a4
    have e2 := hH y2 (hp.mem_iff.mpr b4)
    omega
def zxP2 (s : Nat → Int64) (i fr : Nat → Int32) (n : Int) (ro cs nxc fc lc bt : Nat → Int32) (ch ru ab tk : Int) (h l : Nat → Int32) (D : Int) (on : Nat → Int32) (x y q kp p : Int) : Prop := ∀ (T : Nat → Nat → Int) (V : List Int), zKl s i fr n ro cs nxc fc lc bt ch ru ab tk h l D T V → (∀ z ∈ V, 0 < z) → 0 ≤ x → zxE (fun k => zxw x (s k).toInt) (fun k => zHg zf1 (zTo on T) (s k).toInt D.toNat) (fun k => (s k).toInt) y q kp p ∧ (x = 0 → y = 0)
section ZXP2
variable {s : Nat → Int64} {i fr ro cs nxc fc lc bt h l on : Nat → Int32} {n ch ru ab tk D x y y' q q' kp kp' p p' r lim kept bl ck wh ins nu pl : Int} {T : Nat → Nat → Int} {V : List Int}
theorem zxP2_0 (hy : y = 0) (hq : q = 3) (hp : p = 0) : zxP2 s i fr n ro cs nxc fc lc bt ch ru ab tk h l D on x y q kp p := fun _ _ _ _ _ => ⟨zxE_0 hy hq hp, fun _ => hy⟩
theorem zxH (hk : zKl s i fr n ro cs nxc fc lc bt ch ru ab tk h l D T V) {P I : Int32} (p0 : 0 ≤ P.toInt) (pn : P.toInt < n) (hid : 0 ≤ P.toInt ∧ P.toInt < n → I.toInt = (i P.toNatClampNeg).toInt) (hop : zW (0 ≤ I.toInt → I.toInt ≤ 399 → ∀ B : Nat → List Bool, zPB ro cs nxc fc lc bt ch ru ab tk B → zRr fc nxc B bl ck wh ins (B I.toNatClampNeg))) (hq : zQf zf1 ro cs nxc fc lc bt ch ru ab tk on D bl ck wh ins nu pl kept) (hnu : nu = -1) (hpl : pl = 0) : kept = zHg zf1 (zTo on T) (s P.toInt.toNat).toInt D.toNat := by
  obtain ⟨k1, k2, k3, k4, k5, k6, k7, k8⟩ := hk
  have eP : P.toNatClampNeg = P.toInt.toNat := rfl
  have eI := hid ⟨p0, pn⟩
  rw [eP] at eI
  have v := k1.2.2.2.1 P.toInt.toNat (by omega)
  have lt : (I.toInt.toNat : Int) < n := by
    have l2 := k1.2.1
    rcases Nat.lt_or_ge I.toInt.toNat V.length with c | c
    · omega
    · have v2 := v.2
      rw [← eI, List.getElem?_eq_none c] at v2
      exact absurd v2 (by simp)
  have n4 := k1.2.2.1
  have o := hop (by omega) (by omega) _ k3
  have eB : zBv T V D.toNat I.toNatClampNeg = zPq T (s P.toInt.toNat).toInt D.toNat := by
    have e2 : V[I.toNatClampNeg]? = some (s P.toInt.toNat).toInt := by
      show V[I.toInt.toNat]? = _
      rw [eI]; exact v.2
    unfold zBv
    rw [e2]
    rfl
  rw [eB] at o
  exact hq _ T _ k3 o hnu hpl k6 k7 (k2 _ (List.mem_of_getElem? v.2))
theorem zxP2_k {P : Int32} {W : Int64} (hh : zxP2 s i fr n ro cs nxc fc lc bt ch ru ab tk h l D on x y q kp P.toInt) (p0 : 0 ≤ P.toInt) (pn : P.toInt < n) (hw : zW (0 ≤ P.toInt → P.toInt < n → W.toInt = (s P.toNatClampNeg).toInt)) (hd : zxD x W.toInt lim r) (hl : lim = min q 2) (q0 : 0 ≤ q) (q3 : q ≤ 3) (hr : q < r ∨ 2 < r) (hy : y' = y) (hq : q' = q) (hkp : kp' = kp) (hp : p' = P.toInt + 1) : zxP2 s i fr n ro cs nxc fc lc bt ch ru ab tk h l D on x y' q' kp' p' := fun T V hk hv x0 => by
  obtain ⟨h1, h2⟩ := hh T V hk hv x0
  have eW := hw p0 pn
  have eP : P.toNatClampNeg = P.toInt.toNat := rfl
  rw [eP] at eW
  have w0 := hv _ ((zVo_m hk.1).mpr ⟨P.toInt.toNat, by omega, rfl⟩)
  have d := hd x0 (by omega)
  rw [eW] at d
  refine ⟨zxE_k h1 p0 ?_ hy hq hkp hp, fun c => by rw [hy]; exact h2 c⟩
  show 2 < zxw x (s P.toInt.toNat).toInt ∨ q < zxw x (s P.toInt.toNat).toInt ∨ _
  by_cases c : zxw x (s P.toInt.toNat).toInt ≤ lim
  · have e := d.1 c; omega
  · have e := d.2 (by omega); omega
theorem zxP2_m {P I : Int32} {W : Int64} (hh : zxP2 s i fr n ro cs nxc fc lc bt ch ru ab tk h l D on x y q kp P.toInt) (p0 : 0 ≤ P.toInt) (pn : P.toInt < n) (hw : zW (0 ≤ P.toInt → P.toInt < n → W.toInt = (s P.toNatClampNeg).toInt)) (hd : zxD x W.toInt lim r) (hl : lim = min q 2) (r2 : r ≤ 2) (hr : r = q) (hid : 0 ≤ P.toInt ∧ P.toInt < n → I.toInt = (i P.toNatClampNeg).toInt) (hop : zW (0 ≤ I.toInt → I.toInt ≤ 399 → ∀ B : Nat → List Bool, zPB ro cs nxc fc lc bt ch ru ab tk B → zRr fc nxc B bl ck wh ins (B I.toNatClampNeg))) (hqf : zQf zf1 ro cs nxc fc lc bt ch ru ab tk on D bl ck wh ins nu pl kept) (hnu : nu = -1) (hpl : pl = 0) (hkk : kept ≤ kp) (hy : y' = y) (hq : q' = q) (hkp : kp' = kp) (hp : p' = P.toInt + 1) : zxP2 s i fr n ro cs nxc fc lc bt ch ru ab tk h l D on x y' q' kp' p' := fun T V hk hv x0 => by
  obtain ⟨h1, h2⟩ := hh T V hk hv x0
  have ek := zxH hk p0 pn hid hop hqf hnu hpl
  have eW := hw p0 pn
  have eP : P.toNatClampNeg = P.toInt.toNat := rfl
  rw [eP] at eW
  have w0 := hv _ ((zVo_m hk.1).mpr ⟨P.toInt.toNat, by omega, rfl⟩)
  have d := hd x0 (by omega)
  rw [eW] at d
  have e : zxw x (s P.toInt.toNat).toInt = q := by
    by_cases c : zxw x (s P.toInt.toNat).toInt ≤ lim
    · have e := d.1 c; omega
    · have e := d.2 (by omega); omega
  have srt := hk.1.1
  have yl : y ≤ (s P.toInt.toNat).toInt := by
    rcases h1 with ⟨a1, a2, a3⟩ | ⟨k, a1, a2, a3⟩
    · omega
    · have := srt k P.toInt.toNat (by omega) (by omega)
      rw [a2]
      show (s k).toInt ≤ _
      omega
  refine ⟨zxE_k h1 p0 (Or.inr (Or.inr ⟨e, ?_⟩)) hy hq hkp hp, fun c => by rw [hy]; exact h2 c⟩
  show zHg zf1 (zTo on T) (s P.toInt.toNat).toInt D.toNat < kp ∨ (zHg zf1 (zTo on T) (s P.toInt.toNat).toInt D.toNat = kp ∧ y ≤ (s P.toInt.toNat).toInt)
  omega
theorem zxP2_u {P I : Int32} {W W' : Int64} (hh : zxP2 s i fr n ro cs nxc fc lc bt ch ru ab tk h l D on x y q kp P.toInt) (p0 : 0 ≤ P.toInt) (pn : P.toInt < n) (hw : zW (0 ≤ P.toInt → P.toInt < n → W.toInt = (s P.toNatClampNeg).toInt)) (hw' : zW (0 ≤ P.toInt → P.toInt < n → W'.toInt = (s P.toNatClampNeg).toInt)) (hd : zxD x W.toInt lim r) (hl : lim = min q 2) (r0 : 0 ≤ r) (r2 : r ≤ 2) (rq : r ≤ q) (hx : x ≠ 0) (hid : 0 ≤ P.toInt ∧ P.toInt < n → I.toInt = (i P.toNatClampNeg).toInt) (hop : zW (0 ≤ I.toInt → I.toInt ≤ 399 → ∀ B : Nat → List Bool, zPB ro cs nxc fc lc bt ch ru ab tk B → zRr fc nxc B bl ck wh ins (B I.toNatClampNeg))) (hqf : zQf zf1 ro cs nxc fc lc bt ch ru ab tk on D bl ck wh ins nu pl kept) (hnu : nu = -1) (hpl : pl = 0) (hkk : r < q ∨ kp < kept) (hy : y' = W'.toInt) (hq : q' = r) (hkp : kp' = kept) (hp : p' = P.toInt + 1) : zxP2 s i fr n ro cs nxc fc lc bt ch ru ab tk h l D on x y' q' kp' p' := fun T V hk hv x0 => by
  obtain ⟨h1, h2⟩ := hh T V hk hv x0
  have ek := zxH hk p0 pn hid hop hqf hnu hpl
  have eW := hw p0 pn
  have eW' := hw' p0 pn
  have eP : P.toNatClampNeg = P.toInt.toNat := rfl
  rw [eP] at eW eW'
  have w0 := hv _ ((zVo_m hk.1).mpr ⟨P.toInt.toNat, by omega, rfl⟩)
  have d := hd x0 (by omega)
  rw [eW] at d
  have e : zxw x (s P.toInt.toNat).toInt = r := by
    by_cases c : zxw x (s P.toInt.toNat).toInt ≤ lim
    · have e := d.1 c; omega
    · have e := d.2 (by omega); omega
  refine ⟨zxE_u h1 p0 ?_ ?_ ?_ (hy.trans eW') (hq.trans e.symm) (hkp.trans ek) hp, fun c => absurd c hx⟩
  · show 0 ≤ zxw x (s P.toInt.toNat).toInt; omega
  · show zxw x (s P.toInt.toNat).toInt ≤ 2; omega
  · show zxw x (s P.toInt.toNat).toInt < q ∨ (zxw x (s P.toInt.toNat).toInt = q ∧ (kp < zHg zf1 (zTo on T) (s P.toInt.toNat).toInt D.toNat ∨ _))
    omega
def zxAc2 (f : Nat → Int32) (nt : Int) (s : Nat → Int64) (i fr : Nat → Int32) (n : Int) (ro cs nxc fc lc bt : Nat → Int32) (ch ru ab tk : Int) (h l : Nat → Int32) (D : Int) (on : Nat → Int32) (lw lw' r : Int) : Prop := ∀ (T : Nat → Nat → Int) (V : List Int), zKl s i fr n ro cs nxc fc lc bt ch ru ab tk h l D T V → (∀ z ∈ V, 0 < z) → ∃ x y : Int, zFW f nt x ∧ zxB x V (fun z => zHg zf1 (zTo on T) z D.toNat) r y ∧ ((y = 0 ∧ lw' = lw) ∨ (y ≠ 0 ∧ lw' = y))
theorem zxAc2_i {f : Nat → Int32} {nt lw lw' : Int} (hf : zFW f nt x) (hh : zxP2 s i fr n ro cs nxc fc lc bt ch ru ab tk h l D on x y q kp p) (hp : x = 0 ∨ n ≤ p) (pn : p ≤ n) (hr : (y = 0 ∧ r = -1 ∧ lw' = lw) ∨ (y ≠ 0 ∧ r = q ∧ lw' = y)) : zxAc2 f nt s i fr n ro cs nxc fc lc bt ch ru ab tk h l D on lw lw' r := fun T V hk hv => by
  obtain ⟨h1, h2⟩ := hh T V hk hv (zFW_n hf)
  refine ⟨x, y, hf, ?_, ?_⟩
  · rcases h1 with ⟨a1, a2, a3⟩ | ⟨k, a1, a2, a3, a4, a5, a6, a7⟩
    · refine Or.inl ⟨by omega, a1, ?_⟩
      rcases hp with c | c
      · exact Or.inl c
      · refine Or.inr (fun z hz => ?_)
        obtain ⟨j, q1, q2⟩ := (zVo_m hk.1).mp hz
        rw [← q2]
        exact a3 j (by omega)
    · have ym : y ∈ V := by rw [a2]; exact (zVo_m hk.1).mpr ⟨k, by omega, rfl⟩
      have y0 := hv y ym
      have x0 : x ≠ 0 := fun c => by have := h2 c; omega
      refine Or.inr ⟨x0, by omega, by omega, ym, ?_, fun z hz => ?_⟩
      · rw [a2, show r = q from by omega]; exact a3
      · obtain ⟨j, q1, q2⟩ := (zVo_m hk.1).mp hz
        have w := a7 j (by omega)
        have a6' : kp = zHg zf1 (zTo on T) y D.toNat := by rw [a2]; exact a6
        rw [← q2, show r = q from by omega]
        show q < zxw x (s j).toInt ∨ (zxw x (s j).toInt = q ∧ (zHg zf1 (zTo on T) (s j).toInt D.toNat < zHg zf1 (zTo on T) y D.toNat ∨ (zHg zf1 (zTo on T) (s j).toInt D.toNat = zHg zf1 (zTo on T) y D.toNat ∧ y ≤ (s j).toInt)))
        rw [← a6']
        exact w
  · omega
end ZXP2
def zxM2 (wd : Nat → Int32) (sw : Int) (g sz he : Nat → Int32) (W b q p : Int) : Prop := zMs g sz W → ((b = -1 ∧ q = 3 ∧ ∀ j : Nat, (j : Int) < p → 2 < zxq wd sw g sz j) ∨ (0 ≤ b ∧ b < p ∧ zxq wd sw g sz b.toNat = q ∧ 0 ≤ q ∧ q ≤ 2 ∧ ∀ j : Nat, (j : Int) < p → q < zxq wd sw g sz j ∨ (zxq wd sw g sz j = q ∧ ((he j).toInt < (he b.toNat).toInt ∨ ((he j).toInt = (he b.toNat).toInt ∧ zkw g sz b.toNat ≤ zkw g sz j)))))
section ZXM2
variable {wd g sz he : Nat → Int32} {sw W b b' q q' p' : Int}
theorem zxM2_0 {p : Int} (hb : b = -1) (hq : q = 3) (hp : p = 0) : zxM2 wd sw g sz he W b q p := fun _ => Or.inl ⟨hb, hq, fun j hj => by omega⟩
theorem zxM2_k {P : Int} (h : zxM2 wd sw g sz he W b q P) (p0 : 0 ≤ P) (hv : zMs g sz W → 2 < zxq wd sw g sz P.toNat ∨ q < zxq wd sw g sz P.toNat ∨ (0 ≤ b ∧ zxq wd sw g sz P.toNat = q ∧ ((he P.toNat).toInt < (he b.toNat).toInt ∨ ((he P.toNat).toInt = (he b.toNat).toInt ∧ zkw g sz b.toNat ≤ zkw g sz P.toNat)))) (hb : b' = b) (hq : q' = q) (hp : p' = P + 1) : zxM2 wd sw g sz he W b' q' p' := fun hm => by
  subst hb; subst hq
  have v := hv hm
  rcases h hm with ⟨h1, h2, h3⟩ | ⟨h1, h2, h3, h4, h5, h6⟩
  · refine Or.inl ⟨h1, h2, fun j hj => ?_⟩
    by_cases c : j = P.toNat
    · rw [c]; omega
    · exact h3 j (by omega)
  · refine Or.inr ⟨h1, by omega, h3, h4, h5, fun j hj => ?_⟩
    by_cases c : j = P.toNat
    · rw [c]; omega
    · exact h6 j (by omega)
theorem zxM2_u {P : Int} (h : zxM2 wd sw g sz he W b q P) (p0 : 0 ≤ P) (v0 : 0 ≤ zxq wd sw g sz P.toNat) (v2 : zxq wd sw g sz P.toNat ≤ 2) (hv : zMs g sz W → b = -1 ∨ zxq wd sw g sz P.toNat < q ∨ (zxq wd sw g sz P.toNat = q ∧ ((he b.toNat).toInt < (he P.toNat).toInt ∨ ((he P.toNat).toInt = (he b.toNat).toInt ∧ zkw g sz P.toNat ≤ zkw g sz b.toNat)))) (hb : b' = P) (hq : q' = zxq wd sw g sz P.toNat) (hp : p' = P + 1) : zxM2 wd sw g sz he W b' q' p' := fun hm => by
  rw [hb]
  have v := hv hm
  refine Or.inr ⟨p0, by omega, hq.symm, by omega, by omega, fun j hj => ?_⟩
  by_cases c : j = P.toNat
  · rw [c]; omega
  · rcases h hm with ⟨h1, h2, h3⟩ | ⟨h1, h2, h3, h4, h5, h6⟩
    · have := h3 j (by omega); omega
    · have := h6 j (by omega); omega
def zWl (lk : Nat → Int32) (ls y : Int) : Prop := 1 ≤ ls ∧ ls ≤ 12 ∧ (∀ k : Nat, (k : Int) < ls → zVl (lk k).toInt) ∧ y = zpk (fun k => (lk k).toInt) ls.toNat 12
def zCy (a b : Nat → Int32) (o k : Int) : Prop := ∀ j : Nat, (j : Int) < k → -128 ≤ (b (o.toNat + j)).toInt → (b (o.toNat + j)).toInt ≤ 127 → a j = b (o.toNat + j)
theorem zCy_0 {a b : Nat → Int32} {o k : Int} (h : k ≤ 0) : zCy a b o k := fun j hj => by omega
theorem zCy_s {a a' b : Nat → Int32} {o k k' : Int} {K J z : Int32} (h : zCy a b o k) (k0 : 0 ≤ k) (o0 : 0 ≤ o) (ez : z = b J.toNatClampNeg) (hJ : J.toInt = o + k) (e : a' = upd a K.toNatClampNeg (vp_nar .byte z)) (hK : K.toInt = k) (hk : k' = k + 1) : zCy a' b o k' := fun j hj h1 h2 => by
  have eK : K.toNatClampNeg = k.toNat := by have : K.toNatClampNeg = K.toInt.toNat := rfl; omega
  have eJ : J.toNatClampNeg = o.toNat + k.toNat := by have : J.toNatClampNeg = J.toInt.toNat := rfl; omega
  rw [eK] at e
  rw [eJ] at ez
  by_cases c : j = k.toNat
  · rw [c] at h1 h2 ⊢
    rw [← ez] at h1 h2 ⊢
    rw [e, pk_us]
    exact zeqi.mpr (by rw [vp_nar_byte, zi2b rfl rfl h1 h2])
  · rw [e, pk_un c]; exact h j (by omega) h1 h2
theorem zWl_c {lk wd : Nat → Int32} {ls o m : Int} (h : zCy lk wd o ls) (m1 : ls = m) (hv : ∀ k : Nat, (k : Int) < ls → zVl (wd (o.toNat + k)).toInt) (l1 : 1 ≤ ls) (l2 : ls ≤ 12) : zWl lk ls (zpk (fun k => (wd (o.toNat + k)).toInt) m.toNat 12) := by
  have e : ∀ k : Nat, (k : Int) < ls → lk k = wd (o.toNat + k) := fun k hk => by
    have v := hv k hk
    unfold zVl at v
    exact h k hk (by omega) (by omega)
  refine ⟨l1, l2, fun k hk => by rw [e k hk]; exact hv k hk, ?_⟩
  rw [← m1]
  exact (zpk_q (k := 12) (fun j _ => ⟨Iff.rfl, fun hj => by rw [e j (by omega)]⟩) 12 (Nat.le_refl _)).symm
theorem zCy_t {a b g : Nat → Int32} {o n n' : Int} (h1 : zCy a b 0 n) (h2 : zCy b g o n') (e : n = n') : zCy a g o n := fun j hj q1 q2 => by
  have w := h2 j (by omega) q1 q2
  have z : (0 : Int).toNat + j = j := by omega
  have v := h1 j hj (by rw [z, w]; exact q1) (by rw [z, w]; exact q2)
  rw [v, z, w]
theorem zWl_b {lk : Nat → Int32} {ls : Int} (h : zCy lk g (12 * b) ls) (e : ls = (sz b.toNat).toInt) (b0 : 0 ≤ b) (hm : zMs g sz W) (bW : b < W) (nz : (sz b.toNat).toInt ≠ 0) : zWl lk ls (zkw g sz b.toNat) := by
  have a := hm.1 b.toNat (by omega)
  have eo : (12 * b).toNat = 12 * b.toNat := by omega
  have w := zWl_c (m := (sz b.toNat).toInt) h e (fun k hk => by rw [eo]; exact a.2.2 k (by omega)) (by omega) (by omega)
  rw [eo] at w
  exact w
def zxAr2 (f : Nat → Int32) (n : Int) (g sz : Nat → Int32) (W : Int) (ta ke ti bo : Nat → Int32) (D : Int) (on lk lk' : Nat → Int32) (ls ls' r : Int) : Prop := ∀ (T : Nat → Nat → Int) (V : List Int), zMd g sz W ta ke D T V → zMb ti bo D T → ∃ x y : Int, zFW f n x ∧ zxB x V (fun z => zHg zf1 (zTo on T) z D.toNat) r y ∧ ((y = 0 ∧ lk' = lk ∧ ls' = ls) ∨ (y ≠ 0 ∧ zWl lk' ls' y))
theorem zxAr2_0 {f ta ke ti bo on lk : Nat → Int32} {n D ls r : Int} (h : ∀ i : Int, ¬ zIn f n i) (hr : r = -1) : zxAr2 f n g sz W ta ke ti bo D on lk lk ls ls r := fun T V _ _ => ⟨0, 0, Or.inl ⟨rfl, h⟩, Or.inl ⟨hr, rfl, Or.inl rfl⟩, Or.inl ⟨rfl, rfl, rfl⟩⟩
theorem zxq_w {f : Nat → Int32} {n : Int} {V : List Int} (hw : zTw f n wd sw) (hV : zMv g sz W V) {j : Nat} (hj : (j : Int) < W) : zxw (zpk (fun k => (wd k).toInt) sw.toNat 12) (zkw g sz j) = zxq wd sw g sz j := by
  obtain ⟨w1, w2, w3, w4, w5⟩ := hw
  have a := hV.1.1 j hj
  exact zxw_p (L := fun k => (wd k).toInt) (L' := fun k => (g (12 * j + k)).toInt) (m := sw.toNat) (m' := (sz j).toInt.toNat) (fun k hk => w3 k (by omega)) (fun k hk => a.2.2 k (by omega)) (by omega) (by omega)
theorem zMv_j {V : List Int} (hV : zMv g sz W V) {y : Int} (hy : y ∈ V) : ∃ j : Nat, (j : Int) < W ∧ V[j]? = some y ∧ zkw g sz j = y := by
  obtain ⟨v1, v2, v3, v4, v5⟩ := hV
  obtain ⟨j, hj, e⟩ := List.getElem_of_mem hy
  have q := v4 j (by omega)
  rw [List.getElem?_eq_getElem hj, e] at q
  exact ⟨j, by omega, by rw [List.getElem?_eq_getElem hj, e], (Option.some.inj q).symm⟩
theorem zpk_zero {L : Nat → Int} : zpk L (0 : Int).toNat 12 = 0 := rfl
theorem zxAr2_i {f ta ke ti bo on lk lk' : Nat → Int32} {n D ls ls' r p : Int} (hw : zTw f n wd sw) (hM : zxM2 wd sw g sz he W b q p) (hx : zHx he on g sz W ta ke ti bo D D) (p1 : W ≤ p) (p2 : p ≤ W) (hr : (b = -1 ∧ r = -1 ∧ lk' = lk ∧ ls' = ls) ∨ (b ≠ -1 ∧ r = q ∧ (0 ≤ b → zMs g sz W → b < W → (sz b.toNat).toInt ≠ 0 → zWl lk' ls' (zkw g sz b.toNat)))) : zxAr2 f n g sz W ta ke ti bo D on lk lk' ls ls' r := fun T V hm hb => by
  have hV := hm.1
  have hx0 : zpk (fun k => (wd k).toInt) sw.toNat 12 ≠ 0 := by have := hw.2.1; omega
  rcases hM hV.1 with ⟨a1, a2, a3⟩ | ⟨a1, a2, a3, a4, a5, a6⟩
  · rcases hr with ⟨-, r1, r2, r3⟩ | ⟨c, -⟩
    · refine ⟨_, 0, hw.1, Or.inl ⟨r1, rfl, Or.inr (fun y hy => ?_)⟩, Or.inl ⟨rfl, r2, r3⟩⟩
      obtain ⟨j, j1, -, j2⟩ := zMv_j hV hy
      rw [← j2, zxq_w hw hV j1]
      exact a3 j (by omega)
    · exact absurd a1 c
  · rcases hr with ⟨c, -⟩ | ⟨-, r1, r2⟩
    · omega
    · have bW : ((b.toNat : Nat) : Int) < W := by omega
      have vb := hV.2.2.2.1 b.toNat bW
      have ym := List.mem_of_getElem? vb
      have ynz := hV.2.2.2.2 _ ym
      have hb0 : (he b.toNat).toInt = zHg zf1 (zTo on T) (zkw g sz b.toNat) D.toNat := hx T V hm hb b.toNat _ vb
      have s0 : (sz b.toNat).toInt ≠ 0 := fun c => ynz (by
        unfold zkw
        rw [c]
        exact zpk_zero)
      refine ⟨_, zkw g sz b.toNat, hw.1, Or.inr ⟨hx0, by omega, by omega, ym, ?_, fun y hy => ?_⟩, Or.inr ⟨ynz, r2 a1 hV.1 (by omega) s0⟩⟩
      · rw [zxq_w hw hV bW, r1]; exact a3
      · obtain ⟨j, j1, j3, j2⟩ := zMv_j hV hy
        have w := a6 j (by omega)
        have hj := hx T V hm hb j y j3
        show r < zxw (zpk (fun k => (wd k).toInt) sw.toNat 12) y ∨ (zxw (zpk (fun k => (wd k).toInt) sw.toNat 12) y = r ∧ (zHg zf1 (zTo on T) y D.toNat < zHg zf1 (zTo on T) (zkw g sz b.toNat) D.toNat ∨ (zHg zf1 (zTo on T) y D.toNat = zHg zf1 (zTo on T) (zkw g sz b.toNat) D.toNat ∧ zkw g sz b.toNat ≤ y)))
        rw [← hb0, ← hj, ← j2, zxq_w hw hV j1, r1]
        exact w
end ZXM2
def zrr (os k : Int) : Int := if 0 < k then zdig (16 * os / k) else 0
def zmu (T : Nat → Nat → Int) (on : Nat → Int32) (D : Nat) (os : Int) (a b : Nat) (x : Int) : Int := min (zTm (zTo on T a) x 1024 : Int) (zTm (zTo on T b) x 1024 : Int) * zrr os (zHg zf1 (zTo on T) x D)
def zls (μ : Int → Int) : List Int → Int
  | [] => 0
  | x :: l => μ x + zls μ l
theorem zls_p {μ : Int → Int} {l l' : List Int} (h : l.Perm l') : zls μ l = zls μ l' := by
  induction h with
  | nil => rfl
  | cons x _ ih => show μ x + _ = μ x + _; rw [ih]
  | swap x y l => show μ y + (μ x + _) = μ x + (μ y + _); omega
  | trans _ _ ih1 ih2 => rw [ih1, ih2]
theorem zls_a {μ : Int → Int} {l : List Int} {x : Int} : zls μ (l ++ [x]) = zls μ l + μ x := by
  induction l with
  | nil => show μ x + 0 = 0 + μ x; omega
  | cons y l ih => show μ y + zls μ (l ++ [x]) = μ y + zls μ l + μ x; rw [ih]; omega
def zsn (F : Nat → Int) : Nat → Int
  | 0 => 0
  | k + 1 => zsn F k + F k
theorem zsn_s {F : Nat → Int} (k : Nat) : zsn F (k + 1) = zsn F k + F k := rfl
theorem zsn_l {F : Nat → Int} {μ : Int → Int} {K : Nat → Int} : ∀ n : Nat, (∀ k, k < n → F k = μ (K k)) → zsn F n = zls μ ((List.range n).map K) := by
  intro n
  induction n with
  | zero => intro _; rfl
  | succ n ih =>
    intro h
    rw [zsn_s, ih (fun k hk => h k (by omega)), h n (Nat.lt_succ_self n), List.range_succ, List.map_append]
    exact zls_a.symm
theorem zls_r {V : List Int} {K : Nat → Int} {n : Nat} (hn : V.Nodup) (hi : ∀ a b : Nat, a < b → b < n → K a ≠ K b) (hm : ∀ x, x ∈ V ↔ ∃ k : Nat, k < n ∧ K k = x) {μ : Int → Int} : zls μ V = zls μ ((List.range n).map K) := by
  have inj : ((List.range n).map K).Nodup := by
    unfold List.Nodup
    rw [List.pairwise_iff_getElem]
    intro a b ha hb hab
    rw [List.getElem_map, List.getElem_map, List.getElem_range, List.getElem_range]
    rw [List.length_map, List.length_range] at hb
    exact hi a b hab hb
  refine zls_p ((List.perm_ext_iff_of_nodup hn inj).mpr (fun x => ?_))
  rw [hm x, List.mem_map]
  constructor
  · rintro ⟨k, k1, k2⟩
    exact ⟨k, List.mem_range.mpr k1, k2⟩
  · rintro ⟨k, k1, k2⟩
    exact ⟨k, List.mem_range.mp k1, k2⟩
def zTQ (to ta : Nat → Int32) (W d t k : Int) : Prop := ∀ w : Nat, (w : Int) < W → (to w).toInt + (zp ta d (w : Int) 512).1 = (zp ta d (w : Int) t.toNat).1 + (zp ta d (w : Int) k.toNat).1
def zTX (to ta ti bo : Nat → Int32) (W : Int) (E : Int32) : Prop := ∀ w : Nat, (w : Int) < W → zTf ta ti bo E (w : Int) (to w).toInt
section ZTQ
variable {to ta ti bo : Nat → Int32} {W L d t k k' k2 a : Int}
theorem zTQ_0 (h : zT0 to L) (e : W ≤ L) (ht : t = 512) (hk : k = 0) : zTQ to ta W d t k := fun w hw => by
  subst ht; subst hk
  have z : (zp ta d (w : Int) (0 : Int).toNat).1 = 0 := rfl
  rw [h w (by omega), z, show (512 : Int).toNat = 512 from rfl]
  omega
theorem zTQ_m (h : zTQ to ta W d 512 k) (hk : k = t) (hk2 : k2 = 512) : zTQ to ta W d t k2 := fun w hw => by
  subst hk2
  have q := h w hw
  rw [show (512 : Int).toNat = 512 from rfl] at q ⊢
  rw [← hk]
  omega
theorem zTQ_n (h : zTQ to ta W d t k) (k0 : 0 ≤ k) (hat : (ta (1024 * d + k).toNat).toInt = a) (ha : a ≤ 0) (e : k' = k + 1) : zTQ to ta W d t k' := fun w hw => by
  rw [show k'.toNat = k.toNat + 1 from by omega, zp_n (k := k.toNat) (by rw [show ((k.toNat : Nat) : Int) = k from by omega, hat]; omega)]
  exact h w hw
theorem zTQ_y {I X : Int32} (h : zTQ to ta W d t k) (k0 : 0 ≤ k) (hat : (ta (1024 * d + k).toNat).toInt = a) (hI : I.toInt = a - 1) (ha : 0 < a) (hx : I.toInt < W → X.toInt = (to I.toNatClampNeg).toInt + 1) (e : k' = k + 1) : zTQ (upd to I.toNatClampNeg X) ta W d t k' := fun w hw => by
  have cl := zclamp (x := I) (by omega)
  have q := h w hw
  rw [show k'.toNat = k.toNat + 1 from by omega]
  by_cases c : w = I.toNatClampNeg
  · have x1 := hx (by omega)
    rw [← c] at x1 ⊢
    rw [pk_us, zp_y (k := k.toNat) (by rw [show ((k.toNat : Nat) : Int) = k from by omega, hat]; omega)]
    show X.toInt + _ = _ + ((zp ta d (w : Int) k.toNat).1 + 1)
    omega
  · rw [pk_un c, zp_n (k := k.toNat) (by rw [show ((k.toNat : Nat) : Int) = k from by omega, hat]; omega)]
    exact q
theorem zTQ_e {E : Int32} (h : zTQ to ta W E.toInt t k) (ht : t = (ti E.toNatClampNeg).toInt) (hk : k = 512 + (bo E.toNatClampNeg).toInt) : zTX to ta ti bo W E := fun w hw => by
  unfold zTf
  rw [← ht, ← hk]
  exact h w hw
end ZTQ
def zOn (on : Nat → Int32) (d : Int) : Prop := (on d.toNat).toInt ≠ 0
def zAi (ow of he on g sz : Nat → Int32) (W : Int) (ta ke ti bo : Nat → Int32) (D n : Int) (E : Int32) (w s : Int) : Prop := ∀ (T : Nat → Nat → Int) (V : List Int) (a : Nat), zMd g sz W ta ke D T V → zMb ti bo D T → (∀ (j : Nat) (x : Int), V[j]? = some x → (ow j).toInt = (zTm (T a) x 1024 : Int)) → (∀ (j : Nat) (x : Int), V[j]? = some x → (he j).toInt = zHg zf1 (zTo on T) x D.toNat) → (on a).toInt ≠ 0 → (on E.toNatClampNeg).toInt ≠ 0 → 0 ≤ n → n ≤ 120 → s = zsn (fun j => zmu T on D.toNat n a E.toNatClampNeg (zkw g sz j)) w.toNat ∧ s ≤ 31744 * w ∧ 0 ≤ s
def zah (g sz : Nat → Int32) (x : Int) : Nat → Int
  | 0 => 0
  | v + 1 => zah g sz x v + (if zkw g sz v < x then 1 else 0)
def zAh (g sz : Nat → Int32) (W w v n : Int) : Prop := zMs g sz W → 0 ≤ w → w < W → n = zah g sz (zkw g sz w.toNat) v.toNat
section ZAH
variable {g sz : Nat → Int32} {W w v v' n n' r : Int}
theorem zAh_0 (hv : v = 0) (hn : n = 0) : zAh g sz W w v n := fun _ _ _ => by subst hv; rw [hn]; rfl
theorem zAh_s (h : zAh g sz W w v n) (ho : zOr g sz W v w r) (v0 : 0 ≤ v) (vW : v < W) (hn : (r < 0 ∧ n' = n + 1) ∨ (0 ≤ r ∧ n' = n)) (e : v' = v + 1) : zAh g sz W w v' n' := fun hm w0 wW => by
  have q := h hm w0 wW
  have o := ho hm v0 vW w0 wW
  rw [show v'.toNat = v.toNat + 1 from by omega]
  show n' = zah g sz (zkw g sz w.toNat) v.toNat + (if zkw g sz v.toNat < zkw g sz w.toNat then 1 else 0)
  by_cases c : zkw g sz v.toNat < zkw g sz w.toNat
  · have := o.1.mpr c
    rw [if_pos c]; omega
  · have : ¬ r < 0 := fun d => c (o.1.mp d)
    rw [if_neg c]; omega
theorem zAh_e (h : zAh g sz W w v n) (h1 : W ≤ v) (h2 : v ≤ W) (hr : r = n) : zAh g sz W w W r := fun hm w0 wW => by
  rw [hr, h hm w0 wW, show v = W from by omega]
end ZAH
theorem zCy_e {a b : Nat → Int32} {o k k' : Int} (h : zCy a b o k) (e : k' ≤ k) : zCy a b o k' := fun j hj => h j (by omega)
theorem zfn0 {wd : Nat → Int32} : (fun k : Nat => (wd ((0 : Int).toNat + k)).toInt) = (fun k => (wd k).toInt) := funext fun k => by rw [show (0 : Int).toNat + k = k from by omega]
theorem zWl_0 {lk wd : Nat → Int32} {ls : Int} (h : zCy lk wd 0 ls) (hv : ∀ k : Nat, (k : Int) < ls → zVl (wd k).toInt) (l1 : 1 ≤ ls) (l2 : ls ≤ 12) : zWl lk ls (zpk (fun k => (wd k).toInt) ls.toNat 12) := by
  have w := zWl_c (m := ls) h rfl (fun k hk => by rw [show (0 : Int).toNat + k = k from by omega]; exact hv k hk) l1 l2
  rw [zfn0] at w
  exact w
def zLd2 (f : Nat → Int32) (n : Int) (lk : Nat → Int32) (ls : Int) : Prop := (ls = 0 ∧ ∀ i : Int, ¬ zIn f n i) ∨ ∃ y : Int, zFW f n y ∧ zWl lk ls y
theorem zLd2_0 {f lk : Nat → Int32} {n ls : Int} (h : ∀ i : Int, ¬ zIn f n i) (e : ls = 0) : zLd2 f n lk ls := Or.inl ⟨e, h⟩
theorem zLd2_1 {f lk wd : Nat → Int32} {n ls s : Int} (hw : zTw f n wd s) (hc : zCy lk wd 0 s) (e : ls = s) : zLd2 f n lk ls := by
  subst e
  obtain ⟨w1, w2, w3, w4, w5⟩ := hw
  exact Or.inr ⟨_, w1, zWl_0 hc w3 w4 w5⟩
def zLw (lk : Nat → Int32) (ls : Int) (g sz : Nat → Int32) (W r : Int) : Prop := (ls ≤ 0 → r = -1) ∧ ∀ (V : List Int) (y : Int), zMv g sz W V → zWl lk ls y → zIf V y r
theorem zLw_0 {lk g sz : Nat → Int32} {ls W r : Int} (h : ls ≤ 0) (hr : r = -1) : zLw lk ls g sz W r := ⟨fun _ => hr, fun V y _ hw => by have := hw.1; omega⟩
theorem zLw_1 {lk wd g sz : Nat → Int32} {ls k s W r : Int} (h : 0 < ls) (hc : zCy wd lk 0 k) (hk : ls ≤ k) (es : s = ls) (hf : zFd g sz wd s W r) : zLw lk ls g sz W r := ⟨fun c => by omega, fun V y hV hw => by
  subst es
  obtain ⟨w1, w2, w3, w4⟩ := hw
  have a := zWl_0 (zCy_e hc hk) w3 w1 w2
  exact zMv_f hV hf a.2.2.1 w2 (by omega) (w4.trans a.2.2.2)⟩
def zLo (lw : Int) (lk : Nat → Int32) (ls : Int) : Prop := (lw = -1 ∧ ls = -1) ∨ (lw = 0 ∧ ls = 0) ∨ zWl lk ls lw
theorem zLo_l {f f2 lk : Nat → Int32} {n n2 x ls : Int} (te : zTe f f2 n) (en : n2 = n) (hc : zFW f n x) (hm : zLd2 f2 n2 lk ls) : zLo x lk ls := by
  subst en
  have hc2 := zFW_c (fun j _ => te.1 j) hc
  rcases hm with ⟨h1, h2⟩ | ⟨y, h1, h2⟩
  · have e : x = 0 := zFW_u hc2 (Or.inl ⟨rfl, h2⟩)
    exact Or.inr (Or.inl ⟨e, h1⟩)
  · have e : x = y := zFW_u hc2 h1
    rw [e]
    exact Or.inr (Or.inr h2)
theorem zWl_p {lk : Nat → Int32} {ls y : Int} (h : zWl lk ls y) : 0 ≤ y := by
  obtain ⟨h1, h2, h3, h4⟩ := h
  rw [h4]
  exact zpk_b (fun k hk => h3 k (by omega)) 12
def zPv (T : Nat → Nat → Int) (V : List Int) (D : Nat) (on : Nat → Int32) (q x r : Int) : Prop := ((x = -1 ∨ q < 0 ∨ 4 < q) ∧ r = -1) ∨ (x ≠ -1 ∧ 0 ≤ q ∧ q ≤ 4 ∧ x ∉ V ∧ r = 0) ∨ (x ≠ -1 ∧ x ∈ V ∧ ((q = 0 ∧ r = ((zPq T x D).length : Int)) ∨ (q = 1 ∧ r = (znc (zPq T x D).length : Int)) ∨ (q = 2 ∧ r = zHg zf1 (zTo on T) x D) ∨ (q = 3 ∧ r = zHg zf2 (zTo on T) x D) ∨ (q = 4 ∧ r = zls (fun z => if z < x then 1 else 0) V)))
theorem zHg_c {φ : Nat → Int} {T T' : Nat → Nat → Int} {w : Int} : ∀ {d : Nat}, (∀ e, e < d → T e = T' e) → zHg φ T w d = zHg φ T' w d := by
  intro d
  induction d with
  | zero => intro _; rfl
  | succ d ih => intro h; rw [zHg_s, zHg_s, ih (fun e he => h e (by omega)), h d (Nat.lt_succ_self d)]
theorem zPv_u {T : Nat → Nat → Int} {V V2 : List Int} {D : Nat} {on on2 : Nat → Int32} {q x r r2 : Int} (h : zPv T V D on q x r) (h2 : zPv T V2 D on2 q x r2) (hp : V.Perm V2) (ho : ∀ d : Nat, d < D → (on2 d).toInt = (on d).toInt) : r = r2 := by
  have e : ∀ φ : Nat → Int, zHg φ (zTo on2 T) x D = zHg φ (zTo on T) x D := fun φ => zHg_c (fun d hd => by
    unfold zTo
    rw [ho d hd])
  have e1 := e zf1
  have e2 := e zf2
  have e3 := zls_p (μ := fun z => if z < x then 1 else 0) hp
  have m := hp.mem_iff (a := x)
  rcases h with ⟨a1, a2⟩ | ⟨a1, a2, a3, a4, a5⟩ | ⟨a1, a2, a3⟩ <;> rcases h2 with ⟨b1, b2⟩ | ⟨b1, b2, b3, b4, b5⟩ | ⟨b1, b2, b3⟩
  · omega
  · omega
  · omega
  · omega
  · omega
  · exact absurd (m.mpr b2) a4
  · omega
  · exact absurd (m.mp a2) b4
  · omega
def zCj (n many left room : Int) : Prop := 0 ≤ n → ∃ j : Nat, many = (j : Int) ∧ left = n - zrm j ∧ room = zbc j ∧ (j = 0 ∨ (zrm (j - 1) : Int) < n)
theorem zCj_0 {n many left room : Int} (h1 : many = 0) (h2 : left = n) (h3 : room = 32) : zCj n many left room := fun _ => ⟨0, by rw [h1]; rfl, by rw [h2]; exact (Int.sub_zero n).symm, by rw [h3]; rfl, Or.inl rfl⟩
theorem zCj_s {n many left room many' left' room' : Int} (h : zCj n many left room) (hl : 0 < left) (h1 : many' = many + 1) (h2 : left' = left - room) (h3 : room' = min 256 (2 * room)) : zCj n many' left' room' := fun h0 => by
  obtain ⟨j, a1, a2, a3, a4⟩ := h h0
  have s := zrm_s j
  have b : (zbc (j + 1) : Int) = min 256 (2 * (zbc j : Int)) := by unfold zbc; (repeat' split) <;> omega
  exact ⟨j + 1, by omega, by omega, by omega, Or.inr (by rw [Nat.add_sub_cancel]; omega)⟩
theorem zCj_e {n many left room r : Int} (h : zCj n many left room) (hl : left ≤ 0) (hr : r = many) : 0 ≤ n → r = (znc n.toNat : Int) := fun h0 => by
  obtain ⟨j, a1, a2, a3, a4⟩ := h h0
  have s := zCs_e (n := n) (sum := (zrm j : Int) + 16 * j) (left := left) (room := room) (r := (zrm j : Int) + 16 * j) (fun _ => ⟨j, rfl, a2, a3, a4⟩) hl rfl h0
  unfold zco at s
  rcases Nat.lt_trichotomy j (znc n.toNat) with c | c | c
  · have m := zrm_m (i := j) (j := znc n.toNat) (by omega)
    omega
  · omega
  · have m := zrm_m (i := znc n.toNat) (j := j) (by omega)
    omega
section ZLY
variable {g sz ta ke ti bo : Nat → Int32} {W D w d d' L L' l l' n : Int} {T : Nat → Nat → Int} {V : List Int} {x : Int}
theorem zMd_w (hm : zMd g sz W ta ke D T V) (hv : V[w.toNat]? = some x) (w0 : 0 ≤ w) : ∀ e : Nat, (e : Int) < D → (∀ j : Nat, j < 1024 → ((ta (1024 * (e : Int) + j).toNat).toInt = w + 1 ↔ T e j = x)) ∧ ((ke e).toInt = 0 → ∀ j : Nat, T e j = 0) := fun e he => by
  obtain ⟨h1, h2, h3, h4, h5⟩ := hm
  have hx := h1.2.2.2.2 _ (List.mem_of_getElem? hv)
  obtain ⟨q1, q2, q3⟩ := h4 e he
  refine ⟨fun j hj => ?_, q3⟩
  rw [show (1024 * (e : Int) + (j : Int)).toNat = 1024 * e + j from by omega]
  have q := zRw_i q1 (zMv_nd h1) hv hx hj
  rw [show ((w.toNat : Nat) : Int) = w from by omega] at q
  exact q
theorem znw_t {E : Int32} (hm : zMd g sz W ta ke D T V) (hb : zMb ti bo D T) (hv : V[w.toNat]? = some x) (w0 : 0 ≤ w) (e0 : 0 ≤ E.toInt) (e1 : E.toInt < D) (hk : (ke E.toNatClampNeg).toInt ≠ 0) (ht : zTf ta ti bo E w n) : zcnw ta ke w E.toNatClampNeg = n := by
  have cl := zclamp e0
  have e := zTf_T hm hb hv w0 e0 e1 ht
  have q := (zMd_w hm hv w0 E.toNatClampNeg (by omega)).1
  rw [zcnw_p hk, zp_T (t := T E.toNatClampNeg) (x := x) (k := 1024) (fun j hj => q j hj), e]
def zLy (g sz : Nat → Int32) (W : Int) (ta ke ti bo : Nat → Int32) (D w d L l : Int) : Prop := ∀ (T : Nat → Nat → Int) (V : List Int) (x : Int), zMd g sz W ta ke D T V → zMb ti bo D T → V[w.toNat]? = some x → L = (zB ta ke w d.toNat).1 ∧ l = (zB ta ke w d.toNat).2
theorem zLy_0 (hd : d = 0) (hL : L = 0) (hl : l = -1) : zLy g sz W ta ke ti bo D w d L l := fun T V x _ _ _ => by
  subst hd
  exact ⟨hL, hl⟩
theorem zLy_k {E : Int32} (h : zLy g sz W ta ke ti bo D w E.toInt L l) (e0 : 0 ≤ E.toInt) (hk : (ke E.toNatClampNeg).toInt = 0) (hd : d' = E.toInt + 1) (hL : L' = L) (hl : l' = l) : zLy g sz W ta ke ti bo D w d' L' l' := fun T V x hm hb hv => by
  have q := h T V x hm hb hv
  have eE : E.toNatClampNeg = E.toInt.toNat := rfl
  rw [eE] at hk
  rw [show d'.toNat = E.toInt.toNat + 1 from by omega, zB_n (by rw [zcnw_0 hk]; omega), hL, hl]
  exact q
theorem zLy_z {E : Int32} (h : zLy g sz W ta ke ti bo D w E.toInt L l) (w0 : 0 ≤ w) (e0 : 0 ≤ E.toInt) (e1 : E.toInt < D) (hk : (ke E.toNatClampNeg).toInt ≠ 0) (ht : zTf ta ti bo E w n) (hn : n ≤ 0) (hd : d' = E.toInt + 1) (hL : L' = L) (hl : l' = l) : zLy g sz W ta ke ti bo D w d' L' l' := fun T V x hm hb hv => by
  have q := h T V x hm hb hv
  have c := znw_t hm hb hv w0 e0 e1 hk ht
  have eE : E.toNatClampNeg = E.toInt.toNat := rfl
  rw [eE] at c
  rw [show d'.toNat = E.toInt.toNat + 1 from by omega, zB_n (by rw [c]; omega), hL, hl]
  exact q
theorem zLy_s {E : Int32} (h : zLy g sz W ta ke ti bo D w E.toInt L l) (w0 : 0 ≤ w) (e0 : 0 ≤ E.toInt) (e1 : E.toInt < D) (hk : (ke E.toNatClampNeg).toInt ≠ 0) (ht : zTf ta ti bo E w n) (hn : n ≠ 0) (hd : d' = E.toInt + 1) (hL : L' = L + zgam (E.toInt - l) + zgam n + (zp ta E.toInt w 1024).2.1) (hl : l' = E.toInt) : zLy g sz W ta ke ti bo D w d' L' l' := fun T V x hm hb hv => by
  have q := h T V x hm hb hv
  have c := znw_t hm hb hv w0 e0 e1 hk ht
  have cb := zcnw_b (ta := ta) (ke := ke) (w := w) (d := E.toInt.toNat)
  have eE : E.toNatClampNeg = E.toInt.toNat := rfl
  rw [eE] at c
  have ei : ((E.toInt.toNat : Nat) : Int) = E.toInt := by omega
  rw [show d'.toNat = E.toInt.toNat + 1 from by omega, zB_y (by omega), c, ei, ← q.1, ← q.2]
  exact ⟨hL, hl⟩
theorem zLy_e {r : Int} (h : zLy g sz W ta ke ti bo D w d L l) (h1 : D ≤ d) (h2 : d ≤ D) (w0 : 0 ≤ w) (hr : r = L) (hm : zMd g sz W ta ke D T V) (hb : zMb ti bo D T) (hv : V[w.toNat]? = some x) : r = ((zPq T x D.toNat).length : Int) := by
  have q := h T V x hm hb hv
  have hx := hm.1.2.2.2.2 _ (List.mem_of_getElem? hv)
  have e := zB_T (ta := ta) (ke := ke) (w := w) hx (D := D.toNat) (fun e he => zMd_w hm hv w0 e (by have := hm.2.1; omega))
  rw [hr, q.1, show d = D from by omega, e]
end ZLY
def zPr (lk : Nat → Int32) (ls : Int) (g sz : Nat → Int32) (W : Int) (ta ke ti bo : Nat → Int32) (D : Int) (on : Nat → Int32) (q r : Int) : Prop := ∀ (T : Nat → Nat → Int) (V : List Int) (lw : Int), zMd g sz W ta ke D T V → zMb ti bo D T → zLo lw lk ls → zPv T V D.toNat on q lw r
section ZPR
variable {lk g sz ta ke ti bo on : Nat → Int32} {ls W D q r w n : Int}
theorem zPr_n (h : ls = -1 ∨ q < 0 ∨ 4 < q) (hr : r = -1) : zPr lk ls g sz W ta ke ti bo D on q r := fun T V lw hm hb hl => by
  refine Or.inl ⟨?_, hr⟩
  rcases h with c | c
  · rcases hl with ⟨h1, h2⟩ | ⟨h1, h2⟩ | h1
    · exact Or.inl h1
    · omega
    · have := h1.1; omega
  · exact Or.inr c
theorem zPr_0 (h : ls ≠ -1) (q0 : 0 ≤ q) (q4 : q ≤ 4) (hw : zLw lk ls g sz W w) (h1 : w = -1) (hr : r = 0) : zPr lk ls g sz W ta ke ti bo D on q r := fun T V lw hm hb hl => by
  rcases hl with ⟨a1, a2⟩ | ⟨a1, a2⟩ | a1
  · exact absurd a2 h
  · exact Or.inr (Or.inl ⟨by omega, q0, q4, fun c => hm.1.2.2.2.2 _ c a1, hr⟩)
  · have p := zWl_p a1
    refine Or.inr (Or.inl ⟨by omega, q0, q4, ?_, hr⟩)
    rcases hw.2 V lw hm.1 a1 with ⟨-, c⟩ | ⟨c, -⟩
    · exact c
    · omega
theorem zPr_y (hw : zLw lk ls g sz W w) (h1 : w ≠ -1) (hv : ∀ (T : Nat → Nat → Int) (V : List Int) (x : Int), zMd g sz W ta ke D T V → zMb ti bo D T → V[w.toNat]? = some x → (q = 0 ∧ r = ((zPq T x D.toNat).length : Int)) ∨ (q = 1 ∧ r = (znc (zPq T x D.toNat).length : Int)) ∨ (q = 2 ∧ r = zHg zf1 (zTo on T) x D.toNat) ∨ (q = 3 ∧ r = zHg zf2 (zTo on T) x D.toNat) ∨ (q = 4 ∧ r = zls (fun z => if z < x then 1 else 0) V)) : zPr lk ls g sz W ta ke ti bo D on q r := fun T V lw hm hb hl => by
  rcases hl with ⟨a1, a2⟩ | ⟨a1, a2⟩ | a1
  · exact absurd (hw.1 (by omega)) h1
  · exact absurd (hw.1 (by omega)) h1
  · have p := zWl_p a1
    rcases hw.2 V lw hm.1 a1 with ⟨c, -⟩ | ⟨c, d⟩
    · exact absurd c h1
    · exact Or.inr (Or.inr ⟨by omega, List.mem_of_getElem? d, hv T V lw hm hb d⟩)
theorem zAh_V {V : List Int} {x : Int} (hV : zMv g sz W V) (h : zAh g sz W w W r) (w0 : 0 ≤ w) (hv : V[w.toNat]? = some x) : r = zls (fun z => if z < x then 1 else 0) V := by
  obtain ⟨v1, v2, v3, v4, v5⟩ := hV
  have lt : (w.toNat : Int) < W := by
    rcases Nat.lt_or_ge w.toNat V.length with c | c
    · omega
    · rw [List.getElem?_eq_none c] at hv
      exact absurd hv (by simp)
  have ex : zkw g sz w.toNat = x := Option.some.inj ((v4 w.toNat lt).symm.trans hv)
  have q := h v1 w0 (by omega)
  rw [ex] at q
  have a : ∀ n : Nat, zah g sz x n = zsn (fun j => (fun z => if z < x then (1 : Int) else 0) (zkw g sz j)) n := fun n => by
    induction n with
    | zero => rfl
    | succ n ih =>
      rw [zsn_s, ← ih]
      rfl
  rw [q, a, zsn_l (μ := fun z => if z < x then 1 else 0) (K := fun j => zkw g sz j) W.toNat (fun k _ => rfl)]
  refine (zls_r (zMv_nd ⟨v1, v2, v3, v4, v5⟩) (fun a b hab hb => v1.2 a b hab (by omega)) (fun y => ?_)).symm
  constructor
  · intro hy
    obtain ⟨j, j1, -, j2⟩ := zMv_j ⟨v1, v2, v3, v4, v5⟩ hy
    exact ⟨j, by omega, j2⟩
  · rintro ⟨j, j1, j2⟩
    rw [← j2]
    exact List.mem_of_getElem? (v4 j (by omega))
end ZPR
def zPp (s : Nat → Int64) (i fr : Nat → Int32) (n : Int) (ro cs nxc fc lc bt : Nat → Int32) (ch ru ab tk : Int) (h l : Nat → Int32) (D : Int) (on : Nat → Int32) (q lw r : Int) : Prop := ∀ (T : Nat → Nat → Int) (V : List Int), zKl s i fr n ro cs nxc fc lc bt ch ru ab tk h l D T V → zPv T V D.toNat on q lw r
section ZPP
variable {s : Nat → Int64} {i fr ro cs nxc fc lc bt h l on : Nat → Int32} {n ch ru ab tk D q lw r p R bl ck wh ins nu pl : Int} {T : Nat → Nat → Int} {V : List Int} {P I : Int32}
theorem zPp_n (hh : lw = -1 ∨ q < 0 ∨ 4 < q) (hr : r = -1) : zPp s i fr n ro cs nxc fc lc bt ch ru ab tk h l D on q lw r := fun T V _ => Or.inl ⟨hh, hr⟩
theorem zPp_0 (hl : lw ≠ -1) (q0 : 0 ≤ q) (q4 : q ≤ 4) (hf : zRf s n lw p) (hp : p = -1) (hr : r = 0) : zPp s i fr n ro cs nxc fc lc bt ch ru ab tk h l D on q lw r := fun T V hk => by
  refine Or.inr (Or.inl ⟨hl, q0, q4, fun c => ?_, hr⟩)
  obtain ⟨a, a1, a2⟩ := (zVo_m hk.1).mp c
  rcases hf hk.1.1 with ⟨-, b⟩ | ⟨b, -⟩
  · exact b a a1 a2
  · omega
theorem zPi (hk : zKl s i fr n ro cs nxc fc lc bt ch ru ab tk h l D T V) (hf : zRf s n lw P.toInt) (hp : P.toInt ≠ -1) (hid : 0 ≤ P.toInt ∧ P.toInt < n → I.toInt = (i P.toNatClampNeg).toInt) : (0 ≤ P.toInt ∧ P.toInt < n) ∧ (s P.toInt.toNat).toInt = lw ∧ lw ∈ V ∧ (0 ≤ I.toInt ∧ I.toInt ≤ 399) ∧ zBv T V D.toNat I.toNatClampNeg = zPq T lw D.toNat ∧ I.toNatClampNeg < 400 := by
  have k1 := hk.1
  rcases hf k1.1 with ⟨c, -⟩ | ⟨c1, c2, c3⟩
  · exact absurd c hp
  · have eP : P.toNatClampNeg = P.toInt.toNat := rfl
    have eI := hid ⟨c1, c2⟩
    rw [eP] at eI
    have v := k1.2.2.2.1 P.toInt.toNat (by omega)
    have lt : (I.toInt.toNat : Int) < n := by
      have l2 := k1.2.1
      rcases Nat.lt_or_ge I.toInt.toNat V.length with c | c
      · omega
      · have v2 := v.2
        rw [← eI, List.getElem?_eq_none c] at v2
        exact absurd v2 (by simp)
    have n4 := k1.2.2.1
    have e2 : V[I.toNatClampNeg]? = some lw := by
      show V[I.toInt.toNat]? = _
      rw [eI, ← c3]; exact v.2
    have eN : I.toNatClampNeg = I.toInt.toNat := rfl
    refine ⟨⟨c1, c2⟩, c3, List.mem_of_getElem? e2, ⟨by omega, by omega⟩, ?_, by omega⟩
    unfold zBv
    rw [e2]
    rfl
theorem zPp_b (hl : lw ≠ -1) (hf : zRf s n lw P.toInt) (hp : P.toInt ≠ -1) (hid : 0 ≤ P.toInt ∧ P.toInt < n → I.toInt = (i P.toNatClampNeg).toInt) (hb : zW (0 ≤ I.toInt → I.toInt ≤ 399 → r = (bt I.toNatClampNeg).toInt)) (hq : q = 0) : zPp s i fr n ro cs nxc fc lc bt ch ru ab tk h l D on q lw r := fun T V hk => by
  obtain ⟨a1, a2, a3, a4, a5, a6⟩ := zPi hk hf hp hid
  refine Or.inr (Or.inr ⟨hl, a3, Or.inl ⟨hq, ?_⟩⟩)
  rw [hb a4.1 a4.2, hk.2.2.1.1 _ a6, a5]
theorem zPp_c (hl : lw ≠ -1) (hf : zRf s n lw P.toInt) (hp : P.toInt ≠ -1) (hid : 0 ≤ P.toInt ∧ P.toInt < n → I.toInt = (i P.toNatClampNeg).toInt) (hb : zW (0 ≤ I.toInt → I.toInt ≤ 399 → R = (bt I.toNatClampNeg).toInt)) (hc : 0 ≤ R → r = (znc R.toNat : Int)) (hq : q = 1) : zPp s i fr n ro cs nxc fc lc bt ch ru ab tk h l D on q lw r := fun T V hk => by
  obtain ⟨a1, a2, a3, a4, a5, a6⟩ := zPi hk hf hp hid
  refine Or.inr (Or.inr ⟨hl, a3, Or.inr (Or.inl ⟨hq, ?_⟩)⟩)
  have e : R = ((zPq T lw D.toNat).length : Int) := by rw [hb a4.1 a4.2, hk.2.2.1.1 _ a6, a5]
  rw [hc (by omega), e, Int.toNat_natCast]
theorem zPp_t {φ : Nat → Int} (hl : lw ≠ -1) (hf : zRf s n lw P.toInt) (hp : P.toInt ≠ -1) (hid : 0 ≤ P.toInt ∧ P.toInt < n → I.toInt = (i P.toNatClampNeg).toInt) (hop : zW (0 ≤ I.toInt → I.toInt ≤ 399 → ∀ B : Nat → List Bool, zPB ro cs nxc fc lc bt ch ru ab tk B → zRr fc nxc B bl ck wh ins (B I.toNatClampNeg))) (hqf : zQf φ ro cs nxc fc lc bt ch ru ab tk on D bl ck wh ins nu pl r) (hnu : nu = -1) (hpl : pl = 0) (hq : (q = 2 ∧ φ = zf1) ∨ (q = 3 ∧ φ = zf2)) : zPp s i fr n ro cs nxc fc lc bt ch ru ab tk h l D on q lw r := fun T V hk => by
  obtain ⟨a1, a2, a3, a4, a5, a6⟩ := zPi hk hf hp hid
  obtain ⟨k1, k2, k3, k4, k5, k6, k7, k8⟩ := hk
  have o := hop a4.1 a4.2 _ k3
  rw [a5] at o
  have v := hqf _ T _ k3 o hnu hpl k6 k7 (k2 _ a3)
  refine Or.inr (Or.inr ⟨hl, a3, Or.inr (Or.inr ?_)⟩)
  rcases hq with ⟨q1, q2⟩ | ⟨q1, q2⟩
  · subst q2; exact Or.inl ⟨q1, v⟩
  · subst q2; exact Or.inr (Or.inl ⟨q1, v⟩)
theorem zVo_a (hV : zVo s i fr n V) (p0 : 0 ≤ p) (pn : p < n) (e : (s p.toNat).toInt = lw) : p = zls (fun z => if z < lw then 1 else 0) V := by
  have srt := hV.1
  rw [zls_r (K := fun a => (s a).toInt) (n := n.toNat) (zVo_nd hV) (fun a b hab hb => by have := srt a b hab (by omega); omega) (fun x => by
    rw [zVo_m hV]
    constructor
    · rintro ⟨a, a1, a2⟩
      exact ⟨a, by omega, a2⟩
    · rintro ⟨a, a1, a2⟩
      exact ⟨a, by omega, a2⟩), ← zsn_l (F := fun a => if (s a).toInt < lw then 1 else 0) n.toNat (fun k _ => rfl)]
  have key : ∀ m : Nat, (m : Int) ≤ n → zsn (fun a => if (s a).toInt < lw then 1 else 0) m = min (m : Int) p := by
    intro m
    induction m with
    | zero => intro _; show (0 : Int) = min ((0 : Nat) : Int) p; omega
    | succ m ih =>
      intro hm
      rw [zsn_s, ih (by omega)]
      show min (m : Int) p + (if (s m).toInt < lw then 1 else 0) = min ((m + 1 : Nat) : Int) p
      rcases Int.lt_trichotomy (m : Int) p with c | c | c
      · have := srt m p.toNat (by omega) (by omega)
        rw [if_pos (by omega)]; omega
      · rw [show m = p.toNat from by omega, if_neg (by omega)]; omega
      · have := srt p.toNat m (by omega) (by omega)
        rw [if_neg (by omega)]; omega
  rw [key n.toNat (by omega)]
  omega
theorem zPp_k (hl : lw ≠ -1) (hf : zRf s n lw p) (hp : p ≠ -1) (hr : r = p) (hq : q = 4) : zPp s i fr n ro cs nxc fc lc bt ch ru ab tk h l D on q lw r := fun T V hk => by
  rcases hf hk.1.1 with ⟨c, -⟩ | ⟨c1, c2, c3⟩
  · exact absurd c hp
  · refine Or.inr (Or.inr ⟨hl, (zVo_m hk.1).mpr ⟨p.toNat, by omega, c3⟩, Or.inr (Or.inr (Or.inr (Or.inr ⟨hq, ?_⟩)))⟩)
    rw [hr]
    exact zVo_a hk.1 c1 c2 c3
end ZPP
theorem zMv_p {g sz : Nat → Int32} {W : Int} {V2 : List Int} (k2 : zMv g sz W V2) : ∀ y ∈ V2, 0 < y := fun y y2 => by
  have nz := k2.2.2.2.2 y y2
  obtain ⟨j, hj, e⟩ := List.getElem_of_mem y2
  have l2 := k2.2.1
  have q := k2.2.2.2.1 j (by omega)
  rw [List.getElem?_eq_getElem hj, e] at q
  have q2 := Option.some.inj q
  have a := k2.1.1 j (by omega)
  have b : 0 ≤ zkw g sz j := zpk_b (fun k hk => a.2.2 k (by omega)) 12
  omega
theorem zbitS {x s z y : Int32} (e1 : z = x >>> (s &&& 31)) (e2 : y = z &&& 1) (hx : 0 ≤ x.toInt) (hs : 0 ≤ s.toInt) (hs2 : s.toInt ≤ 31) : y.toInt = if x.toInt.toNat.testBit s.toInt.toNat = true then 1 else 0 := by
  have key : ∀ k : Nat, k ≤ 31 → s = Int32.ofNat k → y.toInt = if x.toInt.toNat.testBit k = true then 1 else 0 := by
    intro k hk es
    have q : ∀ k : Nat, k ≤ 31 → ((Int32.ofNat k &&& 31).toBitVec.smod 32).toNat = k := by decide
    rw [es] at e1
    have h1 : z.toInt = x.toInt >>> k := by rw [e1]; exact pk_shr x _ k (q k hk)
    rw [Int.shiftRight_eq_div_pow, ← Int.toNat_of_nonneg hx] at h1
    have h5 : z.toInt = ((x.toInt.toNat / 2 ^ k : Nat) : Int) := h1
    have hy := ztoi y
    have hz := ztoi z
    have hz2 : z.toBitVec.toNat = x.toInt.toNat / 2 ^ k := by
      generalize x.toInt.toNat / 2 ^ k = m at h5 ⊢
      split at hz <;> omega
    have h2 : y.toBitVec.toNat = z.toBitVec.toNat &&& 1 := by rw [e2]; rfl
    have h3 : z.toBitVec.toNat &&& 1 = z.toBitVec.toNat % 2 := Nat.and_two_pow_sub_one_eq_mod z.toBitVec.toNat 1
    rw [h2, h3] at hy
    rw [if_pos (by omega)] at hy
    rw [hy, hz2, Nat.testBit_eq_decide_div_mod_eq]
    have h4 : x.toInt.toNat / 2 ^ k % 2 < 2 := Nat.mod_lt _ (by decide)
    by_cases c : x.toInt.toNat / 2 ^ k % 2 = 1
    · rw [c]; simp
    · have c0 : x.toInt.toNat / 2 ^ k % 2 = 0 := by omega
      rw [c0]; simp
  have q2 : ∀ k : Nat, k ≤ 31 → (Int32.ofNat k).toInt = (k : Int) := by decide
  have es : s = Int32.ofNat s.toInt.toNat := zeqi.mpr (by rw [q2 _ (by omega)]; omega)
  exact key s.toInt.toNat (by omega) es
def zBt (b : Nat → Int32) (l : List Bool) : Prop := ∀ (j : Nat) (v : Bool), l[j]? = some v → (b j).toInt = if v = true then 1 else 0
theorem zBt_0 {b : Nat → Int32} : zBt b [] := fun j v h => by simp at h
theorem zBt_s {b b' : Nat → Int32} {l : List Bool} {x : Bool} {I v : Int32} (h : zBt b l) (hI : I.toInt = (l.length : Int)) (e : b' = upd b I.toNatClampNeg (vp_nar .byte v)) (hv : v.toInt = if x = true then 1 else 0) : zBt b' (l ++ [x]) := fun j w hj => by
  have eI : I.toNatClampNeg = l.length := by have : I.toNatClampNeg = I.toInt.toNat := rfl; omega
  rw [eI] at e
  have v2 : (0 : Int) ≤ v.toInt ∧ v.toInt ≤ 1 := by cases x <;> rw [hv] <;> decide
  rcases Nat.lt_trichotomy j l.length with c | c | c
  · rw [List.getElem?_append_left c] at hj
    rw [e, pk_un (by omega)]
    exact h j w hj
  · rw [c, List.getElem?_append_right (Nat.le_refl _), Nat.sub_self] at hj
    have ex : x = w := Option.some.inj hj
    rw [e, c, pk_us, vp_nar_byte, zi2b rfl rfl (by omega) (by omega), hv, ex]
  · rw [List.getElem?_eq_none (by rw [List.length_append, List.length_singleton]; omega)] at hj
    exact absurd hj (by simp)
def zPu (b0 b : Nat → Int32) (la : Int) (m : List Bool) : Prop := ∀ l : List Bool, (l.length : Int) = la → zBt b0 l → zBt b (l ++ m)
section ZPU
variable {b0 b b' b1 b2 : Nat → Int32} {la la' n k i i' ls : Int} {m : List Bool}
theorem zPu_0 : zPu b b la [] := fun l _ h => by rw [List.append_nil]; exact h
theorem zPu_s {x : Bool} {I v : Int32} (h : zPu b0 b la m) (hI : I.toInt = la + (m.length : Int)) (e : b' = upd b I.toNatClampNeg (vp_nar .byte v)) (hv : v.toInt = if x = true then 1 else 0) : zPu b0 b' la (m ++ [x]) := fun l hl hb => by
  rw [← List.append_assoc]
  exact zBt_s (h l hl hb) (by rw [List.length_append]; omega) e hv
def zPz (b0 b : Nat → Int32) (la i : Int) : Prop := zPu b0 b la (List.replicate i.toNat false)
theorem zPz_0 (hi : i = 0) : zPz b b la i := by subst hi; exact zPu_0
theorem zPz_s {I v : Int32} (h : zPz b0 b la i) (i0 : 0 ≤ i) (hI : I.toInt = la + i) (e : b' = upd b I.toNatClampNeg (vp_nar .byte v)) (hv : v.toInt = 0) (hi : i' = i + 1) : zPz b0 b' la i' := by
  unfold zPz at h ⊢
  rw [show i'.toNat = i.toNat + 1 from by omega, List.replicate_succ']
  exact zPu_s h (by rw [List.length_replicate]; omega) e (hv.trans (by decide))
def zPy (b0 b : Nat → Int32) (la n k i : Int) : Prop := zPu b0 b la (List.replicate (k.toNat - 1) false ++ (zbl n.toNat k.toNat).take i.toNat)
theorem zPy_0 (h : zPz b0 b la i) (k1 : 1 ≤ k) (h1 : k - 1 ≤ i) (h2 : i ≤ k - 1) (hi : i' = 0) : zPy b0 b la n k i' := by
  unfold zPz at h
  unfold zPy
  rw [hi, show (0 : Int).toNat = 0 from rfl, List.take_zero, List.append_nil, show k.toNat - 1 = i.toNat from by omega]
  exact h
theorem zPy_s {N S Z Y V I : Int32} (h : zPy b0 b la N.toInt k i) (n0 : 0 ≤ N.toInt) (i0 : 0 ≤ i) (ik : i < k) (k31 : k ≤ 31) (e1 : Z = N >>> (S &&& 31)) (e2 : Y = Z &&& 1) (eS : S.toInt = k - 1 - i) (eV : V.toInt = Y.toInt) (hI : I.toInt = la + k - 1 + i) (e : b' = upd b I.toNatClampNeg (vp_nar .byte V)) (hi : i' = i + 1) : zPy b0 b' la N.toInt k i' := by
  have t := zbl_t (n := N.toInt.toNat) (d := k.toNat) (i := S.toInt.toNat) (by omega)
  rw [show k.toNat - S.toInt.toNat = i'.toNat from by omega, show k.toNat - (S.toInt.toNat + 1) = i.toNat from by omega] at t
  unfold zPy at h ⊢
  rw [t, ← List.append_assoc]
  have hb := zbitS e1 e2 n0 (by omega) (by omega)
  refine zPu_s h ?_ e (eV.trans hb)
  rw [List.length_append, List.length_replicate, List.length_take, zbl_l]
  omega
def zPw (b0 b : Nat → Int32) (la n ls : Int) : Prop := ls = 1 → zPu b0 b la (zGa n.toNat)
theorem zPw_0 (h : ls ≠ 1) : zPw b0 b la n ls := fun q => absurd q h
theorem zPw_1 (h : zPy b0 b la n k i) (n1 : 1 ≤ n) (hk : k = zdig n) (h1 : k ≤ i) : zPw b0 b la n ls := fun _ => by
  unfold zPy at h
  have e : zbd n.toNat = k.toNat := by
    rw [zbd_p (by omega), hk, zdig_p (by omega)]
    omega
  unfold zGa
  rw [e]
  rw [List.take_of_length_le (by rw [zbl_l]; omega)] at h
  exact h
end ZPU
section ZLQ
variable {b b' b1 b2 g sz ta ke ti bo : Nat → Int32} {la la' la1 la2 last last' ah ah' ls W D w d d' k k' n a P : Int} {T : Nat → Nat → Int} {V : List Int} {x : Int}
def zLq (b : Nat → Int32) (la last ls : Int) (g sz : Nat → Int32) (W : Int) (ta ke ti bo : Nat → Int32) (D w d : Int) : Prop := ls = 1 → ∀ (T : Nat → Nat → Int) (V : List Int) (x : Int), zMd g sz W ta ke D T V → zMb ti bo D T → V[w.toNat]? = some x → zBt b (zPq T x d.toNat) ∧ la = ((zPq T x d.toNat).length : Int) ∧ last = zLd T x d.toNat
def zLaB (T : Nat → Nat → Int) (x E k : Int) : List Bool := zPq T x E.toNat ++ (zGa (E - zLd T x E.toNat).toNat ++ (zGa (zTm (T E.toNat) x 1024) ++ zrL (zPn (T E.toNat) x k.toNat)))
def zLr2 (b : Nat → Int32) (la ah ls : Int) (g sz : Nat → Int32) (W : Int) (ta ke ti bo : Nat → Int32) (D w E k : Int) : Prop := ls = 1 → ∀ (T : Nat → Nat → Int) (V : List Int) (x : Int), zMd g sz W ta ke D T V → zMb ti bo D T → V[w.toNat]? = some x → 0 < zTm (T E.toNat) x 1024 ∧ zBt b (zLaB T x E k) ∧ la = ((zLaB T x E k).length : Int) ∧ ah = zLp (T E.toNat) x k.toNat
theorem zLq_0 (hd : d = 0) (hl : la = 0) (hs : last = -1) : zLq b la last ls g sz W ta ke ti bo D w d := fun _ T V x _ _ _ => by
  subst hd
  exact ⟨zBt_0, hl, hs⟩
theorem zTm_k (hm : zMd g sz W ta ke D T V) (hv : V[w.toNat]? = some x) (w0 : 0 ≤ w) {e : Nat} (he : (e : Int) < D) (hk : (ke e).toInt = 0) : ¬ 0 < zTm (T e) x 1024 := fun c => by
  obtain ⟨q, q1, q2⟩ := (zTm_ex 1024).mp c
  have z := (zMd_w hm hv w0 e he).2 hk q
  exact hm.1.2.2.2.2 _ (List.mem_of_getElem? hv) (q2.symm.trans z)
theorem zLq_k {E : Int32} (h : zLq b la last ls g sz W ta ke ti bo D w E.toInt) (w0 : 0 ≤ w) (e0 : 0 ≤ E.toInt) (e1 : E.toInt < D) (hk : (ke E.toNatClampNeg).toInt = 0) (hd : d' = E.toInt + 1) (hla : la' = la) (hl : last' = last) : zLq b la' last' ls g sz W ta ke ti bo D w d' := fun c T V x hm hb hv => by
  have q := h c T V x hm hb hv
  have z := zTm_k (e := E.toInt.toNat) hm hv w0 (by omega) hk
  rw [show d'.toNat = E.toInt.toNat + 1 from by omega, zPs_n z, zLd_n z, hla, hl]
  exact q
theorem zLq_z {E : Int32} (h : zLq b la last ls g sz W ta ke ti bo D w E.toInt) (w0 : 0 ≤ w) (e0 : 0 ≤ E.toInt) (e1 : E.toInt < D) (ht : zTf ta ti bo E w n) (hn : n ≤ 0) (hd : d' = E.toInt + 1) (hla : la' = la) (hl : last' = last) : zLq b la' last' ls g sz W ta ke ti bo D w d' := fun c T V x hm hb hv => by
  have q := h c T V x hm hb hv
  have t := zTf_T hm hb hv w0 e0 e1 ht
  have eE : E.toNatClampNeg = E.toInt.toNat := rfl
  rw [eE] at t
  have z : ¬ 0 < zTm (T E.toInt.toNat) x 1024 := by omega
  rw [show d'.toNat = E.toInt.toNat + 1 from by omega, zPs_n z, zLd_n z, hla, hl]
  exact q
theorem zLr2_0 {E : Int32} {P1 : Int} (h : zLq b la last ls g sz W ta ke ti bo D w E.toInt) (w0 : 0 ≤ w) (e0 : 0 ≤ E.toInt) (e1 : E.toInt < D) (ht : zTf ta ti bo E w n) (hn : n ≠ 0) (hp1 : zPw b b1 la P1 ls) (eP : P1 = E.toInt - last) (h1 : la1 = la + zgam P1) (hp2 : zPw b1 b2 la1 n ls) (h2 : la2 = la1 + zgam n) (hk : k = 0) (ha : ah = -1) : zLr2 b2 la2 ah ls g sz W ta ke ti bo D w E.toInt k := fun c T V x hm hb hv => by
  obtain ⟨q1, q2, q3⟩ := h c T V x hm hb hv
  have t := zTf_T hm hb hv w0 e0 e1 ht
  have eE : E.toNatClampNeg = E.toInt.toNat := rfl
  rw [eE] at t
  have lb := zLd_b (T := T) (w := x) (d := E.toInt.toNat)
  subst hk
  have g1 := zga_g (n := P1.toNat) (by omega)
  have g2 := zga_g (n := n.toNat) (by omega)
  rw [show ((P1.toNat : Nat) : Int) = P1 from by omega] at g1
  rw [show ((n.toNat : Nat) : Int) = n from by omega] at g2
  have z1 := hp1 c _ q2.symm q1
  have z2 := hp2 c _ (by rw [List.length_append]; omega) z1
  have e3 : zLaB T x E.toInt 0 = zPq T x E.toInt.toNat ++ zGa P1.toNat ++ zGa n.toNat := by
    unfold zLaB
    rw [← q3, ← eP, show zTm (T E.toInt.toNat) x 1024 = n.toNat from by omega, List.append_assoc]
    show _ ++ (_ ++ (_ ++ [])) = _
    rw [List.append_nil]
  rw [e3]
  exact ⟨by omega, z2, by rw [List.length_append, List.length_append]; omega, ha⟩
theorem zLr2_n {E : Int32} (h : zLr2 b la ah ls g sz W ta ke ti bo D w E.toInt k) (w0 : 0 ≤ w) (e0 : 0 ≤ E.toInt) (e1 : E.toInt < D) (k0 : 0 ≤ k) (k1 : k < 1024) (hat : (ta (1024 * E.toInt + k).toNat).toInt = a) (ha : a ≠ w + 1) (hk : k' = k + 1) (hla : la' = la) (hah : ah' = ah) : zLr2 b la' ah' ls g sz W ta ke ti bo D w E.toInt k' := fun c T V x hm hb hv => by
  have q := h c T V x hm hb hv
  have m := (zMd_w hm hv w0 E.toInt.toNat (by omega)).1 k.toNat (by omega)
  rw [show (1024 * ((E.toInt.toNat : Nat) : Int) + ((k.toNat : Nat) : Int)) = 1024 * E.toInt + k from by omega, hat] at m
  have nx : ¬ T E.toInt.toNat k.toNat = x := fun z => ha (m.mpr z)
  have e1' : zPn (T E.toInt.toNat) x (k.toNat + 1) = zPn (T E.toInt.toNat) x k.toNat := if_neg nx
  have e2' : zLp (T E.toInt.toNat) x (k.toNat + 1) = zLp (T E.toInt.toNat) x k.toNat := if_neg nx
  have e3 : zLaB T x E.toInt k' = zLaB T x E.toInt k := by
    unfold zLaB
    rw [show k'.toNat = k.toNat + 1 from by omega, e1']
  rw [e3, show k'.toNat = k.toNat + 1 from by omega, e2', hla, hah]
  exact q
theorem zLr2_y {E : Int32} (h : zLr2 b la ah ls g sz W ta ke ti bo D w E.toInt k) (w0 : 0 ≤ w) (e0 : 0 ≤ E.toInt) (e1 : E.toInt < D) (k0 : 0 ≤ k) (k1 : k < 1024) (hat : (ta (1024 * E.toInt + k).toNat).toInt = a) (ha : a = w + 1) (hp : zPw b b' la P ls) (eP : P = k - ah) (hla : la' = la + zgam P) (hk : k' = k + 1) (hah : ah' = k) : zLr2 b' la' ah' ls g sz W ta ke ti bo D w E.toInt k' := fun c T V x hm hb hv => by
  obtain ⟨q1, q2, q3, q4⟩ := h c T V x hm hb hv
  have m := (zMd_w hm hv w0 E.toInt.toNat (by omega)).1 k.toNat (by omega)
  rw [show (1024 * ((E.toInt.toNat : Nat) : Int) + ((k.toNat : Nat) : Int)) = 1024 * E.toInt + k from by omega, hat] at m
  have yx : T E.toInt.toNat k.toNat = x := m.mp ha
  have e1' : zPn (T E.toInt.toNat) x (k.toNat + 1) = zPn (T E.toInt.toNat) x k.toNat ++ [((k.toNat : Int) - zLp (T E.toInt.toNat) x k.toNat).toNat] := if_pos yx
  have e2' : zLp (T E.toInt.toNat) x (k.toNat + 1) = (k.toNat : Int) := if_pos yx
  have lb := zLp_b (t := T E.toInt.toNat) (w := x) (k := k.toNat)
  have g1 := zga_g (n := P.toNat) (by omega)
  rw [show ((P.toNat : Nat) : Int) = P from by omega] at g1
  have eQ : ((k.toNat : Int) - zLp (T E.toInt.toNat) x k.toNat).toNat = P.toNat := by omega
  rw [eQ] at e1'
  have z1 := hp c _ q3.symm q2
  have e4 : zrL [P.toNat] = zGa P.toNat := List.append_nil _
  have e3 : zLaB T x E.toInt k' = zLaB T x E.toInt k ++ zGa P.toNat := by
    unfold zLaB
    rw [show k'.toNat = k.toNat + 1 from by omega, e1', zrL_a, e4]
    simp only [List.append_assoc]
  rw [e3, show k'.toNat = k.toNat + 1 from by omega, e2']
  exact ⟨q1, z1, by rw [List.length_append]; omega, by omega⟩
theorem zLq_s {E : Int32} (h : zLr2 b la ah ls g sz W ta ke ti bo D w E.toInt k) (e0 : 0 ≤ E.toInt) (k1 : 1024 ≤ k) (k2 : k ≤ 1024) (hd : d' = E.toInt + 1) (hla : la' = la) (hl : last' = E.toInt) : zLq b la' last' ls g sz W ta ke ti bo D w d' := fun c T V x hm hb hv => by
  obtain ⟨q1, q2, q3, q4⟩ := h c T V x hm hb hv
  have e3 : zLaB T x E.toInt k = zPq T x (E.toInt.toNat + 1) := by
    unfold zLaB
    rw [zPs_y q1, show k.toNat = 1024 from by omega, show ((E.toInt.toNat : Nat) : Int) = E.toInt from by omega]
  rw [e3] at q2 q3
  rw [show d'.toNat = E.toInt.toNat + 1 from by omega, zLd_y q1]
  exact ⟨q2, by omega, by omega⟩
def zLx (b : Nat → Int32) (ls : Int) (g sz : Nat → Int32) (W : Int) (ta ke ti bo : Nat → Int32) (D w r : Int) : Prop := ls = 1 → ∀ (T : Nat → Nat → Int) (V : List Int) (x : Int), zMd g sz W ta ke D T V → zMb ti bo D T → V[w.toNat]? = some x → zBt b (zPq T x D.toNat) ∧ r = ((zPq T x D.toNat).length : Int)
theorem zLx_e {r : Int} (h : zLq b la last ls g sz W ta ke ti bo D w d) (h1 : D ≤ d) (h2 : d ≤ D) (hr : r = la) : zLx b ls g sz W ta ke ti bo D w r := fun c T V x hm hb hv => by
  obtain ⟨q1, q2, q3⟩ := h c T V x hm hb hv
  rw [show d = D from by omega] at q1 q2
  exact ⟨q1, hr.trans q2⟩
end ZLQ
def zBq (T : Nat → Nat → Int) (V : List Int) (D : Nat) (x q th r : Int) : Prop := (th = 0 ∧ x ∈ V ∧ 0 ≤ q ∧ ∃ v : Bool, (zPq T x D)[q.toNat]? = some v ∧ r = if v = true then 1 else 0) ∨ (th = 1 ∧ (x ∉ V ∨ q < 0 ∨ ((zPq T x D).length : Int) ≤ q))
theorem zBq_u {T : Nat → Nat → Int} {V V2 : List Int} {D : Nat} {x q th r th2 r2 : Int} (h : zBq T V D x q th r) (h2 : zBq T V2 D x q th2 r2) (hp : V.Perm V2) : th = th2 ∧ (th = 0 → r = r2) := by
  have m := hp.mem_iff (a := x)
  have lt : ∀ v : Bool, (zPq T x D)[q.toNat]? = some v → q.toNat < (zPq T x D).length := fun v hv => by
    rcases Nat.lt_or_ge q.toNat (zPq T x D).length with c | c
    · exact c
    · rw [List.getElem?_eq_none c] at hv
      exact absurd hv (by simp)
  rcases h with ⟨a1, a2, a3, v, a4, a5⟩ | ⟨a1, a2⟩ <;> rcases h2 with ⟨b1, b2, b3, v2, b4, b5⟩ | ⟨b1, b2⟩
  · have e : v = v2 := Option.some.inj (a4.symm.trans b4)
    subst e
    exact ⟨by omega, fun _ => a5.trans b5.symm⟩
  · have := lt v a4
    rcases b2 with c | c | c
    · exact absurd (m.mp a2) c
    · omega
    · omega
  · have := lt v2 b4
    rcases a2 with c | c | c
    · exact absurd (m.mpr b2) c
    · omega
    · omega
  · exact ⟨by omega, fun c => by omega⟩
def zbR (lk : Nat → Int32) (ls : Int) (g sz : Nat → Int32) (W : Int) (ta ke ti bo : Nat → Int32) (D q th r : Int) : Prop := ∀ (T : Nat → Nat → Int) (V : List Int) (lw : Int), zMd g sz W ta ke D T V → zMb ti bo D T → zLo lw lk ls → zBq T V D.toNat lw q th r
section ZBR
variable {lk g sz ta ke ti bo b : Nat → Int32} {ls W D q r w n th L l1 : Int}
theorem zbR_0 (hw : zLw lk ls g sz W w) (h1 : w = -1) (ht : th = 1) : zbR lk ls g sz W ta ke ti bo D q th r := fun T V lw hm hb hl => by
  refine Or.inr ⟨ht, Or.inl ?_⟩
  rcases hl with ⟨a1, a2⟩ | ⟨a1, a2⟩ | a1
  · intro c
    have := zMv_p hm.1 lw c
    omega
  · exact fun c => hm.1.2.2.2.2 _ c a1
  · rcases hw.2 V lw hm.1 a1 with ⟨-, c⟩ | ⟨c, -⟩
    · exact c
    · omega
theorem zbR_n (h : q < 0) (ht : th = 1) : zbR lk ls g sz W ta ke ti bo D q th r := fun T V lw hm hb hl => Or.inr ⟨ht, Or.inr (Or.inl h)⟩
theorem zbR_V (hw : zLw lk ls g sz W w) (h1 : w ≠ -1) {V : List Int} {lw : Int} (hV : zMv g sz W V) (hl : zLo lw lk ls) : V[w.toNat]? = some lw := by
  rcases hl with ⟨a1, a2⟩ | ⟨a1, a2⟩ | a1
  · exact absurd (hw.1 (by omega)) h1
  · exact absurd (hw.1 (by omega)) h1
  · rcases hw.2 V lw hV a1 with ⟨c, -⟩ | ⟨c, d⟩
    · exact absurd c h1
    · exact d
theorem zbR_x (hw : zLw lk ls g sz W w) (h1 : w ≠ -1) (hx : zLx b l1 g sz W ta ke ti bo D w L) (e1 : l1 = 1) (hq : L ≤ q) (ht : th = 1) : zbR lk ls g sz W ta ke ti bo D q th r := fun T V lw hm hb hl => by
  have v := zbR_V hw h1 hm.1 hl
  have e := (hx e1 T V lw hm hb v).2
  exact Or.inr ⟨ht, Or.inr (Or.inr (by omega))⟩
theorem zbR_y {Q z : Int32} (hw : zLw lk ls g sz W w) (h1 : w ≠ -1) (hx : zLx b l1 g sz W ta ke ti bo D w L) (e1 : l1 = 1) (q0 : 0 ≤ Q.toInt) (hq : Q.toInt < L) (ez : z = b Q.toNatClampNeg) (hr : r = z.toInt) (ht : th = 0) : zbR lk ls g sz W ta ke ti bo D Q.toInt th r := fun T V lw hm hb hl => by
  have v := zbR_V hw h1 hm.1 hl
  obtain ⟨e1, e2⟩ := hx e1 T V lw hm hb v
  have eQ : Q.toNatClampNeg = Q.toInt.toNat := rfl
  have lt : Q.toInt.toNat < (zPq T lw D.toNat).length := by omega
  refine Or.inl ⟨ht, List.mem_of_getElem? v, q0, (zPq T lw D.toNat)[Q.toInt.toNat]'lt, List.getElem?_eq_getElem lt, ?_⟩
  rw [hr, ez, eQ]
  exact e1 _ _ (List.getElem?_eq_getElem lt)
end ZBR
section ZBC
variable {s : Nat → Int64} {i fr ro cs nx fc lc bt h l : Nat → Int32} {n ch ru ab tk D q lw r a a' c' wh : Int} {T : Nat → Nat → Int} {V : List Int}
def zBw (ro cs nx fc lc bt : Nat → Int32) (ch ru ab tk : Int) (I : Int32) (q c a : Int) : Prop := ∀ B : Nat → List Bool, zPB ro cs nx fc lc bt ch ru ab tk B → 0 ≤ I.toInt → I.toInt ≤ 399 → 0 ≤ q → q < ((B I.toNatClampNeg).length : Int) → a ≤ (zck q.toNat : Int) → c = zcc fc nx I.toNatClampNeg a.toNat
def zBa (ro cs nx fc lc bt : Nat → Int32) (ch ru ab tk : Int) (I : Int32) (q r : Int) : Prop := ∀ B : Nat → List Bool, zPB ro cs nx fc lc bt ch ru ab tk B → 0 ≤ I.toInt → I.toInt ≤ 399 → 0 ≤ q → q < ((B I.toNatClampNeg).length : Int) → r = if (B I.toNatClampNeg).getD q.toNat false = true then 1 else 0
theorem zck_q {B : List Bool} (q0 : 0 ≤ q) (h : q < (B.length : Int)) : zck q.toNat < znc B.length := zck_lt (Nat.lt_of_lt_of_le (show q.toNat < B.length by omega) znc_b)
theorem zBw_0 {I : Int32} {c : Int} (hf : zW (0 ≤ I.toInt → I.toInt ≤ 399 → 0 < (bt I.toNatClampNeg).toInt → c = (fc I.toNatClampNeg).toInt)) (ha : a = 0) : zBw ro cs nx fc lc bt ch ru ab tk I q c a := fun B hP i0 i1 q0 ql _ => by
  subst ha
  have eI : I.toNatClampNeg = I.toInt.toNat := rfl
  have e := hP.1 I.toNatClampNeg (by omega)
  exact hf i0 i1 (by omega)
theorem zBw_s {I C : Int32} (hh : zBw ro cs nx fc lc bt ch ru ab tk I q C.toInt a) (a0 : 0 ≤ a) (hc : 0 ≤ C.toInt ∧ C.toInt < ch → c' = (nx C.toNatClampNeg).toInt) (ha : a' = a + 1) : zBw ro cs nx fc lc bt ch ru ab tk I q c' a' := fun B hP i0 i1 q0 ql hk => by
  have e := hh B hP i0 i1 q0 ql (by omega)
  have eI : I.toNatClampNeg = I.toInt.toNat := rfl
  have z := zck_q q0 ql
  have za : a.toNat < znc (B I.toNatClampNeg).length := by omega
  have p := hP.2.2.1 I.toNatClampNeg a.toNat (by omega) za
  rw [← e] at p
  have eC : C.toNatClampNeg = C.toInt.toNat := rfl
  rw [hc ⟨p.1, p.2.1⟩, eC, e, show a'.toNat = a.toNat + 1 from by omega]
  rfl
theorem zBa_i {I C Q R Z : Int32} (hh : zBw ro cs nx fc lc bt ch ru ab tk I Q.toInt C.toInt a) (hk : 0 ≤ Q.toInt → zCk Q.toInt wh) (h1 : wh ≤ a) (h2 : 0 ≤ wh → a ≤ wh) (hro : 0 ≤ wh → wh ≤ 1000 → zRo wh R.toInt) (e : Z = Q - R) (hb : zBi ro cs ch C Z.toInt r) (hru : ru ≤ 1250) : zBa ro cs nx fc lc bt ch ru ab tk I Q.toInt r := fun B hP i0 i1 q0 ql => by
  obtain ⟨w0, w1⟩ := zCk_n (hk q0)
  have eI : I.toNatClampNeg = I.toInt.toNat := rfl
  have z := zck_q q0 ql
  have a2 := h2 w0
  have ea : a = wh := by omega
  have ec := hh B hP i0 i1 q0 ql (by omega)
  rw [ea, w1] at ec
  have p := hP.2.2.1 I.toNatClampNeg (zck Q.toInt.toNat) (by omega) z
  have tb := hP.2.2.2.2.2.2.2
  have sk := zsu_k (F := fun i => zrm (znc (B i).length) + 16 * znc (B i).length) (k := I.toNatClampNeg) (n := 400) (by omega)
  have big : znc (B I.toNatClampNeg).length ≤ 500 := by
    have sk2 : zrm (znc (B I.toNatClampNeg).length) + 16 * znc (B I.toNatClampNeg).length ≤ 60000 := by
      have t1 : tk = ((zsu (fun i => zrm (znc (B i).length) + 16 * znc (B i).length) 400 : Nat) : Int) := tb.1
      have t2 := tb.2.1
      have t4 := tb.2.2.2
      have sk3 : zrm (znc (B I.toNatClampNeg).length) + 16 * znc (B I.toNatClampNeg).length ≤ zsu (fun i => zrm (znc (B i).length) + 16 * znc (B i).length) 400 := sk
      omega
    generalize znc (B I.toNatClampNeg).length = m at sk2
    unfold zrm at sk2
    (repeat' split at sk2) <;> omega
  have er := zRo_n (hro w0 (by omega))
  rw [w1] at er
  have kb := zck_b Q.toInt.toNat
  have ks := zrm_s (zck Q.toInt.toNat)
  have qlt := Q.toInt_lt
  have hz := zsub (x := Q) (y := R) rfl rfl e (by omega) (by omega)
  have q4 := hP.2.2.2.2.2.1 I.toNatClampNeg Q.toInt.toNat (by omega) (Nat.lt_of_lt_of_le (show Q.toInt.toNat < (B I.toNatClampNeg).length by omega) znc_b)
  have s1 : zsp cs fc nx I.toNatClampNeg (zck Q.toInt.toNat) = 32 * (cs C.toNatClampNeg).toInt := by
    unfold zsp
    rw [← ec]
    rfl
  rw [← ec] at p
  rw [hb (by omega) (by omega) (by omega) (by omega) (by omega), ← q4]
  rw [show (zsp cs fc nx I.toNatClampNeg (zck Q.toInt.toNat)).toNat + (Q.toInt.toNat - zrm (zck Q.toInt.toNat)) = (32 * (cs C.toNatClampNeg).toInt + Z.toInt).toNat from by omega]
def zBc (s : Nat → Int64) (i fr : Nat → Int32) (n : Int) (ro cs nx fc lc bt : Nat → Int32) (ch ru ab tk : Int) (h l : Nat → Int32) (D lw q th r : Int) : Prop := ∀ (T : Nat → Nat → Int) (V : List Int), zKl s i fr n ro cs nx fc lc bt ch ru ab tk h l D T V → zBq T V D.toNat lw q th r
theorem zBc_l {I : Int32} (hk : zKl s i fr n ro cs nx fc lc bt ch ru ab tk h l D T V) (hv : V[I.toInt.toNat]? = some lw) : I.toNatClampNeg < 400 ∧ zBv T V D.toNat I.toNatClampNeg = zPq T lw D.toNat := by
  have k2 := hk.1.2.1
  have k3 := hk.1.2.2.1
  have lt : I.toInt.toNat < V.length := by
    rcases Nat.lt_or_ge I.toInt.toNat V.length with c | c
    · exact c
    · rw [List.getElem?_eq_none c] at hv
      exact absurd hv (by simp)
  have eI : I.toNatClampNeg = I.toInt.toNat := rfl
  refine ⟨by omega, ?_⟩
  unfold zBv
  rw [eI, hv]
  rfl
theorem zBc_i {I : Int32} {R : Int} (hid : ∀ V : List Int, zVo s i fr n V → zIf V lw I.toInt) (hb : zW (0 ≤ I.toInt → I.toInt ≤ 399 → R = (bt I.toNatClampNeg).toInt)) (hb2 : (I.toInt < 0 ∨ 399 < I.toInt) → R = 0) (q0 : 0 ≤ q) (hq : q < R) (ha : zBa ro cs nx fc lc bt ch ru ab tk I q r) : zBc s i fr n ro cs nx fc lc bt ch ru ab tk h l D lw q 0 r := fun T V hk => by
  rcases hid V hk.1 with ⟨c, -⟩ | ⟨c1, c2⟩
  · have := hb2 (by omega)
    omega
  · obtain ⟨l1, l2⟩ := zBc_l hk c2
    have eI : I.toNatClampNeg = I.toInt.toNat := rfl
    have eb := hb c1 (by omega)
    have el := hk.2.2.1.1 I.toNatClampNeg l1
    have er := ha _ hk.2.2.1 c1 (by omega) q0 (by omega)
    rw [l2] at el er
    have lt : q.toNat < (zPq T lw D.toNat).length := by omega
    refine Or.inl ⟨rfl, List.mem_of_getElem? c2, q0, (zPq T lw D.toNat)[q.toNat]'lt, List.getElem?_eq_getElem lt, ?_⟩
    rw [er, List.getD_eq_getElem?_getD, List.getElem?_eq_getElem lt]
    rfl
theorem zBc_x {I : Int32} {R : Int} (hid : ∀ V : List Int, zVo s i fr n V → zIf V lw I.toInt) (hb : zW (0 ≤ I.toInt → I.toInt ≤ 399 → R = (bt I.toNatClampNeg).toInt)) (hq : R ≤ q) : zBc s i fr n ro cs nx fc lc bt ch ru ab tk h l D lw q 1 r := fun T V hk => by
  rcases hid V hk.1 with ⟨-, c⟩ | ⟨c1, c2⟩
  · exact Or.inr ⟨rfl, Or.inl c⟩
  · obtain ⟨l1, l2⟩ := zBc_l hk c2
    have eI : I.toNatClampNeg = I.toInt.toNat := rfl
    have eb := hb c1 (by omega)
    have el := hk.2.2.1.1 I.toNatClampNeg l1
    rw [l2] at el
    exact Or.inr ⟨rfl, Or.inr (Or.inr (by omega))⟩
theorem zBc_n (hq : q < 0) : zBc s i fr n ro cs nx fc lc bt ch ru ab tk h l D lw q 1 r := fun T V hk => Or.inr ⟨rfl, Or.inr (Or.inl hq)⟩
theorem zBc_X {r' : Int} (ha : a = 1) (hh : zBc s i fr n ro cs nx fc lc bt ch ru ab tk h l D lw q 1 r) : zBc s i fr n ro cs nx fc lc bt ch ru ab tk h l D lw q a r' := fun T V hk => by
  subst ha
  rcases hh T V hk with ⟨c, -⟩ | c
  · exact absurd c (by decide)
  · exact Or.inr c
theorem zBc_L {R : Int32} {f f0 : Nat → Int64} {y : Int64} (ha : a = 0) (ef : f = vp_updL f0 (0 : Int32).toNatClampNeg y) (ey : y = R.toInt64) (hh : zBc s i fr n ro cs nx fc lc bt ch ru ab tk h l D lw q 0 R.toInt) : zBc s i fr n ro cs nx fc lc bt ch ru ab tk h l D lw q a (f 0).toInt := by
  subst ha
  have e : f 0 = R.toInt64 := by rw [ef, ← ey]; rfl
  rw [e, Int32.toInt_toInt64]
  exact hh
end ZBC
theorem zrr_b {os k : Int} (o0 : 0 ≤ os) (o1 : os ≤ 120) : 0 ≤ zrr os k ∧ zrr os k ≤ 31 := by
  unfold zrr
  by_cases c : 0 < k
  · rw [if_pos c]
    refine ⟨zdig_n _, ?_⟩
    have q := Int.ediv_le_self k (show 0 ≤ 16 * os by omega)
    by_cases d : 0 < 16 * os / k
    · have := zdig_lt (k := 31) d (by omega)
      omega
    · rw [zdig_0 (by omega)]; omega
  · rw [if_neg c]; omega
theorem zmu_b {T : Nat → Nat → Int} {on : Nat → Int32} {D : Nat} {os : Int} {a b : Nat} {x : Int} (o0 : 0 ≤ os) (o1 : os ≤ 120) : 0 ≤ zmu T on D os a b x ∧ zmu T on D os a b x ≤ 31744 := by
  unfold zmu
  have r := zrr_b (k := zHg zf1 (zTo on T) x D) o0 o1
  have t1 := zTm_b (t := zTo on T a) (w := x) (k := 1024)
  have t2 := zTm_b (t := zTo on T b) (w := x) (k := 1024)
  generalize zrr os (zHg zf1 (zTo on T) x D) = R at r ⊢
  have m1 : 0 ≤ min (zTm (zTo on T a) x 1024 : Int) (zTm (zTo on T b) x 1024 : Int) ∧ min (zTm (zTo on T a) x 1024 : Int) (zTm (zTo on T b) x 1024 : Int) ≤ 1024 := by omega
  generalize min (zTm (zTo on T a) x 1024 : Int) (zTm (zTo on T b) x 1024 : Int) = M at m1 ⊢
  exact ⟨Int.mul_nonneg m1.1 r.1, Int.le_trans (Int.mul_le_mul m1.2 r.2 r.1 (by decide)) (by decide)⟩
theorem zmu_z {T : Nat → Nat → Int} {on : Nat → Int32} {D : Nat} {os : Int} {a b : Nat} {x : Int} (h : (zTm (zTo on T a) x 1024 : Int) ≤ 0 ∨ (zTm (zTo on T b) x 1024 : Int) ≤ 0) : zmu T on D os a b x = 0 := by
  unfold zmu
  rw [show min (zTm (zTo on T a) x 1024 : Int) (zTm (zTo on T b) x 1024 : Int) = 0 from by omega, Int.zero_mul]
theorem zRt_1 {A K M Q : Int32} {r : Int} (hk : 0 < K.toInt) (eM : M = 16 * A) (eQ : Q = M / K) (hb : 0 < Q.toInt → r = (zbd Q.toInt.toNat : Int)) : zW (0 ≤ A.toInt → A.toInt ≤ 120 → K.toInt ≤ A.toInt → r = zrr A.toInt K.toInt) := fun a0 a1 ka => by
  have m := zmul (x := 16) (y := A) (show (16 : Int32).toInt = 16 from by decide) rfl eM (by omega) (by omega)
  have q := zdiv (x := M) (y := K) m rfl eQ (by omega) hk
  have p : 1 ≤ 16 * A.toInt / K.toInt := Int.le_ediv_of_mul_le hk (by omega)
  have e := hb (by omega)
  have z1 := zdig_p (x := 16 * A.toInt / K.toInt) (by omega)
  have z2 := zbd_p (n := Q.toInt.toNat) (by omega)
  rw [q] at z2 e
  unfold zrr
  rw [if_pos hk]
  omega
theorem zRt_0 {a k r : Int} (hk : k ≤ 0) (hr : r = 0) : zW (0 ≤ a → a ≤ 120 → k ≤ a → r = zrr a k) := fun _ _ _ => by
  unfold zrr
  rw [if_neg (by omega)]
  exact hr
theorem zHg_os {T : Nat → Nat → Int} {on : Nat → Int32} {w : Int} (hw : w ≠ 0) : ∀ d : Nat, zHg zf1 (zTo on T) w d ≤ ((zsu (fun d => if (on d).toInt ≠ 0 then 1 else 0) d : Nat) : Int) := by
  intro d
  induction d with
  | zero => exact Int.le_refl _
  | succ d ih =>
    rw [zHg_s]
    show _ ≤ ((zsu (fun d => if (on d).toInt ≠ 0 then 1 else 0) d + (if (on d).toInt ≠ 0 then 1 else 0) : Nat) : Int)
    by_cases c : (on d).toInt = 0
    · have z := zTo_z (T := T) (d := d) hw (Or.inl c)
      have f := zf1_b (zTm (zTo on T d) w 1024)
      omega
    · rw [if_pos c]
      have f : zf1 (zTm (zTo on T d) w 1024) ≤ 1 := by
        unfold zf1
        split <;> omega
      omega
def zTgB (tm on : Nat → Int32) (T : Nat → Nat → Int) (w : Int) (d : Nat) : Prop := ∀ e : Nat, e < 120 → (tm e).toInt = if e < d then (zTm (zTo on T e) w 1024 : Int) else 0
def zGo (ro cs nx fc lc bt : Nat → Int32) (ch ru ab tk : Int) (on : Nat → Int32) (D bl ck wh ins nu pl bl3 ck3 wh3 ins3 nu3 pl3 i n : Int) (tm : Nat → Int32) : Prop := ∀ (B : Nat → List Bool) (T : Nat → Nat → Int) (w : Int), zPB ro cs nx fc lc bt ch ru ab tk B → zRr fc nx B bl ck wh ins (zPq T w D.toNat) → nu = -1 → pl = 0 → 0 ≤ D → D ≤ 120 → w ≠ 0 → ∃ d : Nat, i ≤ (d : Int) ∧ d ≤ D.toNat ∧ zRp fc nx B bl3 ck3 wh3 ins3 nu3 pl3 T w D.toNat d ∧ n = zHg zf1 (zTo on T) w d ∧ zTgB tm on T w d
def zGf (ro cs nx fc lc bt : Nat → Int32) (ch ru ab tk : Int) (on : Nat → Int32) (D bl ck wh ins nu pl n : Int) (tm : Nat → Int32) : Prop := ∀ (B : Nat → List Bool) (T : Nat → Nat → Int) (w : Int), zPB ro cs nx fc lc bt ch ru ab tk B → zRr fc nx B bl ck wh ins (zPq T w D.toNat) → nu = -1 → pl = 0 → 0 ≤ D → D ≤ 120 → w ≠ 0 → n = zHg zf1 (zTo on T) w D.toNat ∧ zTgB tm on T w D.toNat
section ZGO
variable {ro cs nx fc lc bt on tm tm' su su0 su' : Nat → Int32} {ch ru ab tk D bl ck wh ins nu pl bl3 ck3 wh3 ins3 nu3 pl3 bl4 ck4 wh4 ins4 nu4 pc4 pl4 pa4 i i' n n' r q os wt o o' : Int}
theorem zGo_0 (hi : i = 0) (hn : n = 0) (ht : ∀ j : Nat, (j : Int) < 120 → tm j = (0 : Int32)) : zGo ro cs nx fc lc bt ch ru ab tk on D bl ck wh ins nu pl bl ck wh ins nu pl i n tm := fun B T w a1 a6 a7 a8 a9 a10 a11 => ⟨0, by omega, Nat.zero_le _, ⟨[], zPq T w D.toNat, fun m hm => absurd hm List.not_mem_nil, by rw [a8]; rfl, a6, rfl, by rw [a7]; rfl, Nat.zero_le _⟩, hn, fun e he => (congrArg Int32.toInt (ht e (by omega))).trans ((show (0 : Int32).toInt = 0 by decide).trans (if_neg (by omega)).symm)⟩
theorem zGo_s {I X : Int32} (h : zGo ro cs nx fc lc bt ch ru ab tk on D bl ck wh ins nu pl bl3 ck3 wh3 ins3 nu3 pl3 i n tm) (hn : zNo ro cs nx fc lc bt ch ru ab tk bl3 ck3 wh3 ins3 bl4 ck4 wh4 ins4 pl3 nu3 nu4 pc4 pl4 pa4 r) (hr : r ≠ 0) (ho : ((on nu4.toNat).toInt ≠ 0 ∧ n' = n + 1 ∧ tm' = upd tm I.toNatClampNeg X ∧ I.toInt = nu4 ∧ X.toInt = pc4) ∨ ((0 ≤ nu4 → nu4 < D → (on nu4.toNat).toInt = 0) ∧ n' = n ∧ tm' = tm)) (hi : i' = i + 1) : zGo ro cs nx fc lc bt ch ru ab tk on D bl ck wh ins nu pl bl4 ck4 wh4 ins4 nu4 pl4 i' n' tm' := fun B T w a1 a6 a7 a8 a9 a10 a11 => by
  obtain ⟨d, b1, b2, b3, b4, b5⟩ := h B T w a1 a6 a7 a8 a9 a10 a11
  rcases zRp_n a1 (by omega) b3 hn with ⟨c1, -⟩ | ⟨-, d', R', c1, c2, c3, c4, c5, c6, c7, c8, c9, c10⟩
  · exact absurd c1 hr
  · have z1 := zHg_z (φ := zf1) (T := zTo on T) (w := w) (d := d) zf1_b (D := d') c1 (fun e e1 e2 => zTo_z a11 (Or.inr (c3 e e1 e2)))
    have en : nu4.toNat = d' := by omega
    have cI : I.toNatClampNeg = I.toInt.toNat := rfl
    rw [en] at ho
    refine ⟨d' + 1, by omega, by omega, ⟨zPn (T d') w 1024, R', zPn_r (Nat.le_refl _), by rw [zPn_l]; exact c7.symm, c9, c10, by rw [zLd_y c4]; exact c5, by omega⟩, ?_, ?_⟩
    · rw [zHg_s, z1, ← b4]
      rcases ho with ⟨o1, o2, -⟩ | ⟨o1, o2, -⟩
      · rw [zTo_y o1, zf1_p c4, o2]
      · have o := o1 (by omega) (by omega)
        have z := zTo_z (T := T) (d := d') a11 (Or.inl o)
        have f := zf1_b (zTm (zTo on T d') w 1024)
        omega
    · intro e he
      have q := b5 e he
      by_cases l : e = d'
      · rw [l] at q ⊢
        rw [if_neg (by omega)] at q
        rw [if_pos (Nat.lt_succ_self _)]
        rcases ho with ⟨o1, -, o3, o4, o5⟩ | ⟨o1, -, o3⟩
        · rw [o3, show I.toNatClampNeg = d' from by omega, pk_us, o5, c6, zTo_y o1]
        · have o := o1 (by omega) (by omega)
          have z := zTo_z (T := T) (d := d') a11 (Or.inl o)
          rw [o3, q]
          omega
      · have e1 : tm' e = tm e := by
          rcases ho with ⟨-, -, o3, o4, -⟩ | ⟨-, -, o3⟩
          · rw [o3, pk_un (by omega)]
          · rw [o3]
        rw [e1, q]
        by_cases x : e < d
        · rw [if_pos x, if_pos (by omega)]
        · rw [if_neg x]
          by_cases y : e < d' + 1
          · rw [if_pos y]
            have z := zTo_z (on := on) (T := T) (d := e) a11 (Or.inr (c3 e (by omega) (by omega)))
            omega
          · rw [if_neg y]
theorem zGf_n (h : zGo ro cs nx fc lc bt ch ru ab tk on D bl ck wh ins nu pl bl3 ck3 wh3 ins3 nu3 pl3 i n tm) (hn : zNo ro cs nx fc lc bt ch ru ab tk bl3 ck3 wh3 ins3 bl4 ck4 wh4 ins4 pl3 nu3 nu4 pc4 pl4 pa4 r) (hr : r = 0) : zGf ro cs nx fc lc bt ch ru ab tk on D bl ck wh ins nu pl n tm := fun B T w a1 a6 a7 a8 a9 a10 a11 => by
  obtain ⟨d, b1, b2, b3, b4, b5⟩ := h B T w a1 a6 a7 a8 a9 a10 a11
  rcases zRp_n a1 (by omega) b3 hn with ⟨-, c1⟩ | ⟨c1, -⟩
  · refine ⟨by rw [zHg_z (φ := zf1) (T := zTo on T) (w := w) (d := d) zf1_b (D := D.toNat) b2 (fun e e1 e2 => zTo_z a11 (Or.inr (c1 e e1 e2)))]; exact b4, fun e he => ?_⟩
    rw [b5 e he]
    by_cases x : e < d
    · rw [if_pos x, if_pos (by omega)]
    · rw [if_neg x]
      by_cases y : e < D.toNat
      · rw [if_pos y]
        have z := zTo_z (on := on) (T := T) (d := e) a11 (Or.inr (c1 e (by omega) y))
        omega
      · rw [if_neg y]
  · omega
theorem zGf_i (h : zGo ro cs nx fc lc bt ch ru ab tk on D bl ck wh ins nu pl bl3 ck3 wh3 ins3 nu3 pl3 i n tm) (hi : 120 ≤ i) : zGf ro cs nx fc lc bt ch ru ab tk on D bl ck wh ins nu pl n tm := fun B T w a1 a6 a7 a8 a9 a10 a11 => by
  obtain ⟨d, b1, b2, b3, b4, b5⟩ := h B T w a1 a6 a7 a8 a9 a10 a11
  rw [show D.toNat = d from by omega]
  exact ⟨b4, b5⟩
def zS2 (su0 su tm : Nat → Int32) (P : Int32) (wt o : Int) : Prop := (∀ e : Nat, e < 120 → 0 ≤ (su0 e).toInt ∧ (su0 e).toInt ≤ 12665856) → (∀ e : Nat, e < 120 → 0 ≤ (tm e).toInt ∧ (tm e).toInt ≤ 1024) → 0 ≤ wt → wt ≤ 31 → ∀ e : Nat, e < 120 → (su e).toInt = (su0 e).toInt + (if (e : Int) < o ∧ e ≠ P.toNatClampNeg then min (tm e).toInt (tm P.toNatClampNeg).toInt * wt else 0)
theorem zS2_0 {P : Int32} (ho : o = 0) : zS2 su su tm P wt o := fun _ _ _ _ e he => by rw [if_neg (show ¬ ((e : Int) < o ∧ e ≠ P.toNatClampNeg) from fun c => by omega), Int.add_zero]
theorem zS2_k {P O : Int32} (h : zS2 su0 su tm P wt O.toInt) (hO : O.toInt = P.toInt) (p0 : 0 ≤ P.toInt) (ho : o' = O.toInt + 1) : zS2 su0 su tm P wt o' := fun h1 h2 h3 h4 e he => by
  rw [h h1 h2 h3 h4 e he]
  have cP : P.toNatClampNeg = P.toInt.toNat := rfl
  by_cases c : (e : Int) < O.toInt ∧ e ≠ P.toNatClampNeg
  · have c' : (e : Int) < o' ∧ e ≠ P.toNatClampNeg := ⟨by omega, c.2⟩
    rw [if_pos c, if_pos c']
  · have c' : ¬ ((e : Int) < o' ∧ e ≠ P.toNatClampNeg) := fun d => c ⟨by omega, d.2⟩
    rw [if_neg c, if_neg c']
theorem zS2_s {P O X M Wt Pp S : Int32} (h : zS2 su0 su tm P Wt.toInt O.toInt) (o0 : 0 ≤ O.toInt) (o1 : O.toInt < 120) (hne : O.toInt ≠ P.toInt) (p0 : 0 ≤ P.toInt) (p1 : P.toInt < 120) (eX : X = su O.toNatClampNeg) (eM : M.toInt = min (tm O.toNatClampNeg).toInt (tm P.toNatClampNeg).toInt) (eP : Pp = M * Wt) (eS : S = X + Pp) (es : su' = upd su O.toNatClampNeg S) (ho : o' = O.toInt + 1) : zS2 su0 su' tm P Wt.toInt o' := fun h1 h2 h3 h4 e he => by
  have cO : O.toNatClampNeg = O.toInt.toNat := rfl
  have cP : P.toNatClampNeg = P.toInt.toNat := rfl
  have q := h h1 h2 h3 h4 e he
  by_cases c : e = O.toNatClampNeg
  · subst c
    have t1 := h2 O.toNatClampNeg he
    have t2 := h2 P.toNatClampNeg (by omega)
    have m0 : 0 ≤ M.toInt ∧ M.toInt ≤ 1024 := by omega
    have p2 := Int.mul_nonneg m0.1 h3
    have p3 := Int.mul_le_mul m0.2 h4 h3 (show (0 : Int) ≤ 1024 by decide)
    have zz := zmul (x := M) (y := Wt) rfl rfl eP (by omega) (by omega)
    have s0 := h1 O.toNatClampNeg he
    rw [if_neg (show ¬ ((O.toNatClampNeg : Int) < O.toInt ∧ O.toNatClampNeg ≠ P.toNatClampNeg) from fun d => by omega), Int.add_zero, ← eX] at q
    have zs := zadd (x := X) (y := Pp) rfl rfl eS (by omega) (by omega)
    have c' : (O.toNatClampNeg : Int) < o' ∧ O.toNatClampNeg ≠ P.toNatClampNeg := ⟨by omega, by omega⟩
    rw [es, pk_us, if_pos c', ← eM]
    omega
  · rw [es, pk_un c, q]
    by_cases d : (e : Int) < O.toInt ∧ e ≠ P.toNatClampNeg
    · have c' : (e : Int) < o' ∧ e ≠ P.toNatClampNeg := ⟨by omega, d.2⟩
      rw [if_pos d, if_pos c']
    · have c' : ¬ ((e : Int) < o' ∧ e ≠ P.toNatClampNeg) := fun f => d ⟨by omega, f.2⟩
      rw [if_neg d, if_neg c']
def zAA (ro cs nx fc lc bt : Nat → Int32) (ch ru ab tk : Int) (on : Nat → Int32) (D bl ck wh ins nu pl os : Int) (P : Int32) (su0 su : Nat → Int32) : Prop := ∀ (B : Nat → List Bool) (T : Nat → Nat → Int) (w : Int), zPB ro cs nx fc lc bt ch ru ab tk B → zRr fc nx B bl ck wh ins (zPq T w D.toNat) → nu = -1 → pl = 0 → 0 ≤ D → D ≤ 120 → w ≠ 0 → 0 ≤ os → os ≤ 120 → os = ((zsu (fun d => if (on d).toInt ≠ 0 then 1 else 0) D.toNat : Nat) : Int) → 0 ≤ P.toInt → P.toInt < D → (∀ e : Nat, e < 120 → 0 ≤ (su0 e).toInt ∧ (su0 e).toInt ≤ 12665856) → ∀ e : Nat, e < 120 → (su e).toInt = (su0 e).toInt + (if e < D.toNat ∧ e ≠ P.toNatClampNeg then zmu T on D.toNat os P.toNatClampNeg e w else 0)
theorem zAA_i {P : Int32} (hg : zGf ro cs nx fc lc bt ch ru ab tk on D bl ck wh ins nu pl n tm) (hw : zW (0 ≤ os → os ≤ 120 → n ≤ os → wt = zrr os n)) (hs : zS2 su0 su tm P wt o) (oD : o ≤ D) (hx : D ≤ o ∨ (tm P.toNatClampNeg).toInt ≤ 0) : zAA ro cs nx fc lc bt ch ru ab tk on D bl ck wh ins nu pl os P su0 su := fun B T w a1 a6 a7 a8 a9 a10 a11 o0 o1 eo p0 p1 hb e he => by
  obtain ⟨g1, g2⟩ := hg B T w a1 a6 a7 a8 a9 a10 a11
  have le := zHg_os (T := T) (on := on) a11 D.toNat
  have ew := hw o0 o1 (by omega)
  have wb := zrr_b (k := n) o0 o1
  rw [← ew] at wb
  have cP : P.toNatClampNeg = P.toInt.toNat := rfl
  have tmb : ∀ e : Nat, e < 120 → 0 ≤ (tm e).toInt ∧ (tm e).toInt ≤ 1024 := fun e he => by
    have z := g2 e he
    have t := zTm_b (t := zTo on T e) (w := w) (k := 1024)
    by_cases c : e < D.toNat
    · rw [if_pos c] at z; omega
    · rw [if_neg c] at z; omega
  have q := hs hb tmb wb.1 wb.2 e he
  have tp := g2 P.toNatClampNeg (by omega)
  rw [if_pos (by omega)] at tp
  rw [q]
  by_cases c : e < D.toNat ∧ e ≠ P.toNatClampNeg
  · rw [if_pos c]
    have te := g2 e he
    rw [if_pos c.1] at te
    by_cases hd : D ≤ o
    · have c' : (e : Int) < o ∧ e ≠ P.toNatClampNeg := ⟨by omega, c.2⟩
      rw [if_pos c', te, tp, Int.min_comm, ew, g1]
      rfl
    · have t0 : (tm P.toNatClampNeg).toInt ≤ 0 := by omega
      have z := tmb P.toNatClampNeg (by omega)
      have ze := tmb e he
      rw [zmu_z (T := T) (on := on) (Or.inl (by omega))]
      by_cases f : (e : Int) < o ∧ e ≠ P.toNatClampNeg
      · rw [if_pos f, show min (tm e).toInt (tm P.toNatClampNeg).toInt = 0 from by omega, Int.zero_mul]
      · rw [if_neg f]
  · have c' : ¬ ((e : Int) < o ∧ e ≠ P.toNatClampNeg) := fun d => c ⟨by omega, d.2⟩
    rw [if_neg c, if_neg c']
end ZGO
def zlj (S : Nat → Int) (b o : Int) : Prop := (b = -1 ∧ ∀ e : Nat, (e : Int) < o → S e ≤ 0) ∨ (0 ≤ b ∧ b < o ∧ 0 < S b.toNat ∧ ∀ e : Nat, (e : Int) < o → S e < S b.toNat ∨ (S e = S b.toNat ∧ b ≤ (e : Int)))
section ZLJ
variable {S S' : Nat → Int} {b b' o o' : Int}
theorem zlj_0 (hb : b = -1) (ho : o = 0) : zlj S b o := Or.inl ⟨hb, fun e he => by omega⟩
theorem zlj_k (h : zlj S b o) (o0 : 0 ≤ o) (hs : (b = -1 ∧ S o.toNat ≤ 0) ∨ (b ≠ -1 ∧ S o.toNat ≤ S b.toNat)) (ho : o' = o + 1) : zlj S b o' := by
  rcases h with ⟨h1, h2⟩ | ⟨h1, h2, h3, h4⟩
  · refine Or.inl ⟨h1, fun e he => ?_⟩
    by_cases c : (e : Int) < o
    · exact h2 e c
    · rw [show e = o.toNat from by omega]; omega
  · refine Or.inr ⟨h1, by omega, h3, fun e he => ?_⟩
    by_cases c : (e : Int) < o
    · exact h4 e c
    · rw [show e = o.toNat from by omega]; omega
theorem zlj_n (h : zlj S b o) (o0 : 0 ≤ o) (hs : (b = -1 ∧ 0 < S o.toNat) ∨ (b ≠ -1 ∧ S b.toNat < S o.toNat)) (hb : b' = o) (ho : o' = o + 1) : zlj S b' o' := by
  subst hb
  rcases h with ⟨h1, h2⟩ | ⟨h1, h2, h3, h4⟩
  · refine Or.inr ⟨o0, by omega, by omega, fun e he => ?_⟩
    by_cases c : (e : Int) < b'
    · have := h2 e c; omega
    · rw [show e = b'.toNat from by omega]; omega
  · refine Or.inr ⟨o0, by omega, by omega, fun e he => ?_⟩
    by_cases c : (e : Int) < b'
    · have := h4 e c; omega
    · rw [show e = b'.toNat from by omega]; omega
theorem zlj_c (h : zlj S b o) (e : ∀ k : Nat, (k : Int) < o → S k = S' k) : zlj S' b o := by
  rcases h with ⟨h1, h2⟩ | ⟨h1, h2, h3, h4⟩
  · exact Or.inl ⟨h1, fun k hk => by rw [← e k hk]; exact h2 k hk⟩
  · have eb := e b.toNat (by omega)
    exact Or.inr ⟨h1, h2, by rw [← eb]; exact h3, fun k hk => by rw [← eb, ← e k hk]; exact h4 k hk⟩
theorem zlj_w (h : zlj S b o) (oo : o ≤ o') (hz : ∀ k : Nat, o ≤ (k : Int) → S k ≤ 0) : zlj S b o' := by
  rcases h with ⟨h1, h2⟩ | ⟨h1, h2, h3, h4⟩
  · refine Or.inl ⟨h1, fun k hk => ?_⟩
    by_cases c : (k : Int) < o
    · exact h2 k c
    · exact hz k (by omega)
  · refine Or.inr ⟨h1, by omega, h3, fun k hk => ?_⟩
    by_cases c : (k : Int) < o
    · exact h4 k c
    · have := hz k (by omega); omega
theorem zlj_u (h : zlj S b o) (h' : zlj S b' o) : b = b' := by
  rcases h with ⟨h1, h2⟩ | ⟨h1, h2, h3, h4⟩ <;> rcases h' with ⟨g1, g2⟩ | ⟨g1, g2, g3, g4⟩
  · omega
  · have := h2 b'.toNat (by omega); omega
  · have := g2 b.toNat (by omega); omega
  · have x := h4 b'.toNat (by omega)
    have y := g4 b.toNat (by omega)
    omega
end ZLJ
def zlJ (su : Nat → Int32) (b o : Int) : Prop := zlj (fun e => (su e).toInt) b o
theorem zlJ_0 {su : Nat → Int32} {b o : Int} (hb : b = -1) (ho : o = 0) : zlJ su b o := zlj_0 hb ho
theorem zlJ_k {su : Nat → Int32} {O B X Y : Int32} {o' : Int} (h : zlJ su B.toInt O.toInt) (o0 : 0 ≤ O.toInt) (eX : X = su O.toNatClampNeg) (hs : (B.toInt = -1 ∧ X.toInt ≤ 0) ∨ (B.toInt ≠ -1 ∧ Y = su B.toNatClampNeg ∧ X.toInt ≤ Y.toInt)) (ho : o' = O.toInt + 1) : zlJ su B.toInt o' := by
  refine zlj_k h o0 ?_ ho
  have x : (su O.toInt.toNat).toInt = X.toInt := congrArg Int32.toInt eX.symm
  show (B.toInt = -1 ∧ (su O.toInt.toNat).toInt ≤ 0) ∨ (B.toInt ≠ -1 ∧ (su O.toInt.toNat).toInt ≤ (su B.toInt.toNat).toInt)
  rcases hs with ⟨a, b⟩ | ⟨a, b, c⟩
  · exact Or.inl ⟨a, by omega⟩
  · have y : (su B.toInt.toNat).toInt = Y.toInt := congrArg Int32.toInt b.symm
    exact Or.inr ⟨a, by omega⟩
theorem zlJ_n {su : Nat → Int32} {O B X Y : Int32} {o' : Int} (h : zlJ su B.toInt O.toInt) (o0 : 0 ≤ O.toInt) (eX : X = su O.toNatClampNeg) (hs : (B.toInt = -1 ∧ 0 < X.toInt) ∨ (B.toInt ≠ -1 ∧ Y = su B.toNatClampNeg ∧ Y.toInt < X.toInt)) (ho : o' = O.toInt + 1) : zlJ su O.toInt o' := by
  refine zlj_n h o0 ?_ rfl ho
  have x : (su O.toInt.toNat).toInt = X.toInt := congrArg Int32.toInt eX.symm
  show (B.toInt = -1 ∧ 0 < (su O.toInt.toNat).toInt) ∨ (B.toInt ≠ -1 ∧ (su B.toInt.toNat).toInt < (su O.toInt.toNat).toInt)
  rcases hs with ⟨a, b⟩ | ⟨a, b, c⟩
  · exact Or.inl ⟨a, by omega⟩
  · have y : (su B.toInt.toNat).toInt = Y.toInt := congrArg Int32.toInt b.symm
    exact Or.inr ⟨a, by omega⟩
def zSkB (T : Nat → Nat → Int) (V : List Int) (on : Nat → Int32) (D : Nat) (os : Int) (a e : Nat) : Int := if e < D ∧ e ≠ a then zls (zmu T on D os a e) V else 0
def zSmB (s : Nat → Int64) (i fr : Nat → Int32) (n : Int) (ro cs nx fc lc bt : Nat → Int32) (ch ru ab tk : Int) (h l : Nat → Int32) (D : Int) (on : Nat → Int32) (os : Int) (P : Int32) (su : Nat → Int32) (p : Int) : Prop := ∀ (T : Nat → Nat → Int) (V : List Int), zKl s i fr n ro cs nx fc lc bt ch ru ab tk h l D T V → 0 ≤ os → os ≤ 120 → os = ((zsu (fun d => if (on d).toInt ≠ 0 then 1 else 0) D.toNat : Nat) : Int) → 0 ≤ P.toInt → P.toInt < D → p ≤ n → ∀ e : Nat, e < 120 → (su e).toInt = zsn (fun j => if e < D.toNat ∧ e ≠ P.toNatClampNeg then zmu T on D.toNat os P.toNatClampNeg e (s j).toInt else 0) p.toNat ∧ 0 ≤ (su e).toInt ∧ (su e).toInt ≤ 31744 * p
section ZSM
variable {s : Nat → Int64} {i fr ro cs nx fc lc bt h l on su su' : Nat → Int32} {n ch ru ab tk D os p p' bl ck wh ins nu pl r o : Int} {P : Int32}
theorem zSmB_0 (hz : ∀ j : Nat, (j : Int) < 120 → su j = (0 : Int32)) (hp : p = 0) : zSmB s i fr n ro cs nx fc lc bt ch ru ab tk h l D on os P su p := fun T V _ _ _ _ _ _ _ e he => by
  subst hp
  have z : (su e).toInt = 0 := (congrArg Int32.toInt (hz e (by omega))).trans (by decide)
  exact ⟨z, by omega, by omega⟩
theorem zSmB_s {Q I : Int32} (hh : zSmB s i fr n ro cs nx fc lc bt ch ru ab tk h l D on os P su Q.toInt) (q0 : 0 ≤ Q.toInt) (hid : 0 ≤ Q.toInt ∧ Q.toInt < n → I.toInt = (i Q.toNatClampNeg).toInt) (hop : zW (0 ≤ I.toInt → I.toInt ≤ 399 → ∀ B : Nat → List Bool, zPB ro cs nx fc lc bt ch ru ab tk B → zRr fc nx B bl ck wh ins (B I.toNatClampNeg))) (hnu : nu = -1) (hpl : pl = 0) (ha : zAA ro cs nx fc lc bt ch ru ab tk on D bl ck wh ins nu pl os P su su') (hp : p' = Q.toInt + 1) : zSmB s i fr n ro cs nx fc lc bt ch ru ab tk h l D on os P su' p' := fun T V hk o0 o1 eo p0 p1 pn e he => by
  obtain ⟨k1, k2, k3, k4, k5, k6, k7, k8⟩ := id hk
  have n4 := k1.2.2.1
  have cQ : Q.toNatClampNeg = Q.toInt.toNat := rfl
  have ei := hid ⟨q0, by omega⟩
  rw [cQ] at ei
  have v := k1.2.2.2.1 Q.toInt.toNat (by omega)
  have lt : (I.toInt.toNat : Int) < n := by
    have l2 := k1.2.1
    rcases Nat.lt_or_ge I.toInt.toNat V.length with c | c
    · omega
    · have v2 := v.2
      rw [← ei, List.getElem?_eq_none c] at v2
      exact absurd v2 (by simp)
  have e2 : V[I.toNatClampNeg]? = some (s Q.toInt.toNat).toInt := by
    show V[I.toInt.toNat]? = _
    rw [ei]; exact v.2
  have eb : zBv T V D.toNat I.toNatClampNeg = zPq T (s Q.toInt.toNat).toInt D.toNat := by
    unfold zBv
    rw [e2]
    rfl
  have op := hop (by omega) (by omega) _ k3
  rw [eb] at op
  have b := fun e he => hh T V hk o0 o1 eo p0 p1 (by omega) e he
  have a := ha _ T _ k3 op hnu hpl k6 k7 (k2 _ (List.mem_of_getElem? e2)) o0 o1 eo p0 p1 (fun e he => by have := b e he; omega) e he
  have q := b e he
  have m := zmu_b (T := T) (on := on) (D := D.toNat) (a := P.toNatClampNeg) (b := e) (x := (s Q.toInt.toNat).toInt) o0 o1
  rw [show p'.toNat = Q.toInt.toNat + 1 from by omega, zsn_s, ← q.1, a]
  refine ⟨rfl, ?_⟩
  by_cases c : e < D.toNat ∧ e ≠ P.toNatClampNeg
  · rw [if_pos c]; omega
  · rw [if_neg c]; omega
theorem zsn_z : ∀ n : Nat, zsn (fun _ => 0) n = 0 := by
  intro n
  induction n with
  | zero => rfl
  | succ n ih => rw [zsn_s, ih]; rfl
theorem zSmB_V {T : Nat → Nat → Int} {V : List Int} (hV : zVo s i fr n V) {e : Nat} : zsn (fun j => if e < D.toNat ∧ e ≠ P.toNatClampNeg then zmu T on D.toNat os P.toNatClampNeg e (s j).toInt else 0) n.toNat = zSkB T V on D.toNat os P.toNatClampNeg e := by
  unfold zSkB
  by_cases c : e < D.toNat ∧ e ≠ P.toNatClampNeg
  · rw [if_pos c, show (fun j => if e < D.toNat ∧ e ≠ P.toNatClampNeg then zmu T on D.toNat os P.toNatClampNeg e (s j).toInt else 0) = (fun j => zmu T on D.toNat os P.toNatClampNeg e (s j).toInt) from funext (fun j => if_pos c), zsn_l (μ := zmu T on D.toNat os P.toNatClampNeg e) (K := fun j => (s j).toInt) n.toNat (fun k _ => rfl)]
    have srt := hV.1
    have l2 := hV.2.1
    exact (zls_r (K := fun a => (s a).toInt) (n := n.toNat) (zVo_nd hV) (fun a b hab hb => by have := srt a b hab (by omega); omega) (fun x => by
      rw [zVo_m hV]
      constructor
      · rintro ⟨a, a1, a2⟩
        exact ⟨a, by omega, a2⟩
      · rintro ⟨a, a1, a2⟩
        exact ⟨a, by omega, a2⟩)).symm
  · rw [if_neg c, show (fun j => if e < D.toNat ∧ e ≠ P.toNatClampNeg then zmu T on D.toNat os P.toNatClampNeg e (s j).toInt else 0) = (fun _ => 0) from funext (fun j => if_neg c)]
    exact zsn_z _
def zMl (s : Nat → Int64) (i fr : Nat → Int32) (n : Int) (ro cs nx fc lc bt : Nat → Int32) (ch ru ab tk : Int) (h l : Nat → Int32) (D : Int) (on : Nat → Int32) (os : Int) (P : Int32) (r : Int) : Prop := ∀ (T : Nat → Nat → Int) (V : List Int), zKl s i fr n ro cs nx fc lc bt ch ru ab tk h l D T V → 0 ≤ os → os ≤ 120 → os = ((zsu (fun d => if (on d).toInt ≠ 0 then 1 else 0) D.toNat : Nat) : Int) → 0 ≤ P.toInt → P.toInt < D → zlj (zSkB T V on D.toNat os P.toNatClampNeg) r 120
theorem zMl_e (h1 : zSmB s i fr n ro cs nx fc lc bt ch ru ab tk h l D on os P su p) (pn : n ≤ p) (pn2 : p ≤ n) (h2 : zlJ su r o) (ho : 120 ≤ o) (ho2 : o ≤ 120) : zMl s i fr n ro cs nx fc lc bt ch ru ab tk h l D on os P r := fun T V hk o0 o1 eo p0 p1 => by
  rw [show o = 120 from by omega] at h2
  refine zlj_c h2 (fun e he => ?_)
  have q := (h1 T V hk o0 o1 eo p0 p1 pn2 e (by omega)).1
  rw [show p = n from by omega, zSmB_V hk.1] at q
  exact q
end ZSM
def zLq4 (T : Nat → Nat → Int) (V : List Int) (on : Nat → Int32) (D os : Int) (P : Int32) (th r : Int) : Prop := (th = 0 ∧ 0 ≤ P.toInt ∧ P.toInt < D ∧ (on P.toNatClampNeg).toInt ≠ 0 ∧ zlj (zSkB T V on D.toNat os P.toNatClampNeg) r 120) ∨ (th = 1 ∧ (P.toInt < 0 ∨ D ≤ P.toInt ∨ (on P.toNatClampNeg).toInt = 0))
def zLC (s : Nat → Int64) (i fr : Nat → Int32) (n : Int) (ro cs nx fc lc bt : Nat → Int32) (ch ru ab tk : Int) (h l : Nat → Int32) (D : Int) (on : Nat → Int32) (os : Int) (P : Int32) (th r : Int) : Prop := ∀ (T : Nat → Nat → Int) (V : List Int), zKl s i fr n ro cs nx fc lc bt ch ru ab tk h l D T V → 0 ≤ os → os ≤ 120 → os = ((zsu (fun d => if (on d).toInt ≠ 0 then 1 else 0) D.toNat : Nat) : Int) → zLq4 T V on D os P th r
section ZLC
variable {s : Nat → Int64} {i fr ro cs nx fc lc bt h l on : Nat → Int32} {n ch ru ab tk D os r a x : Int} {P : Int32}
theorem zLC_i (hi : zIo on D P x) (hx : x ≠ 0) (hm : zMl s i fr n ro cs nx fc lc bt ch ru ab tk h l D on os P r) : zLC s i fr n ro cs nx fc lc bt ch ru ab tk h l D on os P 0 r := fun T V hk o0 o1 eo => by
  have q := hi.2.mp (by have := hi.1; omega)
  exact Or.inl ⟨rfl, q.1, q.2.1, q.2.2, hm T V hk o0 o1 eo q.1 q.2.1⟩
theorem zLC_x (hi : zIo on D P x) (hx : x = 0) : zLC s i fr n ro cs nx fc lc bt ch ru ab tk h l D on os P 1 r := fun T V hk o0 o1 eo => by
  refine Or.inr ⟨rfl, ?_⟩
  by_cases c : 0 ≤ P.toInt ∧ P.toInt < D
  · exact Or.inr (Or.inr (zIo_0 hi hx c.1 c.2))
  · omega
theorem zLC_X {r' : Int} (ha : a = 1) (hh : zLC s i fr n ro cs nx fc lc bt ch ru ab tk h l D on os P 1 r) : zLC s i fr n ro cs nx fc lc bt ch ru ab tk h l D on os P a r' := fun T V hk o0 o1 eo => by
  subst ha
  rcases hh T V hk o0 o1 eo with ⟨c, -⟩ | c
  · exact absurd c (by decide)
  · exact Or.inr c
theorem zLC_L {R : Int32} {f f0 : Nat → Int64} {y : Int64} (ha : a = 0) (ef : f = vp_updL f0 (0 : Int32).toNatClampNeg y) (ey : y = R.toInt64) (hh : zLC s i fr n ro cs nx fc lc bt ch ru ab tk h l D on os P 0 R.toInt) : zLC s i fr n ro cs nx fc lc bt ch ru ab tk h l D on os P a (f 0).toInt := by
  subst ha
  have e : f 0 = R.toInt64 := by rw [ef, ← ey]; rfl
  rw [e, Int32.toInt_toInt64]
  exact hh
end ZLC
section ZAI
variable {ow of he on g sz ta ke ti bo : Nat → Int32} {W D n s s' w' r x : Int} {E P : Int32}
theorem zAi_0 {w : Int} (hw : w = 0) (hs : s = 0) : zAi ow of he on g sz W ta ke ti bo D n E w s := fun T V a _ _ _ _ _ _ _ _ => by
  subst hw; subst hs
  exact ⟨rfl, by decide, by decide⟩
theorem zAi_x {I : Int32} {T : Nat → Nat → Int} {V : List Int} {a : Nat} (hm : zMd g sz W ta ke D T V) (hb : zMb ti bo D T) (how : ∀ (j : Nat) (x : Int), V[j]? = some x → (ow j).toInt = (zTm (T a) x 1024 : Int)) (hx : zTX of ta ti bo W E) (oa : (on a).toInt ≠ 0) (oe : (on E.toNatClampNeg).toInt ≠ 0) (i0 : 0 ≤ I.toInt) (iW : I.toInt < W) (e0 : 0 ≤ E.toInt) (e1 : E.toInt < D) : V[I.toInt.toNat]? = some (zkw g sz I.toInt.toNat) ∧ (ow I.toNatClampNeg).toInt = (zTm (zTo on T a) (zkw g sz I.toInt.toNat) 1024 : Int) ∧ (of I.toNatClampNeg).toInt = (zTm (zTo on T E.toNatClampNeg) (zkw g sz I.toInt.toNat) 1024 : Int) := by
  have hv := hm.1.2.2.2.1 I.toInt.toNat (by omega)
  have cI : I.toNatClampNeg = I.toInt.toNat := rfl
  have ef := zTf_T hm hb (w := ((I.toInt.toNat : Nat) : Int)) (by rw [Int.toNat_natCast]; exact hv) (by omega) e0 e1 (hx I.toInt.toNat (by omega))
  refine ⟨hv, ?_, ?_⟩
  · rw [cI, how _ _ hv, zTo_y oa]
  · rw [cI, ef, zTo_y oe]
theorem zAi_n {I : Int32} (h : zAi ow of he on g sz W ta ke ti bo D n E I.toInt s) (hx : zTX of ta ti bo W E) (i0 : 0 ≤ I.toInt) (iW : I.toInt < W) (e0 : 0 ≤ E.toInt) (e1 : E.toInt < D) (hz : (ow I.toNatClampNeg).toInt ≤ 0 ∨ (of I.toNatClampNeg).toInt ≤ 0) (hs : s' = s) (hw : w' = I.toInt + 1) : zAi ow of he on g sz W ta ke ti bo D n E w' s' := fun T V a hm hb how hhe oa oe n0 n1 => by
  obtain ⟨q1, q2, q3⟩ := h T V a hm hb how hhe oa oe n0 n1
  obtain ⟨hv, x1, x2⟩ := zAi_x hm hb how hx oa oe i0 iW e0 e1
  have z : zmu T on D.toNat n a E.toNatClampNeg (zkw g sz I.toInt.toNat) = 0 := zmu_z (by omega)
  rw [show w'.toNat = I.toInt.toNat + 1 from by omega, zsn_s, ← q1]
  exact ⟨by rw [hs]; show s = s + zmu T on D.toNat n a E.toNatClampNeg (zkw g sz I.toInt.toNat); rw [z, Int.add_zero], by omega, by omega⟩
theorem zAi_s {I S S' M R Q : Int32} (h : zAi ow of he on g sz W ta ke ti bo D n E I.toInt S.toInt) (hx : zTX of ta ti bo W E) (i0 : 0 ≤ I.toInt) (iW : I.toInt < W) (W4 : W ≤ 400) (e0 : 0 ≤ E.toInt) (e1 : E.toInt < D) (hM : M.toInt = min (ow I.toNatClampNeg).toInt (of I.toNatClampNeg).toInt) (hH : 0 < (he I.toNatClampNeg).toInt) (hR : R.toInt = zdig (16 * n / (he I.toNatClampNeg).toInt)) (eQ : Q = M * R) (eS : S' = S + Q) (hw : w' = I.toInt + 1) : zAi ow of he on g sz W ta ke ti bo D n E w' S'.toInt := fun T V a hm hb how hhe oa oe n0 n1 => by
  obtain ⟨q1, q2, q3⟩ := h T V a hm hb how hhe oa oe n0 n1
  obtain ⟨hv, x1, x2⟩ := zAi_x hm hb how hx oa oe i0 iW e0 e1
  have eh : (he I.toNatClampNeg).toInt = zHg zf1 (zTo on T) (zkw g sz I.toInt.toNat) D.toNat := hhe _ _ hv
  have er : R.toInt = zrr n (zHg zf1 (zTo on T) (zkw g sz I.toInt.toNat) D.toNat) := by
    rw [hR, ← eh]
    unfold zrr
    rw [if_pos hH]
  have rb := zrr_b (k := zHg zf1 (zTo on T) (zkw g sz I.toInt.toNat) D.toNat) n0 n1
  rw [← er] at rb
  have t1 := zTm_b (t := zTo on T a) (w := zkw g sz I.toInt.toNat) (k := 1024)
  have t2 := zTm_b (t := zTo on T E.toNatClampNeg) (w := zkw g sz I.toInt.toNat) (k := 1024)
  rw [x1, x2] at hM
  have em : zmu T on D.toNat n a E.toNatClampNeg (zkw g sz I.toInt.toNat) = M.toInt * R.toInt := by rw [hM, er]; rfl
  have m0 : 0 ≤ M.toInt ∧ M.toInt ≤ 1024 := by omega
  have p2 := Int.mul_nonneg m0.1 rb.1
  have p3 := Int.mul_le_mul m0.2 rb.2 rb.1 (show (0 : Int) ≤ 1024 by decide)
  have zz := zmul (x := M) (y := R) rfl rfl eQ (by omega) (by omega)
  have zs := zadd (x := S) (y := Q) rfl rfl eS (by omega) (by omega)
  rw [show w'.toNat = I.toInt.toNat + 1 from by omega, zsn_s, ← q1]
  exact ⟨by show S'.toInt = S.toInt + zmu T on D.toNat n a E.toNatClampNeg (zkw g sz I.toInt.toNat); rw [em]; omega, by omega, by omega⟩
def zAl (ow he on g sz : Nat → Int32) (W : Int) (ta ke ti bo : Nat → Int32) (D n : Int) (E : Int32) (r : Int) : Prop := ∀ (T : Nat → Nat → Int) (V : List Int) (a : Nat), zMd g sz W ta ke D T V → zMb ti bo D T → (∀ (j : Nat) (x : Int), V[j]? = some x → (ow j).toInt = (zTm (T a) x 1024 : Int)) → (∀ (j : Nat) (x : Int), V[j]? = some x → (he j).toInt = zHg zf1 (zTo on T) x D.toNat) → (on a).toInt ≠ 0 → (on E.toNatClampNeg).toInt ≠ 0 → 0 ≤ n → n ≤ 120 → r = zls (zmu T on D.toNat n a E.toNatClampNeg) V
theorem zAl_e {w : Int} (h : zAi ow of he on g sz W ta ke ti bo D n E w s) (h1 : W ≤ w) (h2 : w ≤ W) (hr : r = s) : zAl ow he on g sz W ta ke ti bo D n E r := fun T V a hm hb how hhe oa oe n0 n1 => by
  obtain ⟨q1, q2, q3⟩ := h T V a hm hb how hhe oa oe n0 n1
  obtain ⟨v1, v2, v3, v4, v5⟩ := id hm.1
  rw [hr, q1, show w = W from by omega, zsn_l (μ := zmu T on D.toNat n a E.toNatClampNeg) (K := fun j => zkw g sz j) W.toNat (fun k _ => rfl)]
  refine (zls_r (zMv_nd hm.1) (fun a b hab hb => v1.2 a b hab (by omega)) (fun y => ?_)).symm
  constructor
  · intro hy
    obtain ⟨j, j1, -, j2⟩ := zMv_j hm.1 hy
    exact ⟨j, by omega, j2⟩
  · rintro ⟨j, j1, j2⟩
    rw [← j2]
    exact List.mem_of_getElem? (v4 j (by omega))
theorem zls_0 {μ : Int → Int} : ∀ {V : List Int}, (∀ x ∈ V, μ x = 0) → zls μ V = 0 := by
  intro V
  induction V with
  | nil => intro _; rfl
  | cons x V ih =>
    intro h
    show μ x + zls μ V = 0
    rw [h x (List.mem_cons_self ..), ih (fun y hy => h y (List.mem_cons_of_mem _ hy))]
    rfl
def zLi (ow he on g sz : Nat → Int32) (W : Int) (ta ke ti bo : Nat → Int32) (D n : Int) (P : Int32) (b m d : Int) : Prop := ∀ (T : Nat → Nat → Int) (V : List Int), zMd g sz W ta ke D T V → zMb ti bo D T → (on P.toNatClampNeg).toInt ≠ 0 → zlj (zSkB T V on D.toNat n P.toNatClampNeg) b d ∧ ((b = -1 ∧ m = 0) ∨ (b ≠ -1 ∧ m = zSkB T V on D.toNat n P.toNatClampNeg b.toNat))
variable {b b' m m' d d' : Int}
theorem zLi_0 (hb : b = -1) (hm : m = 0) (hd : d = 0) : zLi ow he on g sz W ta ke ti bo D n P b m d := fun T V _ _ _ => ⟨zlj_0 hb hd, Or.inl ⟨hb, hm⟩⟩
theorem zLi_z (h : zLi ow he on g sz W ta ke ti bo D n P b m E.toInt) (e0 : 0 ≤ E.toInt) (p0 : 0 ≤ P.toInt) (hz : E.toInt = P.toInt ∨ (on E.toNatClampNeg).toInt = 0) (hb : b' = b) (hm : m' = m) (hd : d' = E.toInt + 1) : zLi ow he on g sz W ta ke ti bo D n P b' m' d' := fun T V hM hB op => by
  subst hb; subst hm
  obtain ⟨q1, q2⟩ := h T V hM hB op
  have cE : E.toNatClampNeg = E.toInt.toNat := rfl
  have cP : P.toNatClampNeg = P.toInt.toNat := rfl
  have z : zSkB T V on D.toNat n P.toNatClampNeg E.toInt.toNat = 0 := by
    unfold zSkB
    by_cases c : E.toInt.toNat < D.toNat ∧ E.toInt.toNat ≠ P.toNatClampNeg
    · rw [if_pos c]
      have oz : (on E.toInt.toNat).toInt = 0 := by
        rcases hz with y | y
        · exfalso; omega
        · exact y
      exact zls_0 (fun x hx => by
        have t := zTo_z (on := on) (T := T) (d := E.toInt.toNat) (w := x) (hM.1.2.2.2.2 x hx) (Or.inl oz)
        exact zmu_z (Or.inr (by omega)))
    · rw [if_neg c]
  refine ⟨zlj_k q1 e0 ?_ hd, q2⟩
  rcases q1 with ⟨a1, a2⟩ | ⟨a1, a2, a3, a4⟩
  · exact Or.inl ⟨a1, by omega⟩
  · exact Or.inr ⟨by omega, by omega⟩
theorem zLi_a (hx : zTX ow ta ti bo W P) (hh : zHx he on g sz W ta ke ti bo D D) (ha : zAl ow he on g sz W ta ke ti bo D n E r) (e0 : 0 ≤ E.toInt) (e1 : E.toInt < D) (ne : E.toInt ≠ P.toInt) (p0 : 0 ≤ P.toInt) (p1 : P.toInt < D) (oe : (on E.toNatClampNeg).toInt ≠ 0) (n0 : 0 ≤ n) (n1 : n ≤ 120) {T : Nat → Nat → Int} {V : List Int} (hM : zMd g sz W ta ke D T V) (hB : zMb ti bo D T) (op : (on P.toNatClampNeg).toInt ≠ 0) : zSkB T V on D.toNat n P.toNatClampNeg E.toInt.toNat = r := by
  have cP : P.toNatClampNeg = P.toInt.toNat := rfl
  have c' : E.toInt.toNat < D.toNat ∧ E.toInt.toNat ≠ P.toNatClampNeg := ⟨by omega, by omega⟩
  unfold zSkB
  rw [if_pos c']
  refine (ha T V P.toNatClampNeg hM hB (fun j x hv => ?_) (fun j x hv => ?_) op oe n0 n1).symm
  · have l := zMd_l hM hv
    exact zTf_T hM hB (w := ((j : Nat) : Int)) (by rw [Int.toNat_natCast]; exact hv) (by omega) p0 p1 (hx j l.1)
  · exact hh T V hM hB j x hv
theorem zLi_k (h : zLi ow he on g sz W ta ke ti bo D n P b m E.toInt) (hx : zTX ow ta ti bo W P) (hh : zHx he on g sz W ta ke ti bo D D) (ha : zAl ow he on g sz W ta ke ti bo D n E r) (e0 : 0 ≤ E.toInt) (e1 : E.toInt < D) (ne : E.toInt ≠ P.toInt) (p0 : 0 ≤ P.toInt) (p1 : P.toInt < D) (oe : (on E.toNatClampNeg).toInt ≠ 0) (n0 : 0 ≤ n) (n1 : n ≤ 120) (hr : r ≤ m) (hb : b' = b) (hm : m' = m) (hd : d' = E.toInt + 1) : zLi ow he on g sz W ta ke ti bo D n P b' m' d' := fun T V hM hB op => by
  subst hb; subst hm
  obtain ⟨q1, q2⟩ := h T V hM hB op
  have z := zLi_a hx hh ha e0 e1 ne p0 p1 oe n0 n1 hM hB op
  refine ⟨zlj_k q1 e0 ?_ hd, q2⟩
  rcases q2 with ⟨a1, a2⟩ | ⟨a1, a2⟩
  · exact Or.inl ⟨a1, by omega⟩
  · exact Or.inr ⟨a1, by omega⟩
theorem zLi_n (h : zLi ow he on g sz W ta ke ti bo D n P b m E.toInt) (hx : zTX ow ta ti bo W P) (hh : zHx he on g sz W ta ke ti bo D D) (ha : zAl ow he on g sz W ta ke ti bo D n E r) (e0 : 0 ≤ E.toInt) (e1 : E.toInt < D) (ne : E.toInt ≠ P.toInt) (p0 : 0 ≤ P.toInt) (p1 : P.toInt < D) (oe : (on E.toNatClampNeg).toInt ≠ 0) (n0 : 0 ≤ n) (n1 : n ≤ 120) (hr : m < r) (hb : b' = E.toInt) (hm : m' = r) (hd : d' = E.toInt + 1) : zLi ow he on g sz W ta ke ti bo D n P b' m' d' := fun T V hM hB op => by
  obtain ⟨q1, q2⟩ := h T V hM hB op
  have z := zLi_a hx hh ha e0 e1 ne p0 p1 oe n0 n1 hM hB op
  refine ⟨zlj_n q1 e0 ?_ hb hd, Or.inr ⟨by omega, by rw [hm, hb]; exact z.symm⟩⟩
  rcases q2 with ⟨a1, a2⟩ | ⟨a1, a2⟩
  · exact Or.inl ⟨a1, by omega⟩
  · exact Or.inr ⟨a1, by omega⟩
def zLR (g sz : Nat → Int32) (W : Int) (ta ke ti bo : Nat → Int32) (D : Int) (on : Nat → Int32) (P : Int32) (th r : Int) : Prop := ∀ (T : Nat → Nat → Int) (V : List Int) (os : Int), zMd g sz W ta ke D T V → zMb ti bo D T → os = ((zsu (fun d => if (on d).toInt ≠ 0 then 1 else 0) D.toNat : Nat) : Int) → zLq4 T V on D os P th r
theorem zLR_x {th : Int} (hi : zIo on D P x) (hx : x = 0) (ht : th = 1) : zLR g sz W ta ke ti bo D on P th r := fun T V os _ _ _ => by
  refine Or.inr ⟨ht, ?_⟩
  by_cases c : 0 ≤ P.toInt ∧ P.toInt < D
  · exact Or.inr (Or.inr (zIo_0 hi hx c.1 c.2))
  · omega
theorem zLR_i {th : Int} (hi : zIo on D P x) (hx : x ≠ 0) (hs : zSg on D n) (h : zLi ow he on g sz W ta ke ti bo D n P b m d) (h1 : D ≤ d) (h2 : d ≤ D) (ht : th = 0) (hr : r = b) : zLR g sz W ta ke ti bo D on P th r := fun T V os hM hB eo => by
  have q := hi.2.mp (by have := hi.1; omega)
  have en : n = os := by unfold zSg at hs; rw [hs, eo]
  have l := (h T V hM hB q.2.2).1
  rw [show d = D from by omega, en] at l
  refine Or.inl ⟨ht, q.1, q.2.1, q.2.2, ?_⟩
  rw [hr]
  exact zlj_w l hM.2.2.1 (fun k hk => by
    have d0 := hM.2.1
    have c' : ¬ (k < D.toNat ∧ k ≠ P.toNatClampNeg) := fun c => by omega
    unfold zSkB
    rw [if_neg c']
    exact Int.le_refl _)
end ZAI
def zpb (row : Nat → Int32) (p : Nat) : Bool := (row (p / 32)).toBitVec.getLsbD (p % 32)
def zpP (row row' : Nat → Int32) (place : Int) : Prop := ∀ q : Nat, q < 832 → zpb row' q = (zpb row q || decide ((q : Int) = place))
theorem zpP_i {row row' : Nat → Int32} {X Z Y S I : Int32} {place : Int} (eX : X = row I.toNatClampNeg) (eZ : Z = 1 <<< (S &&& 31)) (eY : Y = X ||| Z) (er : row' = upd row I.toNatClampNeg Y) (hI : I.toInt = place / 32) (hS : S.toInt = place % 32) (p0 : 0 ≤ place) : zpP row row' place := fun q hq => by
  have eI : I.toNatClampNeg = place.toNat / 32 := by have : I.toNatClampNeg = I.toInt.toNat := rfl; omega
  unfold zpb
  by_cases c : q / 32 = place.toNat / 32
  · have e1 : decide (q % 32 = S.toInt.toNat) = decide ((q : Int) = place) := decide_eq_decide.mpr (by omega)
    have g := zgb2 eZ eY (Or.inr rfl) (by omega) (by omega) (q % 32) (by omega)
    rw [eX, eI, e1, show decide ((1 : Int32) = 1) = true from rfl, Bool.and_true] at g
    rw [er, eI, c, pk_us]
    exact g
  · have e2 : decide ((q : Int) = place) = false := decide_eq_false (by omega)
    rw [er, eI, pk_un c, e2, Bool.or_false]
theorem zpP_o {row : Nat → Int32} {place : Int} (h : place < 0 ∨ 832 ≤ place) : zpP row row place := fun q hq => by
  have e2 : decide ((q : Int) = place) = false := decide_eq_false (by omega)
  rw [e2, Bool.or_false]
def zcp (row0 row : Nat → Int32) (lo hi : Int) : Prop := ∀ j : Nat, j < 26 → row j = if lo ≤ (j : Int) ∧ (j : Int) < hi then 0 else row0 j
theorem zcp_0 {row : Nat → Int32} {lo hi : Int} (h : hi ≤ lo) : zcp row row lo hi := fun j hj => by
  have c : ¬ (lo ≤ (j : Int) ∧ (j : Int) < hi) := fun d => by omega
  rw [if_neg c]
theorem zcp_s {row0 row row' : Nat → Int32} {lo hi' : Int} {I : Int32} (h : zcp row0 row lo I.toInt) (h0 : 0 ≤ lo) (hl : lo ≤ I.toInt) (e : row' = upd row I.toNatClampNeg 0) (hh : hi' = I.toInt + 1) : zcp row0 row' lo hi' := fun j hj => by
  have eI : I.toNatClampNeg = I.toInt.toNat := rfl
  by_cases c : j = I.toNatClampNeg
  · have d : lo ≤ (j : Int) ∧ (j : Int) < hi' := ⟨by omega, by omega⟩
    rw [if_pos d, e, c, pk_us]
  · rw [e, pk_un c, h j hj]
    by_cases d : lo ≤ (j : Int) ∧ (j : Int) < I.toInt
    · have d' : lo ≤ (j : Int) ∧ (j : Int) < hi' := ⟨d.1, by omega⟩
      rw [if_pos d, if_pos d']
    · have d' : ¬ (lo ≤ (j : Int) ∧ (j : Int) < hi') := fun f => d ⟨f.1, by omega⟩
      rw [if_neg d, if_neg d']
def zclr (row0 row : Nat → Int32) (lo hi : Nat) : Prop := ∀ q : Nat, q < 832 → zpb row q = if lo ≤ q ∧ q < hi then false else zpb row0 q
theorem zclr_e {row0 row : Nat → Int32} {lo hi : Int} {a b : Nat} (h : zcp row0 row lo hi) (h1 : lo = a) (h2 : (b : Int) ≤ hi) (h3 : hi ≤ b) : zclr row0 row (32 * a) (32 * b) := fun q hq => by
  unfold zpb
  rw [h (q / 32) (by omega)]
  by_cases d : lo ≤ ((q / 32 : Nat) : Int) ∧ ((q / 32 : Nat) : Int) < hi
  · have d' : 32 * a ≤ q ∧ q < 32 * b := ⟨by omega, by omega⟩
    rw [if_pos d, if_pos d']
    exact BitVec.getLsbD_zero
  · have d' : ¬ (32 * a ≤ q ∧ q < 32 * b) := fun f => d ⟨by omega, by omega⟩
    rw [if_neg d, if_neg d']
theorem zclr_z {row : Nat → Int32} (h : ∀ j : Nat, (j : Int) < 26 → row j = (0 : Int32)) : ∀ q : Nat, q < 832 → zpb row q = false := fun q hq => by
  unfold zpb
  rw [h (q / 32) (by omega)]
  exact BitVec.getLsbD_zero
def zjn (row0 row other : Nat → Int32) (hi : Int) : Prop := ∀ j : Nat, j < 26 → row j = if (j : Int) < hi then row0 j ||| other j else row0 j
theorem zjn_0 {row other : Nat → Int32} {hi : Int} (h : hi ≤ 0) : zjn row row other hi := fun j hj => by rw [if_neg (show ¬ ((j : Int) < hi) from by omega)]
theorem zjn_s {row0 row row' other : Nat → Int32} {hi' : Int} {I X O Y : Int32} (h : zjn row0 row other I.toInt) (h0 : 0 ≤ I.toInt) (h1 : I.toInt < 26) (eX : X = row I.toNatClampNeg) (eO : O = other I.toNatClampNeg) (eY : Y = X ||| O) (e : row' = upd row I.toNatClampNeg Y) (hh : hi' = I.toInt + 1) : zjn row0 row' other hi' := fun j hj => by
  have eI : I.toNatClampNeg = I.toInt.toNat := rfl
  by_cases c : j = I.toNatClampNeg
  · have q := h j hj
    rw [if_neg (show ¬ ((j : Int) < I.toInt) from by omega)] at q
    rw [if_pos (show (j : Int) < hi' from by omega), e, c, pk_us, eY, eX, eO, ← c, q]
  · rw [e, pk_un c, h j hj]
    by_cases d : (j : Int) < I.toInt
    · rw [if_pos d, if_pos (show (j : Int) < hi' from by omega)]
    · rw [if_neg d, if_neg (show ¬ ((j : Int) < hi') from by omega)]
theorem zjn_e {row0 row other : Nat → Int32} {hi : Int} (h : zjn row0 row other hi) (h2 : 26 ≤ hi) : ∀ q : Nat, q < 832 → zpb row q = (zpb row0 q || zpb other q) := fun q hq => by
  unfold zpb
  rw [h (q / 32) (by omega), if_pos (show ((q / 32 : Nat) : Int) < hi from by omega)]
  exact BitVec.getLsbD_or
theorem zodd : ∀ n : Nat, 0 < n → ∃ t m : Nat, n = 2 ^ t * (2 * m + 1) := by
  intro n
  induction n using Nat.strongRecOn with
  | ind n ih =>
    intro h
    by_cases c : n % 2 = 1
    · exact ⟨0, n / 2, by omega⟩
    · obtain ⟨t, m, e⟩ := ih (n / 2) (by omega) (by omega)
      refine ⟨t + 1, m, ?_⟩
      rw [Nat.pow_succ, Nat.mul_comm (2 ^ t) 2, Nat.mul_assoc, ← e]
      omega
def zCtz (x : Int32) (r : Int) : Prop := x ≠ 0 → 0 ≤ r ∧ r ≤ 31 ∧ x.toBitVec.getLsbD r.toNat = true ∧ ∀ j : Nat, (j : Int) < r → x.toBitVec.getLsbD j = false
theorem zct_y {x a b y : Int32} {t m : Nat} (ea : a = x ^^^ (-1)) (eb : b = x - 1) (ey : y = a &&& b) (e : x.toBitVec.toNat = 2 ^ t * (2 * m + 1)) : y.toBitVec.toNat = 2 ^ t - 1 ∧ t ≤ 31 ∧ x.toBitVec.getLsbD t = true ∧ ∀ j : Nat, j < t → x.toBitVec.getLsbD j = false := by
  have lt : x.toBitVec.toNat < 2 ^ 32 := x.toBitVec.isLt
  have pos : 0 < 2 ^ t := Nat.two_pow_pos t
  have t31 : t ≤ 31 := by
    rcases Nat.lt_or_ge t 32 with c | c
    · omega
    · have q := Nat.pow_le_pow_right (show 0 < 2 by decide) c
      have q2 : 2 ^ t * 1 ≤ 2 ^ t * (2 * m + 1) := Nat.mul_le_mul_left _ (by omega)
      omega
  have xb : ∀ j : Nat, x.toBitVec.toNat.testBit j = if j < t then false else (2 * m + 1).testBit (j - t) := fun j => by
    have q := Nat.testBit_two_pow_mul_add (2 * m + 1) (b := 0) (i := t) pos j
    rw [Nat.add_zero, ← e] at q
    rw [q, Nat.zero_testBit]
  have bn : b.toBitVec.toNat = 2 ^ t * (2 * m) + (2 ^ t - 1) := by
    have q : b.toBitVec.toNat = (2 ^ 32 - 1 + x.toBitVec.toNat) % 2 ^ 32 := by rw [eb]; rfl
    have q2 : 2 ^ t * (2 * m + 1) = 2 ^ t * (2 * m) + 2 ^ t := by rw [Nat.mul_add, Nat.mul_one]
    rw [q2] at e
    rw [q]
    omega
  have bb : ∀ j : Nat, b.toBitVec.toNat.testBit j = if j < t then true else (2 * m).testBit (j - t) := fun j => by
    have q := Nat.testBit_two_pow_mul_add (2 * m) (b := 2 ^ t - 1) (i := t) (by omega) j
    rw [bn, q, Nat.testBit_two_pow_sub_one]
    by_cases c : j < t
    · rw [if_pos c, if_pos c, decide_eq_true c]
    · rw [if_neg c, if_neg c]
  have ab : ∀ j : Nat, j < 32 → a.toBitVec.getLsbD j = !x.toBitVec.getLsbD j := fun j hj => by
    have q : a.toBitVec = x.toBitVec ^^^ BitVec.allOnes 32 := by rw [ea]; rfl
    rw [q, BitVec.getLsbD_xor, BitVec.getLsbD_allOnes, decide_eq_true hj, Bool.xor_true]
  have yn : ∀ j : Nat, y.toBitVec.toNat.testBit j = decide (j < t) := fun j => by
    by_cases hj : j < 32
    · have q : y.toBitVec.getLsbD j = (a.toBitVec.getLsbD j && b.toBitVec.getLsbD j) := by rw [ey]; exact BitVec.getLsbD_and
      have q2 : y.toBitVec.toNat.testBit j = (!x.toBitVec.toNat.testBit j && b.toBitVec.toNat.testBit j) := by
        have q3 := ab j hj
        unfold BitVec.getLsbD at q q3
        rw [q, q3]
      rw [q2, xb j, bb j]
      by_cases c : j < t
      · rw [if_pos c, if_pos c, decide_eq_true c]; rfl
      · rw [if_neg c, if_neg c, decide_eq_false c]
        by_cases d : j - t = 0
        · rw [d, Nat.testBit_zero, Nat.testBit_zero, show (2 * m + 1) % 2 = 1 from by omega]
          rfl
        · obtain ⟨k, hk⟩ : ∃ k, j - t = k + 1 := ⟨j - t - 1, by omega⟩
          rw [hk, Nat.testBit_succ, Nat.testBit_succ, show (2 * m + 1) / 2 = m from by omega, show (2 * m) / 2 = m from by omega]
          cases m.testBit k <;> rfl
    · rw [decide_eq_false (by omega)]
      exact Nat.testBit_lt_two_pow (Nat.lt_of_lt_of_le y.toBitVec.isLt (Nat.pow_le_pow_right (by decide) (by omega)))
  refine ⟨Nat.eq_of_testBit_eq (fun j => by rw [yn j, Nat.testBit_two_pow_sub_one]), t31, ?_, fun j hj => ?_⟩
  · show x.toBitVec.toNat.testBit t = true
    rw [xb t, if_neg (Nat.lt_irrefl t), Nat.sub_self, Nat.testBit_zero, show (2 * m + 1) % 2 = 1 from by omega]
    rfl
  · show x.toBitVec.toNat.testBit j = false
    rw [xb j, if_pos hj]
theorem zbd_1s {t : Nat} (h : 0 < t) : zbd (2 ^ t - 1) = t := by
  have p := Nat.pow_le_pow_right (show 0 < 2 by decide) h
  rw [Nat.pow_one] at p
  have a := zbd_2 (n := 2 ^ t - 1) (by omega)
  have c1 : zbd (2 ^ t - 1) ≤ t := zbd_le (by omega)
  rcases Nat.lt_or_ge (zbd (2 ^ t - 1)) t with c | c
  · have q := Nat.pow_le_pow_right (show 0 < 2 by decide) (show zbd (2 ^ t - 1) ≤ t - 1 by omega)
    have e : 2 ^ t = 2 * 2 ^ (t - 1) := by rw [← Nat.pow_succ']; congr 1; omega
    omega
  · omega
def zTzC (p a n : Int) : Prop := 0 < p → 0 < a ∧ (zbd p.toNat : Int) + 1 = zbd a.toNat + n
theorem zTzC_0 {p a n : Int} (h1 : a = p) (h2 : n = 1) : zTzC p a n := fun h => by subst h1; subst h2; exact ⟨h, rfl⟩
theorem zTzC_s {p a n a' n' : Int} (k : Nat) (h : zTzC p a n) (hk : ((2 ^ k : Nat) : Int) ≤ a) (ha : a' = a / ((2 ^ k : Nat) : Int)) (hn : n' = n + k) : zTzC p a' n' := fun h0 => by
  obtain ⟨q1, q2⟩ := h h0
  have pos : 0 < 2 ^ k := Nat.two_pow_pos k
  have e : a'.toNat = a.toNat / 2 ^ k := by
    rw [ha, ← Int.toNat_of_nonneg (show 0 ≤ a by omega)]
    rfl
  have g : 1 ≤ a.toNat / 2 ^ k := (Nat.one_le_div_iff pos).mpr (by omega)
  have s := zbd_s (k := k) (n := a.toNat) (by omega)
  rw [e]
  exact ⟨by omega, by omega⟩
theorem zTzC_e {p a n r : Int} (h : zTzC p a n) (h4 : a ≤ 4) (hr : r = n + a / 2) : 0 < p → r = (zbd p.toNat : Int) := fun h0 => by
  obtain ⟨q1, q2⟩ := h h0
  have b : zbd 1 = 1 ∧ zbd 2 = 2 ∧ zbd 3 = 2 ∧ zbd 4 = 3 := by decide
  have : a = 1 ∨ a = 2 ∨ a = 3 ∨ a = 4 := by omega
  rcases this with c | c | c | c <;> (rw [c] at q2 hr; first | (rw [show (1 : Int).toNat = 1 from rfl] at q2; omega) | (rw [show (2 : Int).toNat = 2 from rfl] at q2; omega) | (rw [show (3 : Int).toNat = 3 from rfl] at q2; omega) | (rw [show (4 : Int).toNat = 4 from rfl] at q2; omega))
theorem zCtz_i {x a b y : Int32} {r : Int} (ea : a = x ^^^ (-1)) (eb : b = x - 1) (ey : y = a &&& b) (h1 : 0 < y.toInt → r = (zbd y.toInt.toNat : Int)) (h2 : y.toInt = 0 → r = 0) : zCtz x r := fun hx => by
  have x0 : 0 < x.toBitVec.toNat := by
    rcases Nat.eq_zero_or_pos x.toBitVec.toNat with c | c
    · exfalso
      apply hx
      apply zeqi.mpr
      have q := ztoi x
      rw [c] at q
      rw [q]
      decide
    · exact c
  obtain ⟨t, m, e⟩ := zodd _ x0
  obtain ⟨y1, t1, b1, b2⟩ := zct_y ea eb ey e
  have p31 := Nat.pow_le_pow_right (show 0 < 2 by decide) t1
  have pos : 0 < 2 ^ t := Nat.two_pow_pos t
  have yi : y.toInt = ((2 ^ t - 1 : Nat) : Int) := by
    have q := ztoi y
    rw [y1, if_pos (by omega)] at q
    exact q
  have rt : r = (t : Int) := by
    by_cases c : t = 0
    · rw [c] at yi
      rw [h2 (yi.trans (by decide)), c]
      rfl
    · have p := Nat.pow_le_pow_right (show 0 < 2 by decide) (show 1 ≤ t by omega)
      rw [Nat.pow_one] at p
      rw [h1 (by omega), yi, Int.toNat_natCast, zbd_1s (by omega)]
  rw [rt]
  exact ⟨by omega, by omega, by rw [Int.toNat_natCast]; exact b1, fun j hj => b2 j (by omega)⟩
def zNf (row : Nat → Int32) (fr r : Int) : Prop := 0 ≤ fr → (r = -1 ∧ ∀ q : Nat, fr ≤ (q : Int) → q < 832 → zpb row q = false) ∨ (fr ≤ r ∧ r < 832 ∧ zpb row r.toNat = true ∧ ∀ q : Nat, fr ≤ (q : Int) → (q : Int) < r → zpb row q = false)
theorem zNf_o {row : Nat → Int32} {fr r : Int} (h : fr < 0 ∨ 832 ≤ fr) (hr : r = -1) : zNf row fr r := fun h0 => Or.inl ⟨hr, fun q h1 h2 => by omega⟩
def zNi (row : Nat → Int32) (fr : Int) (here : Int32) (i : Int) : Prop := 0 ≤ fr → (∀ q : Nat, fr ≤ (q : Int) → (q : Int) < 32 * i → zpb row q = false) ∧ (i = fr / 32 → ∀ j : Nat, j < 32 → here.toBitVec.getLsbD j = ((row i.toNat).toBitVec.getLsbD j && decide (fr % 32 ≤ (j : Int))))
theorem zsl {s z : Int32} (e : z = (-1) <<< (s &&& 31)) (h0 : 0 ≤ s.toInt) (h1 : s.toInt ≤ 31) (j : Nat) (hj : j < 32) : z.toBitVec.getLsbD j = decide (s.toInt ≤ (j : Int)) := by
  have key : ∀ k : Nat, k ≤ 31 → ∀ j : Nat, j < 32 → ((-1 : Int32) <<< (Int32.ofNat k &&& 31)).toBitVec.getLsbD j = decide (k ≤ j) := by decide +kernel
  have q2 : ∀ k : Nat, k ≤ 31 → (Int32.ofNat k).toInt = (k : Int) := by decide
  have es : s = Int32.ofNat s.toInt.toNat := zeqi.mpr (by rw [q2 _ (by omega)]; omega)
  have q := key s.toInt.toNat (by omega) j hj
  rw [← es, ← e] at q
  rw [q]
  exact decide_eq_decide.mpr (by omega)
theorem zNi_0 {row : Nat → Int32} {fr i : Int} {X M Hh S I : Int32} (hi : i = fr / 32) (hI : I.toInt = fr / 32) (hS : S.toInt = fr % 32) (eX : X = row I.toNatClampNeg) (eM : M = (-1) <<< (S &&& 31)) (eH : Hh = X &&& M) : zNi row fr Hh i := fun h0 => by
  refine ⟨fun q h1 h2 => by omega, fun _ j hj => ?_⟩
  have eI : I.toNatClampNeg = i.toNat := by have : I.toNatClampNeg = I.toInt.toNat := rfl; omega
  rw [eI] at eX
  have g := zsl eM (by omega) (by omega) j hj
  rw [eH, show (X &&& M).toBitVec = X.toBitVec &&& M.toBitVec from rfl, BitVec.getLsbD_and, g, eX, hS]
theorem zNi_z {row : Nat → Int32} {fr : Int} {here here' I : Int32} {i' : Int} (h : zNi row fr here I.toInt) (i0 : 0 ≤ I.toInt) (hi : fr / 32 ≤ I.toInt) (hh : (I.toInt ≤ fr / 32 ∧ here' = here) ∨ (fr / 32 < I.toInt ∧ here' = row I.toNatClampNeg)) (hz : here'.toInt = 0) (e : i' = I.toInt + 1) : zNi row fr here' i' := fun h0 => by
  obtain ⟨q1, q2⟩ := h h0
  have z : here' = 0 := zeqi.mpr (hz.trans (by decide))
  have eI : I.toNatClampNeg = I.toInt.toNat := rfl
  refine ⟨fun q h1 h2 => ?_, fun c => by omega⟩
  by_cases c : (q : Int) < 32 * I.toInt
  · exact q1 q h1 c
  · have e1 : q / 32 = I.toInt.toNat := by omega
    unfold zpb
    rw [e1]
    rcases hh with ⟨a, b⟩ | ⟨a, b⟩
    · have g := q2 (by omega) (q % 32) (by omega)
      rw [← b, z, decide_eq_true (show fr % 32 ≤ ((q % 32 : Nat) : Int) from by omega), Bool.and_true] at g
      rw [← g]
      exact BitVec.getLsbD_zero
    · rw [eI] at b
      rw [← b, z]
      exact BitVec.getLsbD_zero
theorem zNf_y {row : Nat → Int32} {fr r c : Int} {here here' I : Int32} (h : zNi row fr here I.toInt) (i0 : 0 ≤ I.toInt) (i1 : I.toInt < 26) (hi : fr / 32 ≤ I.toInt) (hh : (I.toInt ≤ fr / 32 ∧ here' = here) ∨ (fr / 32 < I.toInt ∧ here' = row I.toNatClampNeg)) (hz : here'.toInt ≠ 0) (hc : zCtz here' c) (e : r = 32 * I.toInt + c) : zNf row fr r := fun h0 => by
  obtain ⟨q1, q2⟩ := h h0
  obtain ⟨c1, c2, c3, c4⟩ := hc (fun d => hz (by rw [d]; decide))
  have eI : I.toNatClampNeg = I.toInt.toNat := rfl
  have hb : ∀ j : Nat, j < 32 → here'.toBitVec.getLsbD j = ((row I.toInt.toNat).toBitVec.getLsbD j && decide (fr ≤ 32 * I.toInt + (j : Int))) := fun j hj => by
    rcases hh with ⟨a, b⟩ | ⟨a, b⟩
    · rw [b, q2 (by omega) j hj]
      rw [decide_eq_decide.mpr (show fr % 32 ≤ (j : Int) ↔ fr ≤ 32 * I.toInt + (j : Int) from by omega)]
    · rw [b, eI, decide_eq_true (show fr ≤ 32 * I.toInt + (j : Int) from by omega), Bool.and_true]
  have g := hb c.toNat (by omega)
  rw [c3] at g
  have g2 := (Bool.and_eq_true_iff.mp g.symm)
  have g3 := of_decide_eq_true g2.2
  refine Or.inr ⟨by omega, by omega, ?_, fun q h1 h2 => ?_⟩
  · unfold zpb
    rw [show r.toNat / 32 = I.toInt.toNat from by omega, show r.toNat % 32 = c.toNat from by omega]
    exact g2.1
  · by_cases d : (q : Int) < 32 * I.toInt
    · exact q1 q h1 d
    · unfold zpb
      have e1 : q / 32 = I.toInt.toNat := by omega
      have k := hb (q % 32) (by omega)
      rw [c4 (q % 32) (by omega), decide_eq_true (show fr ≤ 32 * I.toInt + ((q % 32 : Nat) : Int) from by omega), Bool.and_true] at k
      rw [e1]
      exact k.symm
theorem zNf_e {row : Nat → Int32} {fr r i : Int} {here : Int32} (h : zNi row fr here i) (hi : 26 ≤ i) (hr : r = -1) : zNf row fr r := fun h0 => Or.inl ⟨hr, fun q h1 h2 => (h h0).1 q h1 (by omega)⟩
def znr (n : Int) (p q : Nat) : Prop := (p < 512 ↔ q < 512) ∧ (p : Int) ≤ (q : Int) + n ∧ (q : Int) ≤ (p : Int) + n
def zNr (A B : Nat → Int32) (n r : Int) : Prop := 0 ≤ n → n ≤ 1000 → (r = 1 ∧ ∃ p q : Nat, p < 832 ∧ q < 832 ∧ zpb A p = true ∧ zpb B q = true ∧ znr n p q) ∨ (r = 0 ∧ ∀ p q : Nat, p < 832 → q < 832 → zpb A p = true → zpb B q = true → ¬ znr n p q)
def zNw (A B : Nat → Int32) (n pl i : Int) : Prop := (pl = -1 ∧ ∀ p q : Nat, p < 832 → q < 832 → zpb A p = true → zpb B q = true → ¬ znr n p q) ∨ (0 ≤ pl ∧ pl < 832 ∧ i ≤ pl ∧ zpb A pl.toNat = true ∧ ∀ p q : Nat, (p : Int) < pl → q < 832 → zpb A p = true → zpb B q = true → ¬ znr n p q)
theorem zNw_0 {A B : Nat → Int32} {n pl i fr : Int} (h : zNf A fr pl) (hf : fr = 0) (hi : i = 0) : zNw A B n pl i := by
  rcases h (by omega) with ⟨a, b⟩ | ⟨a, b, c, d⟩
  · exact Or.inl ⟨a, fun p q h1 h2 h3 _ _ => by rw [b p (by omega) h1] at h3; exact absurd h3 (by decide)⟩
  · exact Or.inr ⟨by omega, b, by omega, c, fun p q h1 h2 h3 _ _ => by rw [d p (by omega) h1] at h3; exact absurd h3 (by decide)⟩
theorem zNw_s {A B : Nat → Int32} {n pl i pl' i' met fr fr2 bound : Int} (h : zNw A B n pl i) (n0 : 0 ≤ n) (hp : pl ≠ -1) (hm : zNf B fr met) (hl : (pl < 512 ∧ fr = max 0 (pl - n) ∧ bound = 512) ∨ (512 ≤ pl ∧ fr = max 512 (pl - n) ∧ bound = 832)) (hx : met = -1 ∨ bound ≤ met ∨ pl + n < met) (h2 : zNf A fr2 pl') (e2 : fr2 = pl + 1) (hi : i' = i + 1) : zNw A B n pl' i' := by sorry
theorem zNr_y {A B : Nat → Int32} {n pl i met fr bound r : Int} (h : 0 ≤ n → zNw A B n pl i) (hp : pl ≠ -1) (hm : zNf B fr met) (hl : (pl < 512 ∧ fr = max 0 (pl - n) ∧ bound = 512) ∨ (512 ≤ pl ∧ fr = max 512 (pl - n) ∧ bound = 832)) (h1 : met ≠ -1) (h2 : met < bound) (h3 : met ≤ pl + n) (hr : r = 1) : zNr A B n r := fun n0 _ => by
  rcases h n0 with ⟨a, -⟩ | ⟨a1, a2, a3, a4, a5⟩
  · exact absurd a hp
  · rcases hm (by omega) with ⟨m1, -⟩ | ⟨m1, m2, m3, m4⟩
    · exact absurd m1 h1
    · exact Or.inl ⟨hr, pl.toNat, met.toNat, by omega, by omega, a4, m3, ⟨by omega, by omega, by omega⟩⟩
theorem zNr_n {A B : Nat → Int32} {n pl i r : Int} (h : 0 ≤ n → zNw A B n pl i) (hx : 832 ≤ i ∨ pl = -1) (hr : r = 0) : zNr A B n r := fun n0 _ => by
  rcases h n0 with ⟨a, b⟩ | ⟨a1, a2, a3, a4, a5⟩
  · exact Or.inr ⟨hr, b⟩
  · omega
def zPgA (fc nx : Nat → Int32) (B : Nat → List Bool) (bl ck wh ins nu pc pl pa : Int) (T : Nat → Nat → Int) (w : Int) (D x : Nat) : Prop := nu = (x : Int) ∧ x < D ∧ 0 < zTm (T x) w 1024 ∧ pc = (zTm (T x) w 1024 : Int) ∧ pl = (zTm (T x) w 1024 : Int) ∧ pa = -1 ∧ ∃ R' : List Bool, zRr fc nx B bl ck wh ins (zrL (zPn (T x) w 1024) ++ R') ∧ zPq T w D = zPq T w (x + 1) ++ R'
def zPg (fc nx : Nat → Int32) (B : Nat → List Bool) (bl ck wh ins nu pc pl pa : Int) (T : Nat → Nat → Int) (w : Int) (D d : Nat) (i : Int) : Prop :=
  (∃ e : Nat, zRp fc nx B bl ck wh ins nu pl T w D e ∧ nu < (d : Int) ∧ i ≤ (e : Int)) ∨
  (∃ x : Nat, d ≤ x ∧ (∀ y : Nat, d ≤ y → y < x → ¬ 0 < zTm (T y) w 1024) ∧ zPgA fc nx B bl ck wh ins nu pc pl pa T w D x) ∨
  (nu = 120 ∧ ∀ y : Nat, d ≤ y → y < D → ¬ 0 < zTm (T y) w 1024)
theorem zLd_n2 {T : Nat → Nat → Int} {w : Int} : ∀ {e : Nat} {y : Nat}, zLd T w e < (y : Int) → y < e → ¬ 0 < zTm (T y) w 1024 := by
  intro e
  induction e with
  | zero => intro y _ h; omega
  | succ e ih =>
    intro y h hy
    by_cases c : 0 < zTm (T e) w 1024
    · rw [zLd_y c] at h
      omega
    · rw [zLd_n c] at h
      by_cases k : y = e
      · rw [k]; exact c
      · exact ih h (by omega)
section ZPG
variable {ro cs nx fc lc bt : Nat → Int32} {ch ru ab tk bl ck wh ins nu pc pl pa bl3 ck3 wh3 ins3 nu3 pc3 pl3 pa3 bl4 ck4 wh4 ins4 nu4 pc4 pl4 pa4 x i i' r : Int} {B : Nat → List Bool} {T : Nat → Nat → Int} {w : Int} {D d : Nat}
theorem zRp_A {x : Nat} (h : zPgA fc nx B bl ck wh ins nu pc pl pa T w D x) : zRp fc nx B bl ck wh ins nu pl T w D (x + 1) := by
  obtain ⟨h1, h2, h3, h4, h5, h6, R', h7, h8⟩ := h
  exact ⟨zPn (T x) w 1024, R', zPn_r (Nat.le_refl _), by rw [zPn_l]; exact h5.symm, h7, h8, by rw [zLd_y h3]; exact h1, h2⟩
theorem zPg_s (hP : zPB ro cs nx fc lc bt ch ru ab tk B) (hD : D ≤ 120) (h : zPg fc nx B bl3 ck3 wh3 ins3 nu3 pc3 pl3 pa3 T w D d i) (hn : zNo ro cs nx fc lc bt ch ru ab tk bl3 ck3 wh3 ins3 bl4 ck4 wh4 ins4 pl3 nu3 nu4 pc4 pl4 pa4 r) (h0 : r = 0 → nu4 = 120) (hx : nu3 < (d : Int)) (d1 : d ≤ 119) (hi : i' = i + 1) : zPg fc nx B bl4 ck4 wh4 ins4 nu4 pc4 pl4 pa4 T w D d i' := by
  rcases h with ⟨e, e1, e2, e3⟩ | ⟨x, x1, x2, x3⟩ | ⟨x1, x2⟩
  · have el : nu3 = zLd T w e := by obtain ⟨ms, R, -, -, -, -, q, -⟩ := e1; exact q
    have lo : ∀ y : Nat, d ≤ y → y < e → ¬ 0 < zTm (T y) w 1024 := fun y y1 y2 => zLd_n2 (e := e) (by omega) y2
    rcases zRp_n hP hD e1 hn with ⟨c1, c2⟩ | ⟨c0, d', R', c1, c2, c3, c4, c5, c6, c7, c8, c9, c10⟩
    · refine Or.inr (Or.inr ⟨h0 c1, fun y y1 y2 => ?_⟩)
      rcases Nat.lt_or_ge y e with k | k
      · exact lo y y1 k
      · exact c2 y k y2
    · have A : zPgA fc nx B bl4 ck4 wh4 ins4 nu4 pc4 pl4 pa4 T w D d' := ⟨c5, c2, c4, c6, c7, c8, R', c9, c10⟩
      rcases Nat.lt_or_ge d' d with k | k
      · exact Or.inl ⟨d' + 1, zRp_A A, by omega, by omega⟩
      · refine Or.inr (Or.inl ⟨d', k, fun y y1 y2 => ?_, A⟩)
        rcases Nat.lt_or_ge y e with j | j
        · exact lo y y1 j
        · exact c3 y j y2
  · have := x3.1
    omega
  · omega
def zPgE (fc nx : Nat → Int32) (B : Nat → List Bool) (bl ck wh ins nu pc pl pa : Int) (T : Nat → Nat → Int) (w : Int) (D x : Nat) (r : Int) : Prop := (r = 1 ∧ zPgA fc nx B bl ck wh ins nu pc pl pa T w D x) ∨ (r = 0 ∧ (x < D → ¬ 0 < zTm (T x) w 1024) ∧ zPg fc nx B bl ck wh ins nu pc pl pa T w D (x + 1) 0)
theorem zPg_e (hD : D ≤ 120) (h : zPg fc nx B bl ck wh ins nu pc pl pa T w D d i) (hx : (d : Int) ≤ nu ∨ 120 ≤ i) (d1 : d ≤ 119) (hr : (nu = (d : Int) ∧ r = 1) ∨ (nu ≠ (d : Int) ∧ r = 0)) : zPgE fc nx B bl ck wh ins nu pc pl pa T w D d r := by
  rcases h with ⟨e, e1, e2, e3⟩ | ⟨x, x1, x2, x3⟩ | ⟨x1, x2⟩
  · have eD : e ≤ D := by obtain ⟨ms, R, -, -, -, -, -, q⟩ := e1; exact q
    have el : nu = zLd T w e := by obtain ⟨ms, R, -, -, -, -, q, -⟩ := e1; exact q
    refine Or.inr ⟨by omega, fun k => zLd_n2 (e := e) (by omega) (by omega), Or.inl ⟨e, e1, by omega, by omega⟩⟩
  · have q := x3.1
    by_cases c : x = d
    · subst c
      exact Or.inl ⟨by omega, x3⟩
    · refine Or.inr ⟨by omega, fun _ => x2 d (Nat.le_refl _) (by omega), Or.inr (Or.inl ⟨x, by omega, fun y y1 y2 => x2 y (by omega) y2, x3⟩)⟩
  · refine Or.inr ⟨by omega, fun k => x2 d (Nat.le_refl _) k, Or.inr (Or.inr ⟨x1, fun y y1 y2 => x2 y (by omega) y2⟩)⟩
def zRa (ro cs nx fc lc bt : Nat → Int32) (ch ru ab tk bl ck wh ins nu pc pl pa bl3 ck3 wh3 ins3 nu3 pc3 pl3 pa3 x i : Int) : Prop := ∀ (B : Nat → List Bool) (T : Nat → Nat → Int) (w : Int) (D : Nat), D ≤ 120 → zPB ro cs nx fc lc bt ch ru ab tk B → zPg fc nx B bl ck wh ins nu pc pl pa T w D x.toNat 0 → zPg fc nx B bl3 ck3 wh3 ins3 nu3 pc3 pl3 pa3 T w D x.toNat i
theorem zRa_0 (hi : i = 0) : zRa ro cs nx fc lc bt ch ru ab tk bl ck wh ins nu pc pl pa bl ck wh ins nu pc pl pa x i := fun B T w D _ _ h => by rw [hi]; exact h
theorem zRa_s (h : zRa ro cs nx fc lc bt ch ru ab tk bl ck wh ins nu pc pl pa bl3 ck3 wh3 ins3 nu3 pc3 pl3 pa3 x i) (hn : zNo ro cs nx fc lc bt ch ru ab tk bl3 ck3 wh3 ins3 bl4 ck4 wh4 ins4 pl3 nu3 nu4 pc4 pl4 pa4 r) (h0 : r = 0 → nu4 = 120) (hx : nu3 < x) (x0 : 0 ≤ x) (x1 : x ≤ 119) (hi : i' = i + 1) : zRa ro cs nx fc lc bt ch ru ab tk bl ck wh ins nu pc pl pa bl4 ck4 wh4 ins4 nu4 pc4 pl4 pa4 x i' := fun B T w D hD hP hq => zPg_s hP hD (h B T w D hD hP hq) hn h0 (by omega) (by omega) hi
def zRch (ro cs nx fc lc bt : Nat → Int32) (ch ru ab tk bl ck wh ins nu pc pl pa bl3 ck3 wh3 ins3 nu3 pc3 pl3 pa3 x r : Int) : Prop := ∀ (B : Nat → List Bool) (T : Nat → Nat → Int) (w : Int) (D : Nat), D ≤ 120 → zPB ro cs nx fc lc bt ch ru ab tk B → zPg fc nx B bl ck wh ins nu pc pl pa T w D x.toNat 0 → zPgE fc nx B bl3 ck3 wh3 ins3 nu3 pc3 pl3 pa3 T w D x.toNat r
theorem zRch_e (h : zRa ro cs nx fc lc bt ch ru ab tk bl ck wh ins nu pc pl pa bl3 ck3 wh3 ins3 nu3 pc3 pl3 pa3 x i) (hx : x ≤ nu3 ∨ 120 ≤ i) (x0 : 0 ≤ x) (x1 : x ≤ 119) (hr : (nu3 = x ∧ r = 1) ∨ (nu3 ≠ x ∧ r = 0)) : zRch ro cs nx fc lc bt ch ru ab tk bl ck wh ins nu pc pl pa bl3 ck3 wh3 ins3 nu3 pc3 pl3 pa3 x r := fun B T w D hD hP hq => zPg_e hD (h B T w D hD hP hq) (by omega) (by omega) (by omega)
def zPgR (fc nx : Nat → Int32) (B : Nat → List Bool) (bl ck wh ins nu pl pa : Int) (T : Nat → Nat → Int) (w : Int) (D x : Nat) (j : Int) : Prop := nu = (x : Int) ∧ x < D ∧ 0 < zTm (T x) w 1024 ∧ 0 ≤ j ∧ j ≤ (zTm (T x) w 1024 : Int) ∧ pl = (zTm (T x) w 1024 : Int) - j ∧ pa = (((zPn (T x) w 1024).take j.toNat).sum : Int) - 1 ∧ ∃ R' : List Bool, zRr fc nx B bl ck wh ins (zrL ((zPn (T x) w 1024).drop j.toNat) ++ R') ∧ zPq T w D = zPq T w (x + 1) ++ R'
theorem zPgR_0 {x : Nat} {j : Int} (h : zPgA fc nx B bl ck wh ins nu pc pl pa T w D x) (hj : j = 0) : zPgR fc nx B bl ck wh ins nu pl pa T w D x j := by
  subst hj
  obtain ⟨h1, h2, h3, h4, h5, h6, R', h7, h8⟩ := h
  exact ⟨h1, h2, h3, by omega, by omega, by omega, h6, R', h7, h8⟩
end ZPG
theorem zPn_w {t : Nat → Int} {w : Int} : ∀ k : Nat, (∀ j : Nat, j < (zPn t w k).length → t (((zPn t w k).take (j + 1)).sum - 1) = w ∧ ((zPn t w k).take j).sum < ((zPn t w k).take (j + 1)).sum ∧ ((zPn t w k).take (j + 1)).sum ≤ k ∧ ∀ q : Nat, ((zPn t w k).take j).sum ≤ q → q + 1 < ((zPn t w k).take (j + 1)).sum → t q ≠ w) ∧ (∀ q : Nat, (zPn t w k).sum ≤ q → q < k → t q ≠ w) ∧ (zPn t w k).sum ≤ k := by
  intro k
  induction k with
  | zero => exact ⟨fun j hj => absurd hj (Nat.not_lt_zero _), fun q _ h => by omega, Nat.le_refl _⟩
  | succ k ih =>
    obtain ⟨i1, i2, i3⟩ := ih
    have s := zPn_s (t := t) (w := w) (k := k)
    by_cases c : t k = w
    · have e : zPn t w (k + 1) = zPn t w k ++ [((k : Int) - zLp t w k).toNat] := if_pos c
      generalize zPn t w k = L at e i1 i2 i3 s
      have m : ((k : Int) - zLp t w k).toNat = k + 1 - L.sum := by omega
      rw [m] at e
      rw [e]
      refine ⟨fun j hj => ?_, fun q h1 h2 => ?_, ?_⟩
      · rw [List.length_append, List.length_singleton] at hj
        by_cases d : j < L.length
        · rw [List.take_append_of_le_length (by omega), List.take_append_of_le_length (by omega)]
          have q := i1 j d
          exact ⟨q.1, q.2.1, by omega, q.2.2.2⟩
        · have ej : j = L.length := by omega
          have e1 : (L ++ [k + 1 - L.sum]).take (j + 1) = L ++ [k + 1 - L.sum] := List.take_of_length_le (by rw [List.length_append, List.length_singleton]; omega)
          have e2 : (L ++ [k + 1 - L.sum]).take j = L := by rw [ej]; exact List.take_left
          have e3 : (L ++ [k + 1 - L.sum]).sum = k + 1 := by rw [List.sum_append, List.sum_singleton]; omega
          rw [e1, e2, e3]
          exact ⟨c, by omega, Nat.le_refl _, fun q h1 h2 => i2 q h1 (by omega)⟩
      · rw [List.sum_append, List.sum_singleton] at h1
        omega
      · rw [List.sum_append, List.sum_singleton]
        omega
    · have e : zPn t w (k + 1) = zPn t w k := if_neg c
      rw [e]
      refine ⟨fun j hj => ?_, fun q h1 h2 => ?_, by omega⟩
      · have q := i1 j hj
        exact ⟨q.1, q.2.1, by omega, q.2.2.2⟩
      · by_cases d : q = k
        · rw [d]; exact c
        · exact i2 q h1 (by omega)
section ZPGR
variable {ro cs nx fc lc bt : Nat → Int32} {ch ru ab tk bl ck wh ins nu pc pl pa bl4 ck4 wh4 ins4 pl4 pa4 j j' r : Int} {B : Nat → List Bool} {T : Nat → Nat → Int} {w : Int} {D x : Nat}
theorem zPgR_s (hP : zPB ro cs nx fc lc bt ch ru ab tk B) (h : zPgR fc nx B bl ck wh ins nu pl pa T w D x j) (hj : j < (zTm (T x) w 1024 : Int)) (hn : zNp ro cs nx fc lc bt ch ru ab tk bl ck wh ins bl4 ck4 wh4 ins4 pl pa pl4 pa4 r) (e : j' = j + 1) : zPgR fc nx B bl4 ck4 wh4 ins4 nu pl4 pa4 T w D x j' ∧ 0 ≤ r ∧ r < 1024 ∧ T x r.toNat = w ∧ pa < r ∧ pa4 = r ∧ ∀ q : Nat, pa < (q : Int) → (q : Int) < r → T x q ≠ w := by
  obtain ⟨h1, h2, h3, h4, h5, h6, h7, R', h8, h9⟩ := h
  have l := zPn_l (t := T x) (w := w) (k := 1024)
  have lt : j.toNat < (zPn (T x) w 1024).length := by omega
  obtain ⟨w1, w2, w3, w4⟩ := (zPn_w (t := T x) (w := w) 1024).1 j.toNat lt
  have o := zPn_r (t := T x) (w := w) (k := 1024) (Nat.le_refl _) _ (List.getElem_mem lt)
  have tk : ((zPn (T x) w 1024).take (j.toNat + 1)).sum = ((zPn (T x) w 1024).take j.toNat).sum + (zPn (T x) w 1024)[j.toNat] := by
    rw [List.take_add_one, List.getElem?_eq_getElem lt, List.sum_append]
    show _ + ([(zPn (T x) w 1024)[j.toNat]]).sum = _
    rw [List.sum_singleton]
  rw [zrL_d lt, List.append_assoc] at h8
  generalize (zPn (T x) w 1024)[j.toNat] = m at o tk h8
  obtain ⟨n1, n2, n3, n4⟩ := hn B m _ hP o.1 o.2 h8 (by omega) (by omega) (by omega)
  have er : r.toNat = ((zPn (T x) w 1024).take (j.toNat + 1)).sum - 1 := by omega
  refine ⟨⟨h1, h2, h3, by omega, by omega, by omega, ?_, R', ?_, h9⟩, by omega, by omega, by rw [er]; exact w1, by omega, by omega, fun q q1 q2 => w4 q (by omega) (by omega)⟩
  · rw [show j'.toNat = j.toNat + 1 from by omega, n2, tk]
    omega
  · rw [show j'.toNat = j.toNat + 1 from by omega]
    exact n4
theorem zPgR_e (h : zPgR fc nx B bl ck wh ins nu pl pa T w D x j) (hj : (zTm (T x) w 1024 : Int) ≤ j) : zPg fc nx B bl ck wh ins nu pc pl pa T w D (x + 1) 0 ∧ ∀ q : Nat, pa < (q : Int) → q < 1024 → T x q ≠ w := by
  obtain ⟨h1, h2, h3, h4, h5, h6, h7, R', h8, h9⟩ := h
  have l := zPn_l (t := T x) (w := w) (k := 1024)
  have e : j.toNat = (zPn (T x) w 1024).length := by omega
  rw [e, List.drop_length] at h8
  rw [e, List.take_length] at h7
  have w5 := (zPn_w (t := T x) (w := w) 1024).2.1
  refine ⟨Or.inl ⟨x + 1, ⟨[], R', fun m hm => absurd hm List.not_mem_nil, by rw [h6]; show (0 : Int) = _; omega, h8, h9, by rw [zLd_y h3]; exact h1, h2⟩, by omega, by omega⟩, fun q q1 q2 => w5 q (by omega) q2⟩
end ZPGR
def zWdr (s : Nat → Int64) (rk : Nat → Int32) (a : Nat) : Int := (s (rk a).toInt.toNat).toInt
def zPgv (fc nx : Nat → Int32) (B : Nat → List Bool) (v : Nat → Int32) (T : Nat → Nat → Int) (w : Int) (D d : Nat) : Prop := zPg fc nx B (v 1).toInt (v 2).toInt (v 3).toInt (v 4).toInt (v 5).toInt (v 6).toInt (v 7).toInt (v 8).toInt T w D d 0
def zPlr (hp : Nat) (rf : Nat → Option Nat) (pl : va_W) (op : Int) (s : Nat → Int64) (rk fc nx : Nat → Int32) (B : Nat → List Bool) (T : Nat → Nat → Int) (D : Nat) (F : Nat → Nat) : Prop := ∀ a : Nat, (a : Int) < op → ∃ (ad : Nat) (v : Nat → Int32), rf a = some ad ∧ ((ad, zRc hp v) : Nat × va_E) ∈ pl ∧ zPgv fc nx B v T (zWdr s rk a) D (F a)
def zIj (rf : Nat → Option Nat) : Prop := ∀ i j a : Nat, i < 400 → j < 400 → rf i = some a → rf j = some a → i = j
theorem zRc_i {hp hp' : Nat} {v v' : Nat → Int32} (h : zRc hp v = zRc hp' v') : ∀ k : Nat, 1 ≤ k → k ≤ 8 → v k = v' k := by
  have h1 : (8, mX8 hp v) = ((8, mX8 hp' v') : Nat × List Value) := Sum.inr.inj h
  have h2 := (Prod.mk.inj h1).2
  have g : ∀ k : Nat, (mX8 hp v)[k]? = (mX8 hp' v')[k]? := fun k => by rw [h2]
  have e : ∀ {x y : Int32}, (some (Value.int x) : Option Value) = some (Value.int y) → x = y := fun q => Value.int.inj (Option.some.inj q)
  intro k k1 k8
  have : k = 1 ∨ k = 2 ∨ k = 3 ∨ k = 4 ∨ k = 5 ∨ k = 6 ∨ k = 7 ∨ k = 8 := by omega
  rcases this with c | c | c | c | c | c | c | c <;> subst c
  · exact e (g 1)
  · exact e (g 2)
  · exact e (g 3)
  · exact e (g 4)
  · exact e (g 5)
  · exact e (g 6)
  · exact e (g 7)
  · exact e (g 8)
theorem zPgv_c {fc nx : Nat → Int32} {B : Nat → List Bool} {v v' : Nat → Int32} {T : Nat → Nat → Int} {w : Int} {D d : Nat} (h : zPgv fc nx B v T w D d) (e : ∀ k : Nat, 1 ≤ k → k ≤ 8 → v k = v' k) : zPgv fc nx B v' T w D d := by
  unfold zPgv at h ⊢
  rw [← e 1 (by decide) (by decide), ← e 2 (by decide) (by decide), ← e 3 (by decide) (by decide), ← e 4 (by decide) (by decide), ← e 5 (by decide) (by decide), ← e 6 (by decide) (by decide), ← e 7 (by decide) (by decide), ← e 8 (by decide) (by decide)]
  exact h
theorem zD_u {A : Nat → Prop} {X pl : va_W} {a : Nat} {e e' : va_E} (hD : va_D A (X ++ pl)) (h : ((a, e) : Nat × va_E) ∈ pl) (h' : ((a, e') : Nat × va_E) ∈ pl) : e = e' := by
  obtain ⟨i, hi⟩ := List.getElem?_of_mem (List.mem_append_right X h)
  obtain ⟨j, hj⟩ := List.getElem?_of_mem (List.mem_append_right X h')
  have q := hD.1 i j _ _ hi hj rfl
  subst q
  exact (Prod.mk.inj (Option.some.inj (hi.symm.trans hj))).2
section ZPL
variable {A : Nat → Prop} {X pl p q : va_W} {hp : Nat} {rf : Nat → Option Nat} {op : Int} {s : Nat → Int64} {rk fc nx : Nat → Int32} {B : Nat → List Bool} {T : Nat → Nat → Int} {D i ad : Nat} {F F' : Nat → Nat} {v v' : Nat → Int32}
theorem zPlr_g (h : zPlr hp rf pl op s rk fc nx B T D F) (hi : (i : Int) < op) (hr : rf i = some ad) (hD : va_D A (X ++ pl)) (hm : ((ad, zRc hp v) : Nat × va_E) ∈ pl) : zPgv fc nx B v T (zWdr s rk i) D (F i) := by
  obtain ⟨b, u, h1, h2, h3⟩ := h i hi
  have e : b = ad := Option.some.inj (h1.symm.trans hr)
  subst e
  exact zPgv_c h3 (zRc_i (zD_u hD h2 hm))
theorem zPlr_p (h : zPlr hp rf pl op s rk fc nx B T D F) (hj : zIj rf) (hi : i < 400) (ho : op ≤ 400) (hr : rf i = some ad) (e : pl = p ++ (ad, zRc hp v) :: q) (hv : zPgv fc nx B v' T (zWdr s rk i) D (F' i)) (hF : ∀ a : Nat, a ≠ i → (a : Int) < op → F' a = F a) : zPlr hp rf ((ad, zRc hp v') :: (p ++ q)) op s rk fc nx B T D F' := fun a ha => by
  by_cases c : a = i
  · subst c
    exact ⟨ad, v', hr, List.mem_cons_self, hv⟩
  · obtain ⟨b, u, h1, h2, h3⟩ := h a ha
    have ne : b ≠ ad := fun d => c (hj a i ad (by omega) hi (by rw [← d]; exact h1) hr)
    subst e
    refine ⟨b, u, h1, List.mem_cons_of_mem _ (zmemx h2 (fun h4 => ne (congrArg Prod.fst h4))), ?_⟩
    rw [hF a c ha]
    exact h3
theorem zPlr_F (h : zPlr hp rf pl op s rk fc nx B T D F) (hF : ∀ a : Nat, (a : Int) < op → F' a = F a) : zPlr hp rf pl op s rk fc nx B T D F' := fun a ha => by
  obtain ⟨b, u, h1, h2, h3⟩ := h a ha
  exact ⟨b, u, h1, h2, by rw [hF a ha]; exact h3⟩
end ZPL
def zSdp (std sn rk : Nat → Int32) (cnt : Int) (M : Nat → Nat → Prop) : Prop := 0 ≤ cnt ∧ (∀ p : Nat, p < 832 → ((std p).toInt = -1 ∧ ∀ a : Nat, ¬ M p a) ∨ ∃ a : Nat, M p a ∧ std p = rk a ∧ 0 ≤ (rk a).toInt) ∧ (∀ c : Nat, (c : Int) < cnt → 0 ≤ (sn c).toInt ∧ (sn c).toInt < 832 ∧ 0 ≤ (std (sn c).toInt.toNat).toInt) ∧ ∀ p : Nat, p < 832 → (std p).toInt ≠ -1 → ∃ c : Nat, (c : Int) < cnt ∧ (sn c).toInt = (p : Int)
section ZSD
variable {std std' sn sn' rk : Nat → Int32} {cnt cnt' : Int} {M M' : Nat → Nat → Prop}
theorem zSdp_c (h : zSdp std sn rk cnt M) (hM : ∀ p a : Nat, p < 832 → (M' p a ↔ M p a)) : zSdp std sn rk cnt M' := by
  obtain ⟨h1, h2, h3, h4⟩ := h
  refine ⟨h1, fun p hp => ?_, h3, h4⟩
  rcases h2 p hp with ⟨a, b⟩ | ⟨a, b, c⟩
  · exact Or.inl ⟨a, fun x hx => b x ((hM p x hp).mp hx)⟩
  · exact Or.inr ⟨a, (hM p a hp).mpr b, c⟩
theorem zSdp_s {P Wr C : Int32} {a : Nat} (h : zSdp std sn rk cnt M) (p0 : 0 ≤ P.toInt) (p1 : P.toInt < 832) (hC : C.toInt = cnt) (e1 : std' = upd std P.toNatClampNeg Wr) (e2 : sn' = upd sn C.toNatClampNeg P) (e3 : cnt' = cnt + 1) (hw : Wr = rk a) (h0 : 0 ≤ (rk a).toInt) (hM : ∀ p b : Nat, p < 832 → (M' p b ↔ (if p = P.toInt.toNat then b = a else M p b))) : zSdp std' sn' rk cnt' M' := by
  obtain ⟨h1, h2, h3, h4⟩ := h
  have cP : P.toNatClampNeg = P.toInt.toNat := rfl
  have cC : C.toNatClampNeg = cnt.toNat := by have : C.toNatClampNeg = C.toInt.toNat := rfl; omega
  rw [cP] at e1
  rw [cC] at e2
  refine ⟨by omega, fun p hp => ?_, fun c hc => ?_, fun p hp hs => ?_⟩
  · by_cases d : p = P.toInt.toNat
    · refine Or.inr ⟨a, (hM p a hp).mpr (by rw [if_pos d]), ?_, h0⟩
      rw [e1, d, pk_us, hw]
    · rcases h2 p hp with ⟨x, y⟩ | ⟨b, y, z⟩
      · refine Or.inl ⟨by rw [e1, pk_un d]; exact x, fun b hb => ?_⟩
        have q := (hM p b hp).mp hb
        rw [if_neg d] at q
        exact y b q
      · exact Or.inr ⟨b, (hM p b hp).mpr (by rw [if_neg d]; exact y), by rw [e1, pk_un d]; exact z.1, z.2⟩
  · by_cases d : c = cnt.toNat
    · rw [e2, d, pk_us]
      refine ⟨p0, p1, ?_⟩
      rw [e1, pk_us, hw]
      exact h0
    · rw [e2, pk_un d]
      obtain ⟨q1, q2, q3⟩ := h3 c (by omega)
      refine ⟨q1, q2, ?_⟩
      by_cases g : (sn c).toInt.toNat = P.toInt.toNat
      · rw [e1, g, pk_us, hw]; exact h0
      · rw [e1, pk_un g]; exact q3
  · by_cases d : p = P.toInt.toNat
    · exact ⟨cnt.toNat, by omega, by rw [e2, pk_us]; omega⟩
    · rw [e1, pk_un d] at hs
      obtain ⟨c, c1, c2⟩ := h4 p hp hs
      exact ⟨c, by omega, by rw [e2, pk_un (by omega)]; exact c2⟩
def zSz (std0 std sn : Nat → Int32) (i : Int) : Prop := ∀ p : Nat, p < 832 → std p = std0 p ∧ (∀ c : Nat, (c : Int) < i → (sn c).toInt ≠ (p : Int)) ∨ ((std p).toInt = -1 ∧ ∃ c : Nat, (c : Int) < i ∧ (sn c).toInt = (p : Int))
theorem zSz_0 {i : Int} (hi : i ≤ 0) : zSz std std sn i := fun p hp => Or.inl ⟨rfl, fun c hc => by omega⟩
theorem zSz_s {std0 : Nat → Int32} {I S : Int32} {i' : Int} (h : zSz std0 std sn I.toInt) (h0 : 0 ≤ I.toInt) (eS : S = sn I.toNatClampNeg) (e : std' = upd std S.toNatClampNeg (-1)) (s0 : 0 ≤ S.toInt) (hi : i' = I.toInt + 1) : zSz std0 std' sn i' := fun p hp => by
  have cI : I.toNatClampNeg = I.toInt.toNat := rfl
  have cS : S.toNatClampNeg = S.toInt.toNat := rfl
  by_cases d : p = S.toNatClampNeg
  · exact Or.inr ⟨by rw [e, d, pk_us]; decide, I.toInt.toNat, by omega, by rw [← cI, ← eS]; omega⟩
  · rw [e, pk_un d]
    rcases h p hp with ⟨a, b⟩ | ⟨a, c, c1, c2⟩
    · refine Or.inl ⟨a, fun c hc => ?_⟩
      by_cases g : c = I.toInt.toNat
      · rw [g, ← cI, ← eS]; omega
      · exact b c (by omega)
    · exact Or.inr ⟨a, c, by omega, c2⟩
theorem zSz_e {i : Int} {std0 : Nat → Int32} (h : zSz std0 std sn i) (h0 : zSdp std0 sn rk cnt M) (hi : cnt ≤ i) (hc : cnt' = 0) : zSdp std sn' rk cnt' (fun _ _ => False) := by
  obtain ⟨h1, h2, h3, h4⟩ := h0
  subst hc
  have z : ∀ p : Nat, p < 832 → (std p).toInt = -1 := fun p hp => by
    rcases h p hp with ⟨a, b⟩ | ⟨a, -⟩
    · by_cases c : (std0 p).toInt = -1
      · rw [a]; exact c
      · obtain ⟨c, c1, c2⟩ := h4 p hp c
        exact absurd c2 (b c (by omega))
    · exact a
  exact ⟨Int.le_refl _, fun p hp => Or.inl ⟨z p hp, fun _ q => q⟩, fun c hc => by omega, fun p hp hs => absurd (z p hp) hs⟩
end ZSD
def zcnt (t : Nat → Int) : Nat → Nat
  | 0 => 0
  | k + 1 => zcnt t k + (if t k ≠ 0 then 1 else 0)
def zT8 (t : Nat → Int) : Prop := (∀ p : Nat, t p ≠ 0 → p < 832) ∧ zcnt t 1024 ≤ 300
theorem zsu_1i {W : Nat → Int} {y : Int} : ∀ {m : Nat}, (∀ a b : Nat, a < m → b < m → W a = W b → a = b) → (∀ a : Nat, a < m → W a ≠ 0) → zsu (fun a => if y = W a then 1 else 0) m ≤ if y ≠ 0 then 1 else 0 := by
  intro m
  induction m with
  | zero => intro _ _; exact Nat.zero_le _
  | succ m ih =>
    intro h h0
    show zsu (fun a => if y = W a then 1 else 0) m + (if y = W m then 1 else 0) ≤ _
    by_cases c : y = W m
    · have z : zsu (fun a => if y = W a then 1 else 0) m = 0 := by
        have q := zsu_0 (F := fun a => if y = W a then 1 else 0) (m := 0) (n := m) (Nat.zero_le _) (fun a _ ha => by
          show (if y = W a then 1 else 0) = 0
          rw [if_neg (fun d => by have e := h a m (by omega) (by omega) (d.symm.trans c); omega)])
        exact q
      rw [z, if_pos c, if_pos (by rw [c]; exact h0 m (by omega))]
      exact Nat.le_refl _
    · rw [if_neg c, Nat.add_zero]
      exact ih (fun a b ha hb => h a b (by omega) (by omega)) (fun a ha => h0 a (by omega))
theorem zsu_a {F G : Nat → Nat} : ∀ m : Nat, zsu (fun a => F a + G a) m = zsu F m + zsu G m := by
  intro m
  induction m with
  | zero => rfl
  | succ m ih =>
    show zsu (fun a => F a + G a) m + (F m + G m) = zsu F m + F m + (zsu G m + G m)
    omega
theorem zcnt_s {t : Nat → Int} {W : Nat → Int} {m : Nat} (h : ∀ a b : Nat, a < m → b < m → W a = W b → a = b) (h0 : ∀ a : Nat, a < m → W a ≠ 0) : ∀ k : Nat, zsu (fun a => zTm t (W a) k) m ≤ zcnt t k := by sorry
def zTpre (s : Nat → Int64) (i fr : Nat → Int32) (n : Int) (ro cs nx fc lc bt : Nat → Int32) (ch ru ab tk : Int) (h l : Nat → Int32) (rf : Nat → Option Nat) (rk : Nat → Int32) (op x D : Int) (T : Nat → Nat → Int) (V : List Int) : Prop := zKl s i fr n ro cs nx fc lc bt ch ru ab tk h l D T V ∧ zIj rf ∧ 0 ≤ op ∧ op ≤ 400 ∧ (∀ a : Nat, (a : Int) < op → 0 ≤ (rk a).toInt ∧ (rk a).toInt < n) ∧ (∀ a b : Nat, (a : Int) < op → (b : Int) < op → (rk a).toInt = (rk b).toInt → a = b) ∧ 0 ≤ x ∧ x < D ∧ zT8 (T x.toNat)
def zTu (hp : Nat) (rf : Nat → Option Nat) (pl0 pl : va_W) (s : Nat → Int64) (i fr : Nat → Int32) (n : Int) (ro cs nx fc lc bt : Nat → Int32) (ch ru ab tk : Int) (h l : Nat → Int32) (rk : Nat → Int32) (op : Int) (std0 sn0 : Nat → Int32) (cnt0 : Int) (std sn : Nat → Int32) (cnt x k : Int) : Prop := ∀ (T : Nat → Nat → Int) (V : List Int) (D : Int) (rk0 : Nat → Int32) (M0 : Nat → Nat → Prop), zTpre s i fr n ro cs nx fc lc bt ch ru ab tk h l rf rk op x D T V → zSdp std0 sn0 rk0 cnt0 M0 → zPlr hp rf pl0 op s rk fc nx (zBv T V D.toNat) T D.toNat (fun _ => x.toNat) → zPlr hp rf pl op s rk fc nx (zBv T V D.toNat) T D.toNat (fun a => if (a : Int) < k then x.toNat + 1 else x.toNat) ∧ zSdp std sn rk cnt (fun p a => (a : Int) < k ∧ T x.toNat p = zWdr s rk a) ∧ cnt = ((zsu (fun a => zTm (T x.toNat) (zWdr s rk a) 1024) k.toNat : Nat) : Int)
def zTwn (hp : Nat) (rf : Nat → Option Nat) (pl0 pr : va_W) (s : Nat → Int64) (i fr : Nat → Int32) (n : Int) (ro cs nx fc lc bt : Nat → Int32) (ch ru ab tk : Int) (h l : Nat → Int32) (rk : Nat → Int32) (op : Int) (std0 sn0 : Nat → Int32) (cnt0 : Int) (std sn : Nat → Int32) (cnt x k bl ck wh ins nu pc pl pa j : Int) : Prop := ∀ (T : Nat → Nat → Int) (V : List Int) (D : Int) (rk0 : Nat → Int32) (M0 : Nat → Nat → Prop), zTpre s i fr n ro cs nx fc lc bt ch ru ab tk h l rf rk op x D T V → zSdp std0 sn0 rk0 cnt0 M0 → zPlr hp rf pl0 op s rk fc nx (zBv T V D.toNat) T D.toNat (fun _ => x.toNat) → (∀ a : Nat, (a : Int) < op → (a : Int) ≠ k → ∃ (ad : Nat) (v : Nat → Int32), rf a = some ad ∧ ((ad, zRc hp v) : Nat × va_E) ∈ pr ∧ zPgv fc nx (zBv T V D.toNat) v T (zWdr s rk a) D.toNat (if (a : Int) < k then x.toNat + 1 else x.toNat)) ∧ zPgR fc nx (zBv T V D.toNat) bl ck wh ins nu pl pa T (zWdr s rk k.toNat) D.toNat x.toNat j ∧ zSdp std sn rk cnt (fun p a => ((a : Int) < k ∧ T x.toNat p = zWdr s rk a) ∨ ((a : Int) = k ∧ T x.toNat p = zWdr s rk a ∧ (p : Int) ≤ pa)) ∧ cnt = ((zsu (fun a => zTm (T x.toNat) (zWdr s rk a) 1024) k.toNat : Nat) : Int) + j ∧ pc = (zTm (T x.toNat) (zWdr s rk k.toNat) 1024 : Int)
section ZTU
variable {A : Nat → Prop} {X pl0 pl pr p q : va_W} {hp ad : Nat} {rf : Nat → Option Nat} {s : Nat → Int64} {i fr ro cs nx fc lc bt h l rk std0 sn0 std sn std' sn' : Nat → Int32} {n ch ru ab tk op cnt0 cnt cnt' x k k' bl ck wh ins nu pc pll pa bl4 ck4 wh4 ins4 nu4 pc4 pl4 pa4 j j' r D : Int} {T : Nat → Nat → Int} {V : List Int} {v v' : Nat → Int32}
theorem zTpre_w (hq : zTpre s i fr n ro cs nx fc lc bt ch ru ab tk h l rf rk op x D T V) : (∀ a : Nat, (a : Int) < op → zWdr s rk a ≠ 0 ∧ zWdr s rk a ∈ V) ∧ ∀ a b : Nat, (a : Int) < op → (b : Int) < op → zWdr s rk a = zWdr s rk b → a = b := by
  obtain ⟨q1, q2, q3, q4, q5, q6, q7, q8, q9⟩ := hq
  have mem : ∀ a : Nat, (a : Int) < op → zWdr s rk a ∈ V := fun a ha => (zVo_m q1.1).mpr ⟨(rk a).toInt.toNat, by have := q5 a ha; omega, rfl⟩
  refine ⟨fun a ha => ⟨q1.2.1 _ (mem a ha), mem a ha⟩, fun a b ha hb e => q6 a b ha hb ?_⟩
  have ra := q5 a ha
  have rb := q5 b hb
  have srt := q1.1.1
  unfold zWdr at e
  rcases Int.lt_trichotomy (rk a).toInt (rk b).toInt with c | c | c
  · have := srt (rk a).toInt.toNat (rk b).toInt.toNat (by omega) (by omega); omega
  · exact c
  · have := srt (rk b).toInt.toNat (rk a).toInt.toNat (by omega) (by omega); omega
theorem zTu_0 {z : Int} (hz : zSz std0 std sn0 z) (h1 : cnt0 ≤ z) (hc : cnt = 0) (hk : k = 0) : zTu hp rf pl0 pl0 s i fr n ro cs nx fc lc bt ch ru ab tk h l rk op std0 sn0 cnt0 std sn cnt x k := by sorry
theorem zTu_n {K : Int32} (hu : zTu hp rf pl0 pl s i fr n ro cs nx fc lc bt ch ru ab tk h l rk op std0 sn0 cnt0 std sn cnt x K.toInt) (k0 : 0 ≤ K.toInt) (k1 : K.toInt < op) (k4 : K.toInt < 400) (hr : rf K.toNatClampNeg = some ad) (hD : va_D A (X ++ pl)) (e : pl = p ++ (ad, zRc hp v) :: q) (hc : zRch ro cs nx fc lc bt ch ru ab tk (v 1).toInt (v 2).toInt (v 3).toInt (v 4).toInt (v 5).toInt (v 6).toInt (v 7).toInt (v 8).toInt (v' 1).toInt (v' 2).toInt (v' 3).toInt (v' 4).toInt (v' 5).toInt (v' 6).toInt (v' 7).toInt (v' 8).toInt x r) (h0 : r = 0) (hk : k' = K.toInt + 1) : zTu hp rf pl0 ((ad, zRc hp v') :: (p ++ q)) s i fr n ro cs nx fc lc bt ch ru ab tk h l rk op std0 sn0 cnt0 std sn cnt x k' := by sorry
theorem zTwn_0 {K : Int32} (hu : zTu hp rf pl0 pl s i fr n ro cs nx fc lc bt ch ru ab tk h l rk op std0 sn0 cnt0 std sn cnt x K.toInt) (k0 : 0 ≤ K.toInt) (k1 : K.toInt < op) (hr : rf K.toNatClampNeg = some ad) (hD : va_D A (X ++ pl)) (e : pl = p ++ (ad, zRc hp v) :: q) (hc : zRch ro cs nx fc lc bt ch ru ab tk (v 1).toInt (v 2).toInt (v 3).toInt (v 4).toInt (v 5).toInt (v 6).toInt (v 7).toInt (v 8).toInt bl ck wh ins nu pc pll pa x r) (h1 : r ≠ 0) (hj : j = 0) : zTwn hp rf pl0 (p ++ q) s i fr n ro cs nx fc lc bt ch ru ab tk h l rk op std0 sn0 cnt0 std sn cnt x K.toInt bl ck wh ins nu pc pll pa j := by sorry
def zSee (std sn : Nat → Int32) (C P Wr : Int32) (std' sn' : Nat → Int32) (cnt' : Int) : Prop := 0 ≤ P.toInt → P.toInt < 832 → C.toInt < 300 → std' = upd std P.toNatClampNeg Wr ∧ sn' = upd sn C.toNatClampNeg P ∧ cnt' = C.toInt + 1
theorem zTwn_s {P C K : Int32} (hw : zTwn hp rf pl0 pr s i fr n ro cs nx fc lc bt ch ru ab tk h l rk op std0 sn0 cnt0 std sn C.toInt x K.toInt bl ck wh ins nu pc pll pa j) (k0 : 0 ≤ K.toInt) (k1 : K.toInt < op) (jl : j < pc) (hn : zNp ro cs nx fc lc bt ch ru ab tk bl ck wh ins bl4 ck4 wh4 ins4 pll pa pl4 pa4 P.toInt) (hs : zSee std sn C P (rk K.toNatClampNeg) std' sn' cnt') (hj : j' = j + 1) : zTwn hp rf pl0 pr s i fr n ro cs nx fc lc bt ch ru ab tk h l rk op std0 sn0 cnt0 std' sn' cnt' x K.toInt bl4 ck4 wh4 ins4 nu pc pl4 pa4 j' := by sorry
theorem zTwn_e {K : Int32} (hw : zTwn hp rf pl0 pr s i fr n ro cs nx fc lc bt ch ru ab tk h l rk op std0 sn0 cnt0 std sn cnt x K.toInt bl ck wh ins nu pc pll pa j) (k0 : 0 ≤ K.toInt) (k1 : K.toInt < op) (hr : rf K.toNatClampNeg = some ad) (jl : pc ≤ j) (e1 : (v' 1).toInt = bl) (e2 : (v' 2).toInt = ck) (e3 : (v' 3).toInt = wh) (e4 : (v' 4).toInt = ins) (e5 : (v' 5).toInt = nu) (e7 : (v' 7).toInt = pll) (e8 : (v' 8).toInt = pa) (hk : k' = K.toInt + 1) : zTu hp rf pl0 ((ad, zRc hp v') :: pr) s i fr n ro cs nx fc lc bt ch ru ab tk h l rk op std0 sn0 cnt0 std sn cnt x k' := by sorry
end ZTU
def zTie (s : Nat → Int64) (i fr : Nat → Int32) (nw : Int) (ro cs nxc fc lc bt : Nat → Int32) (ch ru ab tk : Int) (h l : Nat → Int32) (D : Int) (on ln mk wc : Nat → Int32) (os : Int) (g sz : Nat → Int32) (W : Int) (ta ke : Nat → Int32) (D2 : Int) (on2 ln2 mk2 un2 ti bo : Nat → Int32) : Prop := zDo on ln mk wc D os on2 ln2 mk2 un2 D2 ∧ ∃ (T : Nat → Nat → Int) (V V2 : List Int), zKl s i fr nw ro cs nxc fc lc bt ch ru ab tk h l D T V ∧ zMd g sz W ta ke D2 T V2 ∧ V.Perm V2 ∧ zMb ti bo D2 T
section ZTIE
variable {s s3 : Nat → Int64} {ti bo ti3 bo3 : Nat → Int32} {i fr ro cs nxc fc lc bt h l on ln mk wc g sz ta ke on2 ln2 mk2 un2 i3 fr3 ro3 cs3 nx3 fc3 lc3 bt3 h3 l3 on3 ln3 mk3 wc3 g3 sz3 ta3 ke3 on4 ln4 mk4 un4 : Nat → Int32} {nw ch ru ab tk D os W D2 nw3 ch3 ru3 ab3 tk3 D3 os3 W3 D4 : Int}
theorem zTie_e {f f2 : Nat → Int32} {n n2 : Int} {s2 : Nat → Int64} {i2 fr2 sg ssz : Nat → Int32} {ns ks r r2 : Int} (ht : zTie s i fr nw ro cs nxc fc lc bt ch ru ab tk h l D on ln mk wc os g sz W ta ke D2 on2 ln2 mk2 un2 ti bo) (te : zTe f f2 n) (en : n2 = n) (hn : n ≤ 600) (hn0 : 0 ≤ n) (tii : zTi s2 i2 fr2 ns sg ssz ks) (hc : zEk f n s i fr nw s2 ns ro cs nxc fc lc bt ch ru ab tk h l D s3 i3 fr3 nw3 ro3 cs3 nx3 fc3 lc3 bt3 ch3 ru3 ab3 tk3 h3 l3 D3 on ln mk wc on3 ln3 mk3 wc3 os os3 r) (hm : zEm f2 n2 g sz W ta ke D2 sg ssz ks g3 sz3 W3 ta3 ke3 D4 on2 ln2 mk2 un2 on4 ln4 mk4 un4 r2) (hen : zEn f2 n2 g sz W ta ke D2 sg ssz ks ti bo ti3 bo3) : r = r2 ∧ zTie s3 i3 fr3 nw3 ro3 cs3 nx3 fc3 lc3 bt3 ch3 ru3 ab3 tk3 h3 l3 D3 on3 ln3 mk3 wc3 os3 g3 sz3 W3 ta3 ke3 D4 on4 ln4 mk4 un4 ti3 bo3 := by
  subst en
  have ef : f = f2 := funext te.1
  subst ef
  obtain ⟨hd, T, V, V2, k1, k2, k3, k4⟩ := ht
  have eD := hd.1
  subst eD
  obtain ⟨t1, t2, t3, t4⟩ := tii
  have a := hc (zsS s2 ns) T V ⟨te.2, hn, t2.1, fun x => zsS_i, k1⟩
  have b := hm (zsS s2 ns) T V2 te.2 hn hn0 t3 (fun x => by rw [zsS_i]; exact t4 x) k2
  have en9 := hen (zsS s2 ns) T V2 te.2 hn hn0 t3 (fun x => by rw [zsS_i]; exact t4 x) k2
  have p := zRq_p (f := f) (n := n2) (S := zsS s2 ns) k3 n2.toNat
  have lv : (zRq f n2 (zsS s2 ns) V n2.toNat).2.2.1.length ≤ 400 ∨ True := Or.inr trivial
  have acc : zac f n2 (zsS s2 ns) T V D ↔ zac f n2 (zsS s2 ns) T V2 D := by
    unfold zac
    rw [p.1, p.2.2.2.2]
    have l4 := zRq_l (f := f) (n := n2) (S := zsS s2 ns) (V := V) (by have := k1.1.2.1; have := k1.1.2.2.1; omega) n2.toNat
    rw [zcs_p p.2.2.1 l4]
  rcases a with ⟨a0, a1, a2, a3, a4, a5, a6, a7, a8⟩ | ⟨a0, a1, a2, a3, a4, a5, a6, a7, a8⟩ <;> rcases b with ⟨b0, b1, b2, b3, b4, b5, b6, b7⟩ | ⟨b0, b1, b2, b3, b4, b5, b6, b7⟩
  · refine ⟨by omega, ?_⟩
    subst a2; subst b2
    rw [← p.2.2.2.1] at b5
    rw [← p.1, ← zdc_p p.2.2.1] at b7
    rw [← p.1] at b3
    refine ⟨zDo_a hd a0.1 a4 a5 a6 a7 a8 b4 b5 b6 b7, _, _, _, a3, b3, p.2.2.1, fun d hd' => ?_⟩
    by_cases c : d = D.toNat
    · have q := en9.2 b0
      rw [c, zuf_s, p.1]
      exact q
    · have q := en9.1 d (by omega)
      rw [zuf_n c, q.1, q.2]
      exact k4 d (by omega)
  · exact absurd (acc.mp a0) b0
  · exact absurd (acc.mpr b0) a0
  · refine ⟨by omega, ?_⟩
    subst a2; subst b2; subst a4; subst a5; subst a6; subst a7; subst a8; subst b4; subst b5; subst b6; subst b7
    exact ⟨hd, T, V, V2, a3, b3, k3, fun d hd' => by have q := en9.1 d hd'; rw [q.1, q.2]; exact k4 d hd'⟩
theorem zTie_t {r r2 : Int} (ht : zTie s i fr nw ro cs nxc fc lc bt ch ru ab tk h l D on ln mk wc os g sz W ta ke D2 on2 ln2 mk2 un2 ti bo) (hc : zYf s i fr nw ro cs nxc fc lc bt ch ru ab tk h l on D s3 i3 fr3 nw3 ro3 cs3 nx3 fc3 lc3 bt3 ch3 ru3 ab3 tk3 h3 l3 r) (hm : zYn g sz W ta ke on2 D2 g3 sz3 W3 ta3 ke3 r2) : r = r2 ∧ zTie s3 i3 fr3 nw3 ro3 cs3 nx3 fc3 lc3 bt3 ch3 ru3 ab3 tk3 h3 l3 D on ln mk wc os g3 sz3 W3 ta3 ke3 D2 on2 ln2 mk2 un2 ti bo := by
  obtain ⟨hd, T, V, V2, k1, k2, k3, k4⟩ := ht
  have eD := hd.1
  subst eD
  have l4 : V.length ≤ 400 := by have := k1.1.2.1; have := k1.1.2.2.1; omega
  have c0 := k1.2.2.2.1
  obtain ⟨a1, a2⟩ := hc T V k1
  obtain ⟨V1, b1, b2, b3⟩ := hm T V2 k2 (Nat.le_trans (Nat.le_of_eq (zcs_p k3 l4).symm) c0)
  have eT : ∀ d : Nat, (d : Int) < D → zTo on2 T d = zTo on T d := fun d hd' => by
    have q := (hd.2.1 d hd').1
    unfold zTo
    rw [q]
  have a1' := zKl_c (T' := zTo on2 T) a1 eT
  have ek : ∀ w, zkp on2 T D w = zkp on T D w := fun w => by
    unfold zkp
    rw [(zPq_c (T := zTo on T) (T' := zTo on2 T) (w := w) (D := D.toNat) (fun d hd' => eT d (by omega))).2.2]
  have pm : (V.filter (zkp on T D)).Perm V1 := by
    rw [List.perm_ext_iff_of_nodup ((zVo_nd k1.1).filter _) (zMv_nd b1.1)]
    intro x
    rw [b2 x, List.mem_filter, List.mem_filter, k3.mem_iff, ek x]
  have lf : (V.filter (zkp on T D)).length ≤ 400 := Nat.le_trans (List.length_filter_le _ _) l4
  have q1 := zcs_p (T := zTo on2 T) (D := D.toNat) pm lf
  have c1 : zcs (zBv (zTo on2 T) (V.filter (zkp on T D)) D.toNat) ≤ 40000 := a1'.2.2.2.1
  have c2 : zcs (zBv (zTo on2 T) V1 D.toNat) ≤ 40000 := Nat.le_trans (Nat.le_of_eq q1.symm) c1
  have q2 := b3 c2
  have eB := zBv_c (T := zTo on T) (T' := zTo on2 T) (V := V.filter (zkp on T D)) (D := D.toNat) (fun d hd' => eT d (by omega))
  have q3 := zcs_p (T := T) (D := D.toNat) k3 l4
  have q4 := congrArg zcs eB
  exact ⟨by omega, hd, _, _, _, a1', b1, pm, fun d hd' => by
    obtain ⟨z1, z2, z3, z4, z5⟩ := k4 d hd'
    refine ⟨z1, z2, z3, z4, fun q hq => z5 q (fun e => hq ?_)⟩
    unfold zTo
    split
    · exact e
    · rfl⟩
theorem zTie_o {P P2 : Int32} {r r2 : Int} (ht : zTie s i fr nw ro cs nxc fc lc bt ch ru ab tk h l D on ln mk wc os g sz W ta ke D2 on2 ln2 mk2 un2 ti bo) (hc : zRv on D P r on on3 0) (hm : zRv on2 D2 P2 r2 on2 on4 0) (eP : P2 = P) (o1 : zW (r = 1 → 0 ≤ os → os3 = os - 1)) (o0 : zW (r = 0 → os3 = os)) : r = r2 ∧ zTie s i fr nw ro cs nxc fc lc bt ch ru ab tk h l D on3 ln mk wc os3 g sz W ta ke D2 on4 ln2 mk2 un2 ti bo := by
  subst eP
  obtain ⟨hd, ex⟩ := ht
  obtain ⟨a1, a2, a3, a4, a5, a6⟩ := hd
  obtain ⟨c1, c2⟩ := hc
  obtain ⟨m1, m2⟩ := hm
  subst a1
  have hi : r = 1 ↔ r2 = 1 := by
    rw [c1.2, m1.2]
    constructor
    · rintro ⟨q1, q2, q3⟩
      exact ⟨q1, q2, by rw [← (a2 _ (by have := zclamp q1; omega)).1]; exact q3⟩
    · rintro ⟨q1, q2, q3⟩
      exact ⟨q1, q2, by rw [(a2 _ (by have := zclamp q1; omega)).1]; exact q3⟩
  have er : r = r2 := by have := c1.1; have := m1.1; omega
  refine ⟨er, ?_, ex⟩
  rcases c2 with ⟨r1, u⟩ | ⟨r0, u⟩
  · rcases m2 with ⟨-, v⟩ | ⟨z, -⟩
    · have in_ := c1.2.mp r1
      have cl := zclamp in_.1
      refine ⟨rfl, fun d hd => ?_, a3, ?_, a5, a6⟩
      · obtain ⟨b1, b2⟩ := a2 d hd
        rw [u d, v d]
        by_cases c : d = P2.toNatClampNeg
        · rw [if_pos c, if_pos c]; exact ⟨rfl, b2⟩
        · rw [if_neg c, if_neg c]; exact ⟨b1, b2⟩
      · have q := zsu_u (F := fun d => if (on3 d).toInt ≠ 0 then 1 else 0) (G := fun d => if (on d).toInt ≠ 0 then 1 else 0) (k := P2.toNatClampNeg) (n := D.toNat) (by omega) (fun d _ c => by rw [u d, if_neg c])
        have e1 : (if (on3 P2.toNatClampNeg).toInt ≠ 0 then 1 else 0) = 0 := by rw [u P2.toNatClampNeg, if_pos rfl]; rfl
        have e2 : (if (on P2.toNatClampNeg).toInt ≠ 0 then 1 else 0) = 1 := if_pos in_.2.2
        rw [e1, e2] at q
        rw [o1 r1 (by omega), a4]
        omega
    · omega
  · rcases m2 with ⟨z, -⟩ | ⟨-, v⟩
    · omega
    · rw [u, v, o0 r0]
      exact ⟨rfl, a2, a3, a4, a5, a6⟩
theorem zTie_m {P P2 : Int32} {r r2 v : Int} (ht : zTie s i fr nw ro cs nxc fc lc bt ch ru ab tk h l D on ln mk wc os g sz W ta ke D2 on2 ln2 mk2 un2 ti bo) {v2 : Int} (hc : zRv on D P r mk mk3 v) (hm : zRv on2 D2 P2 r2 mk2 mk4 v2) (eP : P2 = P) (ev : v2 = v) : r = r2 ∧ zTie s i fr nw ro cs nxc fc lc bt ch ru ab tk h l D on ln mk3 wc os g sz W ta ke D2 on2 ln2 mk4 un2 ti bo := by
  subst eP; subst ev
  obtain ⟨hd, ex⟩ := ht
  obtain ⟨a1, a2, a3, a4, a5, a6⟩ := hd
  obtain ⟨c1, c2⟩ := hc
  obtain ⟨m1, m2⟩ := hm
  subst a1
  have hi : r = 1 ↔ r2 = 1 := by
    rw [c1.2, m1.2]
    constructor
    · rintro ⟨q1, q2, q3⟩
      exact ⟨q1, q2, by rw [← (a2 _ (by have := zclamp q1; omega)).1]; exact q3⟩
    · rintro ⟨q1, q2, q3⟩
      exact ⟨q1, q2, by rw [(a2 _ (by have := zclamp q1; omega)).1]; exact q3⟩
  have er : r = r2 := by have := c1.1; have := m1.1; omega
  refine ⟨er, ?_, ex⟩
  rcases c2 with ⟨r1, u⟩ | ⟨r0, u⟩
  · rcases m2 with ⟨-, w⟩ | ⟨z, -⟩
    · have in_ := c1.2.mp r1
      have cl := zclamp in_.1
      refine ⟨rfl, fun d hd => ?_, fun d q1 q2 => ?_, a4, a5, a6⟩
      · obtain ⟨b1, b2, b3, b4⟩ := a2 d hd
        rw [u d, w d]
        by_cases c : d = P2.toNatClampNeg
        · rw [if_pos c, if_pos c]; exact ⟨b1, b2, rfl, b4⟩
        · rw [if_neg c, if_neg c]; exact ⟨b1, b2, b3, b4⟩
      · rw [u d, if_neg (by omega)]; exact a3 d q1 q2
    · omega
  · rcases m2 with ⟨z, -⟩ | ⟨-, w⟩
    · omega
    · rw [u, w]
      exact ⟨rfl, a2, a3, a4, a5, a6⟩
theorem zTie_0 (hw : nw = 0) (hfr : ∀ j : Nat, j < 400 → fr j = 0) (hro : ∀ j : Nat, j < 1250 → ro j = 0) (hbt : ∀ j : Nat, j < 400 → bt j = 0) (h1 : ch = 0) (h2 : ru = 0) (h3 : ab = 0) (h4 : tk = 0) (hh : ∀ j : Nat, j < 400 → h j = 0) (hl : ∀ j : Nat, j < 400 → l j = 0) (hD : D = 0) (hmk : ∀ j : Nat, j < 120 → mk j = 0) (hos : os = 0) (hW : W = 0) (hta : ∀ j : Nat, j < 122880 → ta j = 0) (hD2 : D2 = 0) : zTie s i fr nw ro cs nxc fc lc bt ch ru ab tk h l D on ln mk wc os g sz W ta ke D2 on2 ln2 mk2 un2 ti bo := by
  subst hw; subst hD; subst hD2; subst hW; subst hos
  have eB : zBv (fun _ _ => 0) [] (0 : Int).toNat = fun _ => [] := funext fun id => rfl
  refine ⟨⟨rfl, fun d hd => by omega, fun d _ hd => by rw [hmk d hd]; decide, rfl, Int.le_refl _, by decide⟩, fun _ _ => 0, [], [], ⟨⟨fun a b _ hb => by omega, rfl, by decide, fun a ha => by omega, fun id hid => by omega, hfr⟩, fun x hx => absurd hx List.not_mem_nil, by rw [eB]; exact zPB_0 hro hbt h1 h2 h3 h4, ?_, fun id hid => by rw [hh id hid, hl id hid]; exact ⟨rfl, rfl⟩, Int.le_refl _, by decide, fun d hd => absurd hd (Nat.not_lt_zero _)⟩, ⟨⟨⟨fun j hj => by omega, fun a b _ hb => by omega⟩, rfl, by decide, fun j hj => by omega, fun x hx => absurd hx List.not_mem_nil⟩, Int.le_refl _, by decide, fun d hd => by omega, fun j _ hj => by rw [hta j hj]; decide⟩, List.Perm.refl _, fun d hd => by omega⟩
  rw [eB]
  have z : ∀ m, zsu (fun _ => zco ([] : List Bool).length) m = 0 := fun m => by
    induction m with
    | zero => rfl
    | succ m ih => show zsu (fun _ => zco ([] : List Bool).length) m + 0 = 0; rw [ih]
  show zsu (fun _ => zco ([] : List Bool).length) 400 ≤ 40000
  rw [z]
  exact Nat.zero_le _
theorem zTie_l {f f2 : Nat → Int32} {n n2 r r2 : Int} (ht : zTie s i fr nw ro cs nxc fc lc bt ch ru ab tk h l D on ln mk wc os g sz W ta ke D2 on2 ln2 mk2 un2 ti bo) (te : zTe f f2 n) (en : n2 = n) (hc : zLc f n s i fr nw ro cs nxc fc lc bt ch ru ab tk h l D r) (hm : zLr f2 n2 g sz W ta ke ti bo D2 r2) : r = r2 := by
  subst en
  obtain ⟨hd, T, V, V2, k1, k2, k3, k4⟩ := ht
  have eD := hd.1
  subst eD
  obtain ⟨x, a1, a2, a3⟩ := hc T V k1
  obtain ⟨y, b1, b2, b3⟩ := hm T V2 k2 k4
  have e : x = y := zFW_u (zFW_c (fun j _ => te.1 j) a1) b1
  subst e
  by_cases c : x ∈ V
  · rw [a2 c, b2 (k3.mem_iff.mp c)]
  · rw [a3 c, b3 (fun q => c (k3.mem_iff.mpr q))]
end ZTIE
section ZLN
variable {s : Nat → Int64} {i fr ro cs nxc fc lc bt h l on ln mk wc g sz ta ke on2 ln2 mk2 un2 ti bo lk lk' f f2 : Nat → Int32} {nw ch ru ab tk D os W D2 n n2 r r2 lw lw' ls ls' q q2 : Int}
theorem zTie_pos {g sz : Nat → Int32} {W : Int} {V V2 : List Int} (k2 : zMv g sz W V2) (k3 : V.Perm V2) : ∀ y ∈ V, 0 < y := fun y hy => by
  have y2 := k3.mem_iff.mp hy
  have nz := k2.2.2.2.2 y y2
  obtain ⟨j, hj, e⟩ := List.getElem_of_mem y2
  have l2 := k2.2.1
  have q := k2.2.2.2.1 j (by omega)
  rw [List.getElem?_eq_getElem hj, e] at q
  have q2 := Option.some.inj q
  have a := k2.1.1 j (by omega)
  have b : 0 ≤ zkw g sz j := zpk_b (fun k hk => a.2.2 k (by omega)) 12
  omega
theorem zDo_on (hd : zDo on ln mk wc D os on2 ln2 mk2 un2 D2) : ∀ d : Nat, d < D.toNat → (on2 d).toInt = (on d).toInt := fun d hl => (hd.2.1 d (by omega)).1.symm
theorem zLo_n (ht : zTie s i fr nw ro cs nxc fc lc bt ch ru ab tk h l D on ln mk wc os g sz W ta ke D2 on2 ln2 mk2 un2 ti bo) (te : zTe f f2 n) (en : n2 = n) (hl : zLo lw lk ls) (hc : zxAc2 f n s i fr nw ro cs nxc fc lc bt ch ru ab tk h l D on lw lw' r) (hm : zxAr2 f2 n2 g sz W ta ke ti bo D2 on2 lk lk' ls ls' r2) : zLo lw' lk' ls' := by
  subst en
  obtain ⟨hd, T, V, V2, k1, k2, k3, k4⟩ := ht
  have ho := zDo_on hd
  have eD := hd.1
  subst eD
  obtain ⟨x, y, a1, a2, a3⟩ := hc T V k1 (zTie_pos k2.1 k3)
  obtain ⟨x2, y2, b1, b2, b3⟩ := hm T V2 k2 k4
  have e : x = x2 := zFW_u (zFW_c (fun j _ => te.1 j) a1) b1
  subst e
  have u := zxB_u a2 b2 k3 (fun z _ => (zHg_c (fun d hd => by unfold zTo; rw [ho d hd])).symm)
  have e2 : y = y2 := u.2
  subst e2
  rcases a3 with ⟨c1, c2⟩ | ⟨c1, c2⟩ <;> rcases b3 with ⟨d1, d2, d3⟩ | ⟨d1, d2⟩
  · subst c2; subst d2; subst d3; exact hl
  · exact absurd c1 d1
  · exact absurd d1 c1
  · subst c2; exact Or.inr (Or.inr d2)
theorem zTie_p (ht : zTie s i fr nw ro cs nxc fc lc bt ch ru ab tk h l D on ln mk wc os g sz W ta ke D2 on2 ln2 mk2 un2 ti bo) (hl : zLo lw lk ls) (hc : zPp s i fr nw ro cs nxc fc lc bt ch ru ab tk h l D on q lw r) (hm : zPr lk ls g sz W ta ke ti bo D2 on2 q2 r2) (eq : q2 = q) : r = r2 := by sorry
end ZLN
section ZTB
variable {s : Nat → Int64} {i fr ro cs nxc fc lc bt h l on ln mk wc g sz ta ke on2 ln2 mk2 un2 ti bo lk : Nat → Int32} {nw ch ru ab tk D os W D2 lw ls q q2 th th2 v r2 : Int}
theorem zTie_b (ht : zTie s i fr nw ro cs nxc fc lc bt ch ru ab tk h l D on ln mk wc os g sz W ta ke D2 on2 ln2 mk2 un2 ti bo) (hl : zLo lw lk ls) (hc : zBc s i fr nw ro cs nxc fc lc bt ch ru ab tk h l D lw q th v) (hm : zbR lk ls g sz W ta ke ti bo D2 q2 th2 r2) (eq : q2 = q) : th = th2 ∧ zW (th = 0 → v = r2) := by sorry
theorem zTie_y {y y2 : Int64} {R z : Int32} (h : zW (th = 0 → y.toInt = R.toInt)) (h0 : th = 0) (ey : y2 = R.toInt64) (ez : z = lg_cmp y y2) : z.toInt = 0 := by
  have e := h h0
  have q := zlcmp ez
  have e2 : y2.toInt = R.toInt := by rw [ey, Int32.toInt_toInt64]
  omega
end ZTB
theorem zSkB_o {T : Nat → Nat → Int} {V : List Int} {on on2 : Nat → Int32} {D : Nat} {os : Int} {a e : Nat} (h : ∀ d : Nat, d < D → (on2 d).toInt = (on d).toInt) (ha : a < D) : zSkB T V on D os a e = zSkB T V on2 D os a e := by
  have t : ∀ d : Nat, d < D → zTo on T d = zTo on2 T d := fun d hd => by
    unfold zTo
    rw [h d hd]
  unfold zSkB
  by_cases c : e < D ∧ e ≠ a
  · rw [if_pos c, if_pos c, show zmu T on D os a e = zmu T on2 D os a e from funext (fun x => by
      unfold zmu
      rw [t a ha, t e c.1, zHg_c (φ := zf1) (T := zTo on T) (T' := zTo on2 T) (w := x) t])]
  · rw [if_neg c, if_neg c]
theorem zSkB_p {T : Nat → Nat → Int} {V V2 : List Int} {on : Nat → Int32} {D : Nat} {os : Int} {a e : Nat} (h : V.Perm V2) : zSkB T V on D os a e = zSkB T V2 on D os a e := by
  unfold zSkB
  rw [zls_p h]
theorem zsu_1 {on : Nat → Int32} : ∀ n : Nat, zsu (fun d => if (on d).toInt ≠ 0 then 1 else 0) n ≤ n := by
  intro n
  induction n with
  | zero => exact Nat.le_refl _
  | succ n ih =>
    show zsu (fun d => if (on d).toInt ≠ 0 then 1 else 0) n + (if (on n).toInt ≠ 0 then 1 else 0) ≤ n + 1
    split <;> omega
section ZTK
variable {s : Nat → Int64} {i fr ro cs nxc fc lc bt h l on ln mk wc g sz ta ke on2 ln2 mk2 un2 ti bo : Nat → Int32} {nw ch ru ab tk D os W D2 th th2 v r2 : Int} {P P2 : Int32}
theorem zTie_k (ht : zTie s i fr nw ro cs nxc fc lc bt ch ru ab tk h l D on ln mk wc os g sz W ta ke D2 on2 ln2 mk2 un2 ti bo) (hc : zLC s i fr nw ro cs nxc fc lc bt ch ru ab tk h l D on os P th v) (hm : zLR g sz W ta ke ti bo D2 on2 P2 th2 r2) (eP : P2 = P) : th = th2 ∧ zW (th = 0 → v = r2) := by
  subst eP
  obtain ⟨hd, T, V, V2, k1, k2, k3, k4⟩ := ht
  have ho : ∀ d : Nat, d < D.toNat → (on2 d).toInt = (on d).toInt := fun d hl => (hd.2.1 d (by omega)).1.symm
  have eo := hd.2.2.2.1
  have d0 := hd.2.2.2.2.1
  have d1 := hd.2.2.2.2.2
  have eD := hd.1
  subst eD
  have u := zsu_1 (on := on) D.toNat
  have eo2 : os = ((zsu (fun d => if (on2 d).toInt ≠ 0 then 1 else 0) D.toNat : Nat) : Int) := by
    rw [eo, zsu_c (F := fun d => if (on d).toInt ≠ 0 then 1 else 0) (G := fun d => if (on2 d).toInt ≠ 0 then 1 else 0) (fun d hd => by show (if (on d).toInt ≠ 0 then 1 else 0) = (if (on2 d).toInt ≠ 0 then 1 else 0); rw [ho d hd])]
  have cP : P2.toNatClampNeg = P2.toInt.toNat := rfl
  rcases hc T V k1 (by omega) (by omega) eo with ⟨a1, a2, a3, a4, a5⟩ | ⟨a1, a2⟩ <;> rcases hm T V2 os k2 k4 eo2 with ⟨b1, b2, b3, b4, b5⟩ | ⟨b1, b2⟩
  · exact ⟨by omega, fun _ => zlj_u (zlj_c a5 (fun e _ => (zSkB_o ho (by omega)).trans (zSkB_p k3))) b5⟩
  · have := ho P2.toNatClampNeg (by omega)
    omega
  · have := ho P2.toNatClampNeg (by omega)
    omega
  · exact ⟨by omega, fun c => by omega⟩
theorem zTie_z {y y2 : Int64} {R z : Int32} (h : zW (th = 0 → y.toInt = R.toInt)) (h0 : th = 0) (ey : y2 = R.toInt64) (ez : z = lg_cmp y y2) : z.toInt = 0 := by
  have e := h h0
  have q := zlcmp ez
  have e2 : y2.toInt = R.toInt := by rw [ey, Int32.toInt_toInt64]
  omega
end ZTK
