def zipos (R : Nat → Int × Int × Int) (s : Int) : Nat → Nat
  | 0 => 0
  | m + 1 => if (R m).2.1 < s then zipos R s m else m + 1
def zRkI (R : Nat → Int × Int × Int) (m : Nat) (x : Int × Int × Int) : Nat → Int × Int × Int := fun j => if j < zipos R x.2.1 m then R j else if j = zipos R x.2.1 m then x else R (j - 1)
def zRkF (X : Nat → Int × Int × Int) : Nat → Nat → Int × Int × Int
  | 0 => fun _ => (0, 0, 0)
  | i + 1 => zRkI (zRkF X i) i (X i)
def zTrp (nu sc sh : Nat → Int32) (t : Nat) : Int × Int × Int := ((nu t).toInt, (sc t).toInt, (sh t).toInt)
def zRkc (nu sc sh rk : Nat → Int32) (i : Int) : Prop := ∀ j : Nat, (j : Int) < i → 0 ≤ (rk j).toInt ∧ (rk j).toInt < i ∧ zTrp nu sc sh (rk j).toInt.toNat = zRkF (zTrp nu sc sh) i.toNat j
def zPir (rk0 rk sc : Nat → Int32) (hit : Int) : Prop := (∀ j : Nat, (j : Int) < hit → 0 ≤ (rk0 j).toInt) → ∃ k : Nat, (k : Int) ≤ hit ∧ (∀ j : Nat, j < k → rk j = rk0 j) ∧ (rk k).toInt = hit ∧ (∀ j : Nat, k < j → (j : Int) ≤ hit → rk j = rk0 (j - 1)) ∧ (∀ j : Nat, k ≤ j → (j : Int) < hit → (sc (rk0 j).toInt.toNat).toInt < (sc hit.toNat).toInt) ∧ (k = 0 ∨ (sc hit.toNat).toInt ≤ (sc (rk0 (k - 1)).toInt.toNat).toInt)
def zPiI (rk0 rk sc : Nat → Int32) (hit p : Int) : Prop := (∀ j : Nat, (j : Int) < hit → 0 ≤ (rk0 j).toInt) → 0 ≤ p ∧ p ≤ hit ∧ (∀ j : Nat, (j : Int) < p → rk j = rk0 j) ∧ (∀ j : Nat, p < (j : Int) → (j : Int) ≤ hit → rk j = rk0 (j - 1)) ∧ (∀ j : Nat, p ≤ (j : Int) → (j : Int) < hit → (sc (rk0 j).toInt.toNat).toInt < (sc hit.toNat).toInt)
section ZRKF
variable {X X' : Nat → Int × Int × Int} {R : Nat → Int × Int × Int} {s : Int} {m k : Nat}
theorem zipos_u (h1 : k ≤ m) (h2 : ∀ j : Nat, k ≤ j → j < m → (R j).2.1 < s) (h3 : k = 0 ∨ s ≤ (R (k - 1)).2.1) : zipos R s m = k := by
  induction m with
  | zero => show 0 = k; omega
  | succ m ih =>
    show (if (R m).2.1 < s then zipos R s m else m + 1) = k
    by_cases c : k = m + 1
    · rw [if_neg (fun q => by rcases h3 with h3 | h3; omega; rw [c, show m + 1 - 1 = m from by omega] at h3; omega)]
      exact c.symm
    · rw [if_pos (h2 m (by omega) (by omega))]
      exact ih (by omega) (fun j a b => h2 j a (by omega))
theorem zRkF_c : ∀ i : Nat, (∀ j : Nat, j < i → X j = X' j) → zRkF X i = zRkF X' i := by
  intro i
  induction i with
  | zero => intro _; rfl
  | succ i ih =>
    intro h
    show zRkI (zRkF X i) i (X i) = zRkI (zRkF X' i) i (X' i)
    rw [ih (fun j hj => h j (by omega)), h i (by omega)]
end ZRKF
section ZPIR
variable {nu sc sc' sh rk rk' rk0 rk1 : Nat → Int32} {hit p p' i : Int}
theorem zPiI_0 (h0 : 0 ≤ hit) (hp : p = hit) : zPiI rk rk sc hit p := fun _ => ⟨by omega, by omega, fun _ _ => rfl, fun j a b => by omega, fun j a b => by omega⟩
theorem zPiI_s {P Q V W Z H A B : Int32} (h : zPiI rk0 rk sc hit P.toInt) (hp : 0 < P.toInt) (eQ : Q.toInt = P.toInt - 1) (eV : V = rk Q.toNatClampNeg) (eA : A = sc V.toNatClampNeg) (eH : H.toInt = hit) (eB : B = sc H.toNatClampNeg) (hlt : A.toInt < B.toInt) (eW : W.toInt = P.toInt - 1) (eZ : Z = rk W.toNatClampNeg) (er : rk' = upd rk P.toNatClampNeg Z) (hp' : p' = P.toInt - 1) : zPiI rk0 rk' sc hit p' := fun g => by
  obtain ⟨a1, a2, a3, a4, a5⟩ := h g
  have qP : P.toNatClampNeg = P.toInt.toNat := rfl
  have qQ : Q.toNatClampNeg = Q.toInt.toNat := rfl
  have qW : W.toNatClampNeg = W.toInt.toNat := rfl
  have qV : V.toNatClampNeg = V.toInt.toNat := rfl
  have qH : H.toNatClampNeg = H.toInt.toNat := rfl
  have e1 : rk Q.toNatClampNeg = rk0 (P.toInt.toNat - 1) := by
    rw [show Q.toNatClampNeg = P.toInt.toNat - 1 from by omega]
    exact a3 _ (by omega)
  have e2 : rk W.toNatClampNeg = rk0 (P.toInt.toNat - 1) := by
    rw [show W.toNatClampNeg = P.toInt.toNat - 1 from by omega]
    exact a3 _ (by omega)
  refine ⟨by omega, by omega, fun j hj => ?_, fun j b1 b2 => ?_, fun j b1 b2 => ?_⟩
  · rw [er, pk_un (by omega)]
    exact a3 j (by omega)
  · by_cases c : j = P.toNatClampNeg
    · rw [er, c, pk_us, eZ, e2, qP]
    · rw [er, pk_un c]
      exact a4 j (by omega) b2
  · by_cases c : (j : Int) = P.toInt - 1
    · have ej : j = P.toInt.toNat - 1 := by omega
      rw [ej, ← e1, ← eV, ← qV, ← eA, show hit.toNat = H.toNatClampNeg from by omega, ← eB]
      exact hlt
    · exact a5 j (by omega) b2
theorem zPir_e {P Q V H A B : Int32} (h : zPiI rk0 rk sc hit P.toInt) (hx : P.toInt ≤ 0 ∨ (Q.toInt = P.toInt - 1 ∧ V = rk Q.toNatClampNeg ∧ A = sc V.toNatClampNeg ∧ B = sc H.toNatClampNeg ∧ B.toInt ≤ A.toInt)) (eH : H.toInt = hit) (er : rk' = upd rk P.toNatClampNeg H) : zPir rk0 rk' sc hit := fun g => by
  obtain ⟨a1, a2, a3, a4, a5⟩ := h g
  have qP : P.toNatClampNeg = P.toInt.toNat := rfl
  have qQ : Q.toNatClampNeg = Q.toInt.toNat := rfl
  have qV : V.toNatClampNeg = V.toInt.toNat := rfl
  have qH : H.toNatClampNeg = H.toInt.toNat := rfl
  refine ⟨P.toInt.toNat, by omega, fun j hj => ?_, ?_, fun j b1 b2 => ?_, fun j b1 b2 => a5 j (by omega) b2, ?_⟩
  · rw [er, pk_un (by omega)]
    exact a3 j (by omega)
  · rw [er, ← qP, pk_us]
    exact eH
  · rw [er, pk_un (by omega)]
    exact a4 j (by omega) b2
  · rcases hx with hx | ⟨x1, x2, x3, x4, x5⟩
    · exact Or.inl (by omega)
    · refine (Nat.eq_zero_or_pos P.toInt.toNat).imp id (fun c => ?_)
      have e1 : rk Q.toNatClampNeg = rk0 (P.toInt.toNat - 1) := by
        rw [show Q.toNatClampNeg = P.toInt.toNat - 1 from by omega]
        exact a3 _ (by omega)
      rw [← e1, ← x2, ← qV, ← x3, show hit.toNat = H.toNatClampNeg from by omega, ← x4]
      exact x5
theorem zRkc_0 (h : i ≤ 0) : zRkc nu sc sh rk i := fun j hj => by omega
theorem zRkc_e {j : Int} (g : zRkc nu sc sh rk i) (e1 : i ≤ j) (e2 : j ≤ i) : zRkc nu sc sh rk j := by
  have e : j = i := by omega
  subst e
  exact g
theorem zRkc_s {I S : Int32} (h : zRkc nu sc sh rk I.toInt) (i0 : 0 ≤ I.toInt) (es : sc' = upd sc I.toNatClampNeg S) (hp : zPir rk rk' sc' I.toInt) (hi : i = I.toInt + 1) : zRkc nu sc' sh rk' i := by
  have qI : I.toNatClampNeg = I.toInt.toNat := rfl
  have eX : ∀ t : Nat, t < I.toInt.toNat → zTrp nu sc sh t = zTrp nu sc' sh t := fun t ht => by
    unfold zTrp
    rw [es, pk_un (by omega)]
  have eF := zRkF_c I.toInt.toNat eX
  obtain ⟨k, k1, k2, k3, k4, k5, k6⟩ := hp (fun j hj => (h j hj).1)
  have eR : ∀ j : Nat, (j : Int) < I.toInt → zTrp nu sc' sh (rk j).toInt.toNat = zRkF (zTrp nu sc' sh) I.toInt.toNat j := fun j hj => by
    obtain ⟨a1, a2, a3⟩ := h j hj
    rw [← eX _ (by omega), ← eF]
    exact a3
  have eP : zipos (zRkF (zTrp nu sc' sh) I.toInt.toNat) (zTrp nu sc' sh I.toInt.toNat).2.1 I.toInt.toNat = k := by
    refine zipos_u (by omega) (fun j b1 b2 => ?_) ?_
    · rw [← eR j (by omega)]
      exact k5 j b1 (by omega)
    · rcases k6 with c | c
      · exact Or.inl c
      · by_cases c0 : k = 0
        · exact Or.inl c0
        · refine Or.inr ?_
          rw [← eR (k - 1) (by omega)]
          exact c
  intro j hj
  have eI : i.toNat = I.toInt.toNat + 1 := by omega
  rw [eI]
  show 0 ≤ (rk' j).toInt ∧ (rk' j).toInt < i ∧ _ = zRkI (zRkF (zTrp nu sc' sh) I.toInt.toNat) I.toInt.toNat (zTrp nu sc' sh I.toInt.toNat) j
  unfold zRkI
  rw [eP]
  by_cases c1 : j < k
  · rw [if_pos c1, k2 j c1]
    obtain ⟨a1, a2, a3⟩ := h j (by omega)
    exact ⟨a1, by omega, eR j (by omega)⟩
  · rw [if_neg c1]
    by_cases c2 : j = k
    · rw [if_pos c2, c2, k3]
      exact ⟨i0, by omega, rfl⟩
    · rw [if_neg c2, k4 j (by omega) (by omega)]
      obtain ⟨a1, a2, a3⟩ := h (j - 1) (by omega)
      exact ⟨a1, by omega, eR (j - 1) (by omega)⟩
end ZPIR
def zRkr (rk sc pl : Nat → Int32) (X : Nat → Int × Int × Int) (m : Int) : Prop := ∀ j : Nat, (j : Int) < m → zTrp rk sc pl j = zRkF X m.toNat j
def zTkI (rk0 sc0 pl0 rk sc pl : Nat → Int32) (m s k : Int) : Prop := 0 ≤ k ∧ k ≤ m ∧ (∀ j : Nat, (j : Int) < k → rk j = rk0 j ∧ sc j = sc0 j ∧ pl j = pl0 j) ∧ (∀ j : Nat, k < (j : Int) → (j : Int) ≤ m → rk j = rk0 (j - 1) ∧ sc j = sc0 (j - 1) ∧ pl j = pl0 (j - 1)) ∧ (∀ j : Nat, k ≤ (j : Int) → (j : Int) < m → (sc0 j).toInt < s)
def zTkE (rk0 sc0 pl0 rk sc pl : Nat → Int32) (m d s p : Int) : Prop := ∃ k : Nat, (k : Int) ≤ m ∧ (∀ j : Nat, j < k → zTrp rk sc pl j = zTrp rk0 sc0 pl0 j) ∧ zTrp rk sc pl k = (d, s, p) ∧ (∀ j : Nat, k < j → (j : Int) ≤ m → zTrp rk sc pl j = zTrp rk0 sc0 pl0 (j - 1)) ∧ (∀ j : Nat, k ≤ j → (j : Int) < m → (sc0 j).toInt < s) ∧ (k = 0 ∨ s ≤ (sc0 (k - 1)).toInt)
section ZTKI
variable {rk0 sc0 pl0 rk sc pl rk1 sc1 pl1 : Nat → Int32} {m m' s k k' d p : Int} {X : Nat → Int × Int × Int}
theorem zTkI_0 (h0 : 0 ≤ m) (hk : k = m) : zTkI rk sc pl rk sc pl m s k := ⟨by omega, by omega, fun _ _ => ⟨rfl, rfl, rfl⟩, fun j a b => by omega, fun j a b => by omega⟩
theorem zTkI_s {K Q A Q1 Q2 Q3 V1 V2 V3 : Int32} (h : zTkI rk0 sc0 pl0 rk sc pl m s K.toInt) (hk : 0 < K.toInt) (eQ : Q.toInt = K.toInt - 1) (eA : A = sc Q.toNatClampNeg) (hlt : A.toInt < s) (e1 : Q1.toInt = K.toInt - 1) (v1 : V1 = rk Q1.toNatClampNeg) (r1 : rk1 = upd rk K.toNatClampNeg V1) (e2 : Q2.toInt = K.toInt - 1) (v2 : V2 = sc Q2.toNatClampNeg) (r2 : sc1 = upd sc K.toNatClampNeg V2) (e3 : Q3.toInt = K.toInt - 1) (v3 : V3 = pl Q3.toNatClampNeg) (r3 : pl1 = upd pl K.toNatClampNeg V3) (hk' : k' = K.toInt - 1) : zTkI rk0 sc0 pl0 rk1 sc1 pl1 m s k' := by
  obtain ⟨a1, a2, a3, a4, a5⟩ := h
  have qK : K.toNatClampNeg = K.toInt.toNat := rfl
  have qQ : Q.toNatClampNeg = Q.toInt.toNat := rfl
  have q1 : Q1.toNatClampNeg = Q1.toInt.toNat := rfl
  have q2 : Q2.toNatClampNeg = Q2.toInt.toNat := rfl
  have q3 : Q3.toNatClampNeg = Q3.toInt.toNat := rfl
  have b := a3 (K.toInt.toNat - 1) (by omega)
  refine ⟨by omega, by omega, fun j hj => ?_, fun j b1 b2 => ?_, fun j b1 b2 => ?_⟩
  · rw [r1, r2, r3, pk_un (by omega), pk_un (by omega), pk_un (by omega)]
    exact a3 j (by omega)
  · by_cases c : j = K.toNatClampNeg
    · rw [r1, r2, r3, c, pk_us, pk_us, pk_us, v1, v2, v3, show Q1.toNatClampNeg = K.toInt.toNat - 1 from by omega, show Q2.toNatClampNeg = K.toInt.toNat - 1 from by omega, show Q3.toNatClampNeg = K.toInt.toNat - 1 from by omega, qK]
      exact b
    · rw [r1, r2, r3, pk_un c, pk_un c, pk_un c]
      exact a4 j (by omega) b2
  · by_cases c : (j : Int) = K.toInt - 1
    · rw [show j = K.toInt.toNat - 1 from by omega, ← b.2.1, show K.toInt.toNat - 1 = Q.toNatClampNeg from by omega, ← eA]
      exact hlt
    · exact a5 j (by omega) b2
theorem zTkE_i {K Q A D S P : Int32} (h : zTkI rk0 sc0 pl0 rk sc pl m s K.toInt) (hx : K.toInt ≤ 0 ∨ (Q.toInt = K.toInt - 1 ∧ A = sc Q.toNatClampNeg ∧ s ≤ A.toInt)) (r1 : rk1 = upd rk K.toNatClampNeg D) (r2 : sc1 = upd sc K.toNatClampNeg S) (r3 : pl1 = upd pl K.toNatClampNeg P) (hD : D.toInt = d) (hS : S.toInt = s) (hP : P.toInt = p) : zTkE rk0 sc0 pl0 rk1 sc1 pl1 m d s p := by
  obtain ⟨a1, a2, a3, a4, a5⟩ := h
  have qK : K.toNatClampNeg = K.toInt.toNat := rfl
  have qQ : Q.toNatClampNeg = Q.toInt.toNat := rfl
  refine ⟨K.toInt.toNat, by omega, fun j hj => ?_, ?_, fun j b1 b2 => ?_, fun j b1 b2 => a5 j (by omega) b2, ?_⟩
  · have b := a3 j (by omega)
    unfold zTrp
    rw [r1, r2, r3, pk_un (by omega), pk_un (by omega), pk_un (by omega), b.1, b.2.1, b.2.2]
  · unfold zTrp
    rw [r1, r2, r3, ← qK, pk_us, pk_us, pk_us, hD, hS, hP]
  · have b := a4 j (by omega) b2
    unfold zTrp
    rw [r1, r2, r3, pk_un (by omega), pk_un (by omega), pk_un (by omega), b.1, b.2.1, b.2.2]
  · rcases hx with hx | ⟨x1, x2, x3⟩
    · exact Or.inl (by omega)
    · refine (Nat.eq_zero_or_pos K.toInt.toNat).imp id (fun c => ?_)
      have b := (a3 (K.toInt.toNat - 1) (by omega)).2.1
      rw [← b, show K.toInt.toNat - 1 = Q.toNatClampNeg from by omega, ← x2]
      exact x3
theorem zRkr_0 (h : m ≤ 0) : zRkr rk sc pl X m := fun j hj => by omega
theorem zRkr_s {X' : Nat → Int × Int × Int} (h : zRkr rk0 sc0 pl0 X m) (m0 : 0 ≤ m) (ht : zTkE rk0 sc0 pl0 rk sc pl m d s p) (hX : ∀ j : Nat, (j : Int) < m → X' j = X j) (hx : X' m.toNat = (d, s, p)) (hm : m' = m + 1) : zRkr rk sc pl X' m' := by
  obtain ⟨k, k1, k2, k3, k4, k5, k6⟩ := ht
  have eF : zRkF X' m.toNat = zRkF X m.toNat := zRkF_c m.toNat (fun j hj => hX j (by omega))
  have eR : ∀ j : Nat, (j : Int) < m → zTrp rk0 sc0 pl0 j = zRkF X' m.toNat j := fun j hj => by rw [eF]; exact h j hj
  have eP : zipos (zRkF X' m.toNat) (X' m.toNat).2.1 m.toNat = k := by
    refine zipos_u (by omega) (fun j b1 b2 => ?_) ?_
    · rw [← eR j (by omega), hx]
      exact k5 j b1 (by omega)
    · rcases k6 with c | c
      · exact Or.inl c
      · by_cases c0 : k = 0
        · exact Or.inl c0
        · refine Or.inr ?_
          rw [← eR (k - 1) (by omega), hx]
          exact c
  intro j hj
  rw [show m'.toNat = m.toNat + 1 from by omega]
  show _ = zRkI (zRkF X' m.toNat) m.toNat (X' m.toNat) j
  unfold zRkI
  rw [eP]
  by_cases c1 : j < k
  · rw [if_pos c1, k2 j c1]
    exact eR j (by omega)
  · rw [if_neg c1]
    by_cases c2 : j = k
    · rw [if_pos c2, c2, k3, hx]
    · rw [if_neg c2, k4 j (by omega) (by omega)]
      exact eR (j - 1) (by omega)
theorem zRk_tie {nu scc sh rkc : Nat → Int32} {n : Int} (hc : zRkc nu scc sh rkc n) (hr : zRkr rk sc pl X n) (hX : ∀ j : Nat, (j : Int) < n → zTrp nu scc sh j = X j) : ∀ j : Nat, (j : Int) < n → zTrp nu scc sh (rkc j).toInt.toNat = zTrp rk sc pl j := fun j hj => by
  rw [(hc j hj).2.2, hr j hj, zRkF_c n.toNat (fun t ht => hX t (by omega))]
end ZTKI
def zf6 (w : Int) : Int := if w = 0 ∨ w = 1 then 1 else 3
def zf7 (w : Int) : Int := if w = 0 ∨ w = 2 then 2 else 3
def zsw (s : Int) : Int := if s = 3 then 0 else if s = 0 then 3 else s
def zUWl (e : Int) (i : Nat) (U W : Nat → Int) (T : Nat → Nat) : Prop :=
  (e / 1000 % 1000 ≤ 4 → T i = i) ∧ (e / 1000 % 1000 ≤ 3 → e / 1000000000 / 4 = U i ∧ zsw (e / 1000000000 % 4) = W i) ∧ (e / 1000 % 1000 = 4 → e / 1000000000 = 0) ∧
  (e / 1000 % 1000 = 6 → U (i - 1) = U i ∧ W (i - 1) = zf6 (W i) ∧ T i = T (i - 1)) ∧ (e / 1000 % 1000 = 7 → U (i - 1) = U i ∧ W (i - 1) = zf7 (W i) ∧ T i = T (i - 1)) ∧
  (e / 1000 % 1000 = 10 → U (i - 1) = 0 ∧ W (i - 1) = W i ∧ T i = T (i - 1)) ∧
  (e / 1000 % 1000 = 5 ∨ e / 1000 % 1000 = 8 ∨ e / 1000 % 1000 = 9 → U (e / 1000000 - 1).toNat = U i ∧ W (e / 1000000 - 1).toNat = W i ∧ U (i - 1) = U i ∧ W (i - 1) = W i ∧ T i = T (e / 1000000 - 1).toNat ∧ (T (i - 1) : Int) = e / 1000000) ∧
  (e / 1000 % 1000 = 11 → U (e / 1000000 - 1).toNat = U i ∧ W (e / 1000000 - 1).toNat = W i ∧ U (i - 1) = 0 ∧ W (i - 1) = W i ∧ T i = T (e / 1000000 - 1).toNat ∧ (T (i - 1) : Int) = e / 1000000)
def zWfs (b i : Nat) (e : Int) : Prop := 1 ≤ e / 1000 % 1000 ∧ (5 ≤ e / 1000 % 1000 → b < i) ∧ (e / 1000 % 1000 = 5 ∨ e / 1000 % 1000 = 8 ∨ e / 1000 % 1000 = 9 ∨ e / 1000 % 1000 = 11 → (b : Int) + 1 ≤ e / 1000000 ∧ e / 1000000 ≤ (i : Int))
def zUWg (b : Nat) (L' : List Int) (u w : Int) (U W : Nat → Int) (T : Nat → Nat) : Prop := U (L'.length - 1) = u ∧ W (L'.length - 1) = w ∧ T (L'.length - 1) = b ∧ ∀ i : Nat, b ≤ i → i < L'.length → zUWl (L'.getD i 0) i U W T ∧ zWfs b i (L'.getD i 0)
def zUWs (L L' : List Int) (u w : Int) : Prop := L.length < L'.length ∧ zPx L L' ∧ ∃ (U W : Nat → Int) (T : Nat → Nat), zUWg L.length L' u w U W T
section ZUW
variable {L L' L2 : List Int} {e u w u' w' : Int} {U W U' W' : Nat → Int} {T T' : Nat → Nat} {i b b' : Nat}
theorem zUWl_c (h : zUWl e i U W T) (hw : zWfs b i e) (hb : b ≤ i) (hU : ∀ j : Nat, b ≤ j → j ≤ i → U' j = U j ∧ W' j = W j ∧ T' j = T j) : zUWl e i U' W' T' := by
  obtain ⟨h1, h2, h3, h4, h5, h6, h7, h8⟩ := h
  obtain ⟨w1, w2, w3⟩ := hw
  have a := hU i hb (Nat.le_refl i)
  have p : 5 ≤ e / 1000 % 1000 → U' (i - 1) = U (i - 1) ∧ W' (i - 1) = W (i - 1) ∧ T' (i - 1) = T (i - 1) := fun c => hU (i - 1) (by have := w2 c; omega) (by omega)
  refine ⟨fun c => by rw [a.2.2]; exact h1 c, fun c => by rw [a.1, a.2.1]; exact h2 c, h3, fun c => ?_, fun c => ?_, fun c => ?_, fun c => ?_, fun c => ?_⟩
  · have q := p (by omega)
    rw [a.1, a.2.1, a.2.2, q.1, q.2.1, q.2.2]
    exact h4 c
  · have q := p (by omega)
    rw [a.1, a.2.1, a.2.2, q.1, q.2.1, q.2.2]
    exact h5 c
  · have q := p (by omega)
    rw [a.2.1, a.2.2, q.1, q.2.1, q.2.2]
    exact h6 c
  · have q := p (by omega)
    have d := w3 (by omega)
    have f := hU (e / 1000000 - 1).toNat (by omega) (by omega)
    rw [a.1, a.2.1, a.2.2, q.1, q.2.1, q.2.2, f.1, f.2.1, f.2.2]
    exact h7 c
  · have q := p (by omega)
    have d := w3 (by omega)
    have f := hU (e / 1000000 - 1).toNat (by omega) (by omega)
    rw [a.1, a.2.1, a.2.2, q.1, q.2.1, q.2.2, f.1, f.2.1, f.2.2]
    exact h8 c
theorem zWfs_m (h : zWfs b' i e) (hb : b ≤ b') : zWfs b i e := ⟨h.1, fun c => by have := h.2.1 c; omega, fun c => by have := h.2.2 c; omega⟩
theorem zUWs_l (k1 : 1 ≤ e / 1000 % 1000) (k3 : e / 1000 % 1000 ≤ 3) (hu : e / 1000000000 / 4 = u) (hw : zsw (e / 1000000000 % 4) = w) : zUWs L (L ++ [e]) u w := by
  refine ⟨by rw [zln1]; omega, zPx_1, fun _ => u, fun _ => w, fun i => i, rfl, rfl, by show (L ++ [e]).length - 1 = _; rw [zln1]; omega, fun i i1 i2 => ?_⟩
  rw [zln1] at i2
  have ei : i = L.length := by omega
  subst ei
  rw [zgd_l]
  exact ⟨⟨fun _ => rfl, fun _ => ⟨hu, hw⟩, fun c => by omega, fun c => by omega, fun c => by omega, fun c => by omega, fun c => by omega, fun c => by omega⟩, k1, fun c => by omega, fun c => by omega⟩
theorem zUWs_m (k4 : e / 1000 % 1000 = 4) (h0 : e / 1000000000 = 0) : zUWs L (L ++ [e]) u w := by
  refine ⟨by rw [zln1]; omega, zPx_1, fun _ => u, fun _ => w, fun i => i, rfl, rfl, by show (L ++ [e]).length - 1 = _; rw [zln1]; omega, fun i i1 i2 => ?_⟩
  rw [zln1] at i2
  have ei : i = L.length := by omega
  subst ei
  rw [zgd_l]
  exact ⟨⟨fun _ => rfl, fun c => by omega, fun _ => h0, fun c => by omega, fun c => by omega, fun c => by omega, fun c => by omega, fun c => by omega⟩, by omega, fun c => by omega, fun c => by omega⟩
theorem zUWs_1 (h : zUWs L L' u' w') (hk : (e / 1000 % 1000 = 6 ∧ u' = u ∧ w' = zf6 w) ∨ (e / 1000 % 1000 = 7 ∧ u' = u ∧ w' = zf7 w) ∨ (e / 1000 % 1000 = 10 ∧ u' = 0 ∧ w' = w)) : zUWs L (L' ++ [e]) u w := by
  obtain ⟨hl, hp, U, W, T, g1, g2, g3, g4⟩ := h
  have q1 : L'.length - 1 < L'.length := by omega
  refine ⟨by rw [zln1]; omega, zPx_t hp zPx_1, fun j => if j < L'.length then U j else u, fun j => if j < L'.length then W j else w, fun j => if j < L'.length then T j else L.length, ?_, ?_, ?_, fun i i1 i2 => ?_⟩
  · show (if (L' ++ [e]).length - 1 < L'.length then _ else _) = _
    rw [zln1, if_neg (by omega)]
  · show (if (L' ++ [e]).length - 1 < L'.length then _ else _) = _
    rw [zln1, if_neg (by omega)]
  · show (if (L' ++ [e]).length - 1 < L'.length then _ else _) = _
    rw [zln1, if_neg (by omega)]
  · rw [zln1] at i2
    by_cases c : i < L'.length
    · rw [zgd_k c]
      obtain ⟨a1, a2⟩ := g4 i i1 c
      exact ⟨zUWl_c a1 a2 i1 (fun j _ j2 => ⟨if_pos (by omega), if_pos (by omega), if_pos (by omega)⟩), a2⟩
    · have ei : i = L'.length := by omega
      subst ei
      rw [zgd_l]
      have s1 : (if L'.length - 1 < L'.length then U (L'.length - 1) else u) = u' := by rw [if_pos q1]; exact g1
      have s2 : (if L'.length - 1 < L'.length then W (L'.length - 1) else w) = w' := by rw [if_pos q1]; exact g2
      have s3 : (if L'.length - 1 < L'.length then T (L'.length - 1) else L.length) = L.length := by rw [if_pos q1]; exact g3
      have t1 : (if L'.length < L'.length then U L'.length else u) = u := if_neg (by omega)
      have t2 : (if L'.length < L'.length then W L'.length else w) = w := if_neg (by omega)
      have t3 : (if L'.length < L'.length then T L'.length else L.length) = L.length := if_neg (by omega)
      refine ⟨⟨fun c => by omega, fun c => by omega, fun c => by omega, fun c => ?_, fun c => ?_, fun c => ?_, fun c => by omega, fun c => by omega⟩, by omega, fun _ => hl, fun c => by omega⟩
      · rcases hk with ⟨_, k2, k3⟩ | ⟨k1, _⟩ | ⟨k1, _⟩
        · exact ⟨s1.trans (k2.trans t1.symm), s2.trans (k3.trans (congrArg zf6 t2.symm)), t3.trans s3.symm⟩
        · omega
        · omega
      · rcases hk with ⟨k1, _⟩ | ⟨_, k2, k3⟩ | ⟨k1, _⟩
        · omega
        · exact ⟨s1.trans (k2.trans t1.symm), s2.trans (k3.trans (congrArg zf7 t2.symm)), t3.trans s3.symm⟩
        · omega
      · rcases hk with ⟨k1, _⟩ | ⟨k1, _⟩ | ⟨_, k2, k3⟩
        · omega
        · omega
        · exact ⟨s1.trans k2, s2.trans (k3.trans t2.symm), t3.trans s3.symm⟩
theorem zUWs_2 (h : zUWs L L' u w) (g : zUWs L' L2 u' w) (hk : ((e / 1000 % 1000 = 5 ∨ e / 1000 % 1000 = 8 ∨ e / 1000 % 1000 = 9) ∧ u' = u) ∨ (e / 1000 % 1000 = 11 ∧ u' = 0)) (hl : e / 1000000 = (L'.length : Int)) : zUWs L (L2 ++ [e]) u w := by
  obtain ⟨l1, p1, U1, W1, T1, g1, g2, g3, g4⟩ := h
  obtain ⟨l2, p2, U2, W2, T2, f1, f2, f3, f4⟩ := g
  obtain ⟨Y, hY⟩ := p2
  refine ⟨by rw [zln1]; omega, zPx_t p1 (zPx_t ⟨Y, hY⟩ zPx_1), fun j => if j < L'.length then U1 j else if j < L2.length then U2 j else u, fun j => if j < L'.length then W1 j else if j < L2.length then W2 j else w, fun j => if j < L'.length then T1 j else if j < L2.length then T2 j else L.length, ?_, ?_, ?_, fun i i1 i2 => ?_⟩
  · show (if (L2 ++ [e]).length - 1 < L'.length then _ else if (L2 ++ [e]).length - 1 < L2.length then _ else _) = _
    rw [zln1, if_neg (by omega), if_neg (by omega)]
  · show (if (L2 ++ [e]).length - 1 < L'.length then _ else if (L2 ++ [e]).length - 1 < L2.length then _ else _) = _
    rw [zln1, if_neg (by omega), if_neg (by omega)]
  · show (if (L2 ++ [e]).length - 1 < L'.length then _ else if (L2 ++ [e]).length - 1 < L2.length then _ else _) = _
    rw [zln1, if_neg (by omega), if_neg (by omega)]
  · rw [zln1] at i2
    by_cases c : i < L'.length
    · have eg : (L2 ++ [e]).getD i 0 = L'.getD i 0 := by rw [zgd_k (by omega), hY, zgd_k c]
      rw [eg]
      obtain ⟨a1, a2⟩ := g4 i i1 c
      exact ⟨zUWl_c a1 a2 i1 (fun j _ j2 => ⟨if_pos (by omega), if_pos (by omega), if_pos (by omega)⟩), a2⟩
    · by_cases c2 : i < L2.length
      · rw [zgd_k c2]
        obtain ⟨a1, a2⟩ := f4 i (by omega) c2
        refine ⟨zUWl_c a1 a2 (by omega) (fun j j1 j2 => ?_), zWfs_m a2 (by omega)⟩
        have n1 : ¬ j < L'.length := by omega
        have n2 : j < L2.length := by omega
        exact ⟨(if_neg n1).trans (if_pos n2), (if_neg n1).trans (if_pos n2), (if_neg n1).trans (if_pos n2)⟩
      · have ei : i = L2.length := by omega
        subst ei
        rw [zgd_l]
        have n0 : ¬ L2.length < L'.length := by omega
        have n1 : ¬ L2.length < L2.length := by omega
        have n2 : ¬ L2.length - 1 < L'.length := by omega
        have n3 : L2.length - 1 < L2.length := by omega
        have n4 : L'.length - 1 < L'.length := by omega
        have el : (e / 1000000 - 1).toNat = L'.length - 1 := by omega
        have tU : (if L2.length < L'.length then U1 L2.length else if L2.length < L2.length then U2 L2.length else u) = u := (if_neg n0).trans (if_neg n1)
        have tW : (if L2.length < L'.length then W1 L2.length else if L2.length < L2.length then W2 L2.length else w) = w := (if_neg n0).trans (if_neg n1)
        have tT : (if L2.length < L'.length then T1 L2.length else if L2.length < L2.length then T2 L2.length else L.length) = L.length := (if_neg n0).trans (if_neg n1)
        have rU : (if L2.length - 1 < L'.length then U1 (L2.length - 1) else if L2.length - 1 < L2.length then U2 (L2.length - 1) else u) = u' := ((if_neg n2).trans (if_pos n3)).trans f1
        have rW : (if L2.length - 1 < L'.length then W1 (L2.length - 1) else if L2.length - 1 < L2.length then W2 (L2.length - 1) else w) = w := ((if_neg n2).trans (if_pos n3)).trans f2
        have rT : (if L2.length - 1 < L'.length then T1 (L2.length - 1) else if L2.length - 1 < L2.length then T2 (L2.length - 1) else L.length) = L'.length := ((if_neg n2).trans (if_pos n3)).trans f3
        have oU : (if L'.length - 1 < L'.length then U1 (L'.length - 1) else if L'.length - 1 < L2.length then U2 (L'.length - 1) else u) = u := (if_pos n4).trans g1
        have oW : (if L'.length - 1 < L'.length then W1 (L'.length - 1) else if L'.length - 1 < L2.length then W2 (L'.length - 1) else w) = w := (if_pos n4).trans g2
        have oT : (if L'.length - 1 < L'.length then T1 (L'.length - 1) else if L'.length - 1 < L2.length then T2 (L'.length - 1) else L.length) = L.length := (if_pos n4).trans g3
        refine ⟨⟨fun c => by omega, fun c => by omega, fun c => by omega, fun c => by omega, fun c => by omega, fun c => by omega, fun c => ?_, fun c => ?_⟩, by omega, fun _ => by omega, fun c => ⟨by omega, by omega⟩⟩
        · rw [el]
          have k2 : u' = u := by rcases hk with k | k; exact k.2; omega
          exact ⟨oU.trans tU.symm, oW.trans tW.symm, rU.trans (k2.trans tU.symm), rW.trans tW.symm, tT.trans oT.symm, by rw [hl]; exact congrArg Int.ofNat rT⟩
        · rw [el]
          have k2 : u' = 0 := by rcases hk with k | k; omega; exact k.2
          exact ⟨oU.trans tU.symm, oW.trans tW.symm, rU.trans k2, rW.trans tW.symm, tT.trans oT.symm, by rw [hl]; exact congrArg Int.ofNat rT⟩
end ZUW
def zMwf (e w : Int) : Int := if e = 6000 then zf6 w else zf7 w
def zMwd : List Int → Int → Int
  | [], w => w
  | e :: M, w => zMwf e (zMwd M w)
theorem zMwd_a {e w : Int} : ∀ M : List Int, zMwd (M ++ [e]) w = zMwd M (zMwf e w) := by
  intro M
  induction M with
  | nil => rfl
  | cons x M ih => show zMwf x (zMwd (M ++ [e]) w) = zMwf x (zMwd M (zMwf e w)); rw [ih]
theorem zMwd_1 : ∀ M : List Int, (∀ e ∈ M, e = 6000 ∨ e = 7000) → zMwd M 0 = if 6000 ∈ M then (if 7000 ∈ M then 3 else 1) else (if 7000 ∈ M then 2 else 0) := by
  intro M
  induction M with
  | nil => intro _; rw [if_neg (by simp), if_neg (by simp)]; rfl
  | cons x M ih =>
    intro h
    have i := ih (fun e he => h e (List.mem_cons_of_mem _ he))
    show zMwf x (zMwd M 0) = _
    rw [i]
    rcases h x List.mem_cons_self with c | c
    · subst c
      have m1 : (6000 : Int) ∈ (6000 : Int) :: M := List.mem_cons_self
      have m2 : (7000 : Int) ∈ (6000 : Int) :: M ↔ (7000 : Int) ∈ M := ⟨fun q => (List.mem_cons.mp q).resolve_left (by decide), List.mem_cons_of_mem _⟩
      rw [if_pos m1]
      unfold zMwf
      rw [if_pos rfl]
      unfold zf6
      by_cases a : (6000 : Int) ∈ M <;> by_cases b : (7000 : Int) ∈ M
      · rw [if_pos a, if_pos b, if_pos (m2.mpr b)]; decide
      · rw [if_pos a, if_neg b, if_neg (fun q => b (m2.mp q))]; decide
      · rw [if_neg a, if_pos b, if_pos (m2.mpr b)]; decide
      · rw [if_neg a, if_neg b, if_neg (fun q => b (m2.mp q))]; decide
    · subst c
      have m1 : (7000 : Int) ∈ (7000 : Int) :: M := List.mem_cons_self
      have m2 : (6000 : Int) ∈ (7000 : Int) :: M ↔ (6000 : Int) ∈ M := ⟨fun q => (List.mem_cons.mp q).resolve_left (by decide), List.mem_cons_of_mem _⟩
      unfold zMwf
      rw [if_neg (show ¬ (7000 : Int) = 6000 from by decide)]
      unfold zf7
      by_cases a : (6000 : Int) ∈ M <;> by_cases b : (7000 : Int) ∈ M
      · rw [if_pos a, if_pos b, if_pos (m2.mpr a), if_pos m1]; decide
      · rw [if_pos a, if_neg b, if_pos (m2.mpr a), if_pos m1]; decide
      · rw [if_neg a, if_pos b, if_neg (fun q => a (m2.mp q)), if_pos m1]; decide
      · rw [if_neg a, if_neg b, if_neg (fun q => a (m2.mp q)), if_pos m1]; decide
theorem zMwd_0 {M : List Int} (h : ∀ e ∈ M, e = 6000 ∨ e = 7000) : zMwd M 0 = zsw (zsd M) := by
  rw [zMwd_1 M h]
  unfold zsw zsd
  by_cases a : (6000 : Int) ∈ M <;> by_cases b : (7000 : Int) ∈ M
  · rw [if_pos a, if_pos b, if_pos b, if_pos a]; decide
  · rw [if_pos a, if_neg b, if_neg b, if_pos a]; decide
  · rw [if_neg a, if_pos b, if_pos b, if_neg a]; decide
  · rw [if_neg a, if_neg b, if_neg b, if_neg a]; decide
theorem zUWs_M {L L' : List Int} {u : Int} : ∀ M : List Int, (∀ e ∈ M, e = 6000 ∨ e = 7000) → ∀ w : Int, zUWs L L' u (zMwd M w) → zUWs L (L' ++ M) u w := by
  refine zrev_i ?_ ?_
  · intro _ w h; rw [List.append_nil]; exact h
  · intro M e ih hM w h
    rw [zMwd_a] at h
    have he := hM e (List.mem_append.mpr (Or.inr (List.mem_singleton.mpr rfl)))
    have i := ih (fun z hz => hM z (List.mem_append.mpr (Or.inl hz))) (zMwf e w) h
    rw [← List.append_assoc]
    refine zUWs_1 i ?_
    rcases he with he | he
    · exact Or.inl ⟨by omega, rfl, by unfold zMwf; rw [if_pos he]⟩
    · exact Or.inr (Or.inl ⟨by omega, rfl, by unfold zMwf; rw [if_neg (by omega)]⟩)
def zLvI (L : List Int) (lv : Int) : Prop := (∀ i : Nat, i < L.length → L.getD i 0 / 1000 % 1000 ≤ 4 → 0 ≤ L.getD i 0 % 1000 ∧ L.getD i 0 % 1000 < lv) ∧ (∀ i j : Nat, i < j → j < L.length → L.getD i 0 / 1000 % 1000 ≤ 4 → L.getD j 0 / 1000 % 1000 ≤ 4 → L.getD i 0 % 1000 < L.getD j 0 % 1000) ∧ ∀ x : Int, 0 ≤ x → x < lv → ∃ i : Nat, i < L.length ∧ L.getD i 0 / 1000 % 1000 ≤ 4 ∧ L.getD i 0 % 1000 = x
theorem zLvI_0 : zLvI [] 0 := ⟨fun i hi => by simp at hi, fun i j _ hj => by simp at hj, fun x h0 h1 => by omega⟩
theorem zLvI_p {L : List Int} {lv e : Int} (h : zLvI L lv) (he : e % 1000 = lv) (hk4 : e / 1000 % 1000 ≤ 4) (v0 : 0 ≤ lv) : zLvI (L ++ [e]) (lv + 1) := by
  refine ⟨fun i hi hk => ?_, fun i j hij hj hk1 hk2 => ?_, fun x x0 x1 => ?_⟩
  · rw [zln1] at hi
    by_cases c : i < L.length
    · rw [zgd_k c] at hk ⊢
      have := h.1 i c hk
      omega
    · have ei : i = L.length := by omega
      subst ei
      rw [zgd_l] at hk ⊢
      omega
  · rw [zln1] at hj
    have ci : i < L.length := by omega
    by_cases c : j < L.length
    · rw [zgd_k ci] at hk1 ⊢
      rw [zgd_k c] at hk2 ⊢
      exact h.2.1 i j hij c hk1 hk2
    · have ej : j = L.length := by omega
      subst ej
      rw [zgd_k ci] at hk1 ⊢
      rw [zgd_l] at hk2 ⊢
      have := h.1 i ci hk1
      omega
  · by_cases c : x < lv
    · obtain ⟨i, i1, i2, i3⟩ := h.2.2 x x0 c
      exact ⟨i, by rw [zln1]; omega, by rw [zgd_k i1]; exact i2, by rw [zgd_k i1]; exact i3⟩
    · exact ⟨L.length, by rw [zln1]; omega, by rw [zgd_l]; exact hk4, by rw [zgd_l]; omega⟩
theorem zLvI_o {L : List Int} {lv e : Int} (hk : 5 ≤ e / 1000 % 1000) (h : zLvI L lv) : zLvI (L ++ [e]) lv := by
  refine ⟨fun i hi hk1 => ?_, fun i j hij hj hk1 hk2 => ?_, fun x x0 x1 => ?_⟩
  · rw [zln1] at hi
    by_cases c : i < L.length
    · rw [zgd_k c] at hk1 ⊢
      exact h.1 i c hk1
    · have ei : i = L.length := by omega
      subst ei
      rw [zgd_l] at hk1
      omega
  · rw [zln1] at hj
    have ci : i < L.length := by omega
    by_cases c : j < L.length
    · rw [zgd_k ci] at hk1 ⊢
      rw [zgd_k c] at hk2 ⊢
      exact h.2.1 i j hij c hk1 hk2
    · have ej : j = L.length := by omega
      subst ej
      rw [zgd_l] at hk2
      omega
  · obtain ⟨i, i1, i2, i3⟩ := h.2.2 x x0 x1
    exact ⟨i, by rw [zln1]; omega, by rw [zgd_k i1]; exact i2, by rw [zgd_k i1]; exact i3⟩
theorem zLvI_M {L : List Int} {lv : Int} : ∀ M : List Int, (∀ e ∈ M, e = 6000 ∨ e = 7000) → zLvI L lv → zLvI (L ++ M) lv := by
  refine zrev_i ?_ ?_
  · intro _ h; rw [List.append_nil]; exact h
  · intro M e ih hM h
    rw [← List.append_assoc]
    have he := hM e (List.mem_append.mpr (Or.inr (List.mem_singleton.mpr rfl)))
    exact zLvI_o (by omega) (ih (fun z hz => hM z (List.mem_append.mpr (Or.inl hz))) h)
theorem zLvI_z {L : List Int} {k lv a sd : Int} (v0 : 0 ≤ lv) (v4 : lv < 40) (k0 : 0 ≤ k) (k4 : k ≤ 4) (h : zLvI L lv) : zLvI (L ++ [zlc k lv a sd]) (lv + 1) := zLvI_p h (zlc_k v0 (by omega) k0 (by omega)).2 (by rw [(zlc_k v0 (by omega) k0 (by omega)).1]; exact k4) v0
def zUsm (u : Int) (B : zRl_) : Prop := ∀ a lv qt L q lv' qt' K pl, B a lv qt L (some (q, lv', qt', K, pl)) → 0 ≤ a → 0 ≤ lv → zUWs L K u 0 ∧ lv ≤ lv' ∧ (zLvI L lv → zLvI K lv')
def zUso (B : zBu) : Prop := ∀ u : Int, 0 ≤ u → u ≤ 1 → zUsm u (B.2 u)
section ZUG
variable {f : Nat → Int32} {n s u : Int} {ok : Prop} {B : zRl_}
theorem zUWs_i {L : List Int} {k lv a : Int} (s0 : 0 ≤ s) (s3 : s ≤ 3) (k1 : 1 ≤ k) (k3 : k ≤ 3) (v0 : 0 ≤ lv) (v4 : lv < 40) (a0 : 0 ≤ a) (a1 : a < 1000) : zUWs L (L ++ [zlc k lv a (s + 4 * u)]) u (zsw s) := by
  have e1 := zlc_k (k := k) (lv := lv) (a := a) (sd := s + 4 * u) v0 (by omega) (by omega) (by omega)
  have e2 := zlc_s (k := k) (lv := lv) (a := a) (sd := s + 4 * u) (by omega) (by omega) a0 a1
  exact zUWs_l (by omega) (by omega) (by omega) (by rw [e2, show (s + 4 * u) % 4 = s from by omega])
theorem zBar_w (hB : zUsm u B) (hn : n ≤ 600) (s0 : 0 ≤ s) (s3 : s ≤ 3) (a lv qt : Int) (L : List Int) (q lv' qt' : Int) (K : List Int) (pl : Bool) (h : zBar f n (s + 4 * u) ok B a lv qt L (some (q, lv', qt', K, pl))) (h0 : 0 ≤ a) (v0 : 0 ≤ lv) : ((pl = false ∧ zUWs L K u 0) ∨ (pl = true ∧ zUWs L K u (zsw s))) ∧ lv ≤ lv' ∧ (zLvI L lv → zLvI K lv') := by
  rcases h with ⟨hs, h⟩ | ⟨hs, h⟩
  · rcases h with h | ⟨g0, p, x, h1, h2, h3⟩
    · cases h.2
    have a1 := h1.1
    rcases h3 with h3 | ⟨q0, l, t, K, pl0, hx, h3⟩
    · cases h3.2
    have a2 := hB _ _ _ _ _ _ _ _ _ (hx ▸ h2) (by omega) v0
    rcases h3 with h3 | ⟨h3, d, h4, h5⟩
    · cases h3.2
    cases h5
    exact ⟨Or.inl ⟨rfl, a2.1⟩, a2.2⟩
  rcases h with ⟨h1, h⟩ | ⟨h1, h⟩
  · rcases h with h | ⟨h0, p, x, h1, h2, h3⟩
    · cases h.2
    rcases h3 with h3 | ⟨v, q0, hx, h3⟩
    · cases h3.2
    rcases h3 with h3 | ⟨h3, p2, y, h4, h5, h6⟩
    · cases h3.2
    rcases h6 with h6 | ⟨w, q2, hy, h6⟩
    · cases h6.2
    rcases h6 with h6 | ⟨h6, d, h7, h8⟩
    · cases h6.2
    cases h8
    have e1 := zlc_k (k := 4) (lv := lv) (a := a) (sd := 0) v0 (by omega) (by omega) (by omega)
    have a9 : a < 1000 := by have := (show zSc f n a 91 from by assumption).1; omega
    have e2 := zlc_s (k := 4) (lv := lv) (a := a) (sd := 0) (by omega) (by omega) (by assumption) a9
    exact ⟨Or.inl ⟨rfl, zUWs_m e1.1 e2⟩, by omega, zLvI_z v0 (by assumption) (by decide) (by decide)⟩
  rcases h with ⟨h2, h⟩ | ⟨h2, h⟩
  · rcases h with h | ⟨g0, h⟩
    · cases h.2
    · rcases h with ⟨c, g1, g2, g3⟩ | ⟨c, d, g1, g2, g3, g4⟩ | ⟨g1, g2⟩
      · cases g3
      · cases g4; exact ⟨Or.inr ⟨rfl, zUWs_i s0 s3 (by omega) (by omega) v0 g0 h0 (by have := h2.1; omega)⟩, by omega, zLvI_z v0 g0 (by decide) (by decide)⟩
      · cases g2
  rcases h with ⟨⟨b, h3⟩, h⟩ | ⟨h3, h⟩
  · have k1 := (zLk_l h3).2.2.2.2.2 (by omega)
    rcases h with h | ⟨g0, e, c, g1, g2, g3⟩
    · cases h.2
    · rcases g3 with ⟨b1, d, b2, b3⟩ | ⟨b1, b2⟩
      · cases b3; exact ⟨Or.inr ⟨rfl, zUWs_i s0 s3 (by omega) (by omega) v0 g0 h0 (by omega)⟩, by omega, zLvI_z v0 g0 (by decide) (by decide)⟩
      · cases b2; exact ⟨Or.inr ⟨rfl, zUWs_i s0 s3 (by omega) (by omega) v0 g0 h0 (by omega)⟩, by omega, zLvI_z v0 g0 (by decide) (by decide)⟩
  · cases h
variable {B : zBu}
theorem zUni_w (hB : zUso B) (hu0 : 0 ≤ B.1) (hu1 : B.1 ≤ 1) (hn : n ≤ 600) : zUsm B.1 (zUni f n ok B) := fun a lv qt L q lv' qt' K pl h h0 v0 => by
  obtain ⟨k, x, M, h1, h2⟩ := h
  have hx := zFs_b h1 h0
  have hM := zFs_v h1
  rcases h2 with h2 | ⟨h2, h3, y, h4, h5⟩
  · cases h2.2.2
  rcases h5 with h5 | ⟨q0, l, t, L', pl0, hy, h5⟩
  · cases h5.2
  have z9 := zsd_r M
  have a2 := zBar_w (hB B.1 hu0 hu1) hn z9.1 z9.2 _ _ _ _ _ _ _ _ _ (hy ▸ h4) (by omega) v0
  rcases h5 with h5 | h5
  · cases h5.2
  obtain ⟨h5, h6⟩ := h5
  cases h6
  refine ⟨?_, a2.2.1, fun g => zLvI_M M hM (a2.2.2 g)⟩
  rcases a2.1 with ⟨e1, a3⟩ | ⟨e1, a3⟩
  · have hk : k = 0 := by
      rcases Nat.eq_zero_or_pos k with c | c
      · exact c
      · exact absurd ⟨c, e1⟩ h5
    have hM0 : M = [] := List.length_eq_zero_iff.mp (by omega)
    rw [hM0, List.append_nil]
    exact a3
  · exact zUWs_M M hM 0 (by rw [zMwd_0 hM]; exact a3)
theorem zNea_w (hB : zUso B) (hM : zMou B) (hu0 : 0 ≤ B.1) (hu1 : B.1 ≤ 1) (hn : n ≤ 600) : zUsm B.1 (zNea f n ok B) := fun a lv qt L q lv' qt' K pl h h0 v0 => by
  obtain ⟨x, h1, h2⟩ := h
  rcases h2 with h2 | ⟨q0, l, t, L', pl0, hx, h2⟩
  · cases h2.2
  have hq := zUni_w hB hu0 hu1 hn _ _ _ _ _ _ _ _ _ (hx ▸ h1) h0 v0
  rcases h2 with h2 | ⟨b, p, e, h3, h4, h5, h6⟩
  · cases h2.2; exact hq
  have hb := (zLk_l h3).2.2.2.1 rfl
  have hp := h4.1
  have he := h5.1
  rcases h6 with h6 | ⟨h6, p2, y, h7, h8, h9⟩
  · cases h6.2
  have hp2 := h7.1
  rcases h9 with h9 | ⟨q2, l2, t2, L2, pl2, hy, h9⟩
  · cases h9.2
  have m0 := zUni_m hM _ _ _ _ _ _ _ _ _ (hx ▸ h1) h0
  have hv := hq.2.1
  have hq2 := zUni_w hB hu0 hu1 hn _ _ _ _ _ _ _ _ _ (hy ▸ h8) (by omega) (by omega)
  rcases h9 with h9 | ⟨_, h9⟩
  · cases h9.2
  cases h9
  have v9 := h6.2
  have ek := zlb_k (k := 5) (x := zvl f p (e - p).toNat) (L := L') (by omega) (by omega) (by omega) (by omega)
  have hv2 := hq2.2.1
  exact ⟨zUWs_2 hq.1 hq2.1 (Or.inl ⟨Or.inl ek.1, rfl⟩) ek.2.2, by omega, fun g => zLvI_o (by omega) (hq2.2.2 (hq.2.2 g))⟩
theorem zNot_w (hB : zUso B) (hM : zMou B) (hu0 : 0 ≤ B.1) (hu1 : B.1 ≤ 1) (hn : n ≤ 600) {a lv qt : Int} {L : List Int} {q lv' qt' : Int} {K : List Int} {pl : Bool} (h : zNot f n ok B a lv qt L (some (q, lv', qt', K, pl))) (h0 : 0 ≤ a) (v0 : 0 ≤ lv) : zUWs L K (if pl = true then 0 else B.1) 0 ∧ lv ≤ lv' ∧ (zLvI L lv → zLvI K lv') := by
  obtain ⟨k, x, h1, h2⟩ := h
  have hx := zNs_b h1 h0
  rcases h2 with h2 | ⟨h2, h3, y, h4, h5⟩
  · cases h2.2.2
  rcases h5 with h5 | ⟨q0, l, t, K, pl0, hy, h5⟩
  · cases h5.2
  have a2 := zNea_w (B := zBx k B) hB hM (by show 0 ≤ (if k % 2 = 1 then 0 else B.1); split <;> omega) (by show (if k % 2 = 1 then 0 else B.1) ≤ 1; split <;> omega) hn _ _ _ _ _ _ _ _ _ (hy ▸ h4) (by omega) v0
  cases h5
  refine ⟨?_, a2.2⟩
  have a3 : zUWs L K (if k % 2 = 1 then 0 else B.1) 0 := a2.1
  by_cases c : k % 2 = 1
  · rw [if_pos c] at a3
    rw [if_pos (decide_eq_true c)]
    exact a3
  · rw [if_neg c] at a3
    rw [if_neg (fun e => c (of_decide_eq_true e))]
    exact a3
theorem zAlp_w (hB : zUso B) (hM : zMou B) (hu0 : 0 ≤ B.1) (hu1 : B.1 ≤ 1) (hn : n ≤ 600) : ∀ {k : Nat} {a lv qt : Int} {L : List Int} {q lv' qt' : Int} {L' : List Int} {pl : Bool}, zAlp f n ok B k a lv qt L (some (q, lv', qt', L', pl)) → 0 ≤ a → 0 ≤ lv → ∀ {L0 : List Int}, zUWs L0 L B.1 0 → zUWs L0 L' B.1 0 ∧ lv ≤ lv' ∧ (zLvI L lv → zLvI L' lv') := by
  intro k
  induction k with
  | zero => intro a lv qt L q lv' qt' L' pl h ha v0 L0 hs; have h2 := h.2; cases h2; exact ⟨hs, Int.le_refl _, fun g => g⟩
  | succ k ih =>
    intro a lv qt L q lv' qt' L' pl h ha v0 L0 hs
    obtain ⟨h0, p, x, h1, h2, h3⟩ := h
    have hp : a ≤ p := by
      rcases h1 with ⟨b, h1, h4⟩ | ⟨h1, h4⟩
      · have hb := zLk_b h1
        have hp := h4.1
        omega
      · omega
    rcases h3 with h3 | ⟨q0, l, t, K, pl0, hx, h3⟩
    · cases h3.2
    have hq := zNot_m hM _ _ _ _ _ _ _ _ _ (hx ▸ h2) (by omega)
    have hq2 := zNot_w hB hM hu0 hu1 hn (hx ▸ h2) (by omega) v0
    have hv := hq2.2.1
    have r := ih h3 (by omega) (by omega) (L0 := L0) (by
      by_cases c : pl0 = true
      · rw [if_pos c]
        have ek := zlb_k (k := 11) (x := 0) (L := L) (by decide) (by decide) (by decide) (by decide)
        exact zUWs_2 hs hq2.1 (Or.inr ⟨ek.1, if_pos c⟩) ek.2.2
      · rw [if_neg c]
        have ek := zlb_k (k := 8) (x := 0) (L := L) (by decide) (by decide) (by decide) (by decide)
        exact zUWs_2 hs hq2.1 (Or.inl ⟨Or.inr (Or.inl ek.1), if_neg c⟩) ek.2.2)
    refine ⟨r.1, by have := r.2.1; omega, fun g => r.2.2 ?_⟩
    by_cases c : pl0 = true
    · rw [if_pos c]
      have ek := zlb_k (k := 11) (x := 0) (L := L) (by decide) (by decide) (by decide) (by decide)
      exact zLvI_o (by omega) (hq2.2.2 g)
    · rw [if_neg c]
      have ek := zlb_k (k := 8) (x := 0) (L := L) (by decide) (by decide) (by decide) (by decide)
      exact zLvI_o (by omega) (hq2.2.2 g)
theorem zAll_w (hB : zUso B) (hM : zMou B) (hu0 : 0 ≤ B.1) (hu1 : B.1 ≤ 1) (hn : n ≤ 600) : zUsm B.1 (zAll f n ok B) := fun a lv qt L q lv' qt' L' pl h ha v0 => by
  obtain ⟨x, h1, h2⟩ := h
  rcases h2 with h2 | ⟨q0, l, t, K, pl0, k, hx, h2⟩
  · cases h2.2
  have hq := zNot_m hM _ _ _ _ _ _ _ _ _ (hx ▸ h1) ha
  have hq2 := zNot_w hB hM hu0 hu1 hn (hx ▸ h1) ha v0
  have hv := hq2.2.1
  have r := zAlp_w hB hM hu0 hu1 hn h2 (by omega) (by omega) (L0 := L) (by
    by_cases c : pl0 = true
    · rw [if_pos c]
      exact zUWs_1 hq2.1 (Or.inr (Or.inr ⟨by decide, if_pos c, rfl⟩))
    · rw [if_neg c]
      have z := hq2.1
      rw [if_neg c] at z
      exact z)
  refine ⟨r.1, by have := r.2.1; omega, fun g => r.2.2 ?_⟩
  by_cases c : pl0 = true
  · rw [if_pos c]
    exact zLvI_o (by decide) (hq2.2.2 g)
  · rw [if_neg c]
    exact hq2.2.2 g
theorem zQlp_w (hB : zUso B) (hM : zMou B) (hu0 : 0 ≤ B.1) (hu1 : B.1 ≤ 1) (hn : n ≤ 600) : ∀ {k : Nat} {a lv qt : Int} {L : List Int} {q lv' qt' : Int} {L' : List Int} {pl : Bool}, zQlp f n ok B k a lv qt L (some (q, lv', qt', L', pl)) → 0 ≤ a → 0 ≤ lv → ∀ {L0 : List Int}, zUWs L0 L B.1 0 → zUWs L0 L' B.1 0 ∧ lv ≤ lv' ∧ (zLvI L lv → zLvI L' lv') := by
  intro k
  induction k with
  | zero => intro a lv qt L q lv' qt' L' pl h ha v0 L0 hs; have h2 := h.2; cases h2; exact ⟨hs, Int.le_refl _, fun g => g⟩
  | succ k ih =>
    intro a lv qt L q lv' qt' L' pl h ha v0 L0 hs
    obtain ⟨b, p, x, h1, h4, h2, h3⟩ := h
    have hb := zLk_b h1
    have hp := h4.1
    rcases h3 with h3 | ⟨q0, l, t, K, pl0, hx, h3⟩
    · cases h3.2
    have hq := zAll_m hM _ _ _ _ _ _ _ _ _ (hx ▸ h2) (by omega)
    have hq2 := zAll_w hB hM hu0 hu1 hn _ _ _ _ _ _ _ _ _ (hx ▸ h2) (by omega) v0
    have hv := hq2.2.1
    have ek := zlb_k (k := 9) (x := 0) (L := L) (by decide) (by decide) (by decide) (by decide)
    have r := ih h3 (by omega) (by omega) (L0 := L0) (zUWs_2 hs hq2.1 (Or.inl ⟨Or.inr (Or.inr ek.1), rfl⟩) ek.2.2)
    exact ⟨r.1, by have := r.2.1; omega, fun g => r.2.2 (zLvI_o (by omega) (hq2.2.2 g))⟩
theorem zQue_w (hB : zUso B) (hM : zMou B) (hu0 : 0 ≤ B.1) (hu1 : B.1 ≤ 1) (hn : n ≤ 600) : zUsm B.1 (zQue f n ok B) := fun a lv qt L q lv' qt' L' pl h ha v0 => by
  obtain ⟨x, h1, h2⟩ := h
  rcases h2 with h2 | ⟨q0, l, t, K, pl0, k, hx, h2⟩
  · cases h2.2
  have hq := zAll_m hM _ _ _ _ _ _ _ _ _ (hx ▸ h1) ha
  have hq2 := zAll_w hB hM hu0 hu1 hn _ _ _ _ _ _ _ _ _ (hx ▸ h1) ha v0
  have hv := hq2.2.1
  have r := zQlp_w hB hM hu0 hu1 hn h2 (by omega) (by omega) hq2.1
  exact ⟨r.1, by have := r.2.1; omega, fun g => r.2.2 (hq2.2.2 g)⟩
theorem zQry_w (hn : n ≤ 600) : ∀ d : Nat, ∀ u : Int, 0 ≤ u → u ≤ 1 → zUsm u (zQry f n d u) := by
  intro d
  induction d with
  | zero => exact fun u u0 u1 => zQue_w (B := (u, fun _ _ _ _ _ _ => False)) (fun _ _ _ _ _ _ _ _ _ _ _ _ h => False.elim h) (fun _ _ _ _ _ _ _ _ _ _ h => False.elim h) u0 u1 hn
  | succ d ih => exact fun u u0 u1 => zQue_w (B := (u, zQry f n d)) ih (zQry_dm d).2 u0 u1 hn
def zPaL (f : Nat → Int32) (n : Int) (K : List Int) (lv : Int) : Prop := ∃ (a q qt : Int) (pl : Bool), zBl f n 0 a ∧ zQry f n 12 1 a 0 0 [] (some (q, lv, qt, K, pl)) ∧ zKd f n q 256
theorem zPaL_w {K : List Int} {lv : Int} (hn : n ≤ 600) (h : zPaL f n K lv) : zUWs [] K 1 0 ∧ zLvI K lv := by
  obtain ⟨a, q, qt, pl, h1, h2, h3⟩ := h
  have a0 := h1.1
  have s := zQry_w hn 12 1 (by decide) (by decide) _ _ _ _ _ _ _ _ _ h2 (by omega) (by decide)
  exact ⟨s.1, s.2.2 zLvI_0⟩
theorem zPar_w {K : List Int} (hn : n ≤ 600) (h : zPar f n K) : K = [] ∨ (zUWs [] K 1 0 ∧ ∃ lv, zLvI K lv) := by
  obtain ⟨a, x, h1, h2, h3⟩ := h
  have a0 := h1.1
  rcases h3 with h3 | ⟨q, lv, qt, K', pl, hx, h3⟩
  · exact Or.inl h3.2
  rcases h3 with h3 | h3
  · exact Or.inl h3.2
  · have s := zQry_w hn 12 1 (by decide) (by decide) _ _ _ _ _ _ _ _ _ (hx ▸ h2) (by omega) (by decide)
    rw [h3.2]
    exact Or.inr ⟨s.1, lv, s.2.2 zLvI_0⟩
end ZUG
def zNoC (wh lf rt nm : Nat → Int32) (Q : Nat → Int → Int → (Nat → Int32) → (Nat → Int32) → (Nat → Int32) → (Nat → Int32) → Prop) : Prop := ∀ (a : Nat) (u w : Int) (c l c1 l1 c2 l2 : Nat → Int32),
  ((wh a).toInt = 1 ∨ (wh a).toInt = 2 ∨ (wh a).toInt = 3 → ∀ B X : Int32, (u = 0 ∧ B.toInt = 1) ∨ (u ≠ 0 ∧ B.toInt = 0) → X.toInt = w → Q a u w c l (upd c (nm a).toNatClampNeg (vp_nar .boolean B)) (upd l (nm a).toNatClampNeg X)) ∧
  ((wh a).toInt = 4 → ∀ B : Int32, B.toInt = 0 → Q a u w c l (upd c (nm a).toNatClampNeg (vp_nar .boolean B)) l) ∧
  ((wh a).toInt = 6 → Q (lf a).toNatClampNeg u (zf6 w) c l c1 l1 → Q a u w c l c1 l1) ∧
  ((wh a).toInt = 7 → Q (lf a).toNatClampNeg u (zf7 w) c l c1 l1 → Q a u w c l c1 l1) ∧
  ((wh a).toInt = 10 → Q (lf a).toNatClampNeg 1 w c l c1 l1 → Q a u w c l c1 l1) ∧
  ((wh a).toInt = 11 → Q (lf a).toNatClampNeg u w c l c1 l1 → Q (rt a).toNatClampNeg 1 w c1 l1 c2 l2 → Q a u w c l c2 l2) ∧
  ((wh a).toInt = 5 ∨ (wh a).toInt = 8 ∨ (wh a).toInt = 9 → Q (lf a).toNatClampNeg u w c l c1 l1 → Q (rt a).toNatClampNeg u w c1 l1 c2 l2 → Q a u w c l c2 l2)
def zNoR (wh lf rt nm : Nat → Int32) (a : Nat) (u w : Int) (c l c1 l1 : Nat → Int32) : Prop := ∀ Q : Nat → Int → Int → (Nat → Int32) → (Nat → Int32) → (Nat → Int32) → (Nat → Int32) → Prop, zNoC wh lf rt nm Q → Q a u w c l c1 l1
section ZNO
variable {wh lf rt nm c l c1 l1 c2 l2 : Nat → Int32} {u w u' w' : Int} {A Z : Int32}
theorem zNoR_1 {I J B X : Int32} (eZ : Z = wh A.toNatClampNeg) (hk : Z.toInt = 1 ∨ Z.toInt = 2 ∨ Z.toInt = 3) (eI : I = nm A.toNatClampNeg) (eJ : J = nm A.toNatClampNeg) (hB : (u = 0 ∧ B.toInt = 1) ∨ (u ≠ 0 ∧ B.toInt = 0)) (hX : X.toInt = w) (e1 : c1 = upd c I.toNatClampNeg (vp_nar .boolean B)) (e2 : l1 = upd l J.toNatClampNeg X) : zNoR wh lf rt nm A.toNatClampNeg u w c l c1 l1 := fun Q h => by
  rw [e1, e2, eI, eJ]
  exact (h _ u w c l c l c l).1 (by rw [← eZ]; exact hk) B X hB hX
theorem zNoR_4 {I B : Int32} (eZ : Z = wh A.toNatClampNeg) (hk : Z.toInt = 4) (eI : I = nm A.toNatClampNeg) (hB : B.toInt = 0) (e1 : c1 = upd c I.toNatClampNeg (vp_nar .boolean B)) : zNoR wh lf rt nm A.toNatClampNeg u w c l c1 l := fun Q h => by
  rw [e1, eI]
  exact (h _ u w c l c l c l).2.1 (by rw [← eZ]; exact hk) B hB
theorem zNoR_6 {F : Int32} (eZ : Z = wh A.toNatClampNeg) (eF : F = lf A.toNatClampNeg) (h1 : zNoR wh lf rt nm F.toNatClampNeg u' w' c l c1 l1) (hk : (Z.toInt = 6 ∧ u' = u ∧ w' = zf6 w) ∨ (Z.toInt = 7 ∧ u' = u ∧ w' = zf7 w) ∨ (Z.toInt = 10 ∧ u' = 1 ∧ w' = w)) : zNoR wh lf rt nm A.toNatClampNeg u w c l c1 l1 := fun Q h => by
  have g := h1 Q h
  rw [eF] at g
  have r := h A.toNatClampNeg u w c l c1 l1 c1 l1
  rcases hk with ⟨k1, k2, k3⟩ | ⟨k1, k2, k3⟩ | ⟨k1, k2, k3⟩
  · rw [k2, k3] at g
    exact r.2.2.1 (by rw [← eZ]; exact k1) g
  · rw [k2, k3] at g
    exact r.2.2.2.1 (by rw [← eZ]; exact k1) g
  · rw [k2, k3] at g
    exact r.2.2.2.2.1 (by rw [← eZ]; exact k1) g
theorem zNoR_2 {F G : Int32} (eZ : Z = wh A.toNatClampNeg) (eF : F = lf A.toNatClampNeg) (h1 : zNoR wh lf rt nm F.toNatClampNeg u w c l c1 l1) (eG : G = rt A.toNatClampNeg) (h2 : zNoR wh lf rt nm G.toNatClampNeg u' w c1 l1 c2 l2) (hk : (Z.toInt = 11 ∧ u' = 1) ∨ ((Z.toInt = 5 ∨ Z.toInt = 8 ∨ Z.toInt = 9) ∧ u' = u)) : zNoR wh lf rt nm A.toNatClampNeg u w c l c2 l2 := fun Q h => by
  have g1 := h1 Q h
  have g2 := h2 Q h
  rw [eF] at g1
  rw [eG] at g2
  have r := h A.toNatClampNeg u w c l c1 l1 c2 l2
  rcases hk with ⟨k1, k2⟩ | ⟨k1, k2⟩
  · rw [k2] at g2
    exact r.2.2.2.2.2.1 (by rw [← eZ]; exact k1) g1 g2
  · rw [k2] at g2
    exact r.2.2.2.2.2.2 (by rw [← eZ]; exact k1) g1 g2
theorem zf6_e {w z : Int} (h : ((w = 0 ∨ w = 1) ∧ z = 1) ∨ (¬ (w = 0 ∨ w = 1) ∧ z = 3)) : z = zf6 w := by
  unfold zf6
  rcases h with h | h
  · rw [if_pos h.1]; exact h.2
  · rw [if_neg h.1]; exact h.2
theorem zf7_e {w z : Int} (h : ((w = 0 ∨ w = 2) ∧ z = 2) ∨ (¬ (w = 0 ∨ w = 2) ∧ z = 3)) : z = zf7 w := by
  unfold zf7
  rcases h with h | h
  · rw [if_pos h.1]; exact h.2
  · rw [if_neg h.1]; exact h.2
end ZNO
def zNoQ (K : List Int) (U W : Nat → Int) (T : Nat → Nat) : Nat → Int → Int → (Nat → Int32) → (Nat → Int32) → (Nat → Int32) → (Nat → Int32) → Prop := fun a u w c l c1 l1 => a < K.length → ((u = 0 ∧ U a = 1) ∨ (u = 1 ∧ U a = 0)) → W a = w → T a ≤ a ∧ (∀ x : Nat, (∀ i : Nat, T a ≤ i → i ≤ a → K.getD i 0 / 1000 % 1000 ≤ 4 → (K.getD i 0 % 1000).toNat ≠ x) → c1 x = c x ∧ l1 x = l x) ∧ ∀ i : Nat, T a ≤ i → i ≤ a → K.getD i 0 / 1000 % 1000 ≤ 4 → (K.getD i 0 / 1000 % 1000 ≤ 3 → (c1 (K.getD i 0 % 1000).toNat).toInt = U i ∧ (l1 (K.getD i 0 % 1000).toNat).toInt = W i) ∧ (K.getD i 0 / 1000 % 1000 = 4 → (c1 (K.getD i 0 % 1000).toNat).toInt = 0)
section ZNQ
variable {K : List Int} {s : zqMs} {n lv : Int} {U W : Nat → Int} {T : Nat → Nat}
theorem zNoQ_d (hI : zLvI K lv) {i j : Nat} (hij : i < j) (hj : j < K.length) (k1 : K.getD i 0 / 1000 % 1000 ≤ 4) (k2 : K.getD j 0 / 1000 % 1000 ≤ 4) : (K.getD j 0 % 1000).toNat ≠ (K.getD i 0 % 1000).toNat := fun q => by
  have a := hI.2.1 i j hij hj k1 k2
  have b := (hI.1 i (by omega) k1).1
  omega
theorem zNoQ_C (hC : zCm s n K) (hg : zUWg 0 K 1 0 U W T) (hI : zLvI K lv) : zNoC (s.1 1) (s.1 2) (s.1 3) (s.1 4) (zNoQ K U W T) := by
  intro a u w c l c1 l1 c2 l2
  have nd : a < K.length → zNdk s a (K.getD a 0) := fun h => hC.2.2 a h
  have ul := fun (h : a < K.length) => hg.2.2.2 a (Nat.zero_le a) h
  refine ⟨fun hk B X hB hX ha hu hw => ?_, fun hk B hB ha hu hw => ?_, fun hk h ha hu hw => ?_, fun hk h ha hu hw => ?_, fun hk h ha hu hw => ?_, fun hk h1 h2 ha hu hw => ?_, fun hk h1 h2 ha hu hw => ?_⟩
  · have n1 := (nd ha).2.1
    have n2 := (nd ha).2.2.1
    have ek : K.getD a 0 / 1000 % 1000 ≤ 3 := by omega
    have eT := (ul ha).1.1 (by omega)
    have eN : (s.1 4 a).toNatClampNeg = (K.getD a 0 % 1000).toNat := by rw [← n2]; rfl
    rw [eN, eT]
    refine ⟨Nat.le_refl a, fun x hx => ?_, fun i i1 i2 k4 => ?_⟩
    · have ne := hx a (Nat.le_refl a) (Nat.le_refl a) (by omega)
      exact ⟨pk_un (fun q => ne q.symm), pk_un (fun q => ne q.symm)⟩
    · have ei : i = a := by omega
      subst ei
      refine ⟨fun _ => ?_, fun c => by omega⟩
      rw [pk_us, pk_us, znar (by omega) (by omega)]
      exact ⟨by omega, by omega⟩
  · have n1 := (nd ha).2.1
    have n2 := (nd ha).2.2.1
    have eT := (ul ha).1.1 (by omega)
    have eN : (s.1 4 a).toNatClampNeg = (K.getD a 0 % 1000).toNat := by rw [← n2]; rfl
    rw [eN, eT]
    refine ⟨Nat.le_refl a, fun x hx => ?_, fun i i1 i2 k4 => ?_⟩
    · have ne := hx a (Nat.le_refl a) (Nat.le_refl a) (by omega)
      exact ⟨pk_un (fun q => ne q.symm), rfl⟩
    · have ei : i = a := by omega
      subst ei
      refine ⟨fun c => by omega, fun _ => ?_⟩
      rw [pk_us, znar (by omega) (by omega)]
      exact hB
  · have n1 := (nd ha).2.1
    have n3 := (nd ha).2.2.2.1 (by omega)
    obtain ⟨z1, z2, z3⟩ := (ul ha).1.2.2.2.1 (by omega)
    have a1 := (ul ha).2.2.1 (by omega)
    have eL : (s.1 2 a).toNatClampNeg = a - 1 := by
      have q : (s.1 2 a).toNatClampNeg = (s.1 2 a).toInt.toNat := rfl
      rw [q, n3]
      omega
    rw [eL] at h
    obtain ⟨g0, g1, g2⟩ := h (by omega) (by rw [z1]; exact hu) (by rw [z2, hw])
    refine ⟨by omega, fun x hx => g1 x (fun i i1 i2 k => hx i (by omega) (by omega) k), fun i i1 i2 k => ?_⟩
    by_cases c : i = a
    · rw [c] at k; omega
    · exact g2 i (by omega) (by omega) k
  · have n1 := (nd ha).2.1
    have n3 := (nd ha).2.2.2.1 (by omega)
    obtain ⟨z1, z2, z3⟩ := (ul ha).1.2.2.2.2.1 (by omega)
    have a1 := (ul ha).2.2.1 (by omega)
    have eL : (s.1 2 a).toNatClampNeg = a - 1 := by
      have q : (s.1 2 a).toNatClampNeg = (s.1 2 a).toInt.toNat := rfl
      rw [q, n3]
      omega
    rw [eL] at h
    obtain ⟨g0, g1, g2⟩ := h (by omega) (by rw [z1]; exact hu) (by rw [z2, hw])
    refine ⟨by omega, fun x hx => g1 x (fun i i1 i2 k => hx i (by omega) (by omega) k), fun i i1 i2 k => ?_⟩
    by_cases c : i = a
    · rw [c] at k; omega
    · exact g2 i (by omega) (by omega) k
  · have n1 := (nd ha).2.1
    have n3 := (nd ha).2.2.2.1 (by omega)
    obtain ⟨z1, z2, z3⟩ := (ul ha).1.2.2.2.2.2.1 (by omega)
    have a1 := (ul ha).2.2.1 (by omega)
    have eL : (s.1 2 a).toNatClampNeg = a - 1 := by
      have q : (s.1 2 a).toNatClampNeg = (s.1 2 a).toInt.toNat := rfl
      rw [q, n3]
      omega
    rw [eL] at h
    obtain ⟨g0, g1, g2⟩ := h (by omega) (Or.inr ⟨rfl, z1⟩) (by rw [z2, hw])
    refine ⟨by omega, fun x hx => g1 x (fun i i1 i2 k => hx i (by omega) (by omega) k), fun i i1 i2 k => ?_⟩
    by_cases c : i = a
    · rw [c] at k; omega
    · exact g2 i (by omega) (by omega) k
  · have n1 := (nd ha).2.1
    obtain ⟨z1, z2, z3, z4, z5, z6⟩ := (ul ha).1.2.2.2.2.2.2.2 (by omega)
    have d3 := (ul ha).2.2.2 (by omega)
    have m4 := (nd ha).2.2.2.2.1 (by omega)
    have eL : (s.1 2 a).toNatClampNeg = (K.getD a 0 / 1000000 - 1).toNat := by
      have q : (s.1 2 a).toNatClampNeg = (s.1 2 a).toInt.toNat := rfl
      rw [q, m4.1]
    have eR : (s.1 3 a).toNatClampNeg = a - 1 := by
      have q : (s.1 3 a).toNatClampNeg = (s.1 3 a).toInt.toNat := rfl
      rw [q, m4.2]
      omega
    rw [eL] at h1
    rw [eR] at h2
    obtain ⟨g0, g1, g2⟩ := h1 (by omega) (by rw [z1]; exact hu) (by rw [z2, hw])
    obtain ⟨f0, f1, f2⟩ := h2 (by omega) (Or.inr ⟨rfl, z3⟩) (by rw [z4, hw])
    refine ⟨by omega, fun x hx => ?_, fun i i1 i2 k => ?_⟩
    · have p := f1 x (fun i i1 i2 k => hx i (by omega) (by omega) k)
      have q := g1 x (fun i i1 i2 k => hx i (by omega) (by omega) k)
      exact ⟨p.1.trans q.1, p.2.trans q.2⟩
    · by_cases c : i = a
      · rw [c] at k; omega
      · by_cases c3 : i ≤ (K.getD a 0 / 1000000 - 1).toNat
        · have p := f1 (K.getD i 0 % 1000).toNat (fun j j1 j2 k2 => zNoQ_d hI (by omega) (by omega) k k2)
          rw [p.1, p.2]
          exact g2 i (by omega) c3 k
        · exact f2 i (by omega) (by omega) k
  · have n1 := (nd ha).2.1
    obtain ⟨z1, z2, z3, z4, z5, z6⟩ := (ul ha).1.2.2.2.2.2.2.1 (by omega)
    have d3 := (ul ha).2.2.2 (by omega)
    have m4 := (nd ha).2.2.2.2.1 (by omega)
    have eL : (s.1 2 a).toNatClampNeg = (K.getD a 0 / 1000000 - 1).toNat := by
      have q : (s.1 2 a).toNatClampNeg = (s.1 2 a).toInt.toNat := rfl
      rw [q, m4.1]
    have eR : (s.1 3 a).toNatClampNeg = a - 1 := by
      have q : (s.1 3 a).toNatClampNeg = (s.1 3 a).toInt.toNat := rfl
      rw [q, m4.2]
      omega
    rw [eL] at h1
    rw [eR] at h2
    obtain ⟨g0, g1, g2⟩ := h1 (by omega) (by rw [z1]; exact hu) (by rw [z2, hw])
    obtain ⟨f0, f1, f2⟩ := h2 (by omega) (by rw [z3]; exact hu) (by rw [z4, hw])
    refine ⟨by omega, fun x hx => ?_, fun i i1 i2 k => ?_⟩
    · have p := f1 x (fun i i1 i2 k => hx i (by omega) (by omega) k)
      have q := g1 x (fun i i1 i2 k => hx i (by omega) (by omega) k)
      exact ⟨p.1.trans q.1, p.2.trans q.2⟩
    · by_cases c : i = a
      · rw [c] at k; omega
      · by_cases c3 : i ≤ (K.getD a 0 / 1000000 - 1).toNat
        · have p := f1 (K.getD i 0 % 1000).toNat (fun j j1 j2 k2 => zNoQ_d hI (by omega) (by omega) k k2)
          rw [p.1, p.2]
          exact g2 i (by omega) c3 k
        · exact f2 i (by omega) (by omega) k
theorem zNo_e {c l c1 l1 : Nat → Int32} (hC : zCm s n K) (hs : zUWs [] K 1 0) (hI : zLvI K lv) (h : zNoR (s.1 1) (s.1 2) (s.1 3) (s.1 4) (K.length - 1) 0 0 c l c1 l1) : ∀ e ∈ K, (1 ≤ e / 1000 % 1000 → e / 1000 % 1000 ≤ 3 → (c1 (e % 1000).toNat).toInt = e / 1000000000 / 4 ∧ (l1 (e % 1000).toNat).toInt = zsw (e / 1000000000 % 4)) ∧ (e / 1000 % 1000 = 4 → (c1 (e % 1000).toNat).toInt = 0) := fun e he => by
  obtain ⟨hl, _, U, W, T, hg⟩ := hs
  have hl' : 0 < K.length := hl
  obtain ⟨_, _, g2⟩ := h (zNoQ K U W T) (zNoQ_C hC hg hI) (by omega) (Or.inl ⟨rfl, hg.1⟩) hg.2.1
  obtain ⟨i, hi, ei⟩ := List.mem_iff_getElem.mp he
  have ei2 : K.getD i 0 = e := by rw [← ei]; simp [hi]
  have ul := (hg.2.2.2 i (Nat.zero_le i) hi).1
  rw [ei2] at ul
  have q := g2 i (by rw [hg.2.2.1]; exact Nat.zero_le i) (by omega)
  rw [ei2] at q
  refine ⟨fun k1 k3 => ?_, fun k4 => (q (by omega)).2 k4⟩
  have r := (q (by omega)).1 k3
  have v := ul.2.1 k3
  exact ⟨r.1.trans v.1.symm, r.2.trans v.2.symm⟩
end ZNQ
def zWtR (P : Nat → Prop) : Nat → Int → Prop
  | 0, w => w = 0
  | k + 1, w => (P k ∧ zWtR P k (w - (if k < 512 then 3 else 1))) ∨ (¬ P k ∧ zWtR P k w)
def zCnR (P : Nat → Prop) : Nat → Int → Prop
  | 0, w => w = 0
  | k + 1, w => (P k ∧ zCnR P k (w - 1)) ∨ (¬ P k ∧ zCnR P k w)
section ZWR
variable {P P' : Nat → Prop} {w w' : Int}
theorem zWtR_u : ∀ {k : Nat} {w w' : Int}, zWtR P k w → zWtR P k w' → w = w' := by
  intro k
  induction k with
  | zero => intro w w' h h'; have a : w = 0 := h; have b : w' = 0 := h'; omega
  | succ k ih =>
    intro w w' h h'
    rcases h with ⟨h1, h2⟩ | ⟨h1, h2⟩ <;> rcases h' with ⟨g1, g2⟩ | ⟨g1, g2⟩
    · have := ih h2 g2; omega
    · exact absurd h1 g1
    · exact absurd g1 h1
    · exact ih h2 g2
theorem zWtR_c : ∀ {k : Nat} {w : Int}, zWtR P k w → (∀ j : Nat, j < k → (P j ↔ P' j)) → zWtR P' k w := by
  intro k
  induction k with
  | zero => intro w h _; exact h
  | succ k ih =>
    intro w h hP
    rcases h with ⟨h1, h2⟩ | ⟨h1, h2⟩
    · exact Or.inl ⟨(hP k (by omega)).mp h1, ih h2 (fun j hj => hP j (by omega))⟩
    · exact Or.inr ⟨fun q => h1 ((hP k (by omega)).mpr q), ih h2 (fun j hj => hP j (by omega))⟩
theorem zWtR_k {k : Nat} (h : zWtR P k w) : ∀ j : Nat, (∀ i : Nat, k ≤ i → i < k + j → ¬ P i) → zWtR P (k + j) w := by
  intro j
  induction j with
  | zero => intro _; exact h
  | succ j ih => intro hP; exact Or.inr ⟨hP (k + j) (by omega) (by omega), ih (fun i i1 i2 => hP i i1 (by omega))⟩
theorem zWtR_p : ∀ {k : Nat} {w : Int}, zWtR P k w → 0 ≤ w ∧ (0 < w ↔ ∃ j : Nat, j < k ∧ P j) := by
  intro k
  induction k with
  | zero => intro w h; have a : w = 0 := h; exact ⟨by omega, fun q => by omega, fun ⟨j, hj, _⟩ => by omega⟩
  | succ k ih =>
    intro w h
    rcases h with ⟨h1, h2⟩ | ⟨h1, h2⟩
    · have a := (ih h2).1
      have pos : 0 < w := by split at a <;> omega
      exact ⟨by omega, fun _ => ⟨k, by omega, h1⟩, fun _ => pos⟩
    · obtain ⟨a, b⟩ := ih h2
      refine ⟨a, fun q => ?_, fun ⟨j, hj, hp⟩ => ?_⟩
      · obtain ⟨j, j1, j2⟩ := b.mp q
        exact ⟨j, by omega, j2⟩
      · by_cases c : j = k
        · rw [c] at hp; exact absurd hp h1
        · exact b.mpr ⟨j, by omega, hp⟩
theorem zCnR_u : ∀ {k : Nat} {w w' : Int}, zCnR P k w → zCnR P k w' → w = w' := by
  intro k
  induction k with
  | zero => intro w w' h h'; have a : w = 0 := h; have b : w' = 0 := h'; omega
  | succ k ih =>
    intro w w' h h'
    rcases h with ⟨h1, h2⟩ | ⟨h1, h2⟩ <;> rcases h' with ⟨g1, g2⟩ | ⟨g1, g2⟩
    · have := ih h2 g2; omega
    · exact absurd h1 g1
    · exact absurd g1 h1
    · exact ih h2 g2
theorem zCnR_c : ∀ {k : Nat} {w : Int}, zCnR P k w → (∀ j : Nat, j < k → (P j ↔ P' j)) → zCnR P' k w := by
  intro k
  induction k with
  | zero => intro w h _; exact h
  | succ k ih =>
    intro w h hP
    rcases h with ⟨h1, h2⟩ | ⟨h1, h2⟩
    · exact Or.inl ⟨(hP k (by omega)).mp h1, ih h2 (fun j hj => hP j (by omega))⟩
    · exact Or.inr ⟨fun q => h1 ((hP k (by omega)).mpr q), ih h2 (fun j hj => hP j (by omega))⟩
theorem zCnR_b : ∀ {k : Nat} {w : Int}, zCnR P k w → 0 ≤ w ∧ w ≤ (k : Int) := by
  intro k
  induction k with
  | zero => intro w h; have a : w = 0 := h; omega
  | succ k ih =>
    intro w h
    rcases h with ⟨h1, h2⟩ | ⟨h1, h2⟩
    · have := ih h2; omega
    · have := ih h2; omega
end ZWR
def zWgP (tt bd : Int) (F : Int → Prop) : Nat → Prop := fun p => zPrd tt bd p ∧ F (p : Int)
section ZWG
variable {tt bd w w' k k' r : Int} {F : Int → Prop}
theorem zWgP_0 (hw : w = 0) (hk : k = 0) : zWtR (zWgP tt bd F) k.toNat w := by subst hw; subst hk; rfl
theorem zWgP_y (h : zWtR (zWgP tt bd F) k.toNat w) (k0 : 0 ≤ k) (hF : F k) (hp : k < tt ∨ (512 ≤ k ∧ k < 512 + bd)) (hw : (k < 512 ∧ w' = w + 3) ∨ (512 ≤ k ∧ w' = w + 1)) (hk : k' = k + 1) : zWtR (zWgP tt bd F) k'.toNat w' := by
  rw [show k'.toNat = k.toNat + 1 from by omega]
  refine Or.inl ⟨⟨?_, by rw [show ((k.toNat : Nat) : Int) = k from by omega]; exact hF⟩, ?_⟩
  · rcases hp with c | c
    · exact Or.inl (by omega)
    · exact Or.inr ⟨by omega, by omega⟩
  · rcases hw with c | c
    · rw [if_pos (by omega), show w' - 3 = w from by omega]; exact h
    · rw [if_neg (by omega), show w' - 1 = w from by omega]; exact h
theorem zWgP_n (h : zWtR (zWgP tt bd F) k.toNat w) (k0 : 0 ≤ k) (hF : ¬ F k) (hw : w' = w) (hk : k' = k + 1) : zWtR (zWgP tt bd F) k'.toNat w' := by
  rw [show k'.toNat = k.toNat + 1 from by omega, hw]
  exact Or.inr ⟨fun q => hF (by have q2 := q.2; rw [show ((k.toNat : Nat) : Int) = k from by omega] at q2; exact q2), h⟩
theorem zWgP_m (h : zWtR (zWgP tt bd F) k.toNat w) (h1 : k ≤ tt) (h2 : tt ≤ k) (t0 : 0 ≤ tt) (t5 : tt ≤ 512) (hw : w' = w) (hk : k' = 512) : zWtR (zWgP tt bd F) k'.toNat w' := by
  rw [hw, hk, show (512 : Int).toNat = k.toNat + (512 - k.toNat) from by omega]
  exact zWtR_k h _ (fun i i1 i2 q => by rcases q.1 with c | c <;> omega)
theorem zWgP_e (h : zWtR (zWgP tt bd F) k.toNat w) (h1 : k ≤ 512 + bd) (h2 : 512 + bd ≤ k) (t5 : tt ≤ 512) (b0 : 0 ≤ bd) (b5 : bd ≤ 512) (hr : r = w) : zWtR (zWgP tt bd F) 1024 r := by
  rw [hr, show (1024 : Nat) = k.toNat + (1024 - k.toNat) from by omega]
  exact zWtR_k h _ (fun i i1 i2 q => by rcases q.1 with c | c <;> omega)
end ZWG
def zBst (P : Nat → Prop) : Nat → Int → Int → Prop
  | 0, b, m => b = -1 ∧ m = 0
  | k + 1, b, m => (P k ∧ ∃ c b0 m0 : Int, zCnR (fun j => P (k + j)) 10 c ∧ zBst P k b0 m0 ∧ ((m0 < c ∧ b = (k : Int) ∧ m = c) ∨ (c ≤ m0 ∧ b = b0 ∧ m = m0))) ∨ (¬ P k ∧ zBst P k b m)
section ZBS
variable {P P' : Nat → Prop}
theorem zBst_u : ∀ {k : Nat} {b m b' m' : Int}, zBst P k b m → zBst P k b' m' → b = b' ∧ m = m' := by
  intro k
  induction k with
  | zero => intro b m b' m' h h'; have a : b = -1 ∧ m = 0 := h; have c : b' = -1 ∧ m' = 0 := h'; omega
  | succ k ih =>
    intro b m b' m' h h'
    rcases h with ⟨h1, c, b0, m0, h2, h3, h4⟩ | ⟨h1, h2⟩ <;> rcases h' with ⟨g1, c', b1, m1, g2, g3, g4⟩ | ⟨g1, g2⟩
    · have e1 := zCnR_u h2 g2
      have e2 := ih h3 g3
      omega
    · exact absurd h1 g1
    · exact absurd g1 h1
    · exact ih h2 g2
theorem zBst_c : ∀ {k : Nat} {b m : Int}, zBst P k b m → (∀ j : Nat, j < k + 10 → (P j ↔ P' j)) → zBst P' k b m := by
  intro k
  induction k with
  | zero => intro b m h _; exact h
  | succ k ih =>
    intro b m h hP
    rcases h with ⟨h1, c, b0, m0, h2, h3, h4⟩ | ⟨h1, h2⟩
    · exact Or.inl ⟨(hP k (by omega)).mp h1, c, b0, m0, zCnR_c h2 (fun j hj => hP (k + j) (by omega)), ih h3 (fun j hj => hP j (by omega)), h4⟩
    · exact Or.inr ⟨fun q => h1 ((hP k (by omega)).mpr q), ih h2 (fun j hj => hP j (by omega))⟩
theorem zBst_k {k : Nat} {b m : Int} (h : zBst P k b m) : ∀ j : Nat, (∀ i : Nat, k ≤ i → i < k + j → ¬ P i) → zBst P (k + j) b m := by
  intro j
  induction j with
  | zero => intro _; exact h
  | succ j ih => intro hP; exact Or.inr ⟨hP (k + j) (by omega) (by omega), ih (fun i i1 i2 => hP i i1 (by omega))⟩
theorem zBst_b : ∀ {k : Nat} {b m : Int}, zBst P k b m → -1 ≤ b ∧ b < (k : Int) ∧ 0 ≤ m ∧ m ≤ 10 := by
  intro k
  induction k with
  | zero => intro b m h; have a : b = -1 ∧ m = 0 := h; omega
  | succ k ih =>
    intro b m h
    rcases h with ⟨h1, c, b0, m0, h2, h3, h4⟩ | ⟨h1, h2⟩
    · have := ih h3
      have := zCnR_b h2
      omega
    · have := ih h2
      omega
end ZBS
def zFlI (row : Nat → Int32) (b m p i : Int) : Prop := (p = -1 ∧ zBst (fun q => q < 832 ∧ zpb row q = true) 832 b m) ∨ (0 ≤ p ∧ p < 832 ∧ zpb row p.toNat = true ∧ i ≤ p ∧ zBst (fun q => q < 832 ∧ zpb row q = true) p.toNat b m)
def zTen (row : Nat → Int32) (p r : Int) : Prop := zCnR (fun j => p.toNat + j < 832 ∧ zpb row (p.toNat + j) = true) 10 r
section ZFL
variable {row : Nat → Int32} {b m p i b' m' p' i' c fr : Int}
theorem zFlI_0 (h : zNf row fr p) (hf : fr = 0) (hb : b = -1) (hm : m = 0) (hi : i = 0) : zFlI row b m p i := by
  subst hf; subst hb; subst hm; subst hi
  have z : zBst (fun q => q < 832 ∧ zpb row q = true) 0 (-1) 0 := ⟨rfl, rfl⟩
  rcases h (by decide) with ⟨h1, h2⟩ | ⟨h1, h2, h3, h4⟩
  · refine Or.inl ⟨h1, ?_⟩
    have k := zBst_k z 832 (fun q _ q2 w => by have e := h2 q (by omega) (by omega); rw [e] at w; exact absurd w.2 (by decide))
    rw [Nat.zero_add] at k
    exact k
  · refine Or.inr ⟨h1, h2, h3, h1, ?_⟩
    have k := zBst_k z p.toNat (fun q _ q2 w => by have e := h4 q (by omega) (by omega); rw [e] at w; exact absurd w.2 (by decide))
    rw [Nat.zero_add] at k
    exact k
theorem zFlI_s (h : zFlI row b m p i) (hp : p ≠ -1) (ht : zTen row p c) (hn : zNf row fr p') (hf : fr = p + 1) (hE : (m < c ∧ b' = p ∧ m' = c) ∨ (c ≤ m ∧ b' = b ∧ m' = m)) (hi : i' = i + 1) : zFlI row b' m' p' i' := by
  rcases h with ⟨h1, _⟩ | ⟨h1, h2, h3, h4, h5⟩
  · exact absurd h1 hp
  have z : zBst (fun q => q < 832 ∧ zpb row q = true) (p.toNat + 1) b' m' := by
    refine Or.inl ⟨⟨by omega, h3⟩, c, b, m, ht, h5, ?_⟩
    rcases hE with e | e
    · exact Or.inl ⟨e.1, by omega, e.2.2⟩
    · exact Or.inr e
  rcases hn (by omega) with ⟨g1, g2⟩ | ⟨g1, g2, g3, g4⟩
  · refine Or.inl ⟨g1, ?_⟩
    have k := zBst_k z (832 - (p.toNat + 1)) (fun q q1 q2 w => by have e := g2 q (by omega) (by omega); rw [e] at w; exact absurd w.2 (by decide))
    rw [show p.toNat + 1 + (832 - (p.toNat + 1)) = 832 from by omega] at k
    exact k
  · refine Or.inr ⟨by omega, g2, g3, by omega, ?_⟩
    have k := zBst_k z (p'.toNat - (p.toNat + 1)) (fun q q1 q2 w => by have e := g4 q (by omega) (by omega); rw [e] at w; exact absurd w.2 (by decide))
    rw [show p.toNat + 1 + (p'.toNat - (p.toNat + 1)) = p'.toNat from by omega] at k
    exact k
theorem zFlI_e {r : Int} (h : zFlI row b m p i) (hx : 832 ≤ i ∨ p = -1) (hr : r = b) : ∃ m : Int, zBst (fun q => q < 832 ∧ zpb row q = true) 832 r m := by
  rcases h with ⟨_, h2⟩ | ⟨h1, h2, h3, h4, h5⟩
  · exact ⟨m, by rw [hr]; exact h2⟩
  · omega
end ZFL
