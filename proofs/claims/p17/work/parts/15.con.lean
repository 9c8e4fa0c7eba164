def zWdr (s : Nat → Int64) (rk : Nat → Int32) (a : Nat) : Int := (s (rk a).toInt.toNat).toInt
def zPgv (fc nx : Nat → Int32) (B : Nat → List Bool) (v : Nat → Int32) (T : Nat → Nat → Int) (w : Int) (D d : Nat) : Prop := zPg fc nx B (v 1).toInt (v 2).toInt (v 3).toInt (v 4).toInt (v 5).toInt (v 6).toInt (v 7).toInt (v 8).toInt T w D d 0
def zPlr (hp : Nat) (rf : Nat → Option Nat) (pl : va_W) (op : Int) (s : Nat → Int64) (rk fc nx : Nat → Int32) (B : Nat → List Bool) (T : Nat → Nat → Int) (D : Nat) (F : Nat → Nat) : Prop := ∀ a : Nat, (a : Int) < op → ∃ (ad : Nat) (v : Nat → Int32), rf a = some ad ∧ ((ad, zRc hp v) : Nat × va_E) ∈ pl ∧ zPgv fc nx B v T (zWdr s rk a) D (F a)
def zIj (rf : Nat → Option Nat) : Prop := ∀ i j a : Nat, i < 400 → j < 400 → rf i = some a → rf j = some a → i = j
theorem zRc_i {hp hp' : Nat} {v v' : Nat → Int32} (h : zRc hp v = zRc hp' v') : ∀ k : Nat, 1 ≤ k → k ≤ 8 → v k = v' k := by
  have h1 : (8, mX8 hp v) = ((8, mX8 hp' v') : Nat × List Value) := Sum.inr.inj h
  have h2 := (Prod.mk.inj h1).2
  have g : ∀ k : Nat, (mX8 hp v)[k]? = (mX8 hp' v')[k]? := fun k => by rw [h2]
  have e : ∀ {x y : Int32}, (some (Value.int x) : Option Value) = some (Value.int y) → x = y := fun q => Value.int.inj (Option.some.inj q)
  intro k k1 k8
  have : k = 1 ∨ k = 2 ∨ k = 3 ∨ k = 4 ∨ k = 5 ∨ k = 6 ∨ k = 7 ∨ k = 8 := by omega
  rcases this with c | c | c | c | c | c | c | c <;> subst c
  · exact e (g 1)
  · exact e (g 2)
  · exact e (g 3)
  · exact e (g 4)
  · exact e (g 5)
  · exact e (g 6)
  · exact e (g 7)
  · exact e (g 8)
theorem zPgv_c {fc nx : Nat → Int32} {B : Nat → List Bool} {v v' : Nat → Int32} {T : Nat → Nat → Int} {w : Int} {D d : Nat} (h : zPgv fc nx B v T w D d) (e : ∀ k : Nat, 1 ≤ k → k ≤ 8 → v k = v' k) : zPgv fc nx B v' T w D d := by
  unfold zPgv at h ⊢
  rw [← e 1 (by decide) (by decide), ← e 2 (by decide) (by decide), ← e 3 (by decide) (by decide), ← e 4 (by decide) (by decide), ← e 5 (by decide) (by decide), ← e 6 (by decide) (by decide), ← e 7 (by decide) (by decide), ← e 8 (by decide) (by decide)]
  exact h
theorem zD_u {A : Nat → Prop} {X pl : va_W} {a : Nat} {e e' : va_E} (hD : va_D A (X ++ pl)) (h : ((a, e) : Nat × va_E) ∈ pl) (h' : ((a, e') : Nat × va_E) ∈ pl) : e = e' := by
  obtain ⟨i, hi⟩ := List.getElem?_of_mem (List.mem_append_right X h)
  obtain ⟨j, hj⟩ := List.getElem?_of_mem (List.mem_append_right X h')
  have q := hD.1 i j _ _ hi hj rfl
  subst q
  exact (Prod.mk.inj (Option.some.inj (hi.symm.trans hj))).2
section ZPL
variable {A : Nat → Prop} {X pl p q : va_W} {hp : Nat} {rf : Nat → Option Nat} {op : Int} {s : Nat → Int64} {rk fc nx : Nat → Int32} {B : Nat → List Bool} {T : Nat → Nat → Int} {D i ad : Nat} {F F' : Nat → Nat} {v v' : Nat → Int32}
theorem zPlr_g (h : zPlr hp rf pl op s rk fc nx B T D F) (hi : (i : Int) < op) (hr : rf i = some ad) (hD : va_D A (X ++ pl)) (hm : ((ad, zRc hp v) : Nat × va_E) ∈ pl) : zPgv fc nx B v T (zWdr s rk i) D (F i) := by
  obtain ⟨b, u, h1, h2, h3⟩ := h i hi
  have e : b = ad := Option.some.inj (h1.symm.trans hr)
  subst e
  exact zPgv_c h3 (zRc_i (zD_u hD h2 hm))
theorem zPlr_p (h : zPlr hp rf pl op s rk fc nx B T D F) (hj : zIj rf) (hi : i < 400) (ho : op ≤ 400) (hr : rf i = some ad) (e : pl = p ++ (ad, zRc hp v) :: q) (hv : zPgv fc nx B v' T (zWdr s rk i) D (F' i)) (hF : ∀ a : Nat, a ≠ i → (a : Int) < op → F' a = F a) : zPlr hp rf ((ad, zRc hp v') :: (p ++ q)) op s rk fc nx B T D F' := fun a ha => by
  by_cases c : a = i
  · subst c
    exact ⟨ad, v', hr, List.mem_cons_self, hv⟩
  · obtain ⟨b, u, h1, h2, h3⟩ := h a ha
    have ne : b ≠ ad := fun d => c (hj a i ad (by omega) hi (by rw [← d]; exact h1) hr)
    subst e
    refine ⟨b, u, h1, List.mem_cons_of_mem _ (zmemx h2 (fun h4 => ne (congrArg Prod.fst h4))), ?_⟩
    rw [hF a c ha]
    exact h3
theorem zPlr_F (h : zPlr hp rf pl op s rk fc nx B T D F) (hF : ∀ a : Nat, (a : Int) < op → F' a = F a) : zPlr hp rf pl op s rk fc nx B T D F' := fun a ha => by
  obtain ⟨b, u, h1, h2, h3⟩ := h a ha
  exact ⟨b, u, h1, h2, by rw [hF a ha]; exact h3⟩
end ZPL
def zSdp (std sn rk : Nat → Int32) (cnt : Int) (M : Nat → Nat → Prop) : Prop := 0 ≤ cnt ∧ (∀ p : Nat, p < 832 → ((std p).toInt = -1 ∧ ∀ a : Nat, ¬ M p a) ∨ ∃ a : Nat, M p a ∧ std p = rk a ∧ 0 ≤ (rk a).toInt) ∧ (∀ c : Nat, (c : Int) < cnt → 0 ≤ (sn c).toInt ∧ (sn c).toInt < 832 ∧ 0 ≤ (std (sn c).toInt.toNat).toInt) ∧ ∀ p : Nat, p < 832 → (std p).toInt ≠ -1 → ∃ c : Nat, (c : Int) < cnt ∧ (sn c).toInt = (p : Int)
section ZSD
variable {std std' sn sn' rk : Nat → Int32} {cnt cnt' : Int} {M M' : Nat → Nat → Prop}
theorem zSdp_c (h : zSdp std sn rk cnt M) (hM : ∀ p a : Nat, p < 832 → (M' p a ↔ M p a)) : zSdp std sn rk cnt M' := by
  obtain ⟨h1, h2, h3, h4⟩ := h
  refine ⟨h1, fun p hp => ?_, h3, h4⟩
  rcases h2 p hp with ⟨a, b⟩ | ⟨a, b, c⟩
  · exact Or.inl ⟨a, fun x hx => b x ((hM p x hp).mp hx)⟩
  · exact Or.inr ⟨a, (hM p a hp).mpr b, c⟩
theorem zSdp_s {P Wr C : Int32} {a : Nat} (h : zSdp std sn rk cnt M) (p0 : 0 ≤ P.toInt) (p1 : P.toInt < 832) (hC : C.toInt = cnt) (e1 : std' = upd std P.toNatClampNeg Wr) (e2 : sn' = upd sn C.toNatClampNeg P) (e3 : cnt' = cnt + 1) (hw : Wr = rk a) (h0 : 0 ≤ (rk a).toInt) (hM : ∀ p b : Nat, p < 832 → (M' p b ↔ (if p = P.toInt.toNat then b = a else M p b))) : zSdp std' sn' rk cnt' M' := by
  obtain ⟨h1, h2, h3, h4⟩ := h
  have cP : P.toNatClampNeg = P.toInt.toNat := rfl
  have cC : C.toNatClampNeg = cnt.toNat := by have : C.toNatClampNeg = C.toInt.toNat := rfl; omega
  rw [cP] at e1
  rw [cC] at e2
  refine ⟨by omega, fun p hp => ?_, fun c hc => ?_, fun p hp hs => ?_⟩
  · by_cases d : p = P.toInt.toNat
    · refine Or.inr ⟨a, (hM p a hp).mpr (by rw [if_pos d]), ?_, h0⟩
      rw [e1, d, pk_us, hw]
    · rcases h2 p hp with ⟨x, y⟩ | ⟨b, y, z⟩
      · refine Or.inl ⟨by rw [e1, pk_un d]; exact x, fun b hb => ?_⟩
        have q := (hM p b hp).mp hb
        rw [if_neg d] at q
        exact y b q
      · exact Or.inr ⟨b, (hM p b hp).mpr (by rw [if_neg d]; exact y), by rw [e1, pk_un d]; exact z.1, z.2⟩
  · by_cases d : c = cnt.toNat
    · rw [e2, d, pk_us]
      refine ⟨p0, p1, ?_⟩
      rw [e1, pk_us, hw]
      exact h0
    · rw [e2, pk_un d]
      obtain ⟨q1, q2, q3⟩ := h3 c (by omega)
      refine ⟨q1, q2, ?_⟩
      by_cases g : (sn c).toInt.toNat = P.toInt.toNat
      · rw [e1, g, pk_us, hw]; exact h0
      · rw [e1, pk_un g]; exact q3
  · by_cases d : p = P.toInt.toNat
    · exact ⟨cnt.toNat, by omega, by rw [e2, pk_us]; omega⟩
    · rw [e1, pk_un d] at hs
      obtain ⟨c, c1, c2⟩ := h4 p hp hs
      exact ⟨c, by omega, by rw [e2, pk_un (by omega)]; exact c2⟩
def zSz (std0 std sn : Nat → Int32) (i : Int) : Prop := ∀ p : Nat, p < 832 → std p = std0 p ∧ (∀ c : Nat, (c : Int) < i → (sn c).toInt ≠ (p : Int)) ∨ ((std p).toInt = -1 ∧ ∃ c : Nat, (c : Int) < i ∧ (sn c).toInt = (p : Int))
theorem zSz_0 {i : Int} (hi : i ≤ 0) : zSz std std sn i := fun p hp => Or.inl ⟨rfl, fun c hc => by omega⟩
theorem zSz_s {std0 : Nat → Int32} {I S : Int32} {i' : Int} (h : zSz std0 std sn I.toInt) (h0 : 0 ≤ I.toInt) (eS : S = sn I.toNatClampNeg) (e : std' = upd std S.toNatClampNeg (-1)) (s0 : 0 ≤ S.toInt) (hi : i' = I.toInt + 1) : zSz std0 std' sn i' := fun p hp => by
  have cI : I.toNatClampNeg = I.toInt.toNat := rfl
  have cS : S.toNatClampNeg = S.toInt.toNat := rfl
  by_cases d : p = S.toNatClampNeg
  · exact Or.inr ⟨by rw [e, d, pk_us]; decide, I.toInt.toNat, by omega, by rw [← cI, ← eS]; omega⟩
  · rw [e, pk_un d]
    rcases h p hp with ⟨a, b⟩ | ⟨a, c, c1, c2⟩
    · refine Or.inl ⟨a, fun c hc => ?_⟩
      by_cases g : c = I.toInt.toNat
      · rw [g, ← cI, ← eS]; omega
      · exact b c (by omega)
    · exact Or.inr ⟨a, c, by omega, c2⟩
theorem zSz_e {i : Int} {std0 rk0 : Nat → Int32} (h : zSz std0 std sn i) (h0 : zSdp std0 sn rk0 cnt M) (hi : cnt ≤ i) (hc : cnt' = 0) : zSdp std sn' rk cnt' (fun _ _ => False) := by
  obtain ⟨h1, h2, h3, h4⟩ := h0
  subst hc
  have z : ∀ p : Nat, p < 832 → (std p).toInt = -1 := fun p hp => by
    rcases h p hp with ⟨a, b⟩ | ⟨a, -⟩
    · by_cases c : (std0 p).toInt = -1
      · rw [a]; exact c
      · obtain ⟨c, c1, c2⟩ := h4 p hp c
        exact absurd c2 (b c (by omega))
    · exact a
  exact ⟨Int.le_refl _, fun p hp => Or.inl ⟨z p hp, fun _ q => q⟩, fun c hc => by omega, fun p hp hs => absurd (z p hp) hs⟩
end ZSD
def zcnt (t : Nat → Int) : Nat → Nat
  | 0 => 0
  | k + 1 => zcnt t k + (if t k ≠ 0 then 1 else 0)
def zT8 (t : Nat → Int) : Prop := (∀ p : Nat, t p ≠ 0 → p < 832) ∧ zcnt t 1024 ≤ 300
theorem zsu_1i {W : Nat → Int} {y : Int} : ∀ {m : Nat}, (∀ a b : Nat, a < m → b < m → W a = W b → a = b) → (∀ a : Nat, a < m → W a ≠ 0) → zsu (fun a => if y = W a then 1 else 0) m ≤ if y ≠ 0 then 1 else 0 := by
  intro m
  induction m with
  | zero => intro _ _; exact Nat.zero_le _
  | succ m ih =>
    intro h h0
    show zsu (fun a => if y = W a then 1 else 0) m + (if y = W m then 1 else 0) ≤ _
    by_cases c : y = W m
    · have z : zsu (fun a => if y = W a then 1 else 0) m = 0 := by
        have q := zsu_0 (F := fun a => if y = W a then 1 else 0) (m := 0) (n := m) (Nat.zero_le _) (fun a _ ha => by
          show (if y = W a then 1 else 0) = 0
          rw [if_neg (fun d => by have e := h a m (by omega) (by omega) (d.symm.trans c); omega)])
        exact q
      rw [z, if_pos c, if_pos (by rw [c]; exact h0 m (by omega))]
      exact Nat.le_refl _
    · rw [if_neg c, Nat.add_zero]
      exact ih (fun a b ha hb => h a b (by omega) (by omega)) (fun a ha => h0 a (by omega))
theorem zsu_a {F G : Nat → Nat} : ∀ m : Nat, zsu (fun a => F a + G a) m = zsu F m + zsu G m := by
  intro m
  induction m with
  | zero => rfl
  | succ m ih =>
    show zsu (fun a => F a + G a) m + (F m + G m) = zsu F m + F m + (zsu G m + G m)
    omega
theorem zcnt_s {t : Nat → Int} {W : Nat → Int} {m : Nat} (h : ∀ a b : Nat, a < m → b < m → W a = W b → a = b) (h0 : ∀ a : Nat, a < m → W a ≠ 0) : ∀ k : Nat, zsu (fun a => zTm t (W a) k) m ≤ zcnt t k := by
  intro k
  induction k with
  | zero =>
    have q := zsu_0 (F := fun a => zTm t (W a) 0) (m := 0) (n := m) (Nat.zero_le _) (fun a _ _ => rfl)
    rw [q]
    exact Nat.zero_le _
  | succ k ih =>
    have e : zsu (fun a => zTm t (W a) (k + 1)) m = zsu (fun a => zTm t (W a) k + (if t k = W a then 1 else 0)) m := zsu_c (fun a _ => by
      show (if t k = W a then zTm t (W a) k + 1 else zTm t (W a) k) = zTm t (W a) k + (if t k = W a then 1 else 0)
      by_cases c : t k = W a
      · rw [if_pos c, if_pos c]
      · rw [if_neg c, if_neg c, Nat.add_zero])
    rw [e, zsu_a]
    have q := zsu_1i (y := t k) h h0
    show _ ≤ zcnt t k + (if t k ≠ 0 then 1 else 0)
    omega
theorem zTm_e2 {t : Nat → Int} {x : Int} : ∀ k : Nat, (0 < zTm t x k ↔ ∃ q : Nat, q < k ∧ t q = x) := by
  intro k
  induction k with
  | zero => exact ⟨fun c => absurd c (Nat.lt_irrefl 0), fun ⟨q, q1, _⟩ => absurd q1 (Nat.not_lt_zero _)⟩
  | succ k ih =>
    show (0 < (if t k = x then zTm t x k + 1 else zTm t x k)) ↔ _
    by_cases c : t k = x
    · rw [if_pos c]
      exact ⟨fun _ => ⟨k, Nat.lt_succ_self k, c⟩, fun _ => Nat.succ_pos _⟩
    · rw [if_neg c, ih]
      constructor
      · rintro ⟨q, q1, q2⟩
        exact ⟨q, by omega, q2⟩
      · rintro ⟨q, q1, q2⟩
        have n : q ≠ k := fun e => c (by rw [← e]; exact q2)
        exact ⟨q, by omega, q2⟩
def zTpre (s : Nat → Int64) (i fr : Nat → Int32) (n : Int) (ro cs nx fc lc bt : Nat → Int32) (ch ru ab tk : Int) (h l : Nat → Int32) (rf : Nat → Option Nat) (rk : Nat → Int32) (op x D : Int) (T : Nat → Nat → Int) (V : List Int) : Prop := zKl s i fr n ro cs nx fc lc bt ch ru ab tk h l D T V ∧ zIj rf ∧ 0 ≤ op ∧ op ≤ 400 ∧ (∀ a : Nat, (a : Int) < op → 0 ≤ (rk a).toInt ∧ (rk a).toInt < n) ∧ (∀ a b : Nat, (a : Int) < op → (b : Int) < op → (rk a).toInt = (rk b).toInt → a = b) ∧ 0 ≤ x ∧ x < D ∧ zT8 (T x.toNat)
def zTu (hp : Nat) (rf : Nat → Option Nat) (pl0 pl : va_W) (s : Nat → Int64) (i fr : Nat → Int32) (n : Int) (ro cs nx fc lc bt : Nat → Int32) (ch ru ab tk : Int) (h l : Nat → Int32) (rk : Nat → Int32) (op : Int) (std0 sn0 : Nat → Int32) (cnt0 : Int) (std sn : Nat → Int32) (cnt x k : Int) : Prop := ∀ (T : Nat → Nat → Int) (V : List Int) (D : Int) (rk0 : Nat → Int32) (M0 : Nat → Nat → Prop), zTpre s i fr n ro cs nx fc lc bt ch ru ab tk h l rf rk op x D T V → zSdp std0 sn0 rk0 cnt0 M0 → zPlr hp rf pl0 op s rk fc nx (zBv T V D.toNat) T D.toNat (fun _ => x.toNat) → zPlr hp rf pl op s rk fc nx (zBv T V D.toNat) T D.toNat (fun a => if (a : Int) < k then x.toNat + 1 else x.toNat) ∧ zSdp std sn rk cnt (fun p a => (a : Int) < k ∧ T x.toNat p = zWdr s rk a) ∧ cnt = ((zsu (fun a => zTm (T x.toNat) (zWdr s rk a) 1024) k.toNat : Nat) : Int)
def zTwn (hp : Nat) (rf : Nat → Option Nat) (pl0 pr : va_W) (s : Nat → Int64) (i fr : Nat → Int32) (n : Int) (ro cs nx fc lc bt : Nat → Int32) (ch ru ab tk : Int) (h l : Nat → Int32) (rk : Nat → Int32) (op : Int) (std0 sn0 : Nat → Int32) (cnt0 : Int) (std sn : Nat → Int32) (cnt x k bl ck wh ins nu pc pl pa j : Int) : Prop := ∀ (T : Nat → Nat → Int) (V : List Int) (D : Int) (rk0 : Nat → Int32) (M0 : Nat → Nat → Prop), zTpre s i fr n ro cs nx fc lc bt ch ru ab tk h l rf rk op x D T V → zSdp std0 sn0 rk0 cnt0 M0 → zPlr hp rf pl0 op s rk fc nx (zBv T V D.toNat) T D.toNat (fun _ => x.toNat) → (∀ a : Nat, (a : Int) < op → (a : Int) ≠ k → ∃ (ad : Nat) (v : Nat → Int32), rf a = some ad ∧ ((ad, zRc hp v) : Nat × va_E) ∈ pr ∧ zPgv fc nx (zBv T V D.toNat) v T (zWdr s rk a) D.toNat (if (a : Int) < k then x.toNat + 1 else x.toNat)) ∧ zPgR fc nx (zBv T V D.toNat) bl ck wh ins nu pl pa T (zWdr s rk k.toNat) D.toNat x.toNat j ∧ zSdp std sn rk cnt (fun p a => ((a : Int) < k ∧ T x.toNat p = zWdr s rk a) ∨ ((a : Int) = k ∧ T x.toNat p = zWdr s rk a ∧ (p : Int) ≤ pa)) ∧ cnt = ((zsu (fun a => zTm (T x.toNat) (zWdr s rk a) 1024) k.toNat : Nat) : Int) + j ∧ pc = (zTm (T x.toNat) (zWdr s rk k.toNat) 1024 : Int)
section ZTU
variable {A : Nat → Prop} {X pl0 pl pr p q : va_W} {hp ad : Nat} {rf : Nat → Option Nat} {s : Nat → Int64} {i fr ro cs nx fc lc bt h l rk std0 sn0 std sn std' sn' : Nat → Int32} {n ch ru ab tk op cnt0 cnt cnt' x k k' bl ck wh ins nu pc pll pa bl4 ck4 wh4 ins4 nu4 pc4 pl4 pa4 j j' r D : Int} {T : Nat → Nat → Int} {V : List Int} {v v' : Nat → Int32}
theorem zTpre_w (hq : zTpre s i fr n ro cs nx fc lc bt ch ru ab tk h l rf rk op x D T V) : (∀ a : Nat, (a : Int) < op → zWdr s rk a ≠ 0 ∧ zWdr s rk a ∈ V) ∧ ∀ a b : Nat, (a : Int) < op → (b : Int) < op → zWdr s rk a = zWdr s rk b → a = b := by
  obtain ⟨q1, q2, q3, q4, q5, q6, q7, q8, q9⟩ := hq
  have mem : ∀ a : Nat, (a : Int) < op → zWdr s rk a ∈ V := fun a ha => (zVo_m q1.1).mpr ⟨(rk a).toInt.toNat, by have := q5 a ha; omega, rfl⟩
  refine ⟨fun a ha => ⟨q1.2.1 _ (mem a ha), mem a ha⟩, fun a b ha hb e => q6 a b ha hb ?_⟩
  have ra := q5 a ha
  have rb := q5 b hb
  have srt := q1.1.1
  unfold zWdr at e
  rcases Int.lt_trichotomy (rk a).toInt (rk b).toInt with c | c | c
  · have := srt (rk a).toInt.toNat (rk b).toInt.toNat (by omega) (by omega); omega
  · exact c
  · have := srt (rk b).toInt.toNat (rk a).toInt.toNat (by omega) (by omega); omega
theorem zTu_0 {z : Int} (hz : zSz std0 std sn0 z) (h1 : cnt0 ≤ z) (hc : cnt = 0) (hk : k = 0) : zTu hp rf pl0 pl0 s i fr n ro cs nx fc lc bt ch ru ab tk h l rk op std0 sn0 cnt0 std sn cnt x k := fun T V D rk0 M0 a1 a2 a3 => by
  subst hk; subst hc
  refine ⟨zPlr_F a3 (fun a ha => by rw [if_neg (by omega)]), zSdp_c (zSz_e hz a2 h1 rfl) (fun p a hp => ⟨fun q => by omega, fun q => absurd q (fun f => f)⟩), rfl⟩
theorem zTu_n {K : Int32} (hu : zTu hp rf pl0 pl s i fr n ro cs nx fc lc bt ch ru ab tk h l rk op std0 sn0 cnt0 std sn cnt x K.toInt) (k0 : 0 ≤ K.toInt) (k1 : K.toInt < op) (k4 : K.toInt < 400) (hr : rf K.toNatClampNeg = some ad) (hD : va_D A (X ++ pl)) (e : pl = p ++ (ad, zRc hp v) :: q) (hc : zRch ro cs nx fc lc bt ch ru ab tk (v 1).toInt (v 2).toInt (v 3).toInt (v 4).toInt (v 5).toInt (v 6).toInt (v 7).toInt (v 8).toInt (v' 1).toInt (v' 2).toInt (v' 3).toInt (v' 4).toInt (v' 5).toInt (v' 6).toInt (v' 7).toInt (v' 8).toInt x r) (h0 : r = 0) (hk : k' = K.toInt + 1) : zTu hp rf pl0 ((ad, zRc hp v') :: (p ++ q)) s i fr n ro cs nx fc lc bt ch ru ab tk h l rk op std0 sn0 cnt0 std sn cnt x k' := fun T V D rk0 M0 a1 a2 a3 => by
  obtain ⟨u1, u2, u3⟩ := hu T V D rk0 M0 a1 a2 a3
  obtain ⟨q1, q2, q3, q4, q5, q6, q7, q8, q9⟩ := id a1
  have cK : K.toNatClampNeg = K.toInt.toNat := rfl
  have g := zPlr_g (i := K.toNatClampNeg) u1 (by omega) hr hD (by rw [e]; exact List.mem_append_right _ List.mem_cons_self)
  have gx : (if ((K.toNatClampNeg : Nat) : Int) < K.toInt then x.toNat + 1 else x.toNat) = x.toNat := if_neg (by omega)
  rw [gx] at g
  rcases hc (zBv T V D.toNat) T (zWdr s rk K.toNatClampNeg) D.toNat (by have := q1.2.2.2.2.2.2.1; omega) q1.2.2.1 g with ⟨c1, -⟩ | ⟨-, c2, c3⟩
  · omega
  have nz := c2 (by omega)
  have w := zTpre_w a1
  refine ⟨zPlr_p (i := K.toNatClampNeg) u1 q2 (by omega) q4 hr e (by show zPgv fc nx _ v' T _ _ (if ((K.toNatClampNeg : Nat) : Int) < k' then x.toNat + 1 else x.toNat); rw [if_pos (by omega)]; exact c3) (fun a ha _ => ?_), zSdp_c u2 (fun p a hp => ?_), ?_⟩
  · by_cases c : (a : Int) < K.toInt
    · rw [if_pos c, if_pos (by omega)]
    · rw [if_neg c, if_neg (by omega)]
  · constructor
    · rintro ⟨m1, m2⟩
      refine ⟨?_, m2⟩
      by_cases c : a = K.toNatClampNeg
      · exfalso
        apply nz
        rw [zTm_e2]
        have lt : p < 1024 := by omega
        exact ⟨p, lt, by rw [m2, c]⟩
      · omega
    · rintro ⟨m1, m2⟩
      exact ⟨by omega, m2⟩
  · rw [u3, show k'.toNat = K.toInt.toNat + 1 from by omega]
    show _ = ((zsu (fun a => zTm (T x.toNat) (zWdr s rk a) 1024) K.toInt.toNat + zTm (T x.toNat) (zWdr s rk K.toInt.toNat) 1024 : Nat) : Int)
    rw [cK] at nz
    omega
theorem zTwn_0 {K : Int32} (hu : zTu hp rf pl0 pl s i fr n ro cs nx fc lc bt ch ru ab tk h l rk op std0 sn0 cnt0 std sn cnt x K.toInt) (k0 : 0 ≤ K.toInt) (k1 : K.toInt < op) (hr : rf K.toNatClampNeg = some ad) (hD : va_D A (X ++ pl)) (e : pl = p ++ (ad, zRc hp v) :: q) (hc : zRch ro cs nx fc lc bt ch ru ab tk (v 1).toInt (v 2).toInt (v 3).toInt (v 4).toInt (v 5).toInt (v 6).toInt (v 7).toInt (v 8).toInt bl ck wh ins nu pc pll pa x r) (h1 : r ≠ 0) (hj : j = 0) : zTwn hp rf pl0 (p ++ q) s i fr n ro cs nx fc lc bt ch ru ab tk h l rk op std0 sn0 cnt0 std sn cnt x K.toInt bl ck wh ins nu pc pll pa j := by
  have cK : K.toNatClampNeg = K.toInt.toNat := rfl
  have key : ∀ (T : Nat → Nat → Int) (V : List Int) (D : Int) (rk0 : Nat → Int32) (M0 : Nat → Nat → Prop), zTpre s i fr n ro cs nx fc lc bt ch ru ab tk h l rf rk op x D T V → zSdp std0 sn0 rk0 cnt0 M0 → zPlr hp rf pl0 op s rk fc nx (zBv T V D.toNat) T D.toNat (fun _ => x.toNat) → zPgA fc nx (zBv T V D.toNat) bl ck wh ins nu pc pll pa T (zWdr s rk K.toInt.toNat) D.toNat x.toNat := fun T V D rk0 M0 a1 a2 a3 => by
    obtain ⟨u1, u2, u3⟩ := hu T V D rk0 M0 a1 a2 a3
    have q1 := a1.1
    have g := zPlr_g (i := K.toNatClampNeg) u1 (by omega) hr hD (by rw [e]; exact List.mem_append_right _ List.mem_cons_self)
    have gx : (if ((K.toNatClampNeg : Nat) : Int) < K.toInt then x.toNat + 1 else x.toNat) = x.toNat := if_neg (by omega)
    rw [gx] at g
    rcases hc (zBv T V D.toNat) T (zWdr s rk K.toNatClampNeg) D.toNat (by have := q1.2.2.2.2.2.2.1; omega) q1.2.2.1 g with ⟨-, c1⟩ | ⟨c1, -⟩
    · exact c1
    · exact absurd c1 h1
  intro T V D rk0 M0 a1 a2 a3
  obtain ⟨u1, u2, u3⟩ := hu T V D rk0 M0 a1 a2 a3
  obtain ⟨q1, q2, q3, q4, q5, q6, q7, q8, q9⟩ := id a1
  have A1 := key T V D rk0 M0 a1 a2 a3
  refine ⟨fun a ha hne => ?_, zPgR_0 A1 hj, zSdp_c u2 (fun p a hp => ⟨fun m => ?_, fun m => Or.inl m⟩), by omega, A1.2.2.2.1⟩
  · obtain ⟨b, u, g1, g2, g3⟩ := u1 a ha
    have ne : b ≠ ad := fun d => by
      have z := q2 a K.toNatClampNeg ad (by omega) (by omega) (by rw [← d]; exact g1) hr
      omega
    subst e
    exact ⟨b, u, g1, zmemx g2 (fun h4 => ne (congrArg Prod.fst h4)), g3⟩
  · rcases m with m | ⟨-, -, m⟩
    · exact m
    · have := A1.2.2.2.2.2.1
      omega
theorem zTu_z {K : Int32} (hu : zTu hp rf pl0 pl s i fr n ro cs nx fc lc bt ch ru ab tk h l rk op std0 sn0 cnt0 std sn cnt x K.toInt) (k0 : 0 ≤ K.toInt) (k1 : K.toInt < op) (hr : rf K.toNatClampNeg = none) : zTu hp rf pl0 pl s i fr n ro cs nx fc lc bt ch ru ab tk h l rk op std0 sn0 cnt0 std sn cnt x k' := fun T V D rk0 M0 a1 a2 a3 => by
  obtain ⟨ad, v, h1, -⟩ := (hu T V D rk0 M0 a1 a2 a3).1 K.toNatClampNeg (by have cK : K.toNatClampNeg = K.toInt.toNat := rfl; omega)
  rw [hr] at h1
  exact absurd h1 (by simp)
theorem zTu_k (hu : zTu hp rf pl0 pl s i fr n ro cs nx fc lc bt ch ru ab tk h l rk op std0 sn0 cnt0 std sn cnt x k) (e : k' = k) : zTu hp rf pl0 pl s i fr n ro cs nx fc lc bt ch ru ab tk h l rk op std0 sn0 cnt0 std sn cnt x k' := by rw [e]; exact hu
def zSee (std sn : Nat → Int32) (C P Wr : Int32) (std' sn' : Nat → Int32) (cnt' : Int) : Prop := 0 ≤ P.toInt → P.toInt < 832 → C.toInt < 300 → std' = upd std P.toNatClampNeg Wr ∧ sn' = upd sn C.toNatClampNeg P ∧ cnt' = C.toInt + 1
theorem zTwn_s {P C K : Int32} (hw : zTwn hp rf pl0 pr s i fr n ro cs nx fc lc bt ch ru ab tk h l rk op std0 sn0 cnt0 std sn C.toInt x K.toInt bl ck wh ins nu pc pll pa j) (k0 : 0 ≤ K.toInt) (k1 : K.toInt < op) (jl : j < pc) (hn : zNp ro cs nx fc lc bt ch ru ab tk bl ck wh ins bl4 ck4 wh4 ins4 pll pa pl4 pa4 P.toInt) (hs : zSee std sn C P (rk K.toNatClampNeg) std' sn' cnt') (hj : j' = j + 1) : zTwn hp rf pl0 pr s i fr n ro cs nx fc lc bt ch ru ab tk h l rk op std0 sn0 cnt0 std' sn' cnt' x K.toInt bl4 ck4 wh4 ins4 nu pc pl4 pa4 j' := fun T V D rk0 M0 a1 a2 a3 => by
  obtain ⟨w1, w2, w3, w4, w5⟩ := hw T V D rk0 M0 a1 a2 a3
  obtain ⟨q1, q2, q3, q4, q5, q6, q7, q8, q9⟩ := id a1
  have ww := zTpre_w a1
  have cK : K.toNatClampNeg = K.toInt.toNat := rfl
  obtain ⟨r1, r2, r3, r4, r5, r6, r7⟩ := zPgR_s q1.2.2.1 w2 (by omega) hn hj
  have wk := ww.1 K.toInt.toNat (by omega)
  have lt : P.toInt.toNat < 832 := q9.1 _ (by rw [r4]; exact wk.1)
  have cb := zcnt_s (t := T x.toNat) (W := zWdr s rk) (m := K.toInt.toNat + 1) (fun a b ha hb => ww.2 a b (by omega) (by omega)) (fun a ha => (ww.1 a (by omega)).1) 1024
  have cb2 : zsu (fun a => zTm (T x.toNat) (zWdr s rk a) 1024) K.toInt.toNat + zTm (T x.toNat) (zWdr s rk K.toInt.toNat) 1024 ≤ zcnt (T x.toNat) 1024 := cb
  have c3 := q9.2
  obtain ⟨s1, s2, s3⟩ := hs (by omega) (by omega) (by omega)
  have rk0' := q5 K.toInt.toNat (by omega)
  refine ⟨w1, r1, zSdp_s (a := K.toInt.toNat) w3 (by omega) (by omega) rfl s1 s2 s3 rfl rk0'.1 (fun p b hp => ?_), by omega, w5⟩
  by_cases c : p = P.toInt.toNat
  · rw [if_pos c]
    constructor
    · rintro (⟨m1, m2⟩ | ⟨m1, -, -⟩)
      · rw [c, r4] at m2
        exact (ww.2 K.toInt.toNat b (by omega) (by omega) m2).symm
      · omega
    · intro m
      exact Or.inr ⟨by omega, by rw [c, m]; exact r4, by omega⟩
  · rw [if_neg c]
    constructor
    · rintro (m | ⟨m1, m2, m3⟩)
      · exact Or.inl m
      · refine Or.inr ⟨m1, m2, ?_⟩
        by_cases d : pa < (p : Int)
        · exact absurd (by rw [m2, show b = K.toInt.toNat from by omega]) (r7 p d (by omega))
        · omega
    · rintro (m | ⟨m1, m2, m3⟩)
      · exact Or.inl m
      · exact Or.inr ⟨m1, m2, by omega⟩
theorem zTwn_e {K : Int32} (hw : zTwn hp rf pl0 pr s i fr n ro cs nx fc lc bt ch ru ab tk h l rk op std0 sn0 cnt0 std sn cnt x K.toInt bl ck wh ins nu pc pll pa j) (k0 : 0 ≤ K.toInt) (k1 : K.toInt < op) (hr : rf K.toNatClampNeg = some ad) (jl : pc ≤ j) (e1 : (v' 1).toInt = bl) (e2 : (v' 2).toInt = ck) (e3 : (v' 3).toInt = wh) (e4 : (v' 4).toInt = ins) (e5 : (v' 5).toInt = nu) (e7 : (v' 7).toInt = pll) (e8 : (v' 8).toInt = pa) (hk : k' = K.toInt + 1) : zTu hp rf pl0 ((ad, zRc hp v') :: pr) s i fr n ro cs nx fc lc bt ch ru ab tk h l rk op std0 sn0 cnt0 std sn cnt x k' := fun T V D rk0 M0 a1 a2 a3 => by
  obtain ⟨w1, w2, w3, w4, w5⟩ := hw T V D rk0 M0 a1 a2 a3
  have cK : K.toNatClampNeg = K.toInt.toNat := rfl
  have wl := w2.2.2.2.2.1
  obtain ⟨g1, g2⟩ := zPgR_e (pc := (v' 6).toInt) w2 (by omega)
  rw [← e1, ← e2, ← e3, ← e4, ← e5, ← e7, ← e8] at g1
  refine ⟨fun a ha => ?_, zSdp_c w3 (fun p b hp => ?_), ?_⟩
  · by_cases c : (a : Int) = K.toInt
    · refine ⟨ad, v', by rw [show a = K.toNatClampNeg from by omega]; exact hr, List.mem_cons_self, ?_⟩
      show zPgv fc nx _ v' T _ _ (if (a : Int) < k' then x.toNat + 1 else x.toNat)
      rw [if_pos (show (a : Int) < k' from by omega), show a = K.toInt.toNat from by omega]
      exact g1
    · obtain ⟨b, u, y1, y2, y3⟩ := w1 a ha c
      refine ⟨b, u, y1, List.mem_cons_of_mem _ y2, ?_⟩
      show zPgv fc nx _ u T _ _ (if (a : Int) < k' then x.toNat + 1 else x.toNat)
      by_cases d : (a : Int) < K.toInt
      · rw [if_pos d] at y3
        rw [if_pos (show (a : Int) < k' from by omega)]
        exact y3
      · rw [if_neg d] at y3
        rw [if_neg (show ¬ (a : Int) < k' from by omega)]
        exact y3
  · constructor
    · rintro ⟨m1, m2⟩
      by_cases c : (b : Int) = K.toInt
      · refine Or.inr ⟨c, m2, ?_⟩
        by_cases d : pa < (p : Int)
        · exact absurd (by rw [m2, show b = K.toInt.toNat from by omega]) (g2 p d (by omega))
        · omega
      · exact Or.inl ⟨by omega, m2⟩
    · rintro (⟨m1, m2⟩ | ⟨m1, m2, -⟩)
      · exact ⟨by omega, m2⟩
      · exact ⟨by omega, m2⟩
  · rw [show k'.toNat = K.toInt.toNat + 1 from by omega]
    show cnt = ((zsu (fun a => zTm (T x.toNat) (zWdr s rk a) 1024) K.toInt.toNat + zTm (T x.toNat) (zWdr s rk K.toInt.toNat) 1024 : Nat) : Int)
    omega
end ZTU
def zct (f : Nat → Int32) : Nat → Nat
  | 0 => 0
  | k + 1 => zct f k + (if (f k).toInt ≠ 0 then 1 else 0)
theorem zct_u {f : Nat → Int32} {w : Nat} {x : Int32} (h0 : (f w).toInt = 0) (hx : x.toInt ≠ 0) : ∀ k : Nat, zct (upd f w x) k = zct f k + (if w < k then 1 else 0) := by
  intro k
  induction k with
  | zero => rfl
  | succ k ih =>
    show zct (upd f w x) k + (if (upd f w x k).toInt ≠ 0 then 1 else 0) = zct f k + (if (f k).toInt ≠ 0 then 1 else 0) + (if w < k + 1 then 1 else 0)
    rw [ih]
    by_cases c : k = w
    · subst c
      rw [pk_us, if_pos hx, if_neg (Nat.lt_irrefl k), if_neg (fun d => d h0), if_pos (Nat.lt_succ_self k)]
    · rw [pk_un c]
      by_cases d : w < k
      · rw [if_pos d, if_pos (show w < k + 1 from by omega)]; omega
      · rw [if_neg d, if_neg (show ¬ w < k + 1 from by omega)]; omega
theorem zct_l {f : Nat → Int32} : ∀ k : Nat, zct f k ≤ k := by
  intro k
  induction k with
  | zero => exact Nat.le_refl 0
  | succ k ih =>
    show zct f k + (if (f k).toInt ≠ 0 then 1 else 0) ≤ k + 1
    by_cases c : (f k).toInt ≠ 0
    · rw [if_pos c]; omega
    · rw [if_neg c]; omega
theorem zct_f {f : Nat → Int32} : ∀ k : Nat, k ≤ zct f k → ∀ w : Nat, w < k → (f w).toInt ≠ 0 := by
  intro k
  induction k with
  | zero => intro _ w h; omega
  | succ k ih =>
    intro h w hw
    have h : k + 1 ≤ zct f k + (if (f k).toInt ≠ 0 then 1 else 0) := h
    have l := zct_l (f := f) k
    by_cases c : (f k).toInt ≠ 0
    · rw [if_pos c] at h
      by_cases d : w = k
      · rw [d]; exact c
      · exact ih (by omega) w (by omega)
    · rw [if_neg c] at h
      omega
theorem zct_z {f : Nat → Int32} : ∀ k : Nat, (∀ w : Nat, w < k → (f w).toInt = 0) → zct f k = 0 := by
  intro k
  induction k with
  | zero => intro _; rfl
  | succ k ih =>
    intro h
    show zct f k + (if (f k).toInt ≠ 0 then 1 else 0) = 0
    rw [ih (fun w hw => h w (by omega)), if_neg (fun d => d (h k (by omega)))]
def zWx (hp : Nat) (rf : Nat → Option Nat) (pl : va_W) (rf' : Nat → Option Nat) (pl' : va_W) (k : Nat) : Prop := (zIj rf → zIj rf') ∧ (∀ a : Nat, a < k → rf' a = rf a) ∧ ∀ x : Nat × va_E, x ∈ pl → x ∈ pl'
theorem zWx_r {hp k : Nat} {rf : Nat → Option Nat} {pl : va_W} : zWx hp rf pl rf pl k := ⟨fun h => h, fun _ _ => rfl, fun _ h => h⟩
theorem zWx_n {A : Nat → Prop} {X pl pl' : va_W} {hp k q : Nat} {rf rf' : Nat → Option Nat} {v : Nat → Int32} (hz : zRd hp rf pl) (hD : va_D A (X ++ pl')) (e : pl' = (q, zRc hp v) :: pl) (er : rf' = va_up rf k (some q)) : zWx hp rf pl rf' pl' k := by
  subst e
  subst er
  have ne : ∀ j : Nat, j < 400 → rf j ≠ some q := fun j hj d => by
    obtain ⟨u, hu⟩ := hz j hj q d
    obtain ⟨i, hi⟩ := List.getElem?_of_mem hu
    have h1 : (X ++ ((q, zRc hp v) :: pl))[X.length]? = some (q, zRc hp v) := by
      rw [List.getElem?_append_right (Nat.le_refl _), Nat.sub_self]
      rfl
    have h2 : (X ++ ((q, zRc hp v) :: pl))[X.length + (i + 1)]? = some (q, zRc hp u) := by
      rw [List.getElem?_append_right (by omega), show X.length + (i + 1) - X.length = i + 1 from by omega]
      exact hi
    have := hD.1 _ _ _ _ h1 h2 rfl
    omega
  refine ⟨fun hj i j a hi hj' h1 h2 => ?_, fun a ha => va_up_ne _ _ (by omega), fun x hx => List.mem_cons_of_mem _ hx⟩
  by_cases c : i = k
  · by_cases d : j = k
    · rw [c, d]
    · rw [c, va_up_self] at h1
      rw [va_up_ne _ _ d] at h2
      exact absurd (h2.trans h1.symm) (ne j hj')
  · by_cases d : j = k
    · rw [d, va_up_self] at h2
      rw [va_up_ne _ _ c] at h1
      exact absurd (h1.trans h2.symm) (ne i hi)
    · rw [va_up_ne _ _ c] at h1
      rw [va_up_ne _ _ d] at h2
      exact hj i j a hi hj' h1 h2
def zOpS (hp : Nat) (rf : Nat → Option Nat) (pl : va_W) (s : Nat → Int64) (n : Int) (rk wn : Nat → Int32) (op : Int) (fc nx : Nat → Int32) (B : Nat → List Bool) (T : Nat → Nat → Int) (D : Nat) : Prop := zIj rf ∧ op = (zct wn 400 : Int) ∧ (∀ a : Nat, (a : Int) < op → 0 ≤ (rk a).toInt ∧ (rk a).toInt < n) ∧ (∀ a b : Nat, (a : Int) < op → (b : Int) < op → (rk a).toInt = (rk b).toInt → a = b) ∧ (∀ w : Nat, w < 400 → ((wn w).toInt ≠ 0 ↔ ∃ a : Nat, (a : Int) < op ∧ (rk a).toInt = (w : Int))) ∧ zPlr hp rf pl op s rk fc nx B T D (fun _ => 0)
def zWtc (hp : Nat) (rf : Nat → Option Nat) (pl : va_W) (s : Nat → Int64) (i fr : Nat → Int32) (n : Int) (ro cs nx fc lc bt : Nat → Int32) (ch ru ab tk : Int) (h l : Nat → Int32) (rk wn : Nat → Int32) (op : Int) (rf' : Nat → Option Nat) (pl' : va_W) (rk' wn' : Nat → Int32) (op' x : Int) : Prop := ∀ (T : Nat → Nat → Int) (V : List Int) (D : Int), zKl s i fr n ro cs nx fc lc bt ch ru ab tk h l D T V → zOpS hp rf pl s n rk wn op fc nx (zBv T V D.toNat) T D.toNat → zOpS hp rf' pl' s n rk' wn' op' fc nx (zBv T V D.toNat) T D.toNat ∧ ∀ w : Nat, w < 400 → ((wn' w).toInt ≠ 0 ↔ (wn w).toInt ≠ 0 ∨ (x = (w : Int) ∧ x < n))
section ZWT
variable {A : Nat → Prop} {X pl pl' pl1 p q : va_W} {hp ad : Nat} {rf rf1 : Nat → Option Nat} {s : Nat → Int64} {i fr ro cs nx fc lc bt h l rk rk' wn wn' v v' : Nat → Int32} {n ch ru ab tk op op' bl ck wh ins nu pll : Int}
theorem zWt_n {Y : Int32} (hh : Y.toInt < 0 ∨ n ≤ Y.toInt ∨ (wn Y.toNatClampNeg).toInt ≠ 0 ∨ 400 ≤ op) : zWtc hp rf pl s i fr n ro cs nx fc lc bt ch ru ab tk h l rk wn op rf pl rk wn op Y.toInt := fun T V D hk ho => by
  refine ⟨ho, fun w hw => ⟨fun a => Or.inl a, fun a => ?_⟩⟩
  rcases a with a | ⟨a, b⟩
  · exact a
  · have cY : Y.toNatClampNeg = w := by have : Y.toNatClampNeg = Y.toInt.toNat := rfl; omega
    rw [cY] at hh
    rcases hh with c | c | c | c
    · omega
    · omega
    · exact c
    · have o2 := ho.2.1
      exact zct_f 400 (by omega) w hw
theorem zWt_y {O Y I b1 : Int32} (hx : zWx hp rf pl rf1 pl1 O.toNatClampNeg) (hr : rf1 O.toNatClampNeg = some ad) (e : pl1 = p ++ (ad, zRc hp v) :: q) (ep : pl' = (ad, zRc hp v') :: (p ++ q)) (ewn : wn' = upd wn Y.toNatClampNeg b1) (hb : b1.toInt ≠ 0) (erk : rk' = upd rk O.toNatClampNeg Y) (o0 : 0 ≤ O.toInt) (o4 : O.toInt < 400) (ho : op' = O.toInt + 1) (y0 : 0 ≤ Y.toInt) (yn : Y.toInt < n) (hw0 : (wn Y.toNatClampNeg).toInt = 0) (hid : 0 ≤ Y.toInt ∧ Y.toInt < n → I.toInt = (i Y.toNatClampNeg).toInt) (hop : zW (0 ≤ I.toInt → I.toInt ≤ 399 → ∀ B : Nat → List Bool, zPB ro cs nx fc lc bt ch ru ab tk B → zRr fc nx B bl ck wh ins (B I.toNatClampNeg))) (hnu : nu = -1) (hpl : pll = 0) (e1 : (v' 1).toInt = bl) (e2 : (v' 2).toInt = ck) (e3 : (v' 3).toInt = wh) (e4 : (v' 4).toInt = ins) (e5 : (v' 5).toInt = nu) (e7 : (v' 7).toInt = pll) : zWtc hp rf pl s i fr n ro cs nx fc lc bt ch ru ab tk h l rk wn O.toInt rf1 pl' rk' wn' op' Y.toInt := fun T V D hk hs => by
  obtain ⟨k1, k2, k3, k4, k5, k6, k7, k8⟩ := id hk
  obtain ⟨h1, h2, h3, h4, h5, h6⟩ := hs
  obtain ⟨x1, x2, x3⟩ := hx
  have n4 := k1.2.2.1
  have cY : Y.toNatClampNeg = Y.toInt.toNat := rfl
  have cO : O.toNatClampNeg = O.toInt.toNat := rfl
  have ei := hid ⟨y0, yn⟩
  rw [cY] at ei
  have vv := k1.2.2.2.1 Y.toInt.toNat (by omega)
  have lt : (I.toInt.toNat : Int) < n := by
    have l2 := k1.2.1
    rcases Nat.lt_or_ge I.toInt.toNat V.length with c | c
    · omega
    · have v2 := vv.2
      rw [← ei, List.getElem?_eq_none c] at v2
      exact absurd v2 (by simp)
  have eV : V[I.toNatClampNeg]? = some (s Y.toInt.toNat).toInt := by
    show V[I.toInt.toNat]? = _
    rw [ei]; exact vv.2
  have eb : zBv T V D.toNat I.toNatClampNeg = zPq T (s Y.toInt.toNat).toInt D.toNat := by
    unfold zBv
    rw [eV]
    rfl
  have op1 := hop (by omega) (by omega) _ k3
  rw [eb] at op1
  have rkO : rk' O.toInt.toNat = Y := by rw [erk, cO, pk_us]
  have rkn : ∀ a : Nat, a ≠ O.toInt.toNat → rk' a = rk a := fun a ha => by rw [erk, cO, pk_un ha]
  have nI := x1 h1
  have eW : ∀ w : Nat, (wn' w).toInt ≠ 0 ↔ (wn w).toInt ≠ 0 ∨ w = Y.toInt.toNat := fun w => by
    rw [ewn, cY]
    by_cases c : w = Y.toInt.toNat
    · rw [c, pk_us]
      exact ⟨fun _ => Or.inr rfl, fun _ => hb⟩
    · rw [pk_un c]
      exact ⟨fun a => Or.inl a, fun a => a.resolve_right c⟩
  have nY : ∀ a : Nat, (a : Int) < O.toInt → (rk a).toInt ≠ Y.toInt := fun a ha d => by
    have q9 := (h5 Y.toInt.toNat (by omega)).mpr ⟨a, ha, by omega⟩
    rw [cY] at hw0
    exact q9 hw0
  refine ⟨⟨nI, ?_, fun a ha => ?_, fun a b ha hb' eq => ?_, fun w hw => ?_, ?_⟩, fun w hw => ?_⟩
  · rw [cY] at ewn hw0
    rw [ewn, zct_u hw0 hb 400, if_pos (show Y.toInt.toNat < 400 from by omega)]
    omega
  · by_cases c : a = O.toInt.toNat
    · rw [c, rkO]; exact ⟨y0, yn⟩
    · rw [rkn a c]; exact h3 a (by omega)
  · by_cases c : a = O.toInt.toNat
    · by_cases d : b = O.toInt.toNat
      · rw [c, d]
      · rw [c, rkO, rkn b d] at eq
        exact absurd eq.symm (nY b (by omega))
    · by_cases d : b = O.toInt.toNat
      · rw [d, rkO, rkn a c] at eq
        exact absurd eq (nY a (by omega))
      · rw [rkn a c, rkn b d] at eq
        exact h4 a b (by omega) (by omega) eq
  · rw [eW w, h5 w hw]
    constructor
    · rintro (⟨a, a1, a2⟩ | c)
      · exact ⟨a, by omega, by rw [rkn a (by omega)]; exact a2⟩
      · exact ⟨O.toInt.toNat, by omega, by rw [rkO]; omega⟩
    · rintro ⟨a, a1, a2⟩
      by_cases c : a = O.toInt.toNat
      · rw [c, rkO] at a2
        exact Or.inr (by omega)
      · rw [rkn a c] at a2
        exact Or.inl ⟨a, by omega, a2⟩
  · intro a ha
    by_cases c : a = O.toInt.toNat
    · refine ⟨ad, v', by rw [c]; exact hr, by rw [ep]; exact List.mem_cons_self, ?_⟩
      unfold zPgv zWdr
      rw [c, rkO, e1, e2, e3, e4, e5, e7]
      have op2 : zRr fc nx (zBv T V D.toNat) bl ck wh ins (zrL [] ++ zPq T (s Y.toInt.toNat).toInt D.toNat) := op1
      exact Or.inl ⟨0, ⟨[], zPq T (s Y.toInt.toNat).toInt D.toNat, fun m hm => absurd hm List.not_mem_nil, by rw [hpl]; rfl, op2, rfl, hnu, Nat.zero_le _⟩, by omega, Int.le_refl _⟩
    · obtain ⟨b, u, g1, g2, g3⟩ := h6 a (by omega)
      have r1 := x2 a (by omega)
      have ne : b ≠ ad := fun d => c (nI a O.toInt.toNat ad (by omega) (by omega) (by rw [r1, ← d]; exact g1) hr)
      have g4 := x3 _ g2
      rw [e] at g4
      refine ⟨b, u, by rw [r1]; exact g1, by rw [ep]; exact List.mem_cons_of_mem _ (zmemx g4 (fun h9 => ne (congrArg Prod.fst h9))), ?_⟩
      have ew : zWdr s rk' a = zWdr s rk a := by unfold zWdr; rw [rkn a c]
      rw [ew]
      exact g3
  · rw [eW w]
    constructor
    · rintro (a | a)
      · exact Or.inl a
      · exact Or.inr ⟨by omega, yn⟩
    · rintro (a | ⟨a, -⟩)
      · exact Or.inl a
      · exact Or.inr (by omega)
end ZWT
def zPw (ph : Nat → Int32) (pw y : Int) : Int := if 0 ≤ y ∧ y < pw then (ph y.toNat).toInt else -2
def zQi (kd ph : Nat → Int32) (pw : Int) (a : Nat) (y : Int) : Int := if (kd a).toInt = 3 then zPw ph pw y else y
def zQl (kd lo hi ph : Nat → Int32) (pw : Int) (a : Nat) (b w : Int) : Prop := (kd a).toInt ≠ 4 ∧ ∃ y : Int, (lo a).toInt ≤ y ∧ y < b ∧ y < (hi a).toInt ∧ zQi kd ph pw a y = w
def zQa (kd lo hi ph : Nat → Int32) (pw L w : Int) : Prop := ∃ a : Nat, (a : Int) < L ∧ zQl kd lo hi ph pw a (hi a).toInt w
def zPgO (rf : Nat → Option Nat) (rk wn : Nat → Int32) (op : Int) : Prop := zIj rf ∧ 0 ≤ op ∧ op ≤ 400 ∧ ∀ w : Nat, w < 400 → (wn w).toInt ≠ 0 → ∃ a : Nat, (a : Int) < op ∧ (rk a).toInt = (w : Int)
theorem zOpS_O {hp : Nat} {rf : Nat → Option Nat} {pl : va_W} {s : Nat → Int64} {n : Int} {rk wn : Nat → Int32} {op : Int} {fc nx : Nat → Int32} {B : Nat → List Bool} {T : Nat → Nat → Int} {D : Nat} (h : zOpS hp rf pl s n rk wn op fc nx B T D) : zPgO rf rk wn op := by
  obtain ⟨h1, h2, h3, h4, h5, h6⟩ := h
  have l := zct_l (f := wn) 400
  exact ⟨h1, by omega, by omega, fun w hw a => (h5 w hw).mp a⟩
def zCw (wn0 wn rk : Nat → Int32) (c : Int) : Prop := ∀ w : Nat, w < 400 → (wn w).toInt ≠ 0 → (wn0 w).toInt ≠ 0 ∧ ∀ a : Nat, (a : Int) < c → (rk a).toInt ≠ (w : Int)
theorem zCw_0 {wn rk : Nat → Int32} {c : Int} (h : c ≤ 0) : zCw wn wn rk c := fun w hw a => ⟨a, fun b hb => by omega⟩
theorem zCw_s {wn0 wn wn' rk : Nat → Int32} {C Y b0 : Int32} {c' : Int} (h : zCw wn0 wn rk C.toInt) (c0 : 0 ≤ C.toInt) (eY : Y = rk C.toNatClampNeg) (e : wn' = upd wn Y.toNatClampNeg b0) (hb : b0.toInt = 0) (y0 : 0 ≤ Y.toInt) (hc : c' = C.toInt + 1) : zCw wn0 wn' rk c' := fun w hw a => by
  have cC : C.toNatClampNeg = C.toInt.toNat := rfl
  have cY : Y.toNatClampNeg = Y.toInt.toNat := rfl
  by_cases d : w = Y.toNatClampNeg
  · rw [e, d, pk_us] at a
    exact absurd hb a
  · rw [e, pk_un d] at a
    obtain ⟨a1, a2⟩ := h w hw a
    refine ⟨a1, fun b hb' => ?_⟩
    by_cases g : b = C.toInt.toNat
    · rw [g, ← cC, ← eY]; omega
    · exact a2 b (by omega)
abbrev zOpW (wn : Nat → Int32) (n : Int) (Q : Int → Prop) : Prop := ∀ w : Nat, w < 400 → ((wn w).toInt ≠ 0 ↔ (w : Int) < n ∧ Q (w : Int))
def zOpA (hp : Nat) (rf0 : Nat → Option Nat) (s : Nat → Int64) (i fr : Nat → Int32) (n : Int) (ro cs nx fc lc bt : Nat → Int32) (ch ru ab tk : Int) (h l : Nat → Int32) (rk0 wn0 : Nat → Int32) (op0 : Int) (rf : Nat → Option Nat) (pl : va_W) (rk wn : Nat → Int32) (op : Int) (kd lo hi ph : Nat → Int32) (pw L : Int) : Prop := ∀ (T : Nat → Nat → Int) (V : List Int) (D : Int), zKl s i fr n ro cs nx fc lc bt ch ru ab tk h l D T V → zPgO rf0 rk0 wn0 op0 → zOpS hp rf pl s n rk wn op fc nx (zBv T V D.toNat) T D.toNat ∧ zOpW wn n (zQa kd lo hi ph pw L)
def zOpB (hp : Nat) (rf0 : Nat → Option Nat) (s : Nat → Int64) (i fr : Nat → Int32) (n : Int) (ro cs nx fc lc bt : Nat → Int32) (ch ru ab tk : Int) (h l : Nat → Int32) (rk0 wn0 : Nat → Int32) (op0 : Int) (rf : Nat → Option Nat) (pl : va_W) (rk wn : Nat → Int32) (op : Int) (kd lo hi ph : Nat → Int32) (pw L b : Int) : Prop := ∀ (T : Nat → Nat → Int) (V : List Int) (D : Int), zKl s i fr n ro cs nx fc lc bt ch ru ab tk h l D T V → zPgO rf0 rk0 wn0 op0 → zOpS hp rf pl s n rk wn op fc nx (zBv T V D.toNat) T D.toNat ∧ zOpW wn n (fun w => zQa kd lo hi ph pw L w ∨ zQl kd lo hi ph pw L.toNat b w)
section ZOA
variable {pl pl' : va_W} {hp : Nat} {rf0 rf rf' : Nat → Option Nat} {s : Nat → Int64} {i fr ro cs nx fc lc bt h l rk0 wn0 rk rk' wn wn' kd lo hi ph : Nat → Int32} {n ch ru ab tk op0 op op' pw L L' b b' x y : Int}
theorem zOpA_0 {z : Int} (hz : zCw wn0 wn rk0 z) (h1 : op0 ≤ z) (ho : op = 0) (hL : L = 0) : zOpA hp rf0 s i fr n ro cs nx fc lc bt ch ru ab tk h l rk0 wn0 op0 rf0 pl rk wn op kd lo hi ph pw L := fun T V D hk hg => by
  obtain ⟨g1, g2, g3, g4⟩ := hg
  have z0 : ∀ w : Nat, w < 400 → (wn w).toInt = 0 := fun w hw => Classical.byContradiction fun a => by
    obtain ⟨a1, a2⟩ := hz w hw a
    obtain ⟨c, c1, c2⟩ := g4 w hw a1
    exact a2 c (by omega) c2
  refine ⟨⟨g1, by rw [ho, zct_z 400 z0]; rfl, fun a ha => by omega, fun a _ ha => by omega, fun w hw => ⟨fun a => absurd (z0 w hw) a, fun ⟨a, a1, _⟩ => by omega⟩, fun a ha => by omega⟩, fun w hw => ⟨fun a => absurd (z0 w hw) a, fun ⟨_, a, a1, _⟩ => by omega⟩⟩
theorem zOpB_0 {Lc : Int32} (hA : zOpA hp rf0 s i fr n ro cs nx fc lc bt ch ru ab tk h l rk0 wn0 op0 rf pl rk wn op kd lo hi ph pw Lc.toInt) (hb : b = (lo Lc.toNatClampNeg).toInt) : zOpB hp rf0 s i fr n ro cs nx fc lc bt ch ru ab tk h l rk0 wn0 op0 rf pl rk wn op kd lo hi ph pw Lc.toInt b := fun T V D hk hg => by
  have cL : Lc.toNatClampNeg = Lc.toInt.toNat := rfl
  rw [cL] at hb
  obtain ⟨a1, a2⟩ := hA T V D hk hg
  refine ⟨a1, fun w hw => (a2 w hw).trans ⟨fun ⟨c, d⟩ => ⟨c, Or.inl d⟩, fun ⟨c, d⟩ => ⟨c, d.resolve_right ?_⟩⟩⟩
  rintro ⟨-, z, z1, z2, -, -⟩
  omega
theorem zOpA_s {Lc : Int32} (hB : zOpB hp rf0 s i fr n ro cs nx fc lc bt ch ru ab tk h l rk0 wn0 op0 rf pl rk wn op kd lo hi ph pw Lc.toInt b) (l0 : 0 ≤ Lc.toInt) (he : (kd Lc.toNatClampNeg).toInt = 4 ∨ (hi Lc.toNatClampNeg).toInt ≤ b) (hL : L' = Lc.toInt + 1) : zOpA hp rf0 s i fr n ro cs nx fc lc bt ch ru ab tk h l rk0 wn0 op0 rf pl rk wn op kd lo hi ph pw L' := fun T V D hk hg => by
  have cL : Lc.toNatClampNeg = Lc.toInt.toNat := rfl
  rw [cL] at he
  obtain ⟨a1, a2⟩ := hB T V D hk hg
  refine ⟨a1, fun w hw => (a2 w hw).trans ⟨?_, ?_⟩⟩
  · rintro ⟨c, ⟨a, d1, d2⟩ | ⟨d1, z, z1, z2, z3, z4⟩⟩
    · exact ⟨c, a, by omega, d2⟩
    · exact ⟨c, Lc.toInt.toNat, by omega, d1, z, z1, z3, z3, z4⟩
  · rintro ⟨c, a, d1, d2⟩
    refine ⟨c, ?_⟩
    by_cases e : (a : Int) < Lc.toInt
    · exact Or.inl ⟨a, e, d2⟩
    · have ea : a = Lc.toInt.toNat := by omega
      subst ea
      obtain ⟨d3, z, z1, z2, z3, z4⟩ := d2
      exact Or.inr ⟨d3, z, z1, by omega, z3, z4⟩
theorem zOpB_s {Lc : Int32} (hB : zOpB hp rf0 s i fr n ro cs nx fc lc bt ch ru ab tk h l rk0 wn0 op0 rf pl rk wn op kd lo hi ph pw Lc.toInt b) (hw : zWtc hp rf pl s i fr n ro cs nx fc lc bt ch ru ab tk h l rk wn op rf' pl' rk' wn' op' x) (hk4 : (kd Lc.toNatClampNeg).toInt ≠ 4) (hb : (lo Lc.toNatClampNeg).toInt ≤ b) (hh : b < (hi Lc.toNatClampNeg).toInt) (hx : zQi kd ph pw Lc.toNatClampNeg b = x) (hb' : b' = b + 1) : zOpB hp rf0 s i fr n ro cs nx fc lc bt ch ru ab tk h l rk0 wn0 op0 rf' pl' rk' wn' op' kd lo hi ph pw Lc.toInt b' := fun T V D hk hg => by
  have cL : Lc.toNatClampNeg = Lc.toInt.toNat := rfl
  rw [cL] at hk4 hb hh hx
  obtain ⟨a1, a2⟩ := hB T V D hk hg
  obtain ⟨b1, b2⟩ := hw T V D hk a1
  refine ⟨b1, fun w hw => (b2 w hw).trans ?_⟩
  rw [a2 w hw]
  constructor
  · rintro (⟨c, d | ⟨d1, z, z1, z2, z3, z4⟩⟩ | ⟨c, d⟩)
    · exact ⟨c, Or.inl d⟩
    · exact ⟨c, Or.inr ⟨d1, z, z1, by omega, z3, z4⟩⟩
    · exact ⟨by omega, Or.inr ⟨hk4, b, hb, by omega, hh, by omega⟩⟩
  · rintro ⟨c, d | ⟨d1, z, z1, z2, z3, z4⟩⟩
    · exact Or.inl ⟨c, Or.inl d⟩
    · by_cases e : z < b
      · exact Or.inl ⟨c, Or.inr ⟨d1, z, z1, e, z3, z4⟩⟩
      · have ez : z = b := by omega
        rw [ez] at z4
        exact Or.inr ⟨by omega, by omega⟩
theorem zOpA_c (hA : zOpA hp rf0 s i fr n ro cs nx fc lc bt ch ru ab tk h l rk0 wn0 op0 rf pl rk wn op kd lo hi ph pw L) (e : L' = L) : zOpA hp rf0 s i fr n ro cs nx fc lc bt ch ru ab tk h l rk0 wn0 op0 rf pl rk wn op kd lo hi ph pw L' := by rw [e]; exact hA
theorem zQi_i {y : Int} {a : Nat} (h : (kd a).toInt ≠ 3) (e : x = y) : zQi kd ph pw a y = x := by
  unfold zQi
  rw [if_neg h, e]
theorem zQi_p {y : Int} {a : Nat} (h : (kd a).toInt = 3) (e : x = zPw ph pw y) : zQi kd ph pw a y = x := by
  unfold zQi
  rw [if_pos h, e]
theorem zPw_y {X z : Int32} (x0 : 0 ≤ X.toInt) (x1 : X.toInt < pw) (e : z = ph X.toNatClampNeg) : z.toInt = zPw ph pw X.toInt := by
  unfold zPw
  rw [if_pos ⟨x0, x1⟩, e]
  rfl
theorem zPw_n {r : Int} (h : x < 0 ∨ pw ≤ x) (e : r = -2) : r = zPw ph pw x := by
  unfold zPw
  rw [if_neg (by omega), e]
end ZOA
def zWa (std : Nat → Int32) (p : Int) : Int := if 0 ≤ p ∧ p < 832 then (std p.toNat).toInt else -1
theorem zWa_y {std : Nat → Int32} {X z : Int32} (x0 : 0 ≤ X.toInt) (x1 : X.toInt < 832) (e : z = std X.toNatClampNeg) : z.toInt = zWa std X.toInt := by
  unfold zWa
  rw [if_pos ⟨x0, x1⟩, e]
  rfl
theorem zWa_n {std : Nat → Int32} {x r : Int} (h : x < 0 ∨ 832 ≤ x) (e : r = -1) : r = zWa std x := by
  unfold zWa
  rw [if_neg (by omega), e]
def zGt (row0 row : Nat → Int32) (M : Nat → Int → Prop) (c : Int) : Prop := ∀ q : Nat, q < 832 → (zpb row q = true ↔ zpb row0 q = true ∨ ∃ a : Nat, (a : Int) < c ∧ M a (q : Int))
section ZGT
variable {row0 row row' : Nat → Int32} {M : Nat → Int → Prop} {c c' pl : Int}
theorem zGt_0 (h : c ≤ 0) : zGt row row M c := fun q hq => ⟨fun a => Or.inl a, fun a => a.resolve_right (fun ⟨b, b1, _⟩ => by omega)⟩
theorem zGt_k (h : zGt row0 row M c) (c0 : 0 ≤ c) (hM : ∀ q : Nat, q < 832 → ¬ M c.toNat (q : Int)) (hc : c' = c + 1) : zGt row0 row M c' := fun q hq => (h q hq).trans ⟨fun a => a.imp id (fun ⟨b, b1, b2⟩ => ⟨b, by omega, b2⟩), fun a => a.imp id (fun ⟨b, b1, b2⟩ => ⟨b, by
  by_cases d : b = c.toNat
  · rw [d] at b2
    exact absurd b2 (hM q hq)
  · omega, b2⟩)⟩
theorem zGt_s (h : zGt row0 row M c) (c0 : 0 ≤ c) (hp : zpP row row' pl) (hM : ∀ q : Nat, q < 832 → (M c.toNat (q : Int) ↔ (q : Int) = pl)) (hc : c' = c + 1) : zGt row0 row' M c' := fun q hq => by
  rw [hp q hq, Bool.or_eq_true, h q hq, decide_eq_true_iff, ← hM q hq]
  constructor
  · rintro ((a | ⟨b, b1, b2⟩) | a)
    · exact Or.inl a
    · exact Or.inr ⟨b, by omega, b2⟩
    · exact Or.inr ⟨c.toNat, by omega, a⟩
  · rintro (a | ⟨b, b1, b2⟩)
    · exact Or.inl (Or.inl a)
    · by_cases d : b = c.toNat
      · rw [d] at b2
        exact Or.inr b2
      · exact Or.inl (Or.inr ⟨b, by omega, b2⟩)
end ZGT
def zGW (std sn row0 row : Nat → Int32) (lo hi c : Int) : Prop := zGt row0 row (fun a q => (sn a).toInt = q ∧ lo ≤ zWa std q ∧ zWa std q < hi) c
section ZGW
variable {std sn row0 row row' : Nat → Int32} {lo hi c c' r : Int} {C S S2 : Int32}
theorem zGW_0 (h : c ≤ 0) : zGW std sn row row lo hi c := zGt_0 h
theorem zGW_k (h : zGW std sn row0 row lo hi C.toInt) (c0 : 0 ≤ C.toInt) (eS : S = sn C.toNatClampNeg) (hr : r = zWa std S.toInt) (hn : r < lo ∨ hi ≤ r) (hc : c' = C.toInt + 1) : zGW std sn row0 row lo hi c' := zGt_k h c0 (fun q hq ⟨a, b1, b2⟩ => by
  have e2 : (sn C.toInt.toNat).toInt = S.toInt := congrArg Int32.toInt eS.symm
  rw [← a, e2, ← hr] at b1 b2
  omega) hc
theorem zGW_s (h : zGW std sn row0 row lo hi C.toInt) (c0 : 0 ≤ C.toInt) (eS : S = sn C.toNatClampNeg) (hr : r = zWa std S.toInt) (h1 : lo ≤ r) (h2 : r < hi) (eS2 : S2 = sn C.toNatClampNeg) (hp : zpP row row' S2.toInt) (hc : c' = C.toInt + 1) : zGW std sn row0 row' lo hi c' := zGt_s h c0 hp (fun q hq => by
  have e2 : (sn C.toInt.toNat).toInt = S.toInt := congrArg Int32.toInt eS.symm
  have e3 : (sn C.toInt.toNat).toInt = S2.toInt := congrArg Int32.toInt eS2.symm
  constructor
  · rintro ⟨a, -, -⟩
    omega
  · intro a
    refine ⟨by omega, ?_, ?_⟩
    · rw [show (q : Int) = S.toInt from by omega, ← hr]; exact h1
    · rw [show (q : Int) = S.toInt from by omega, ← hr]; exact h2) hc
theorem zGW_e (h : zGW std sn row0 row lo hi c) (e : c' = c) : zGW std sn row0 row lo hi c' := by rw [e]; exact h
end ZGW
def zSfr (std ph : Nat → Int32) (pw f lo hi : Int) : Prop := ∀ y : Int, lo ≤ y → y < hi → zPw ph pw y ≠ -2 → zWa std (f + y - lo) = zPw ph pw y
def zSfP (f lo hi : Int) : Prop := 0 ≤ lo ∧ hi ≤ 160 ∧ -1000 ≤ f ∧ f ≤ 1000
def zSfI (std ph : Nat → Int32) (pw f lo hi c : Int) : Prop := lo ≤ c ∧ (zSfP f lo hi → zSfr std ph pw f lo c)
def zSFr (std ph : Nat → Int32) (pw f lo hi r : Int) : Prop := zSfP f lo hi → (r = 1 ∧ zSfr std ph pw f lo hi) ∨ (r = 0 ∧ ¬ zSfr std ph pw f lo hi)
section ZSF
variable {std ph : Nat → Int32} {pw f lo hi c c' r r1 r2 : Int} {F U Z1 L Z2 : Int32}
theorem zSfI_0 (h : c = lo) : zSfI std ph pw f lo hi c := ⟨by omega, fun _ y y1 y2 => by omega⟩
theorem zSfI_k (h : zSfI std ph pw f lo hi c) (hr : r = zPw ph pw c) (hn : r = -2) (hc : c' = c + 1) : zSfI std ph pw f lo hi c' := by
  obtain ⟨h1, h2⟩ := h
  refine ⟨by omega, fun p y y1 y2 y3 => ?_⟩
  by_cases d : y = c
  · rw [d] at y3
    omega
  · exact h2 p y y1 (by omega) y3
theorem zSfI_s (h : zSfI std ph pw F.toInt L.toInt hi U.toInt) (hu : U.toInt < hi) (e1 : Z1 = F + U) (e2 : Z2 = Z1 - L) (hr : r1 = zPw ph pw U.toInt) (hw : r2 = zWa std Z2.toInt) (he : r2 = r1) (hc : c' = U.toInt + 1) : zSfI std ph pw F.toInt L.toInt hi c' := by
  obtain ⟨h1, h2⟩ := h
  refine ⟨by omega, fun p y y1 y2 y3 => ?_⟩
  by_cases d : y = U.toInt
  · obtain ⟨p1, p2, p3, p4⟩ := id p
    have z1 := zadd rfl rfl e1 (by omega) (by omega)
    have z2 := zsub rfl rfl e2 (by omega) (by omega)
    rw [d, show F.toInt + U.toInt - L.toInt = Z2.toInt from by omega, ← hw, ← hr]
    exact he
  · exact h2 p y y1 (by omega) y3
theorem zSFr_y (h : zSfI std ph pw f lo hi c) (hc : hi ≤ c) (hr : r = 1) : zSFr std ph pw f lo hi r := fun p => Or.inl ⟨hr, fun y y1 y2 y3 => h.2 p y y1 (by omega) y3⟩
theorem zSFr_n (h : zSfI std ph pw F.toInt L.toInt hi U.toInt) (hu : U.toInt < hi) (e1 : Z1 = F + U) (e2 : Z2 = Z1 - L) (hr : r1 = zPw ph pw U.toInt) (hn : r1 ≠ -2) (hw : r2 = zWa std Z2.toInt) (he : r2 ≠ r1) (h0 : r = 0) : zSFr std ph pw F.toInt L.toInt hi r := fun p => Or.inr ⟨h0, fun q => by
  obtain ⟨p1, p2, p3, p4⟩ := id p
  have h1 := h.1
  have z1 := zadd rfl rfl e1 (by omega) (by omega)
  have z2 := zsub rfl rfl e2 (by omega) (by omega)
  have q1 := q U.toInt h1 hu (by rw [← hr]; exact hn)
  rw [show F.toInt + U.toInt - L.toInt = Z2.toInt from by omega, ← hw, ← hr] at q1
  exact he q1⟩
end ZSF
def zSu (ph : Nat → Int32) (pw lo c : Int) : Prop := lo ≤ c ∧ ∀ y : Int, lo ≤ y → y < c → zPw ph pw y = -2
def zSuE (ph : Nat → Int32) (pw lo hi c : Int) : Prop := zSu ph pw lo c ∧ (hi ≤ c ∨ zPw ph pw c ≠ -2)
def zPhM (std sn ph : Nat → Int32) (pw lo hi su : Int) (a : Nat) (q : Int) : Prop := q = (sn a).toInt - (su - lo) ∧ ((sn a).toInt < 512 ∧ 0 ≤ q ∨ 512 ≤ (sn a).toInt ∧ 512 ≤ q) ∧ zSfr std ph pw q lo hi
def zGP (std sn ph row0 row : Nat → Int32) (pw lo hi su c : Int) : Prop := (hi ≤ su → row = row0) ∧ (0 ≤ lo → hi ≤ 160 → lo ≤ su → su < hi → zGt row0 row (zPhM std sn ph pw lo hi su) c)
def zGPe (std sn ph row0 row : Nat → Int32) (pw lo hi c : Int) : Prop := 0 ≤ lo → hi ≤ 160 → (∃ su : Int, zSu ph pw lo su ∧ su < hi ∧ zPw ph pw su ≠ -2 ∧ zGt row0 row (zPhM std sn ph pw lo hi su) c) ∨ ((∀ y : Int, lo ≤ y → y < hi → zPw ph pw y = -2) ∧ row = row0)
section ZGP
variable {std sn ph row0 row row' : Nat → Int32} {pw lo hi su c c' r : Int} {C S Z7 Z8 SU LO : Int32}
theorem zSu_0 (h : c = lo) : zSu ph pw lo c := ⟨by omega, fun y y1 y2 => by omega⟩
theorem zSu_s (h : zSu ph pw lo c) (hr : r = zPw ph pw c) (hn : r = -2) (hc : c' = c + 1) : zSu ph pw lo c' := ⟨by have := h.1; omega, fun y y1 y2 => by
  by_cases d : y = c
  · rw [d]; omega
  · exact h.2 y y1 (by omega)⟩
theorem zSuE_1 (h : zSu ph pw lo c) (hc : hi ≤ c) : zSuE ph pw lo hi c := ⟨h, Or.inl hc⟩
theorem zSuE_2 (h : zSu ph pw lo c) (hr : r = zPw ph pw c) (hn : r ≠ -2) : zSuE ph pw lo hi c := ⟨h, Or.inr (by rw [← hr]; exact hn)⟩
theorem zGP_0 (h : c ≤ 0) : zGP std sn ph row row pw lo hi su c := ⟨fun _ => rfl, fun _ _ _ _ => zGt_0 h⟩
theorem zGP_z (s0 : 0 ≤ S.toInt) (s1 : S.toInt ≤ 831) (e7 : Z7 = SU - LO) (e8 : Z8 = S - Z7) (p1 : 0 ≤ LO.toInt) (p2 : hi ≤ 160) (p3 : LO.toInt ≤ SU.toInt) (p4 : SU.toInt < hi) : Z8.toInt = S.toInt - (SU.toInt - LO.toInt) ∧ zSfP Z8.toInt LO.toInt hi := by
  have z7 := zsub rfl rfl e7 (by omega) (by omega)
  have z8 := zsub rfl rfl e8 (by omega) (by omega)
  exact ⟨by omega, p1, p2, by omega, by omega⟩
theorem zGP_k (h : zGP std sn ph row0 row pw LO.toInt hi SU.toInt C.toInt) (c0 : 0 ≤ C.toInt) (eS : S = sn C.toNatClampNeg) (s0 : 0 ≤ S.toInt) (s1 : S.toInt ≤ 831) (e7 : Z7 = SU - LO) (e8 : Z8 = S - Z7) (hn : S.toInt < 512 ∧ Z8.toInt < 0 ∨ 512 ≤ S.toInt ∧ Z8.toInt < 512) (hc : c' = C.toInt + 1) : zGP std sn ph row0 row pw LO.toInt hi SU.toInt c' := ⟨h.1, fun p1 p2 p3 p4 => zGt_k (h.2 p1 p2 p3 p4) c0 (fun q hq ⟨m1, m2, m3⟩ => by
  have z := (zGP_z s0 s1 e7 e8 p1 p2 p3 p4).1
  have e2 : (sn C.toInt.toNat).toInt = S.toInt := congrArg Int32.toInt eS.symm
  rw [e2] at m1 m2
  omega) hc⟩
theorem zGP_f (h : zGP std sn ph row0 row pw LO.toInt hi SU.toInt C.toInt) (c0 : 0 ≤ C.toInt) (eS : S = sn C.toNatClampNeg) (s0 : 0 ≤ S.toInt) (s1 : S.toInt ≤ 831) (e7 : Z7 = SU - LO) (e8 : Z8 = S - Z7) (hs : zSFr std ph pw Z8.toInt LO.toInt hi r) (h0 : r = 0) (hc : c' = C.toInt + 1) : zGP std sn ph row0 row pw LO.toInt hi SU.toInt c' := ⟨h.1, fun p1 p2 p3 p4 => zGt_k (h.2 p1 p2 p3 p4) c0 (fun q hq ⟨m1, m2, m3⟩ => by
  obtain ⟨z, zp⟩ := zGP_z s0 s1 e7 e8 p1 p2 p3 p4
  have e2 : (sn C.toInt.toNat).toInt = S.toInt := congrArg Int32.toInt eS.symm
  rw [e2] at m1
  rcases hs zp with ⟨a, -⟩ | ⟨-, b⟩
  · omega
  · rw [show (q : Int) = Z8.toInt from by omega] at m3
    exact b m3) hc⟩
theorem zGP_s (h : zGP std sn ph row0 row pw LO.toInt hi SU.toInt C.toInt) (c0 : 0 ≤ C.toInt) (eS : S = sn C.toNatClampNeg) (s0 : 0 ≤ S.toInt) (s1 : S.toInt ≤ 831) (e7 : Z7 = SU - LO) (e8 : Z8 = S - Z7) (hn : S.toInt < 512 ∧ 0 ≤ Z8.toInt ∨ 512 ≤ S.toInt ∧ 512 ≤ Z8.toInt) (hs : zSFr std ph pw Z8.toInt LO.toInt hi r) (h0 : r ≠ 0) (hsu : SU.toInt < hi) (hp : zpP row row' Z8.toInt) (hc : c' = C.toInt + 1) : zGP std sn ph row0 row' pw LO.toInt hi SU.toInt c' := ⟨fun a => by omega, fun p1 p2 p3 p4 => zGt_s (h.2 p1 p2 p3 p4) c0 hp (fun q hq => by
  obtain ⟨z, zp⟩ := zGP_z s0 s1 e7 e8 p1 p2 p3 p4
  have e2 : (sn C.toInt.toNat).toInt = S.toInt := congrArg Int32.toInt eS.symm
  rcases hs zp with ⟨-, b⟩ | ⟨a, -⟩
  · unfold zPhM
    rw [e2]
    constructor
    · rintro ⟨m1, -, -⟩
      omega
    · intro m
      rw [m]
      exact ⟨z, by omega, b⟩
  · exact absurd a h0) hc⟩
theorem zGPe_i (hu : zSuE ph pw lo hi su) (h : zGP std sn ph row0 row pw lo hi su c) (e : su < hi → c' = c) : zGPe std sn ph row0 row pw lo hi c' := fun p1 p2 => by
  obtain ⟨⟨u1, u2⟩, u3⟩ := hu
  by_cases d : su < hi
  · rw [e d]
    exact Or.inl ⟨su, ⟨u1, u2⟩, d, u3.resolve_left (by omega), h.2 p1 p2 u1 d⟩
  · exact Or.inr ⟨fun y y1 y2 => u2 y y1 (by omega), h.1 (by omega)⟩
end ZGP
def zGg (std sn kd lo hi ph : Nat → Int32) (pw cnt : Int) (a : Nat) (row : Nat → Int32) : Prop := ∃ row0 : Nat → Int32, (∀ q : Nat, q < 832 → zpb row0 q = false) ∧ (((kd a).toInt = 3 ∧ zGPe std sn ph row0 row pw (lo a).toInt (hi a).toInt cnt) ∨ ((kd a).toInt = 4 ∧ row = row0) ∨ ((kd a).toInt ≠ 3 ∧ (kd a).toInt ≠ 4 ∧ zGW std sn row0 row (lo a).toInt (hi a).toInt cnt))
def zG1 (std sn kd lo hi ph sd : Nat → Int32) (pw cnt : Int) (a : Nat) (row' : Nat → Int32) : Prop := ∃ row : Nat → Int32, zGg std sn kd lo hi ph pw cnt a row ∧ ∀ q : Nat, q < 832 → (zpb row' q = true ↔ zpb row q = true ∧ (q < 512 → (sd a &&& 1).toInt ≠ 0))
def zGh (std sn kd lo hi ph sd : Nat → Int32) (pw cnt : Int) (a : Nat) (row' : Nat → Int32) : Prop := ∃ row : Nat → Int32, zGg std sn kd lo hi ph pw cnt a row ∧ ∀ q : Nat, q < 832 → (zpb row' q = true ↔ zpb row q = true ∧ (q < 512 → (sd a &&& 1).toInt ≠ 0) ∧ (512 ≤ q → (sd a &&& 2).toInt ≠ 0))
section ZGA
variable {std sn kd lo hi ph sd row0 row row' : Nat → Int32} {pw cnt l h : Int} {a : Nat} {Z R : Int32}
theorem zGg_p (hz : ∀ q : Nat, q < 832 → zpb row0 q = false) (hg : zGPe std sn ph row0 row pw l h cnt) (el : l = (lo a).toInt) (eh : h = (hi a).toInt) (k3 : (kd a).toInt = 3) : zGg std sn kd lo hi ph pw cnt a row := ⟨row0, hz, Or.inl ⟨k3, by rw [← el, ← eh]; exact hg⟩⟩
theorem zGg_w (hz : ∀ q : Nat, q < 832 → zpb row0 q = false) (hg : zGW std sn row0 row l h cnt) (el : l = (lo a).toInt) (eh : h = (hi a).toInt) (k3 : (kd a).toInt ≠ 3) (k4 : (kd a).toInt ≠ 4) : zGg std sn kd lo hi ph pw cnt a row := ⟨row0, hz, Or.inr (Or.inr ⟨k3, k4, by rw [← el, ← eh]; exact hg⟩)⟩
theorem zGg_m (hz : ∀ q : Nat, q < 832 → zpb row q = false) (k4 : (kd a).toInt = 4) : zGg std sn kd lo hi ph pw cnt a row := ⟨row, hz, Or.inr (Or.inl ⟨k4, rfl⟩)⟩
theorem zG1_n (hg : zGg std sn kd lo hi ph pw cnt a row) (eR : R.toInt = (sd a).toInt) (eZ : Z = R &&& 1) (hn : Z.toInt ≠ 0) : zG1 std sn kd lo hi ph sd pw cnt a row := by
  have e : R = sd a := zeqi.mpr eR
  rw [e] at eZ
  rw [eZ] at hn
  exact ⟨row, hg, fun q hq => ⟨fun c => ⟨c, fun _ => hn⟩, fun c => c.1⟩⟩
theorem zG1_y (hg : zGg std sn kd lo hi ph pw cnt a row) (hc : zclr row row' 0 512) (eR : R.toInt = (sd a).toInt) (eZ : Z = R &&& 1) (h0 : Z.toInt = 0) : zG1 std sn kd lo hi ph sd pw cnt a row' := by
  have e : R = sd a := zeqi.mpr eR
  rw [e] at eZ
  rw [eZ] at h0
  refine ⟨row, hg, fun q hq => ?_⟩
  rw [hc q hq]
  by_cases d : q < 512
  · rw [if_pos ⟨Nat.zero_le _, d⟩]
    exact ⟨fun c => absurd c (by decide), fun c => absurd h0 (c.2 d)⟩
  · rw [if_neg (fun c => d c.2)]
    exact ⟨fun c => ⟨c, fun k => absurd k d⟩, fun c => c.1⟩
theorem zGh_n (hg : zG1 std sn kd lo hi ph sd pw cnt a row') (eR : R.toInt = (sd a).toInt) (eZ : Z = R &&& 2) (hn : Z.toInt ≠ 0) : zGh std sn kd lo hi ph sd pw cnt a row' := by
  have e : R = sd a := zeqi.mpr eR
  rw [e] at eZ
  rw [eZ] at hn
  obtain ⟨r1, g1, g2⟩ := hg
  exact ⟨r1, g1, fun q hq => (g2 q hq).trans ⟨fun c => ⟨c.1, c.2, fun _ => hn⟩, fun c => ⟨c.1, c.2.1⟩⟩⟩
theorem zGh_y (hg : zG1 std sn kd lo hi ph sd pw cnt a row) (hc : zclr row row' 512 832) (eR : R.toInt = (sd a).toInt) (eZ : Z = R &&& 2) (h0 : Z.toInt = 0) : zGh std sn kd lo hi ph sd pw cnt a row' := by
  have e : R = sd a := zeqi.mpr eR
  rw [e] at eZ
  rw [eZ] at h0
  obtain ⟨r1, g1, g2⟩ := hg
  refine ⟨r1, g1, fun q hq => ?_⟩
  rw [hc q hq]
  by_cases d : 512 ≤ q
  · rw [if_pos ⟨d, hq⟩]
    exact ⟨fun c => absurd c (by decide), fun c => absurd h0 (c.2.2 d)⟩
  · rw [if_neg (fun c => d c.1)]
    exact (g2 q hq).trans ⟨fun c => ⟨c.1, c.2, fun k => absurd k d⟩, fun c => ⟨c.1, c.2.1⟩⟩
end ZGA
