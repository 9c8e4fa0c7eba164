section ZQ
variable {p : Program} {l : Launch} {e : Env} {R : Room} {s : State} {m : MethodId} {args : Array Value} {below : List Frame} {meth : Method} {c : Code} {H : Heap} {locs : List Loc} {cells slots : Nat} {Q : State → Prop} {pc : Nat} {ls : Array Slot} {rest : List Value}
theorem lv_topq {o : Option Nat} (k : ∀ z : Option Nat, z = o → W p l e R s m args below meth c H locs cells slots Q (F0 m pc ls (va_rf z :: rest))) : W p l e R s m args below meth c H locs cells slots Q (F0 m pc ls (va_rf o :: rest)) := k o rfl
/-- a cut whose room hangs on a count -/
theorem zcutWk (P : Heap → List Loc → Array Slot → (Nat → Int32) → (Nat → Int64) → (Nat → Nat → Int32) → (Nat → Nat → Int64) → Prop) (g : Array Slot → (Nat → Int32) → (Nat → Int64) → JFrame) (k n : (Nat → Int32) → Nat) {H0 : Heap} {locs0 : List Loc} {k0 n0 : Nat} {g0 : JFrame}
    (hM : ∀ H locs ls u w a b, P H locs ls u w a b → W p l e R s m args below meth c H locs (k u) (n u) Q (g ls u w))
    (hr : (∀ H locs ls u w a b, P H locs ls u w a b → W p l e R s m args below meth c H locs (k u) (n u) Q (g ls u w)) → W p l e R s m args below meth c H0 locs0 k0 n0 Q g0) : W p l e R s m args below meth c H0 locs0 k0 n0 Q g0 := hr hM
theorem zcutLk (μ : (Nat → Int32) → Nat) (P : Heap → List Loc → Array Slot → (Nat → Int32) → (Nat → Int64) → (Nat → Nat → Int32) → (Nat → Nat → Int64) → Prop) (g : Array Slot → (Nat → Int32) → (Nat → Int64) → JFrame) (k n : (Nat → Int32) → Nat) {H0 : Heap} {locs0 : List Loc} {k0 n0 : Nat} {g0 : JFrame}
    (hM : ∀ H locs ls u w a b, P H locs ls u w a b → (∀ H' locs' ls' u' w' a' b', P H' locs' ls' u' w' a' b' → μ u' < μ u → W p l e R s m args below meth c H' locs' (k u') (n u') Q (g ls' u' w')) → W p l e R s m args below meth c H locs (k u) (n u) Q (g ls u w))
    (hr : (∀ H locs ls u w a b, P H locs ls u w a b → W p l e R s m args below meth c H locs (k u) (n u) Q (g ls u w)) → W p l e R s m args below meth c H0 locs0 k0 n0 Q g0) : W p l e R s m args below meth c H0 locs0 k0 n0 Q g0 := by
  refine hr ?_
  have key : ∀ (N : Nat) H locs ls u w a b, μ u < N → P H locs ls u w a b → W p l e R s m args below meth c H locs (k u) (n u) Q (g ls u w) := by
    intro N
    induction N with
    | zero => intro H locs ls u w a b h; omega
    | succ N ih => intro H locs ls u w a b h hp; exact hM H locs ls u w a b hp (fun H' locs' ls' u' w' a' b' hp' hm => ih H' locs' ls' u' w' a' b' (by omega) hp')
  exact fun H locs ls u w a b hp => key (μ u + 1) H locs ls u w a b (Nat.lt_succ_self _) hp
end ZQ
theorem zltc {x : Int32} {N : Nat} (h0 : 0 ≤ x.toInt) (h : x.toInt < (N : Int)) : x.toNatClampNeg < N := by have := zclamp h0; omega
theorem znec {x y : Int32} (h0 : 0 ≤ x.toInt) (h1 : 0 ≤ y.toInt) (h : x.toInt ≠ y.toInt) : x.toNatClampNeg ≠ y.toNatClampNeg := by have := zclamp h0; have := zclamp h1; omega
theorem zofn {n : Nat} (h : n ≤ 4800) : (Int32.ofNat n).toInt = (n : Int) := Int32.toInt_ofNat_of_lt (by omega)
theorem zD_iff {A : Nat → Prop} {ws : va_W} : va_D A ws ↔ (ws.map Prod.fst).Nodup ∧ ∀ q ∈ ws, A q.1 := by
  constructor
  · intro h
    refine ⟨?_, fun q hq => by obtain ⟨i, hi⟩ := List.getElem?_of_mem hq; exact h.2 i q hi⟩
    rw [List.Nodup, List.pairwise_iff_getElem]
    intro i j hi hj hij e
    rw [List.length_map] at hi hj
    rw [List.getElem_map, List.getElem_map] at e
    have := h.1 i j ws[i] ws[j] (List.getElem?_eq_getElem hi) (List.getElem?_eq_getElem hj) e
    omega
  · intro ⟨h1, h2⟩
    refine ⟨fun i j x y hx hy hxy => ?_, fun k q hk => h2 q (List.mem_of_getElem? hk)⟩
    rw [List.Nodup, List.pairwise_iff_getElem] at h1
    obtain ⟨li, ei⟩ := List.getElem?_eq_some_iff.mp hx
    obtain ⟨lj, ej⟩ := List.getElem?_eq_some_iff.mp hy
    rcases Nat.lt_trichotomy i j with c | c | c
    · exact absurd (by rw [List.getElem_map, List.getElem_map, ei, ej]; exact hxy) (h1 i j (by rw [List.length_map]; exact li) (by rw [List.length_map]; exact lj) c)
    · exact c
    · exact absurd (by rw [List.getElem_map, List.getElem_map, ei, ej]; exact hxy.symm) (h1 j i (by rw [List.length_map]; exact lj) (by rw [List.length_map]; exact li) c)
theorem zvP {D : va_G} {cl : List vw_C} {ws ws' : va_W} {H : Heap} (h : va_P D cl ws H) (hp : ws'.Perm ws) : va_P D cl ws' H := fun k q hk => by
  obtain ⟨i, hi⟩ := List.getElem?_of_mem (hp.mem_iff.mp (List.mem_of_getElem? hk))
  exact h i q hi
theorem zvD {A : Nat → Prop} {ws ws' : va_W} (h : va_D A ws) (hp : ws'.Perm ws) : va_D A ws' := by
  rw [zD_iff] at h ⊢
  exact ⟨(hp.map Prod.fst).nodup_iff.mpr h.1, fun q hq => h.2 q (hp.mem_iff.mp hq)⟩
section ZFoc
variable {D : va_G} {cl : List vw_C} {A : Nat → Prop} {X p q pl : va_W} {x y : Nat × va_E} {H : Heap}
theorem zfoc_perm : ((X ++ [x]) ++ (p ++ q)).Perm (X ++ (p ++ x :: q)) := by
  rw [List.append_assoc]
  exact List.Perm.append_left X (show (x :: (p ++ q)).Perm (p ++ x :: q) from List.perm_middle.symm)
theorem zfocP (h : va_P D cl (X ++ (p ++ x :: q)) H) : va_P D cl ((X ++ [x]) ++ (p ++ q)) H := zvP h zfoc_perm
theorem zfocD (h : va_D A (X ++ (p ++ x :: q))) : va_D A ((X ++ [x]) ++ (p ++ q)) := zvD h zfoc_perm
theorem zfocm (e : pl.Perm (x :: y :: p)) : ((X ++ [x, y]) ++ p).Perm (X ++ pl) := by
  rw [List.append_assoc]
  exact List.Perm.append_left X e.symm
theorem zfocPm (e : pl.Perm (x :: y :: p)) (h : va_P D cl (X ++ pl) H) : va_P D cl ((X ++ [x, y]) ++ p) H := zvP h (zfocm e)
theorem zfocDm (e : pl.Perm (x :: y :: p)) (h : va_D A (X ++ pl)) : va_D A ((X ++ [x, y]) ++ p) := zvD h (zfocm e)
theorem zD_new2 (h : va_D A ((X ++ [x, y]) ++ pl)) : (∀ e ∈ pl, e.1 ≠ x.1) ∧ (∀ e ∈ pl, e.1 ≠ y.1) := by
  have h1 := (zD_iff.mp h).1
  rw [List.map_append, List.nodup_append] at h1
  obtain ⟨-, -, h3⟩ := h1
  refine ⟨fun e he q => h3 x.1 ?_ e.1 (List.mem_map_of_mem he) q.symm, fun e he q => h3 y.1 ?_ e.1 (List.mem_map_of_mem he) q.symm⟩
  · exact List.mem_map_of_mem (List.mem_append_right _ List.mem_cons_self)
  · exact List.mem_map_of_mem (List.mem_append_right _ (List.mem_cons_of_mem _ List.mem_cons_self))
end ZFoc
abbrev zRc (hp : Nat) (v : Nat → Int32) : va_E := .inr (8, mX8 hp v)
def zRd (hp : Nat) (rf : Nat → Option Nat) (pl : va_W) : Prop := ∀ i : Nat, i < 400 → ∀ a : Nat, rf i = some a → ∃ v : Nat → Int32, ((a, zRc hp v) : Nat × va_E) ∈ pl
def zKp (hp : Nat) (pl pl1 : va_W) : Prop := ∀ e ∈ pl, (¬ ∃ v : Nat → Int32, e.2 = zRc hp v) → e ∈ pl1
section ZRd
variable {hp i a b : Nat} {rf : Nat → Option Nat} {pl pl0 pl1 p q : va_W} {c : va_E} {v v' : Nat → Int32} {x y : Nat × va_E}
theorem zmemx (h : x ∈ p ++ y :: q) (hn : x ≠ y) : x ∈ p ++ q := by
  rcases List.mem_append.mp h with h1 | h1
  · exact List.mem_append_left _ h1
  · rcases List.mem_cons.mp h1 with h2 | h2
    · exact absurd h2 hn
    · exact List.mem_append_right _ h2
theorem zRd_put (h : zRd hp rf pl) (e : pl = p ++ (a, c) :: q) : zRd hp rf ((a, zRc hp v') :: (p ++ q)) := fun i hi b hb => by
  by_cases hab : b = a
  · subst hab; exact ⟨v', List.mem_cons_self⟩
  · obtain ⟨v, hv⟩ := h i hi b hb
    subst e
    exact ⟨v, List.mem_cons_of_mem _ (zmemx hv (fun h2 => hab (congrArg Prod.fst h2)))⟩
theorem zRd_newR (h : zRd hp rf pl) : zRd hp (va_up rf i (some a)) ((a, zRc hp v) :: pl) := fun j hj b hb => by
  by_cases hij : j = i
  · subst hij
    rw [va_up_self] at hb
    cases hb
    exact ⟨v, List.mem_cons_self⟩
  · rw [va_up_ne _ _ hij] at hb
    obtain ⟨w, hw⟩ := h j hj b hb
    exact ⟨w, List.mem_cons_of_mem _ hw⟩
theorem zKp_rf : zKp hp pl pl := fun _ h _ => h
theorem zKp_put (h : zKp hp pl0 pl) (e : pl = p ++ (a, zRc hp v) :: q) : zKp hp pl0 (x :: (p ++ q)) := fun z hz hn => by
  subst e
  exact List.mem_cons_of_mem _ (zmemx (h z hz hn) (fun h2 => hn ⟨v, by rw [h2]⟩))
theorem zKp_newR (h : zKp hp pl0 pl) : zKp hp pl0 (x :: pl) := fun z hz hn => List.mem_cons_of_mem _ (h z hz hn)
theorem zKp_tr (h : zKp hp pl0 pl) (h2 : zKp hp pl pl1) : zKp hp pl0 pl1 := fun z hz hn => h2 z (h z hz hn) hn
theorem zRd_mono (h : zRd hp rf pl) (hm : ∀ (a : Nat) (v : Nat → Int32), ((a, zRc hp v) : Nat × va_E) ∈ pl → ((a, zRc hp v) : Nat × va_E) ∈ pl1) : zRd hp rf pl1 := fun i hi a ha => by
  obtain ⟨v, hv⟩ := h i hi a ha
  exact ⟨v, hm a v hv⟩
end ZRd
abbrev zPo (b : Nat) : va_E := .inr (5, mX5 b)
abbrev zPa (kk : ClassId) (f : Nat → Int32) : va_E := zi kk 26 f
def zPs (kk : ClassId) (rf : Nat → Option Nat) (pl : va_W) : Prop := ∃ ar : Nat → Nat, (∀ i, i < 40 → ∀ a, rf i = some a → ((a, zPo (ar i)) : Nat × va_E) ∈ pl ∧ ∃ f : Nat → Int32, ((ar i, zPa kk f) : Nat × va_E) ∈ pl) ∧ (∀ i j, i < 40 → j < 40 → ∀ a, rf i = some a → rf j = some a → i = j) ∧ (∀ i j, i < 40 → j < 40 → ∀ a b, rf i = some a → rf j = some b → ar i = ar j → i = j)
section ZPs
variable {hp i a b : Nat} {kk : ClassId} {rf : Nat → Option Nat} {pl pl0 pl1 p q : va_W} {c : va_E} {f f' : Nat → Int32} {x y : Nat × va_E}
theorem zmem1 (h : x ∈ pl) : ∃ p : va_W, pl.Perm (x :: p) := by
  obtain ⟨s, t, e⟩ := List.append_of_mem h
  exact ⟨s ++ t, by rw [e]; exact List.perm_middle⟩
theorem zmem2 (h : x ∈ pl) (h2 : y ∈ pl) (hn : x ≠ y) : ∃ p : va_W, pl.Perm (x :: y :: p) := by
  obtain ⟨p, e⟩ := zmem1 h
  have h3 : y ∈ p := by
    rcases List.mem_cons.mp (e.mem_iff.mp h2) with h4 | h4
    · exact absurd h4.symm hn
    · exact h4
  obtain ⟨q, e2⟩ := zmem1 h3
  exact ⟨q, e.trans (e2.cons x)⟩
theorem zPs_out (h : zPs kk rf pl) (hi : i < 40) (e : rf i = some a) : ∃ (b : Nat) (f : Nat → Int32) (p : va_W), pl.Perm ((a, zPo b) :: (b, zPa kk f) :: p) ∧ ∀ j, j < 40 → j ≠ i → ∀ a', rf j = some a' → ∃ (b' : Nat) (f' : Nat → Int32) (p' : va_W), p.Perm ((a', zPo b') :: (b', zPa kk f') :: p') := by
  obtain ⟨ar, h1, h2, h3⟩ := h
  obtain ⟨g1, f, g2⟩ := h1 i hi a e
  obtain ⟨p, hp⟩ := zmem2 g1 g2 (fun q => by have := congrArg Prod.snd q; cases this)
  refine ⟨ar i, f, p, hp, fun j hj hji a' ha' => ?_⟩
  obtain ⟨g3, f', g4⟩ := h1 j hj a' ha'
  have m3 : ((a', zPo (ar j)) : Nat × va_E) ∈ p := by
    rcases List.mem_cons.mp (hp.mem_iff.mp g3) with h4 | h4
    · have e1 : a' = a := congrArg Prod.fst h4
      subst e1
      exact absurd (h2 j i hj hi a' ha' e) hji
    · rcases List.mem_cons.mp h4 with h5 | h5
      · have := congrArg Prod.snd h5; cases this
      · exact h5
  have m4 : ((ar j, zPa kk f') : Nat × va_E) ∈ p := by
    rcases List.mem_cons.mp (hp.mem_iff.mp g4) with h4 | h4
    · have := congrArg Prod.snd h4; cases this
    · rcases List.mem_cons.mp h4 with h5 | h5
      · exact absurd (h3 j i hj hi a' a ha' e (congrArg Prod.fst h5)) hji
      · exact h5
  obtain ⟨p', hp'⟩ := zmem2 m3 m4 (fun q => by have := congrArg Prod.snd q; cases this)
  exact ⟨ar j, f', p', hp'⟩
theorem zPs_perm (h : zPs kk rf pl) (hp : pl1.Perm pl) : zPs kk rf pl1 := by
  obtain ⟨ar, h1, h2, h3⟩ := h
  refine ⟨ar, fun i hi a ha => ?_, h2, h3⟩
  obtain ⟨g1, f, g2⟩ := h1 i hi a ha
  exact ⟨hp.mem_iff.mpr g1, f, hp.mem_iff.mpr g2⟩
theorem zRd_perm (h : zRd hp rf pl) (hm : pl1.Perm pl) : zRd hp rf pl1 := zRd_mono h (fun a v hv => hm.mem_iff.mpr hv)
theorem zPs_putP (h : zPs kk rf pl) (e : pl.Perm ((a, zPo b) :: (b, zPa kk f) :: p)) : zPs kk rf ((a, zPo b) :: (b, zPa kk f') :: p) := by
  obtain ⟨ar, h1, h2, h3⟩ := h
  refine ⟨ar, fun i hi a' ha => ?_, h2, h3⟩
  obtain ⟨g1, f1, g2⟩ := h1 i hi a' ha
  constructor
  · rcases List.mem_cons.mp (e.mem_iff.mp g1) with h4 | h4
    · rw [h4]; exact List.mem_cons_self
    · rcases List.mem_cons.mp h4 with h5 | h5
      · have := congrArg Prod.snd h5; cases this
      · exact List.mem_cons_of_mem _ (List.mem_cons_of_mem _ h5)
  · rcases List.mem_cons.mp (e.mem_iff.mp g2) with h4 | h4
    · have := congrArg Prod.snd h4; cases this
    · rcases List.mem_cons.mp h4 with h5 | h5
      · have e1 : ar i = b := congrArg Prod.fst h5
        rw [e1]
        exact ⟨f', List.mem_cons_of_mem _ List.mem_cons_self⟩
      · exact ⟨f1, List.mem_cons_of_mem _ (List.mem_cons_of_mem _ h5)⟩
theorem zRd_putP (h : zRd hp rf pl) (e : pl.Perm ((a, zPo b) :: (b, zPa kk f) :: p)) : zRd hp rf ((a, zPo b) :: (b, zPa kk f') :: p) := zRd_mono h (fun a' v hv => by
  rcases List.mem_cons.mp (e.mem_iff.mp hv) with h4 | h4
  · have h5 : zRc hp v = zPo b := congrArg Prod.snd h4
    injection h5 with h6
    injection h6 with h7 h8
    cases h7
  · rcases List.mem_cons.mp h4 with h5 | h5
    · have := congrArg Prod.snd h5; cases this
    · exact List.mem_cons_of_mem _ (List.mem_cons_of_mem _ h5))
theorem zRd_newP (h : zRd hp rf pl) : zRd hp rf (x :: y :: pl) := zRd_mono h (fun a v hv => List.mem_cons_of_mem _ (List.mem_cons_of_mem _ hv))
theorem zPs_newP (h : zPs kk rf pl) (hi : i < 40) (hn : rf i = none) (hd : (∀ e ∈ pl, e.1 ≠ a) ∧ (∀ e ∈ pl, e.1 ≠ b)) : zPs kk (va_up rf i (some a)) ((a, zPo b) :: (b, zPa kk f) :: pl) := by
  obtain ⟨ar, h1, h2, h3⟩ := h
  have hne : ∀ j, j < 40 → ∀ a', rf j = some a' → a' ≠ a ∧ ar j ≠ b := fun j hj a' ha' => by
    obtain ⟨g1, f1, g2⟩ := h1 j hj a' ha'
    exact ⟨hd.1 _ g1, hd.2 _ g2⟩
  refine ⟨fun j => if j = i then b else ar j, fun j hj a' ha' => ?_, fun j k hj hk a' hja hka => ?_, fun j k hj hk a1 a2 hja hka e => ?_⟩
  · by_cases c : j = i
    · subst c
      rw [va_up_self] at ha'
      cases ha'
      dsimp only
      rw [if_pos rfl]
      exact ⟨List.mem_cons_self, f, List.mem_cons_of_mem _ List.mem_cons_self⟩
    · rw [va_up_ne _ _ c] at ha'
      obtain ⟨g1, f1, g2⟩ := h1 j hj a' ha'
      dsimp only
      rw [if_neg c]
      exact ⟨List.mem_cons_of_mem _ (List.mem_cons_of_mem _ g1), f1, List.mem_cons_of_mem _ (List.mem_cons_of_mem _ g2)⟩
  · by_cases c : j = i <;> by_cases c2 : k = i
    · rw [c, c2]
    · subst c
      rw [va_up_self] at hja
      cases hja
      rw [va_up_ne _ _ c2] at hka
      exact absurd rfl (hne k hk _ hka).1
    · subst c2
      rw [va_up_self] at hka
      cases hka
      rw [va_up_ne _ _ c] at hja
      exact absurd rfl (hne j hj _ hja).1
    · rw [va_up_ne _ _ c] at hja
      rw [va_up_ne _ _ c2] at hka
      exact h2 j k hj hk a' hja hka
  · by_cases c : j = i <;> by_cases c2 : k = i
    · rw [c, c2]
    · subst c
      rw [va_up_ne _ _ c2] at hka
      dsimp only at e
      rw [if_pos rfl, if_neg c2] at e
      exact absurd e.symm (hne k hk _ hka).2
    · subst c2
      rw [va_up_ne _ _ c] at hja
      dsimp only at e
      rw [if_neg c, if_pos rfl] at e
      exact absurd e (hne j hj _ hja).2
    · rw [va_up_ne _ _ c] at hja
      rw [va_up_ne _ _ c2] at hka
      dsimp only at e
      rw [if_neg c, if_neg c2] at e
      exact h3 j k hj hk a1 a2 hja hka e
theorem zPs_kp (h : zPs kk rf pl) (hk : zKp hp pl pl1) : zPs kk rf pl1 := by
  obtain ⟨ar, h1, h2, h3⟩ := h
  refine ⟨ar, fun i hi a ha => ?_, h2, h3⟩
  obtain ⟨g1, f, g2⟩ := h1 i hi a ha
  refine ⟨hk _ g1 (fun ⟨v, hv⟩ => ?_), f, hk _ g2 (fun ⟨v, hv⟩ => ?_)⟩
  · have h5 : zPo (ar i) = zRc hp v := hv
    injection h5 with h6
    injection h6 with h7 h8
    cases h7
  · have h5 : zPa kk f = zRc hp v := hv
    cases h5
end ZPs
def zOe (e : Nat × va_E) : Prop := match e.2 with
  | .inr (c, _) => c ≠ 8 ∧ c ≠ 5
  | .inl (_, a) => a.1 ≠ 26
def zOt (pl pl1 : va_W) : Prop := ∀ e ∈ pl, zOe e → e ∈ pl1
section ZOt
variable {hp i a b : Nat} {kk : ClassId} {pl pl0 pl1 p q : va_W} {f f' : Nat → Int32} {x y : Nat × va_E}
theorem zOt_rf : zOt pl pl := fun _ h _ => h
theorem zOt_tr (h : zOt pl0 pl) (h2 : zOt pl pl1) : zOt pl0 pl1 := fun e he ho => h2 e (h e he ho) ho
theorem zOt_perm (h : zOt pl0 pl) (hm : pl1.Perm pl) : zOt pl0 pl1 := fun e he ho => hm.mem_iff.mpr (h e he ho)
theorem zOt_kp (h : zOt pl0 pl) (hk : zKp hp pl pl1) : zOt pl0 pl1 := fun e he ho => hk e (h e he ho) (fun ⟨v, hv⟩ => by
  unfold zOe at ho
  rw [hv] at ho
  exact ho.1 rfl)
theorem zOt_putP (h : zOt pl0 pl) (e : pl.Perm ((a, zPo b) :: (b, zPa kk f) :: p)) : zOt pl0 ((a, zPo b) :: (b, zPa kk f') :: p) := fun z hz ho => by
  rcases List.mem_cons.mp (e.mem_iff.mp (h z hz ho)) with h4 | h4
  · subst h4; exact absurd rfl ho.2
  · rcases List.mem_cons.mp h4 with h5 | h5
    · subst h5; exact absurd rfl ho
    · exact List.mem_cons_of_mem _ (List.mem_cons_of_mem _ h5)
theorem zOt_newP (h : zOt pl0 pl) : zOt pl0 (x :: y :: pl) := fun z hz ho => List.mem_cons_of_mem _ (List.mem_cons_of_mem _ (h z hz ho))
end ZOt
theorem zK_same {D : va_G} {cl : List vw_C} {tys : List (ClassId × FieldType)} {s t : State} {i : Nat} {k j : ClassId} (hK : va_K D cl tys s) (ht : tys[i]? = some (k, .int)) (hvm : s.vm.Alike t.vm) (hK1 : va_K D cl [(j, .int)] t) : j = k := by
  have h1 := (hK.2 i _ ht).2
  have h2 := (hK1.2 0 _ rfl).2
  have h3 : s.vm.findClass ("[" ++ FieldType.int.toString) = some k := h1
  have h4 : t.vm.findClass ("[" ++ FieldType.int.toString) = some j := h2
  rw [hvm.findClass] at h4
  exact Option.some.inj (h4.symm.trans h3)
