def ztk (b : Int) : Bool := decide (48 ≤ b ∧ b ≤ 57) || decide (97 ≤ b ∧ b ≤ 122) || decide (65 ≤ b ∧ b ≤ 90)
theorem ztk_i {b : Int} : ztk b = true ↔ zTok b := by
  unfold ztk zTok
  simp only [Bool.or_eq_true, decide_eq_true_eq]
  omega
def zinb (f : Nat → Int32) (n i : Int) : Bool := decide (0 ≤ i ∧ i < n) && ztk (f i.toNat).toInt
theorem zinb_i {f : Nat → Int32} {n i : Int} : zinb f n i = true ↔ zIn f n i := by
  unfold zinb
  rw [Bool.and_eq_true, decide_eq_true_eq, ztk_i]
  exact ⟨fun q => ⟨q.1.1, q.1.2, q.2⟩, fun q => ⟨⟨q.1, q.2.1⟩, q.2.2⟩⟩
theorem zinb_n {f : Nat → Int32} {n i : Int} : zinb f n i = false ↔ ¬ zIn f n i := by
  rw [← zinb_i]; cases zinb f n i <;> simp
def zrq (f : Nat → Int32) (n p : Int) : Nat → Nat
  | 0 => 0
  | k + 1 => if zinb f n (p + (k : Int)) = true ∧ zrq f n p k = k then k + 1 else zrq f n p k
theorem zrq_r {f : Nat → Int32} {n p : Int} : zRaw f n p (zrq f n p 12) := by
  have key : ∀ k : Nat, zrq f n p k ≤ k ∧ (∀ j : Nat, j < zrq f n p k → zIn f n (p + j)) ∧ (zrq f n p k = k ∨ ¬ zIn f n (p + (zrq f n p k : Nat))) := by
    intro k
    induction k with
    | zero => exact ⟨Nat.le_refl _, fun j hj => absurd hj (Nat.not_lt_zero _), Or.inl rfl⟩
    | succ k ih =>
      obtain ⟨i1, i2, i3⟩ := ih
      show (if zinb f n (p + (k : Int)) = true ∧ zrq f n p k = k then k + 1 else zrq f n p k) ≤ k + 1 ∧ (∀ j : Nat, j < (if zinb f n (p + (k : Int)) = true ∧ zrq f n p k = k then k + 1 else zrq f n p k) → zIn f n (p + j)) ∧ ((if zinb f n (p + (k : Int)) = true ∧ zrq f n p k = k then k + 1 else zrq f n p k) = k + 1 ∨ ¬ zIn f n (p + ((if zinb f n (p + (k : Int)) = true ∧ zrq f n p k = k then k + 1 else zrq f n p k : Nat) : Int)))
      by_cases c : zinb f n (p + (k : Int)) = true ∧ zrq f n p k = k
      · rw [if_pos c]
        refine ⟨Nat.le_refl _, fun j hj => ?_, Or.inl rfl⟩
        by_cases d : j = k
        · subst d; exact zinb_i.mp c.1
        · exact i2 j (by omega)
      · rw [if_neg c]
        refine ⟨by omega, i2, Or.inr ?_⟩
        by_cases d : zrq f n p k = k
        · rw [d]
          intro q
          exact c ⟨zinb_i.mpr q, d⟩
        · rcases i3 with i3 | i3
          · exact absurd i3 d
          · exact i3
  exact key 12
def zwd (f : Nat → Int32) (n p : Int) : Int := zWrd f p (zrq f n p 12)
theorem zwd_e {f : Nat → Int32} {n p x : Int} (h : ∃ m : Nat, zRaw f n p m ∧ x = zWrd f p m) : x = zwd f n p := by
  obtain ⟨m, h1, h2⟩ := h
  rw [h2, zRaw_u h1 zrq_r]
  rfl
theorem zwd_p {f : Nat → Int32} {n p : Int} (h : zIn f n p) : 1 ≤ zwd f n p := zWrd_pos zrq_r h
def zsb (f : Nat → Int32) (n p : Int) : Bool := zinb f n p && !zinb f n (p - 1)
def zkV (S : Int → Bool) (V : List Int) (w : Int) : List Int := if S w = true then V else if w ∈ V then V else if V.length < 400 then V ++ [w] else V
def zkO (S : Int → Bool) (V : List Int) (w : Int) : Bool := S w || decide (w ∈ V) || decide (V.length < 400)
def zkT (S : Int → Bool) (t : Nat → Int) (p w : Int) : Nat → Int := if S w = true then t else zuf t p.toNat w
def zkC (S : Int → Bool) (w : Int) : Nat := if S w = true then 0 else 1
def zRqs (f : Nat → Int32) (n : Int) (S : Int → Bool) (k : Nat) (x : (Nat → Int) × Int × List Int × Nat × Bool) : (Nat → Int) × Int × List Int × Nat × Bool := if x.2.2.2.2 = false then x else if x.2.1 < 512 ∧ (f k).toInt = 10 then (x.1, 512, x.2.2.1, x.2.2.2.1, true) else if zsb f n k = true then (if zkO S x.2.2.1 (zwd f n k) = true then (zkT S x.1 x.2.1 (zwd f n k), x.2.1 + 1, zkV S x.2.2.1 (zwd f n k), x.2.2.2.1 + zkC S (zwd f n k), true) else (x.1, x.2.1, x.2.2.1, x.2.2.2.1, false)) else x
def zRq (f : Nat → Int32) (n : Int) (S : Int → Bool) (V : List Int) : Nat → (Nat → Int) × Int × List Int × Nat × Bool
  | 0 => (fun _ => 0, 0, V, 0, true)
  | k + 1 => zRqs f n S k (zRq f n S V k)
def zTt (t : Nat → Int) (p : Int) (V : List Int) : Prop := 0 ≤ p ∧ (∀ k : Nat, p ≤ (k : Int) → t k = 0) ∧ ∀ k : Nat, t k = 0 ∨ t k ∈ V
def zGp (t : Nat → Int) (V : List Int) (id : Nat) : List Nat := (V[id]?).elim [] (fun w => zPn t w 1024)
def zCt (pl nx idl fi la tm : Nat → Int32) (kept dist : Int) (t : Nat → Int) (V : List Int) : Prop :=
  (∃ own : Nat → Nat, ∀ id, id < 400 → (tm id).toInt = ((zGp t V id).length : Int) ∧ ∃ path : Nat → Nat, (∀ j, j < (zGp t V id).length → (path j : Int) < kept ∧ own (path j) = id ∧ (pl (path j)).toInt = (((zGp t V id).take (j + 1)).sum : Int) - 1 ∧ (j + 1 < (zGp t V id).length → (nx (path j)).toInt = path (j + 1))) ∧ (0 < (zGp t V id).length → (fi id).toInt = path 0 ∧ (la id).toInt = path ((zGp t V id).length - 1))) ∧
  (∀ i : Nat, (i : Int) < dist → 0 ≤ (idl i).toInt ∧ (idl i).toInt < 400 ∧ 0 < (tm (idl i).toInt.toNat).toInt) ∧ (∀ i j : Nat, i < j → (j : Int) < dist → (idl i).toInt ≠ (idl j).toInt) ∧ (∀ id : Nat, id < 400 → 0 < (tm id).toInt → ∃ i : Nat, (i : Int) < dist ∧ (idl i).toInt = id) ∧ dist = (zsu (fun id => if 0 < (zGp t V id).length then 1 else 0) 400 : Nat) ∧ 0 ≤ kept
section ZPNA
variable {t : Nat → Int} {p w v : Int} {V : List Int}
theorem zPn_c {t t' : Nat → Int} {w : Int} : ∀ {k : Nat}, (∀ j, j < k → (t' j = w ↔ t j = w)) → zPn t' w k = zPn t w k ∧ zLp t' w k = zLp t w k ∧ zTm t' w k = zTm t w k := by
  intro k
  induction k with
  | zero => intro _; exact ⟨rfl, rfl, rfl⟩
  | succ k ih =>
    intro h
    obtain ⟨i1, i2, i3⟩ := ih (fun j hj => h j (by omega))
    have hk := h k (by omega)
    show (if t' k = w then zPn t' w k ++ [((k : Int) - zLp t' w k).toNat] else zPn t' w k) = (if t k = w then zPn t w k ++ [((k : Int) - zLp t w k).toNat] else zPn t w k) ∧ (if t' k = w then (k : Int) else zLp t' w k) = (if t k = w then (k : Int) else zLp t w k) ∧ (if t' k = w then zTm t' w k + 1 else zTm t' w k) = (if t k = w then zTm t w k + 1 else zTm t w k)
    rw [i1, i2, i3]
    by_cases c : t k = w
    · rw [if_pos c, if_pos c, if_pos c, if_pos (hk.mpr c), if_pos (hk.mpr c), if_pos (hk.mpr c)]; exact ⟨rfl, rfl, rfl⟩
    · rw [if_neg c, if_neg c, if_neg c, if_neg (fun q => c (hk.mp q)), if_neg (fun q => c (hk.mp q)), if_neg (fun q => c (hk.mp q))]; exact ⟨rfl, rfl, rfl⟩
theorem zPn_z {t : Nat → Int} {w : Int} {a : Nat} : ∀ {k : Nat}, a ≤ k → (∀ j, a ≤ j → j < k → t j ≠ w) → zPn t w k = zPn t w a ∧ zLp t w k = zLp t w a ∧ zTm t w k = zTm t w a := by
  intro k
  induction k with
  | zero => intro h _; rw [show a = 0 from by omega]; exact ⟨rfl, rfl, rfl⟩
  | succ k ih =>
    intro h hz
    by_cases c : a = k + 1
    · subst c; exact ⟨rfl, rfl, rfl⟩
    · have q := hz k (by omega) (by omega)
      have i := ih (by omega) (fun j h1 h2 => hz j h1 (by omega))
      show (if t k = w then zPn t w k ++ [((k : Int) - zLp t w k).toNat] else zPn t w k) = _ ∧ (if t k = w then (k : Int) else zLp t w k) = _ ∧ (if t k = w then zTm t w k + 1 else zTm t w k) = _
      rw [if_neg q, if_neg q, if_neg q]
      exact i
theorem zPn_a (h0 : 0 ≤ p) (h1 : p < 1024) (hz : ∀ k : Nat, p ≤ (k : Int) → t k = 0) (hw : w ≠ 0) : zPn (zuf t p.toNat w) w 1024 = zPn t w 1024 ++ [(p - zLp t w 1024).toNat] ∧ zLp (zuf t p.toNat w) w 1024 = p ∧ zTm (zuf t p.toNat w) w 1024 = zTm t w 1024 + 1 := by
  have a1 := zPn_z (t := t) (w := w) (a := p.toNat) (k := 1024) (by omega) (fun j h2 _ e => hw (by rw [← e]; exact hz j (by omega)))
  have a2 := zPn_c (t := t) (t' := zuf t p.toNat w) (w := w) (k := p.toNat) (fun j hj => by rw [zuf_n (by omega)])
  have a3 := zPn_z (t := zuf t p.toNat w) (w := w) (a := p.toNat + 1) (k := 1024) (by omega) (fun j h2 _ => by
    rw [zuf_n (by omega), hz j (by omega)]; exact fun e => hw e.symm)
  have a4 : zPn (zuf t p.toNat w) w (p.toNat + 1) = zPn t w p.toNat ++ [(((p.toNat : Nat) : Int) - zLp t w p.toNat).toNat] ∧ zLp (zuf t p.toNat w) w (p.toNat + 1) = ((p.toNat : Nat) : Int) ∧ zTm (zuf t p.toNat w) w (p.toNat + 1) = zTm t w p.toNat + 1 := by
    have e : zuf t p.toNat w p.toNat = w := zuf_s
    rw [← a2.1, ← a2.2.1, ← a2.2.2]
    exact ⟨if_pos e, if_pos e, if_pos e⟩
  rw [a3.1, a3.2.1, a3.2.2, a4.1, a4.2.1, a4.2.2, a1.1, a1.2.1, a1.2.2, show ((p.toNat : Nat) : Int) = p from by omega]
  exact ⟨rfl, rfl, rfl⟩
theorem zPn_v (hz : t p.toNat = 0) (hv : v ≠ 0) (hvw : v ≠ w) : zPn (zuf t p.toNat w) v 1024 = zPn t v 1024 ∧ zLp (zuf t p.toNat w) v 1024 = zLp t v 1024 ∧ zTm (zuf t p.toNat w) v 1024 = zTm t v 1024 := zPn_c (fun j _ => by
  by_cases c : j = p.toNat
  · subst c
    rw [zuf_s, hz]
    exact ⟨fun e => absurd e.symm hvw, fun e => absurd e.symm hv⟩
  · rw [zuf_n c])
theorem zPn_0 (h : ∀ k : Nat, t k ≠ w) : zPn t w 1024 = [] ∧ zLp t w 1024 = -1 ∧ zTm t w 1024 = 0 := zPn_z (a := 0) (Nat.zero_le _) (fun j _ _ => h j)
theorem zPn_t {j k : Nat} (hj : j < k) (hk : k ≤ (zPn t w 1024).length) : ((zPn t w 1024).take j).sum < ((zPn t w 1024).take k).sum := by
  induction k with
  | zero => omega
  | succ k ih =>
    have hl : k < (zPn t w 1024).length := by omega
    have hm := (zPn_o (t := t) (w := w) (k := 1024) _ (List.getElem_mem hl)).1
    have e : (zPn t w 1024).take (k + 1) = (zPn t w 1024).take k ++ [(zPn t w 1024)[k]] := by rw [List.take_succ, List.getElem?_eq_getElem hl]; rfl
    rw [e, List.sum_append, List.sum_cons, List.sum_nil]
    by_cases c : j = k
    · subst c; omega
    · have := ih (by omega) (by omega); omega
end ZPNA
theorem zsb_1 {f : Nat → Int32} {n p q : Int} (h1 : zIn f n p) (h2 : ¬ zIn f n q) (e : q = p - 1) : zsb f n p = true := by
  unfold zsb
  rw [← e, zinb_i.mpr h1, zinb_n.mpr h2]; rfl
theorem zsb_0 {f : Nat → Int32} {n p : Int} (h : ¬ zIn f n p ∨ zIn f n (p - 1)) : zsb f n p = false := by
  unfold zsb
  rcases h with h | h
  · rw [zinb_n.mpr h]; rfl
  · rw [zinb_i.mpr h, Bool.not_true, Bool.and_false]
section ZCT
variable {pl nx idl fi la tm pl' nx' idl' fi' la' tm' : Nat → Int32} {kept dist kept' dist' p p' w : Int} {t : Nat → Int} {V : List Int} {id0 : Nat}
theorem zGp_s {v : Int} {id : Nat} (h : V[id]? = some v) : zGp t V id = zPn t v 1024 := by unfold zGp; rw [h]; rfl
theorem zGp_n {id : Nat} (h : V[id]? = none) : zGp t V id = [] := by unfold zGp; rw [h]; rfl
theorem zsu_z {n : Nat} : zsu (fun _ => 0) n = 0 := by
  induction n with
  | zero => rfl
  | succ n ih => show zsu (fun _ => 0) n + 0 = 0; rw [ih]
theorem zCt_0 (hV : ∀ x ∈ V, x ≠ 0) (h : ∀ j : Nat, j < 400 → tm j = 0) (hk : kept = 0) (hd : dist = 0) : zCt pl nx idl fi la tm kept dist (fun _ => 0) V := by
  have e : ∀ id, zGp (fun _ => 0) V id = [] := fun id => by
    cases hv : V[id]? with
    | none => exact zGp_n hv
    | some v => rw [zGp_s hv]; exact (zPn_0 (fun k e => hV v (List.mem_of_getElem? hv) e.symm)).1
  refine ⟨⟨fun _ => 0, fun id hid => ⟨by rw [h id hid, e]; rfl, fun _ => 0, fun j hj => ?_, fun hj => ?_⟩⟩, fun i hi => by omega, fun i j _ hj => by omega, fun id hid hq => ?_, ?_, by omega⟩
  · rw [e] at hj; exact absurd hj (Nat.not_lt_zero _)
  · rw [e] at hj; exact absurd hj (Nat.not_lt_zero _)
  · rw [h id hid] at hq; exact absurd hq (by decide)
  · have : (fun id => if 0 < (zGp (fun _ => 0) V id).length then 1 else 0) = fun _ => 0 := funext fun id => by rw [e]; rfl
    rw [hd, this, zsu_z]
    rfl
theorem zCt_e {t' : Nat → Int} {V' : List Int} (h : zCt pl nx idl fi la tm kept dist t V) (e : ∀ id, zGp t' V' id = zGp t V id) : zCt pl nx idl fi la tm kept dist t' V' := by
  unfold zCt at h ⊢
  simp only [e]
  exact h
theorem zGp_x (hw : ∀ k : Nat, t k ≠ w) (id : Nat) : zGp t (V ++ [w]) id = zGp t V id := by
  unfold zGp
  rcases Nat.lt_trichotomy id V.length with c | c | c
  · rw [List.getElem?_append_left c]
  · rw [c, List.getElem?_append_right (Nat.le_refl _), Nat.sub_self, List.getElem?_eq_none (Nat.le_refl _)]
    exact (zPn_0 hw).1
  · rw [List.getElem?_eq_none (by rw [List.length_append, List.length_singleton]; omega), List.getElem?_eq_none (by omega)]
theorem zCt_a (h : zCt pl nx idl fi la tm kept dist t V) (hid : id0 < 400) (hv : V[id0]? = some w) (hnd : V.Nodup) (hV : ∀ x ∈ V, x ≠ 0) (ht : zTt t p V) (hp : p < 1024)
    (hpl : ∀ q : Nat, (pl' q).toInt = if (q : Int) = kept then p else (pl q).toInt) (htm : ∀ q : Nat, (tm' q).toInt = if q = id0 then (tm id0).toInt + 1 else (tm q).toInt) (hla : ∀ q : Nat, (la' q).toInt = if q = id0 then kept else (la q).toInt)
    (hfi : ∀ q : Nat, (fi' q).toInt = if q = id0 ∧ (tm id0).toInt = 0 then kept else (fi q).toInt) (hnx : ∀ q : Nat, (q : Int) < kept → (nx' q).toInt = if (q : Int) = (la id0).toInt ∧ (tm id0).toInt ≠ 0 then kept else (nx q).toInt) (hk : kept' = kept + 1)
    (hdi : ((tm id0).toInt ≠ 0 ∧ dist' = dist ∧ ∀ q : Nat, (idl' q).toInt = (idl q).toInt) ∨ ((tm id0).toInt = 0 ∧ dist' = dist + 1 ∧ ∀ q : Nat, (idl' q).toInt = if (q : Int) = dist then (id0 : Int) else (idl q).toInt)) : zCt pl' nx' idl' fi' la' tm' kept' dist' (zuf t p.toNat w) V := by
  obtain ⟨⟨own, ho⟩, h2, h3, h4, h5, h6⟩ := h
  have hw : w ≠ 0 := hV w (List.mem_of_getElem? hv)
  have hz : t p.toNat = 0 := ht.2.1 _ (by have := ht.1; omega)
  have ga := zPn_a (t := t) (p := p) (w := w) ht.1 hp ht.2.1 hw
  have g0 : zGp (zuf t p.toNat w) V id0 = zGp t V id0 ++ [(p - zLp t w 1024).toNat] := by rw [zGp_s hv, zGp_s hv]; exact ga.1
  have gn : ∀ id, id ≠ id0 → zGp (zuf t p.toNat w) V id = zGp t V id := fun id hne => by
    cases hu : V[id]? with
    | none => rw [zGp_n hu, zGp_n hu]
    | some v =>
      rw [zGp_s hu, zGp_s hu]
      refine (zPn_v hz (hV v (List.mem_of_getElem? hu)) (fun e => ?_)).1
      rw [e] at hu
      have l1 : id < V.length := by
        rcases Nat.lt_or_ge id V.length with c | c
        · exact c
        · rw [List.getElem?_eq_none c] at hu; exact absurd hu (by simp)
      have l2 : id0 < V.length := by
        rcases Nat.lt_or_ge id0 V.length with c | c
        · exact c
        · rw [List.getElem?_eq_none c] at hv; exact absurd hv (by simp)
      rw [List.getElem?_eq_getElem l1] at hu
      rw [List.getElem?_eq_getElem l2] at hv
      have hp := List.pairwise_iff_getElem.mp hnd
      rcases Nat.lt_trichotomy id id0 with c | c | c
      · exact hp _ _ l1 l2 c (by rw [Option.some.inj hu, Option.some.inj hv])
      · exact hne c
      · exact hp _ _ l2 l1 c (by rw [Option.some.inj hu, Option.some.inj hv])
  have hs := zPn_s (t := t) (w := w) (k := 1024)
  have hb := zLp_b (t := t) (w := w) (k := 1024)
  have lp : zLp t w 1024 < p := by
    have a1 := zPn_z (t := t) (w := w) (a := p.toNat) (k := 1024) (by have := ht.1; omega) (fun j h2 _ e => hw (by rw [← e]; exact ht.2.1 j (by have := ht.1; omega)))
    have := zLp_b (t := t) (w := w) (k := p.toNat)
    have := ht.1
    rw [a1.2.1]; omega
  refine ⟨⟨zuf own kept.toNat id0, fun id hi => ?_⟩, ?_, ?_, ?_, ?_, by omega⟩
  · by_cases c : id = id0
    · subst c
      obtain ⟨o1, path, o2, o3⟩ := ho id hi
      rw [g0, htm, if_pos rfl, List.length_append, List.length_singleton]
      refine ⟨by omega, zuf path (zGp t V id).length kept.toNat, fun j hj => ?_, fun _ => ⟨?_, ?_⟩⟩
      · by_cases d : j = (zGp t V id).length
        · subst d
          rw [zuf_s, zuf_s, hpl, if_pos (by omega), List.take_of_length_le (by rw [List.length_append, List.length_singleton]; omega), List.sum_append, List.sum_cons, List.sum_nil]
          refine ⟨by omega, rfl, ?_, fun q => by omega⟩
          rw [zGp_s hv]
          omega
        · obtain ⟨p1, p2, p3, p4⟩ := o2 j (by omega)
          rw [zuf_n d, zuf_n (by omega), hpl, if_neg (by omega), List.take_append_of_le_length (by omega)]
          refine ⟨by omega, p2, p3, fun q => ?_⟩
          rw [hnx _ p1]
          have o4 := o3 (by omega)
          by_cases e : j + 1 = (zGp t V id).length
          · rw [e, zuf_s, if_pos ⟨by rw [o4.2, show (zGp t V id).length - 1 = j from by omega], by omega⟩]
            omega
          · rw [zuf_n e, if_neg, p4 (by omega)]
            rintro ⟨e1, -⟩
            rw [o4.2] at e1
            have e2 : path j = path ((zGp t V id).length - 1) := by omega
            have p5 := (o2 ((zGp t V id).length - 1) (by omega)).2.2.1
            rw [← e2, p3] at p5
            have p6 := zPn_t (t := t) (w := w) (j := j + 1) (k := (zGp t V id).length - 1 + 1) (by omega) (by rw [← zGp_s hv]; omega)
            rw [← zGp_s hv] at p6
            omega
      · rw [hfi]
        by_cases e : (zGp t V id).length = 0
        · rw [if_pos ⟨rfl, by omega⟩, e, zuf_s]; omega
        · rw [if_neg (by omega), zuf_n (by omega)]; exact (o3 (by omega)).1
      · rw [hla, if_pos rfl, Nat.add_sub_cancel, zuf_s]; omega
    · obtain ⟨o1, path, o2, o3⟩ := ho id hi
      rw [gn id c, htm, if_neg c]
      refine ⟨o1, path, fun j hj => ?_, fun hj => ?_⟩
      · obtain ⟨p1, p2, p3, p4⟩ := o2 j hj
        rw [zuf_n (by omega), hpl, if_neg (by omega), hnx _ p1]
        refine ⟨by omega, p2, p3, fun q => ?_⟩
        rw [if_neg, p4 q]
        rintro ⟨e1, e2⟩
        obtain ⟨r1, path0, r2, r3⟩ := ho id0 hid
        have r4 := (r3 (by omega)).2
        have e3 : path j = path0 ((zGp t V id0).length - 1) := by omega
        have r5 := (r2 ((zGp t V id0).length - 1) (by omega)).2.1
        rw [← e3, p2] at r5
        exact c r5
      · rw [hfi, if_neg (fun q => c q.1), hla, if_neg c]; exact o3 hj
  · intro q hq
    rcases hdi with ⟨d1, d2, d3⟩ | ⟨d1, d2, d3⟩
    · have := h2 q (by omega)
      rw [d3, htm]
      refine ⟨this.1, this.2.1, ?_⟩
      split
      · have := (ho id0 hid).1; omega
      · exact this.2.2
    · rw [d3]
      by_cases e : (q : Int) = dist
      · rw [if_pos e, Int.toNat_natCast, htm, if_pos rfl]; omega
      · have := h2 q (by omega)
        rw [if_neg e, htm]
        refine ⟨this.1, this.2.1, ?_⟩
        split
        · omega
        · exact this.2.2
  · intro a b hab hbq
    rcases hdi with ⟨d1, d2, d3⟩ | ⟨d1, d2, d3⟩
    · rw [d3, d3]; exact h3 a b hab (by omega)
    · rw [d3, d3, if_neg (show ¬ (a : Int) = dist from by omega)]
      by_cases e : (b : Int) = dist
      · have := h2 a (by omega)
        rw [if_pos e]
        intro e2
        rw [e2, Int.toNat_natCast] at this
        omega
      · rw [if_neg e]; exact h3 a b hab (by omega)
  · intro id hi hq
    rw [htm] at hq
    rcases hdi with ⟨d1, d2, d3⟩ | ⟨d1, d2, d3⟩
    · have : 0 < (tm id).toInt := by
        by_cases c : id = id0
        · subst c; have := (ho id hi).1; omega
        · rw [if_neg c] at hq; exact hq
      obtain ⟨q, q1, q2⟩ := h4 id hi this
      exact ⟨q, by omega, by rw [d3]; exact q2⟩
    · by_cases c : id = id0
      · have := h5
        exact ⟨dist.toNat, by omega, by rw [d3, if_pos (by omega)]; omega⟩
      · rw [if_neg c] at hq
        obtain ⟨q, q1, q2⟩ := h4 id hi hq
        exact ⟨q, by omega, by rw [d3, if_neg (by omega)]; exact q2⟩
  · have o1 := (ho id0 hid).1
    have q := zsu_u (F := fun id => if 0 < (zGp (zuf t p.toNat w) V id).length then 1 else 0) (G := fun id => if 0 < (zGp t V id).length then 1 else 0) hid (fun id _ c => by rw [gn id c])
    rw [g0, List.length_append, List.length_singleton, if_pos (show 0 < (zGp t V id0).length + 1 from by omega)] at q
    rcases hdi with ⟨d1, d2, d3⟩ | ⟨d1, d2, d3⟩
    · rw [if_pos (show 0 < (zGp t V id0).length from by omega)] at q
      omega
    · rw [if_neg (show ¬ 0 < (zGp t V id0).length from by omega)] at q
      omega
theorem zTt_a (ht : zTt t p V) (hv : w ∈ V) (hp : p' = p + 1) : zTt (zuf t p.toNat w) p' V := by
  have := ht.1
  refine ⟨by omega, fun k hk => ?_, fun k => ?_⟩
  · rw [zuf_n (by omega)]; exact ht.2.1 k (by omega)
  · by_cases c : k = p.toNat
    · subst c; rw [zuf_s]; exact Or.inr hv
    · rw [zuf_n c]; exact ht.2.2 k
theorem zTt_x (ht : zTt t p V) : zTt t p (V ++ [w]) := ⟨ht.1, ht.2.1, fun k => (ht.2.2 k).imp id (fun q => List.mem_append_left _ q)⟩
theorem zTt_m (ht : zTt t p V) (h : p ≤ p') : zTt t p' V := ⟨by have := ht.1; omega, fun k hk => ht.2.1 k (by omega), ht.2.2⟩
end ZCT
theorem zCt_b {pl nx idl fi la tm pl' nx' idl' fi' la' tm' : Nat → Int32} {kept' dist' p w : Int} {t : Nat → Int} {V : List Int} {K D P I Z M L : Int32} (h : zCt pl nx idl fi la tm K.toInt D.toInt t V) (hI0 : 0 ≤ I.toInt) (hI1 : I.toInt < 400) (hD0 : 0 ≤ D.toInt) (hL0 : 0 ≤ L.toInt) (hv : V[I.toInt.toNat]? = some w) (hnd : V.Nodup) (hV : ∀ x ∈ V, x ≠ 0) (ht : zTt t p V) (hp : p < 1024) (e1 : pl' = upd pl K.toNatClampNeg P) (hP : P.toInt = p) (e4 : la' = upd la I.toNatClampNeg K) (e5 : tm' = upd tm I.toNatClampNeg Z) (hZ : Z.toInt = (tm I.toNatClampNeg).toInt + 1) (hk : kept' = K.toInt + 1)
    (hc : ((tm I.toNatClampNeg).toInt = 0 ∧ fi' = upd fi I.toNatClampNeg K ∧ nx' = upd nx K.toNatClampNeg M ∧ idl' = upd idl D.toNatClampNeg I ∧ dist' = D.toInt + 1) ∨ ((tm I.toNatClampNeg).toInt ≠ 0 ∧ fi' = fi ∧ nx' = upd (upd nx K.toNatClampNeg M) L.toNatClampNeg K ∧ L = la I.toNatClampNeg ∧ idl' = idl ∧ dist' = D.toInt)) : zCt pl' nx' idl' fi' la' tm' kept' dist' (zuf t p.toNat w) V := by
  have hK := h.2.2.2.2.2
  have ck : ∀ (X : Int32) (q : Nat), 0 ≤ X.toInt → (q = X.toNatClampNeg ↔ (q : Int) = X.toInt) := fun X q h => by have := zclamp h; omega
  have cI : I.toNatClampNeg = I.toInt.toNat := rfl
  rw [cI] at e4 e5 hZ hc
  refine zCt_a h (id0 := I.toInt.toNat) (by omega) hv hnd hV ht hp (fun q => ?_) (fun q => ?_) (fun q => ?_) (fun q => ?_) (fun q hq => ?_) hk ?_
  · rw [e1]
    by_cases c : q = K.toNatClampNeg
    · rw [if_pos ((ck K q hK).mp c), c, pk_us, hP]
    · rw [if_neg (fun d => c ((ck K q hK).mpr d)), pk_un c]
  · rw [e5]
    by_cases c : q = I.toInt.toNat
    · rw [if_pos c, c, pk_us, hZ]
    · rw [if_neg c, pk_un c]
  · rw [e4]
    by_cases c : q = I.toInt.toNat
    · rw [if_pos c, c, pk_us]
    · rw [if_neg c, pk_un c]
  · rcases hc with ⟨c0, f, -⟩ | ⟨c0, f, -⟩
    · rw [f]
      by_cases c : q = I.toInt.toNat
      · rw [if_pos ⟨c, c0⟩, c, pk_us]
      · rw [if_neg (fun d => c d.1), pk_un c]
    · rw [f, if_neg (fun d => c0 d.2)]
  · have nk : q ≠ K.toNatClampNeg := fun d => by have := (ck K q hK).mp d; omega
    rcases hc with ⟨c0, -, f, -⟩ | ⟨c0, -, f, eL, -⟩
    · rw [f, pk_un nk, if_neg (fun d => d.2 c0)]
    · rw [f, ← eL]
      by_cases c : q = L.toNatClampNeg
      · rw [if_pos ⟨(ck L q hL0).mp c, c0⟩, c, pk_us]
      · rw [if_neg (fun d => c ((ck L q hL0).mpr d.1)), pk_un c, pk_un nk]
  · rcases hc with ⟨c0, -, -, f, d⟩ | ⟨c0, -, -, -, f, d⟩
    · refine Or.inr ⟨c0, d, fun q => ?_⟩
      rw [f]
      by_cases c : q = D.toNatClampNeg
      · rw [if_pos ((ck D q hD0).mp c), c, pk_us]; omega
      · rw [if_neg (fun e => c ((ck D q hD0).mpr e)), pk_un c]
    · exact Or.inl ⟨c0, d, fun q => by rw [f]⟩
def zKe (s : Nat → Int64) (i fr : Nat → Int32) (n : Int) (s2 : Nat → Int64) (n2 : Int) (pl nx idl fi la tm : Nat → Int32) (kept dist : Int) (s' : Nat → Int64) (i' fr' : Nat → Int32) (n' : Int) (pl' nx' idl' fi' la' tm' : Nat → Int32) (kept' dist' w p r : Int) : Prop := ∀ (S : Int → Bool) (V : List Int) (t : Nat → Int), zSrt s2 n2 → (∀ x, S x = true ↔ zHas s2 n2 x) → zVo s i fr n V → (∀ x ∈ V, x ≠ 0) → zCt pl nx idl fi la tm kept dist t V → zTt t p V → p < 1024 → kept < 300 → w ≠ 0 → zVo s' i' fr' n' (zkV S V w) ∧ (∀ x ∈ zkV S V w, x ≠ 0) ∧ r = (if zkO S V w = true then 1 else 0) ∧ (zkO S V w = true → zCt pl' nx' idl' fi' la' tm' kept' dist' (zkT S t p w) (zkV S V w) ∧ zTt (zkT S t p w) (p + 1) (zkV S V w) ∧ kept' = kept + zkC S w)
section ZKE
variable {s s' s2 : Nat → Int64} {i fr i' fr' : Nat → Int32} {n n' n2 kept' dist' w p r r5 id : Int} {pl nx idl fi la tm pl' nx' idl' fi' la' tm' : Nat → Int32} {K D P I Z M L : Int32}
theorem zKe_s {kept dist : Int} (h5 : zRf s2 n2 w r5) (hne : r5 ≠ -1) (hr : r = 1) : zKe s i fr n s2 n2 pl nx idl fi la tm kept dist s i fr n pl nx idl fi la tm kept dist w p r := fun S V t hs hS hV hV0 hC hT _ _ _ => by
  have hw : S w = true := by
    rw [hS]
    rcases h5 hs with ⟨q, -⟩ | ⟨q1, q2, q3⟩
    · exact absurd q hne
    · exact ⟨r5.toNat, by omega, q3⟩
  have e1 : zkV S V w = V := if_pos hw
  have e2 : zkT S t p w = t := if_pos hw
  have e3 : zkC S w = 0 := if_pos hw
  have e4 : zkO S V w = true := by unfold zkO; rw [hw]; rfl
  rw [e1, e2, e3, e4]
  exact ⟨hV, hV0, hr, fun _ => ⟨hC, zTt_m hT (by omega), by omega⟩⟩
theorem zKe_n (h5 : zRf s2 n2 w r5) (he : r5 = -1) {S : Int → Bool} (hs : zSrt s2 n2) (hS : ∀ x, S x = true ↔ zHas s2 n2 x) : S w = false := by
  cases c : S w
  · rfl
  · obtain ⟨a, a1, a2⟩ := (hS w).mp c
    rcases h5 hs with ⟨-, q⟩ | ⟨q, -⟩
    · exact absurd a2 (q a a1)
    · omega
theorem zKe_y (h5 : zRf s2 n2 w r5) (he : r5 = -1) (hid : ∀ V : List Int, zVo s i fr n V → zIf V w I.toInt) (hne : I.toInt ≠ -1) (hI1 : I.toInt < 400) (hD0 : 0 ≤ D.toInt) (hL0 : 0 ≤ L.toInt) (e1 : pl' = upd pl K.toNatClampNeg P) (hP : P.toInt = p) (e4 : la' = upd la I.toNatClampNeg K) (e5 : tm' = upd tm I.toNatClampNeg Z) (hZ : Z.toInt = (tm I.toNatClampNeg).toInt + 1) (hk : kept' = K.toInt + 1)
    (hc : ((tm I.toNatClampNeg).toInt = 0 ∧ fi' = upd fi I.toNatClampNeg K ∧ nx' = upd nx K.toNatClampNeg M ∧ idl' = upd idl D.toNatClampNeg I ∧ dist' = D.toInt + 1) ∨ ((tm I.toNatClampNeg).toInt ≠ 0 ∧ fi' = fi ∧ nx' = upd (upd nx K.toNatClampNeg M) L.toNatClampNeg K ∧ L = la I.toNatClampNeg ∧ idl' = idl ∧ dist' = D.toInt)) (hr : r = 1) : zKe s i fr n s2 n2 pl nx idl fi la tm K.toInt D.toInt s i fr n pl' nx' idl' fi' la' tm' kept' dist' w p r := fun S V t hs hS hV hV0 hC hT hp hk3 hw => by
  have hw := zKe_n h5 he hs hS
  rcases hid V hV with ⟨q, -⟩ | ⟨q1, q2⟩
  · exact absurd q hne
  · have hm : w ∈ V := List.mem_of_getElem? q2
    have a1 : zkV S V w = V := by unfold zkV; rw [hw, if_neg (by decide), if_pos hm]
    have a2 : zkT S t p w = zuf t p.toNat w := by unfold zkT; rw [hw, if_neg (by decide)]
    have a3 : zkC S w = 1 := by unfold zkC; rw [hw, if_neg (by decide)]
    have a4 : zkO S V w = true := by unfold zkO; rw [hw, decide_eq_true hm]; rfl
    rw [a1, a2, a3, a4]
    exact ⟨hV, hV0, hr, fun _ => ⟨zCt_b hC q1 hI1 hD0 hL0 q2 (zVo_nd hV) hV0 hT hp e1 hP e4 e5 hZ hk hc, zTt_a hT hm rfl, hk⟩⟩
theorem zKe_x {X : Int32} (h5 : zRf s2 n2 w r5) (he : r5 = -1) (hid : ∀ V : List Int, zVo s i fr n V → zIf V w id) (hne : id = -1) (hins : zIns s s' i i' n w) (hn : n < 400) (hn' : n' = n + 1) (hI : I.toInt = n) (hI0 : 0 ≤ n) (hD0 : 0 ≤ D.toInt) (hL0 : 0 ≤ L.toInt) (e1 : pl' = upd pl K.toNatClampNeg P) (hP : P.toInt = p) (e4 : la' = upd la I.toNatClampNeg K) (e5 : tm' = upd tm I.toNatClampNeg Z) (hZ : Z.toInt = (tm I.toNatClampNeg).toInt + 1) (hk : kept' = K.toInt + 1)
    (hc : ((tm I.toNatClampNeg).toInt = 0 ∧ fi' = upd fi I.toNatClampNeg K ∧ nx' = upd nx K.toNatClampNeg M ∧ idl' = upd idl D.toNatClampNeg I ∧ dist' = D.toInt + 1) ∨ ((tm I.toNatClampNeg).toInt ≠ 0 ∧ fi' = fi ∧ nx' = upd (upd nx K.toNatClampNeg M) L.toNatClampNeg K ∧ L = la I.toNatClampNeg ∧ idl' = idl ∧ dist' = D.toInt)) (hr : r = 1) : zKe s i fr n s2 n2 pl nx idl fi la tm K.toInt D.toInt s' i' fr n' pl' nx' idl' fi' la' tm' kept' dist' w p r := fun S V t hs hS hV hV0 hC hT hp hk3 hw0 => by
  have hw := zKe_n h5 he hs hS
  rcases hid V hV with ⟨-, q⟩ | ⟨q1, q2⟩
  · have hl := hV.2.1
    have a1 : zkV S V w = V ++ [w] := by unfold zkV; rw [hw, if_neg (by decide), if_neg q, if_pos (by omega)]
    have a2 : zkT S t p w = zuf t p.toNat w := by unfold zkT; rw [hw, if_neg (by decide)]
    have a3 : zkC S w = 1 := by unfold zkC; rw [hw, if_neg (by decide)]
    have a4 : zkO S V w = true := by unfold zkO; rw [hw, decide_eq_true (show V.length < 400 from by omega), Bool.or_true]
    have nt : ∀ k : Nat, t k ≠ w := fun k e => by
      rcases hT.2.2 k with c | c
      · exact hw0 (by rw [← e]; exact c)
      · exact q (by rw [← e]; exact c)
    have hV' := zVo_i hV hn q hins hn'
    have hC' : zCt pl nx idl fi la tm K.toInt D.toInt t (V ++ [w]) := zCt_e hC (fun id => zGp_x nt id)
    have hV0' : ∀ x ∈ V ++ [w], x ≠ 0 := fun x hx => by
      rcases List.mem_append.mp hx with c | c
      · exact hV0 x c
      · rw [List.mem_singleton] at c; rw [c]; exact hw0
    have hg : (V ++ [w])[I.toInt.toNat]? = some w := by rw [show I.toInt.toNat = V.length from by omega, List.getElem?_append_right (Nat.le_refl _), Nat.sub_self]; rfl
    rw [a1, a2, a3, a4]
    exact ⟨hV', hV0', hr, fun _ => ⟨zCt_b hC' (by omega) (by omega) hD0 hL0 hg (zVo_nd hV') hV0' (zTt_x hT) hp e1 hP e4 e5 hZ hk hc, zTt_a (zTt_x hT) (List.mem_append_right _ (List.mem_singleton.mpr rfl)) rfl, hk⟩⟩
  · omega
theorem zKe_f {kept dist : Int} (h5 : zRf s2 n2 w r5) (he : r5 = -1) (hid : ∀ V : List Int, zVo s i fr n V → zIf V w id) (hne : id = -1) (hn : 400 ≤ n) (hsame : ∀ j : Nat, s' j = s j ∧ i' j = i j) (hn' : n' = n) (hr : r = 0) : zKe s i fr n s2 n2 pl nx idl fi la tm kept dist s' i' fr n' pl' nx' idl' fi' la' tm' kept' dist' w p r := fun S V t hs hS hV hV0 hC hT hp hk3 hw0 => by
  have hw := zKe_n h5 he hs hS
  rcases hid V hV with ⟨-, q⟩ | ⟨q1, q2⟩
  · have hl := hV.2.1
    have a1 : zkV S V w = V := by unfold zkV; rw [hw, if_neg (by decide), if_neg q, if_neg (by omega)]
    have a4 : zkO S V w = false := by unfold zkO; rw [hw, decide_eq_false q, decide_eq_false (show ¬ V.length < 400 from by omega)]; rfl
    have es : s' = s := funext fun j => (hsame j).1
    have ei : i' = i := funext fun j => (hsame j).2
    rw [a1, a4, es, ei, hn']
    exact ⟨hV, hV0, hr, fun c => absurd c (by decide)⟩
  · omega
theorem zKe_k {kept dist : Int} (h : 300 ≤ kept) : zKe s i fr n s2 n2 pl nx idl fi la tm kept dist s' i' fr' n' pl' nx' idl' fi' la' tm' kept' dist' w p r := fun S V t _ _ _ _ _ _ _ hk _ => by omega
end ZKE
section ZRQ
variable {f : Nat → Int32} {n : Int} {S : Int → Bool} {V : List Int}
theorem zRq_b (k : Nat) : 2 * ((zRq f n S V k).2.2.2.1 : Int) ≤ k + 1 ∧ (zinb f n ((k : Int) - 1) = false → 2 * ((zRq f n S V k).2.2.2.1 : Int) ≤ k) ∧ 0 ≤ (zRq f n S V k).2.1 ∧ 2 * (zRq f n S V k).2.1 ≤ k + 1 + 1024 ∧ (zinb f n ((k : Int) - 1) = false → 2 * (zRq f n S V k).2.1 ≤ k + 1024) := by
  induction k with
  | zero => exact ⟨by show (2 * ((0 : Nat) : Int)) ≤ ((0 : Nat) : Int) + 1; omega, fun _ => by show (2 * ((0 : Nat) : Int)) ≤ ((0 : Nat) : Int); omega, Int.le_refl _, by show (2 * (0 : Int)) ≤ ((0 : Nat) : Int) + 1 + 1024; omega, fun _ => by show (2 * (0 : Int)) ≤ ((0 : Nat) : Int) + 1024; omega⟩
  | succ k ih =>
    obtain ⟨i1, i2, i3, i4, i5⟩ := ih
    have e : zRq f n S V (k + 1) = zRqs f n S k (zRq f n S V k) := rfl
    rw [e, show (((k + 1 : Nat) : Int)) - 1 = (k : Int) from by omega]
    unfold zRqs
    by_cases c1 : (zRq f n S V k).2.2.2.2 = false
    · rw [if_pos c1]
      exact ⟨by omega, fun _ => by omega, i3, by omega, fun _ => by omega⟩
    · rw [if_neg c1]
      by_cases c2 : (zRq f n S V k).2.1 < 512 ∧ (f k).toInt = 10
      · rw [if_pos c2]
        refine ⟨?_, fun _ => ?_, ?_, ?_, fun _ => ?_⟩ <;> dsimp only <;> omega
      · rw [if_neg c2]
        by_cases c3 : zsb f n k = true
        · rw [if_pos c3]
          have c3' := c3
          unfold zsb at c3'
          rw [Bool.and_eq_true, Bool.not_eq_true'] at c3'
          have j1 := i2 c3'.2
          have j2 := i5 c3'.2
          have hC : zkC S (zwd f n k) ≤ 1 := by unfold zkC; split <;> omega
          by_cases c4 : zkO S (zRq f n S V k).2.2.1 (zwd f n k) = true
          · rw [if_pos c4]
            refine ⟨?_, fun q => ?_, ?_, ?_, fun q => ?_⟩ <;> dsimp only
            · omega
            · rw [c3'.1] at q; exact absurd q (by decide)
            · omega
            · omega
            · rw [c3'.1] at q; exact absurd q (by decide)
          · rw [if_neg c4]
            refine ⟨?_, fun q => ?_, ?_, ?_, fun q => ?_⟩ <;> dsimp only <;> omega
        · rw [if_neg c3]
          exact ⟨by omega, fun _ => by omega, i3, by omega, fun _ => by omega⟩
theorem zRq_f {k m : Nat} (h : (zRq f n S V k).2.2.2.2 = false) (hm : k ≤ m) : zRq f n S V m = zRq f n S V k := by
  induction m with
  | zero => rw [show k = 0 from by omega]
  | succ m ih =>
    by_cases c : k = m + 1
    · rw [c]
    · have i := ih (by omega)
      show zRqs f n S m (zRq f n S V m) = _
      rw [i]
      unfold zRqs
      rw [if_pos h]
end ZRQ
def zTy (f : Nat → Int32) (n : Int) : Prop := ∀ j : Nat, (j : Int) < n → -128 ≤ (f j).toInt ∧ (f j).toInt ≤ 127
def zRh (f : Nat → Int32) (n : Int) (s : Nat → Int64) (i fr : Nat → Int32) (nw : Int) (s2 : Nat → Int64) (n2 : Int) (S : Int → Bool) (V : List Int) : Prop := zTy f n ∧ zSrt s2 n2 ∧ (∀ x, S x = true ↔ zHas s2 n2 x) ∧ zVo s i fr nw V ∧ (∀ x ∈ V, x ≠ 0)
def zRe (f : Nat → Int32) (n : Int) (s : Nat → Int64) (i fr : Nat → Int32) (nw : Int) (s2 : Nat → Int64) (n2 : Int) (s' : Nat → Int64) (i' fr' : Nat → Int32) (nw' : Int) (pl nx idl fi la tm : Nat → Int32) (kept dist at_ place : Int) : Prop := ∀ (S : Int → Bool) (V : List Int), zRh f n s i fr nw s2 n2 S V → 0 ≤ at_ ∧ (zRq f n S V at_.toNat).2.2.2.2 = true ∧ (zRq f n S V at_.toNat).2.1 = place ∧ zVo s' i' fr' nw' (zRq f n S V at_.toNat).2.2.1 ∧ (∀ x ∈ (zRq f n S V at_.toNat).2.2.1, x ≠ 0) ∧ zCt pl nx idl fi la tm kept dist (zRq f n S V at_.toNat).1 (zRq f n S V at_.toNat).2.2.1 ∧ zTt (zRq f n S V at_.toNat).1 place (zRq f n S V at_.toNat).2.2.1 ∧ kept = ((zRq f n S V at_.toNat).2.2.2.1 : Int)
def zRz (f : Nat → Int32) (n : Int) (s : Nat → Int64) (i fr : Nat → Int32) (nw : Int) (s2 : Nat → Int64) (n2 : Int) (s' : Nat → Int64) (i' fr' : Nat → Int32) (nw' : Int) (pl nx idl fi la tm : Nat → Int32) (kept dist r : Int) : Prop := ∀ (S : Int → Bool) (V : List Int), zRh f n s i fr nw s2 n2 S V → r = (if (zRq f n S V n.toNat).2.2.2.2 = true then 1 else 0) ∧ zVo s' i' fr' nw' (zRq f n S V n.toNat).2.2.1 ∧ (∀ x ∈ (zRq f n S V n.toNat).2.2.1, x ≠ 0) ∧ ((zRq f n S V n.toNat).2.2.2.2 = true → zCt pl nx idl fi la tm kept dist (zRq f n S V n.toNat).1 (zRq f n S V n.toNat).2.2.1 ∧ zTt (zRq f n S V n.toNat).1 (zRq f n S V n.toNat).2.1 (zRq f n S V n.toNat).2.2.1 ∧ kept = ((zRq f n S V n.toNat).2.2.2.1 : Int))
theorem zb10 {x : Int32} (h : -128 ≤ x.toInt ∧ x.toInt ≤ 127) (e : (x &&& 255).toInt = 10) : x.toInt = 10 := by
  have ex := ztoi x
  have hx : (x &&& 255).toInt = (x.toBitVec.toNat % 256 : Nat) := by
    have ey := ztoi (x &&& 255)
    have h2 : (x &&& 255).toBitVec.toNat = x.toBitVec.toNat % 256 := by
      have : (x &&& 255).toBitVec.toNat = x.toBitVec.toNat &&& 255 := by rw [Int32.toBitVec_and, BitVec.toNat_and]; rfl
      rw [this]
      exact Nat.and_two_pow_sub_one_eq_mod x.toBitVec.toNat 8
    rw [h2] at ey
    rw [ey, if_pos (by omega)]
  rw [hx] at e
  have := x.toBitVec.isLt
  split at ex <;> omega
theorem zb10' {x : Int32} (h : x.toInt = 10) : (x &&& 255).toInt = 10 := by
  have : x = 10 := zeqi.mpr (by rw [h]; decide)
  rw [this]; decide
section ZRE
variable {S : Int → Bool} {V : List Int} {f : Nat → Int32} {n r' : Int} {s s2 s' s3 : Nat → Int64} {i fr i' fr' i3 fr3 : Nat → Int32} {nw n2 nw' nw3 kept dist kept3 dist3 at_ at' place place' w r : Int} {pl nx idl fi la tm pl3 nx3 idl3 fi3 la3 tm3 : Nat → Int32}
theorem zRe_0 (h : ∀ j : Nat, j < 400 → tm j = 0) (hk : kept = 0) (hd : dist = 0) (ha : at_ = 0) (hp : place = 0) : zRe f n s i fr nw s2 n2 s i fr nw pl nx idl fi la tm kept dist at_ place := fun S V hh => by
  subst ha; subst hp
  exact ⟨Int.le_refl _, rfl, rfl, hh.2.2.2.1, hh.2.2.2.2, zCt_0 hh.2.2.2.2 h hk hd, ⟨Int.le_refl _, fun _ _ => rfl, fun _ => Or.inl rfl⟩, by rw [hk]; rfl⟩
theorem zRe_l {b : Int} (h : zRe f n s i fr nw s2 n2 s' i' fr' nw' pl nx idl fi la tm kept dist at_ place) (hn : at_ < n) (hp : place < 512) (hb : b = 10) (hx : 0 ≤ at_ ∧ at_ < n → b = (f at_.toNat &&& 255).toInt) (ha : at' = at_ + 1) (hp' : place' = 512) : zRe f n s i fr nw s2 n2 s' i' fr' nw' pl nx idl fi la tm kept dist at' place' := fun S V hh => by
  obtain ⟨q1, q2, q3, q4, q5, q6, q7, q8⟩ := h S V hh
  have hb2 := hx ⟨q1, hn⟩
  have ty := hh.1 at_.toNat (by omega)
  have e10 : (f at_.toNat).toInt = 10 := zb10 ty (by omega)
  have e : zRq f n S V at'.toNat = ((zRq f n S V at_.toNat).1, 512, (zRq f n S V at_.toNat).2.2.1, (zRq f n S V at_.toNat).2.2.2.1, true) := by
    rw [show at'.toNat = at_.toNat + 1 from by omega]
    show zRqs f n S at_.toNat (zRq f n S V at_.toNat) = _
    unfold zRqs
    rw [if_neg (by rw [q2]; decide), if_pos ⟨by rw [q3]; exact hp, e10⟩]
  rw [e]
  exact ⟨by omega, rfl, hp'.symm, q4, q5, q6, by rw [hp']; exact zTt_m q7 (by omega), q8⟩
theorem zRe_e (h2 : (zRq f n S V at_.toNat).2.2.2.2 = true) (h3 : (zRq f n S V at_.toNat).2.1 = place) (hnl : ¬ (place < 512 ∧ (f at_.toNat).toInt = 10)) (h0 : 0 ≤ at_) (ha : at' = at_ + 1) (hs : zsb f n at_ = false) : zRq f n S V at'.toNat = zRq f n S V at_.toNat := by
  rw [show at'.toNat = at_.toNat + 1 from by omega]
  show zRqs f n S at_.toNat (zRq f n S V at_.toNat) = _
  unfold zRqs
  rw [if_neg (by rw [h2]; decide), if_neg (by rw [h3]; exact hnl), if_neg (by rw [show ((at_.toNat : Nat) : Int) = at_ from by omega, hs]; decide)]
theorem zRe_n {b : Int} (h : zRe f n s i fr nw s2 n2 s' i' fr' nw' pl nx idl fi la tm kept dist at_ place) (hn : at_ < n) (hnl : 512 ≤ place ∨ (b ≠ 10 ∧ (0 ≤ at_ ∧ at_ < n → b = (f at_.toNat &&& 255).toInt))) (hs : zsb f n at_ = false) (ha : at' = at_ + 1) : zRe f n s i fr nw s2 n2 s' i' fr' nw' pl nx idl fi la tm kept dist at' place := fun S V hh => by
  obtain ⟨q1, q2, q3, q4, q5, q6, q7, q8⟩ := h S V hh
  have ty := hh.1 at_.toNat (by omega)
  have nl : ¬ (place < 512 ∧ (f at_.toNat).toInt = 10) := fun c => by
    rcases hnl with d | ⟨d1, d2⟩
    · omega
    · exact d1 (by rw [d2 ⟨q1, hn⟩]; exact zb10' c.2)
  rw [zRe_e q2 q3 nl q1 ha hs]
  exact ⟨by omega, q2, q3, q4, q5, q6, q7, q8⟩
theorem zRe_q (h2 : (zRq f n S V at_.toNat).2.2.2.2 = true) (h3 : (zRq f n S V at_.toNat).2.1 = place) (hnl : ¬ (place < 512 ∧ (f at_.toNat).toInt = 10)) (h0 : 0 ≤ at_) (ha : at' = at_ + 1) (hs : zsb f n at_ = true) (hw : w = zwd f n at_) : zRq f n S V at'.toNat = if zkO S (zRq f n S V at_.toNat).2.2.1 w = true then (zkT S (zRq f n S V at_.toNat).1 place w, place + 1, zkV S (zRq f n S V at_.toNat).2.2.1 w, (zRq f n S V at_.toNat).2.2.2.1 + zkC S w, true) else ((zRq f n S V at_.toNat).1, (zRq f n S V at_.toNat).2.1, (zRq f n S V at_.toNat).2.2.1, (zRq f n S V at_.toNat).2.2.2.1, false) := by
  rw [show at'.toNat = at_.toNat + 1 from by omega]
  show zRqs f n S at_.toNat (zRq f n S V at_.toNat) = _
  unfold zRqs
  have ea : ((at_.toNat : Nat) : Int) = at_ := by omega
  rw [if_neg (by rw [h2]; decide), if_neg (by rw [h3]; exact hnl), if_pos (by rw [ea]; exact hs), ea, ← hw, h3]
theorem zRe_w {b : Int} (h : zRe f n s i fr nw s2 n2 s' i' fr' nw' pl nx idl fi la tm kept dist at_ place) (hn : at_ < n) (hn6 : n ≤ 600) (hnl : 512 ≤ place ∨ (b ≠ 10 ∧ (0 ≤ at_ ∧ at_ < n → b = (f at_.toNat &&& 255).toInt))) (hs : zsb f n at_ = true) (hw : w = zwd f n at_) (hk : zKe s' i' fr' nw' s2 n2 pl nx idl fi la tm kept dist s3 i3 fr3 nw3 pl3 nx3 idl3 fi3 la3 tm3 kept3 dist3 w place r) {S : Int → Bool} {V : List Int} (hh : zRh f n s i fr nw s2 n2 S V) : ∃ V1 : List Int, V1 = (zRq f n S V at_.toNat).2.2.1 ∧ zVo s3 i3 fr3 nw3 (zkV S V1 w) ∧ (∀ x ∈ zkV S V1 w, x ≠ 0) ∧ r = (if zkO S V1 w = true then 1 else 0) ∧ (zkO S V1 w = true → zCt pl3 nx3 idl3 fi3 la3 tm3 kept3 dist3 (zkT S (zRq f n S V at_.toNat).1 place w) (zkV S V1 w) ∧ zTt (zkT S (zRq f n S V at_.toNat).1 place w) (place + 1) (zkV S V1 w) ∧ kept3 = kept + zkC S w) ∧ zRq f n S V (at_.toNat + 1) = if zkO S V1 w = true then (zkT S (zRq f n S V at_.toNat).1 place w, place + 1, zkV S V1 w, (zRq f n S V at_.toNat).2.2.2.1 + zkC S w, true) else ((zRq f n S V at_.toNat).1, (zRq f n S V at_.toNat).2.1, V1, (zRq f n S V at_.toNat).2.2.2.1, false) := by
  obtain ⟨q1, q2, q3, q4, q5, q6, q7, q8⟩ := h S V hh
  have nl : ¬ (place < 512 ∧ (f at_.toNat).toInt = 10) := fun c => by
    rcases hnl with d | ⟨d1, d2⟩
    · omega
    · exact d1 (by rw [d2 ⟨q1, hn⟩]; exact zb10' c.2)
  have hs' := hs
  unfold zsb at hs'
  rw [Bool.and_eq_true, Bool.not_eq_true'] at hs'
  have hb := zRq_b (f := f) (n := n) (S := S) (V := V) at_.toNat
  rw [show ((at_.toNat : Nat) : Int) = at_ from by omega] at hb
  have b1 := hb.2.1 hs'.2
  have b2 := hb.2.2.2.2 hs'.2
  have hw1 : w ≠ 0 := by
    have := zwd_p (zinb_i.mp hs'.1)
    omega
  obtain ⟨k1, k2, k3, k4⟩ := hk S _ _ hh.2.1 hh.2.2.1 q4 q5 q6 q7 (by omega) (by omega) hw1
  have e := zRe_q (at' := at_ + 1) q2 q3 nl q1 rfl hs hw
  rw [show (at_ + 1).toNat = at_.toNat + 1 from by omega] at e
  exact ⟨_, rfl, k1, k2, k3, k4, e⟩
theorem zRe_k {b : Int} (h : zRe f n s i fr nw s2 n2 s' i' fr' nw' pl nx idl fi la tm kept dist at_ place) (hn : at_ < n) (hn6 : n ≤ 600) (hnl : 512 ≤ place ∨ (b ≠ 10 ∧ (0 ≤ at_ ∧ at_ < n → b = (f at_.toNat &&& 255).toInt))) (hs : zsb f n at_ = true) (hw : w = zwd f n at_) (hk : zKe s' i' fr' nw' s2 n2 pl nx idl fi la tm kept dist s3 i3 fr3 nw3 pl3 nx3 idl3 fi3 la3 tm3 kept3 dist3 w place r) (hr : r ≠ 0) (ha : at' = at_ + 1) (hp : place' = place + 1) : zRe f n s i fr nw s2 n2 s3 i3 fr3 nw3 pl3 nx3 idl3 fi3 la3 tm3 kept3 dist3 at' place' := fun S V hh => by
  have q8 := (h S V hh).2.2.2.2.2.2.2
  have q1 := (h S V hh).1
  obtain ⟨V1, e1, k1, k2, k3, k4, e⟩ := zRe_w h hn hn6 hnl hs hw hk hh
  have hO : zkO S V1 w = true := by
    cases c : zkO S V1 w
    · rw [c, if_neg (by decide)] at k3; exact absurd k3 hr
    · rfl
  rw [if_pos hO] at e
  obtain ⟨k5, k6, k7⟩ := k4 hO
  rw [show at'.toNat = at_.toNat + 1 from by omega, e, hp]
  exact ⟨by omega, rfl, rfl, k1, k2, k5, k6, by rw [k7, q8]; exact (Int.natCast_add _ _).symm⟩
theorem zRz_f {b : Int} (h : zRe f n s i fr nw s2 n2 s' i' fr' nw' pl nx idl fi la tm kept dist at_ place) (hn : at_ < n) (hn6 : n ≤ 600) (hnl : 512 ≤ place ∨ (b ≠ 10 ∧ (0 ≤ at_ ∧ at_ < n → b = (f at_.toNat &&& 255).toInt))) (hs : zsb f n at_ = true) (hw : w = zwd f n at_) (hk : zKe s' i' fr' nw' s2 n2 pl nx idl fi la tm kept dist s3 i3 fr3 nw3 pl3 nx3 idl3 fi3 la3 tm3 kept3 dist3 w place r) (hr : r = 0) (hr' : r' = 0) : zRz f n s i fr nw s2 n2 s3 i3 fr3 nw3 pl3 nx3 idl3 fi3 la3 tm3 kept3 dist3 r' := fun S V hh => by
  have q1 := (h S V hh).1
  obtain ⟨V1, e1, k1, k2, k3, k4, e⟩ := zRe_w h hn hn6 hnl hs hw hk hh
  have hO : zkO S V1 w = false := by
    cases c : zkO S V1 w
    · rfl
    · rw [c, if_pos rfl] at k3; omega
  rw [if_neg (by rw [hO]; decide)] at e
  have eV : zkV S V1 w = V1 := by
    unfold zkO at hO
    rw [Bool.or_eq_false_iff, Bool.or_eq_false_iff] at hO
    unfold zkV
    rw [if_neg (by rw [hO.1.1]; decide), if_neg (of_decide_eq_false hO.1.2), if_neg (of_decide_eq_false hO.2)]
  rw [eV] at k1 k2
  have ef := zRq_f (f := f) (n := n) (S := S) (V := V) (k := at_.toNat + 1) (m := n.toNat) (by rw [e]) (by omega)
  rw [ef, e]
  exact ⟨hr', k1, k2, fun c => absurd (show false = true from c) (by decide)⟩
theorem zRz_e (h : zRe f n s i fr nw s2 n2 s' i' fr' nw' pl nx idl fi la tm kept dist at_ place) (hn : n ≤ at_) (ha : at_ ≤ n) (hr : r = 1) : zRz f n s i fr nw s2 n2 s' i' fr' nw' pl nx idl fi la tm kept dist r := fun S V hh => by
  obtain ⟨q1, q2, q3, q4, q5, q6, q7, q8⟩ := h S V hh
  rw [show n.toNat = at_.toNat from by omega, q2]
  exact ⟨hr, q4, q5, fun _ => ⟨q6, by rw [q3]; exact q7, q8⟩⟩
end ZRE
def zdn (idl : Nat → Int32) : Nat → Nat → Bool
  | 0, _ => false
  | i + 1, id => zdn idl i id || decide ((idl i).toInt.toNat = id)
theorem zdn_i {idl : Nat → Int32} {i id : Nat} : zdn idl i id = true ↔ ∃ j, j < i ∧ (idl j).toInt.toNat = id := by
  induction i with
  | zero => constructor
            · intro h; exact absurd h (by intro c; cases c)
            · rintro ⟨j, h, -⟩; exact absurd h (Nat.not_lt_zero _)
  | succ i ih =>
    show (zdn idl i id || decide ((idl i).toInt.toNat = id)) = true ↔ _
    rw [Bool.or_eq_true, ih, decide_eq_true_eq]
    constructor
    · rintro (⟨j, h1, h2⟩ | h)
      · exact ⟨j, by omega, h2⟩
      · exact ⟨i, by omega, h⟩
    · rintro ⟨j, h1, h2⟩
      by_cases c : j = i
      · subst c; exact Or.inr h2
      · exact Or.inl ⟨j, by omega, h2⟩
def zmx {α : Type} (old new : Nat → α) (idl : Nat → Int32) (i : Nat) : Nat → α := fun id => if zdn idl i id = true then new id else old id
theorem zmx_0 {α : Type} {old new : Nat → α} {idl : Nat → Int32} : zmx old new idl 0 = old := funext fun id => if_neg (by intro c; cases c)
theorem zmx_s {α : Type} {old new : Nat → α} {idl : Nat → Int32} {i k : Nat} (hk : (idl i).toInt.toNat = k) : zmx old new idl (i + 1) = zuf (zmx old new idl i) k (new k) := funext fun id => by
  unfold zmx
  by_cases c : id = k
  · subst c
    rw [zuf_s, if_pos]
    exact zdn_i.mpr ⟨i, by omega, hk⟩
  · rw [zuf_n c]
    have e : zdn idl (i + 1) id = zdn idl i id := by
      show (zdn idl i id || decide ((idl i).toInt.toNat = id)) = _
      rw [decide_eq_false (fun q => c (by rw [← hk, q])), Bool.or_false]
    rw [e]
theorem zmx_n {α : Type} {old new : Nat → α} {idl : Nat → Int32} {i k : Nat} {dist : Int} (h3 : ∀ a b : Nat, a < b → (b : Int) < dist → (idl a).toInt ≠ (idl b).toInt) (h2 : ∀ a : Nat, (a : Int) < dist → 0 ≤ (idl a).toInt) (hi : (i : Int) < dist) (hk : (idl i).toInt.toNat = k) : zmx old new idl i k = old k := if_neg (fun c => by
  obtain ⟨j, j1, j2⟩ := zdn_i.mp c
  have a1 := h3 j i j1 hi
  have a2 := h2 j (by omega)
  have a3 := h2 i hi
  omega)
section ZBN
variable {T : Nat → Nat → Int} {V : List Int} {t : Nat → Int} {D : Nat} {w : Int}
theorem zPq_c {T' : Nat → Nat → Int} {w : Int} : ∀ {D : Nat}, (∀ d, d < D → T' d = T d) → zPq T' w D = zPq T w D ∧ zLd T' w D = zLd T w D ∧ zHn T' w D = zHn T w D := by
  intro D
  induction D with
  | zero => intro _; exact ⟨rfl, rfl, rfl⟩
  | succ D ih =>
    intro h
    obtain ⟨i1, i2, i3⟩ := ih (fun d hd => h d (by omega))
    have e := h D (by omega)
    show (if 0 < zTm (T' D) w 1024 then _ else _) = (if 0 < zTm (T D) w 1024 then _ else _) ∧ (if 0 < zTm (T' D) w 1024 then _ else _) = (if 0 < zTm (T D) w 1024 then _ else _) ∧ (if 0 < zTm (T' D) w 1024 then _ else _) = (if 0 < zTm (T D) w 1024 then _ else _)
    rw [e, i1, i2, i3]
    exact ⟨rfl, rfl, rfl⟩
theorem zBn {id : Nat} : zBv (zuf T D t) V (D + 1) id = (if 0 < (zGp t V id).length then zBv T V D id ++ (zGa ((D : Int) + 1 - zLv T V D id).toNat ++ (zGa (zGp t V id).length ++ zrL (zGp t V id))) else zBv T V D id) ∧ zLv (zuf T D t) V (D + 1) id = (if 0 < (zGp t V id).length then (D : Int) + 1 else zLv T V D id) ∧ zHv (zuf T D t) V (D + 1) id = (if 0 < (zGp t V id).length then zHv T V D id + 1 else zHv T V D id) := by
  have c := fun w => zPq_c (T := T) (T' := zuf T D t) (w := w) (D := D) (fun d hd => zuf_n (by omega))
  unfold zBv zLv zHv
  cases hv : V[id]? with
  | none => rw [zGp_n hv]; exact ⟨rfl, rfl, rfl⟩
  | some w =>
    rw [zGp_s hv, zPn_l]
    show zPq (zuf T D t) w (D + 1) = (if 0 < zTm t w 1024 then zPq T w D ++ (zGa ((D : Int) + 1 - (zLd T w D + 1)).toNat ++ (zGa (zTm t w 1024) ++ zrL (zPn t w 1024))) else zPq T w D) ∧ zLd (zuf T D t) w (D + 1) + 1 = (if 0 < zTm t w 1024 then (D : Int) + 1 else zLd T w D + 1) ∧ (zHn (zuf T D t) w (D + 1) : Int) = (if 0 < zTm t w 1024 then (zHn T w D : Int) + 1 else zHn T w D)
    have e : zuf T D t D = t := zuf_s
    by_cases q : 0 < zTm t w 1024
    · have q' : 0 < zTm (zuf T D t D) w 1024 := by rw [e]; exact q
      rw [if_pos q, if_pos q, if_pos q, zPs_y q', zLd_y q', zHn_y q', e, (c w).1, (c w).2.1, (c w).2.2, show (D : Int) + 1 - (zLd T w D + 1) = (D : Int) - zLd T w D from by omega]
      exact ⟨rfl, rfl, by omega⟩
    · have q' : ¬ 0 < zTm (zuf T D t D) w 1024 := by rw [e]; exact q
      rw [if_neg q, if_neg q, if_neg q, zPs_n q', zLd_n q', zHn_n q', (c w).1, (c w).2.1, (c w).2.2]
      exact ⟨rfl, rfl, rfl⟩
end ZBN
theorem zGp_o {t : Nat → Int} {V : List Int} {id : Nat} : zrO (zGp t V id) ∧ (zGp t V id).length ≤ 1024 ∧ ((zGp t V id).sum : Int) ≤ 1024 ∧ ∀ m ∈ zGp t V id, 0 < m ∧ m ≤ 1024 := by
  cases hv : V[id]? with
  | none => rw [zGp_n hv]; exact ⟨fun m hm => absurd hm List.not_mem_nil, by decide, by decide, fun m hm => absurd hm List.not_mem_nil⟩
  | some w =>
    rw [zGp_s hv]
    have := zPn_s (t := t) (w := w) (k := 1024)
    have := zLp_b (t := t) (w := w) (k := 1024)
    have := zTm_b (t := t) (w := w) (k := 1024)
    exact ⟨zPn_r (Nat.le_refl _), by rw [zPn_l]; omega, by omega, fun m hm => zPn_o m hm⟩
theorem zrL_le : ∀ {l : List Nat}, (∀ m ∈ l, 0 < m ∧ m ≤ 1024) → (zrL l).length ≤ 21 * l.length := by
  intro l
  induction l with
  | nil => intro _; exact Nat.le_refl _
  | cons m l ih =>
    intro h
    have h1 := h m List.mem_cons_self
    have h2 := ih (fun x hx => h x (List.mem_cons_of_mem _ hx))
    have := zGa_l h1.1
    have := zbd_le (n := m) (k := 11) (by omega)
    rw [zrL_c, List.length_append, List.length_cons]
    omega
def zpt (pl nx : Nat → Int32) (G : List Nat) (path : Nat → Nat) : Prop := ∀ j, j < G.length → (pl (path j)).toInt = ((G.take (j + 1)).sum : Int) - 1 ∧ (j + 1 < G.length → (nx (path j)).toInt = path (j + 1))
def zBg (pl nx idl fi la tm : Nat → Int32) (kept dist : Int) (id : Nat) (step bits ah tok i : Int) : Prop := ∀ (t : Nat → Int) (V : List Int), zCt pl nx idl fi la tm kept dist t V → id < 400 → 0 < step → step ≤ 1000 → 0 < (tm id).toInt → 0 ≤ i ∧ i ≤ (zGp t V id).length ∧ bits = ((zGa step.toNat).length : Int) + (zGa (zGp t V id).length).length + (zrL ((zGp t V id).take i.toNat)).length ∧ ah = (((zGp t V id).take i.toNat).sum : Int) - 1 ∧ ∃ path : Nat → Nat, zpt pl nx (zGp t V id) path ∧ (i < (zGp t V id).length → tok = path i.toNat)
def zBf (pl nx idl fi la tm : Nat → Int32) (kept dist : Int) (id : Nat) (step r : Int) : Prop := ∀ (t : Nat → Int) (V : List Int), zCt pl nx idl fi la tm kept dist t V → id < 400 → 0 < step → step ≤ 1000 → 0 < (tm id).toInt → r = ((zGa step.toNat).length : Int) + (zGa (zGp t V id).length).length + (zrL (zGp t V id)).length
theorem zts {G : List Nat} {i : Nat} (h : i < G.length) : G.take (i + 1) = G.take i ++ [G[i]] := by rw [List.take_add_one, List.getElem?_eq_getElem h]; rfl
theorem ztsm {G : List Nat} {i : Nat} (h : i < G.length) : (G.take (i + 1)).sum = (G.take i).sum + G[i] := by rw [zts h, List.sum_append, List.sum_cons, List.sum_nil, Nat.add_zero]
theorem ztsl {G : List Nat} {i : Nat} (h : i < G.length) : zrL (G.take (i + 1)) = zrL (G.take i) ++ zGa G[i] := by
  rw [zts h, zrL_a, zrL_c]
  show _ ++ (_ ++ []) = _
  rw [List.append_nil]
theorem ztss {G : List Nat} (i : Nat) : (G.take i).sum ≤ G.sum := by
  conv => rhs; rw [← List.take_append_drop i G, List.sum_append]
  omega
section ZBG
variable {pl nx idl fi la tm : Nat → Int32} {kept dist step bits bits' ah ah' tok tok' i i' r : Int} {id : Nat}
theorem zBg_0 {F : Int32} {r1 r10 : Int} (h1 : 0 < step → r1 = 2 * (zbd step.toNat : Int) - 1) (h2 : 0 < (tm id).toInt → r10 = 2 * (zbd (tm id).toInt.toNat : Int) - 1) {A B C : Int32} (hA : A.toInt = r1) (hB : B.toInt = r10) (eC : C = A + B) (hah : ah = -1) (eF : F = fi id) (hi : i = 0) : zBg pl nx idl fi la tm kept dist id step C.toInt ah F.toInt i := fun t V hC hid q1 q2 q3 => by
  obtain ⟨o1, path, o2, o3⟩ := hC.1.choose_spec id hid
  have e1 := h1 q1
  have e2 := h2 q3
  have b1 := zbd_k (m := step.toNat) (by omega)
  have b2 := zbd_i (tm id)
  have l1 := zGa_l (n := step.toNat) (by omega)
  have l2 := zGa_l (n := (zGp t V id).length) (by omega)
  have z1 := zbd_0 (n := step.toNat) (by omega)
  have z2 := zbd_0 (n := (zGp t V id).length) (by omega)
  rw [o1, Int.toNat_natCast] at e2 b2
  have ec := zadd hA hB eC (by omega) (by omega)
  subst hi
  refine ⟨Int.le_refl _, by omega, ?_, by rw [hah]; rfl, path, fun j hj => ⟨(o2 j hj).2.2.1, (o2 j hj).2.2.2⟩, fun _ => by rw [eF]; exact (o3 (by omega)).1⟩
  show C.toInt = _ + _ + ((0 : Nat) : Int)
  omega
theorem zBg_s {P X G N : Int32} {TK AH B B' R : Int32} (h : zBg pl nx idl fi la tm kept dist id step B.toInt AH.toInt TK.toInt i) (hi : i < (tm id).toInt) (eP : P = pl TK.toNatClampNeg) (eG : G = P - AH) (hR : 0 < G.toInt → R.toInt = 2 * (zbd G.toInt.toNat : Int) - 1) (eB : B' = B + R) (eX : X = pl TK.toNatClampNeg) (eN : N = nx TK.toNatClampNeg) (hi' : i' = i + 1) : zBg pl nx idl fi la tm kept dist id step B'.toInt X.toInt N.toInt i' := fun t V hC hid q1 q2 q3 => by
  obtain ⟨a1, a2, a3, a4, path, a5, a6⟩ := h t V hC hid q1 q2 q3
  have o1 := (hC.1.choose_spec id hid).1
  have hl : i.toNat < (zGp t V id).length := by omega
  have et := a6 (by omega)
  have ec : TK.toNatClampNeg = path i.toNat := by have : TK.toNatClampNeg = TK.toInt.toNat := rfl; omega
  obtain ⟨p1, p2⟩ := a5 i.toNat hl
  have go := zGp_o (t := t) (V := V) (id := id)
  have gm := go.2.2.2 _ (List.getElem_mem hl)
  have sm := ztsm hl
  have s2 := ztss (G := zGp t V id) (i.toNat + 1)
  rw [ec] at eP eX eN
  have eP' : P.toInt = (((zGp t V id).take (i.toNat + 1)).sum : Int) - 1 := by rw [eP, p1]
  have g1 := zsub eP' a4 eG (by omega) (by omega)
  have hR' := hR (by omega)
  have gz : G.toInt.toNat = (zGp t V id)[i.toNat] := by omega
  rw [gz] at hR'
  have l1 := zGa_l gm.1
  have l2 := zbd_0 gm.1
  have l3 := zbd_k (m := (zGp t V id)[i.toNat]) (by omega)
  have r1 := zrL_le (l := (zGp t V id).take i.toNat) (fun m hm => go.2.2.2 m (List.mem_of_mem_take hm))
  rw [List.length_take] at r1
  have l4 := zGa_l (n := step.toNat) (by omega)
  have l5 := zGa_l (n := (zGp t V id).length) (by omega)
  have l6 := zbd_k (m := step.toNat) (by omega)
  have l7 := zbd_k (m := (zGp t V id).length) (by omega)
  have b1 := zadd (x := B) rfl hR' eB (by omega) (by omega)
  rw [show i'.toNat = i.toNat + 1 from by omega, ztsl hl, sm, List.length_append]
  refine ⟨by omega, by omega, by omega, by rw [eX, p1, sm], path, a5, fun q => ?_⟩
  rw [eN, p2 (by omega)]
theorem zBf_e (h : zBg pl nx idl fi la tm kept dist id step bits ah tok i) (hi : (tm id).toInt ≤ i) (hr : r = bits) : zBf pl nx idl fi la tm kept dist id step r := fun t V hC hid q1 q2 q3 => by
  obtain ⟨a1, a2, a3, a4, path, a5, a6⟩ := h t V hC hid q1 q2 q3
  have o1 := (hC.1.choose_spec id hid).1
  rw [show i.toNat = (zGp t V id).length from by omega, List.take_length] at a3
  rw [hr, a3]
end ZBG
theorem znc_y {b c r n : Int} (h : zCk b c) (hb : b = n - 1) (hr : r = c + 1) (hn : 0 < n) : r = (znc n.toNat : Int) := by
  have q := zCk_n h
  rw [znc_p (by omega), show n.toNat - 1 = b.toNat from by omega]
  omega
theorem znc_z {n r : Int} (hn : n ≤ 0) (hr : r = 0) : r = (znc n.toNat : Int) := by
  rw [show n.toNat = 0 from by omega, hr]; rfl
theorem zco_t {b : Int} {C A Z R : Int32} (h1 : C.toInt = (znc b.toNat : Int)) (q1 : 0 ≤ b) (q2 : b ≤ 200000) (h6 : 0 ≤ C.toInt → C.toInt ≤ 1000 → zRo C.toInt A.toInt) (e1 : Z = 16 * C) (e2 : R = A + Z) : R.toInt = (zco b.toNat : Int) := by
  have cb : znc b.toNat ≤ 800 := by unfold znc zck; (repeat' split) <;> omega
  have rr := zRo_n (h6 (by omega) (by omega))
  have z1 := zmul (show (16 : Int32).toInt = 16 from by decide) (y := C) rfl e1 (by omega) (by omega)
  have rb : zrm (znc b.toNat) ≤ 256 * znc b.toNat := by unfold zrm; (repeat' split) <;> omega
  rw [h1, Int.toNat_natCast] at rr
  have a1 := zadd rr z1 e2 (by omega) (by omega)
  unfold zco
  omega
def zFh (pl nx idl fi la tm : Nat → Int32) (kept dist : Int) (ro cs nxc fc lc bt : Nat → Int32) (ch ru ab tk : Int) (l : Nat → Int32) (D : Int) (T : Nat → Nat → Int) (V : List Int) (t : Nat → Int) : Prop := zCt pl nx idl fi la tm kept dist t V ∧ zPB ro cs nxc fc lc bt ch ru ab tk (zBv T V D.toNat) ∧ zcs (zBv T V D.toNat) ≤ 40000 ∧ (∀ id : Nat, id < 400 → (l id).toInt = zLv T V D.toNat id) ∧ 0 ≤ D ∧ D ≤ 119
def zFi (pl nx idl fi la tm : Nat → Int32) (kept dist : Int) (ro cs nxc fc lc bt : Nat → Int32) (ch ru ab tk : Int) (l : Nat → Int32) (D tkn i : Int) : Prop := ∀ (T : Nat → Nat → Int) (V : List Int) (t : Nat → Int), zFh pl nx idl fi la tm kept dist ro cs nxc fc lc bt ch ru ab tk l D T V t → 0 ≤ i ∧ i ≤ dist ∧ tkn = (zcs (zmx (zBv T V D.toNat) (zBv (zuf T D.toNat t) V (D.toNat + 1)) idl i.toNat) : Int) ∧ tkn ≤ 40000 + 100000 * i
def zFf (pl nx idl fi la tm : Nat → Int32) (kept dist : Int) (ro cs nxc fc lc bt : Nat → Int32) (ch ru ab tk : Int) (l : Nat → Int32) (D r : Int) : Prop := ∀ (T : Nat → Nat → Int) (V : List Int) (t : Nat → Int), zFh pl nx idl fi la tm kept dist ro cs nxc fc lc bt ch ru ab tk l D T V t → r = if zcs (zBv (zuf T D.toNat t) V (D.toNat + 1)) ≤ 40000 then 1 else 0
section ZFI
variable {pl nx idl fi la tm ro cs nxc fc lc bt l : Nat → Int32} {kept dist ch ru ab tk D tkn i i' r : Int} {T : Nat → Nat → Int} {V : List Int} {t : Nat → Int}
theorem zLv_b {id : Nat} {d : Nat} : 0 ≤ zLv T V d id ∧ zLv T V d id ≤ d := by
  unfold zLv
  cases V[id]? with
  | none => exact ⟨Int.le_refl _, by show (0 : Int) ≤ d; omega⟩
  | some w => have := zLd_b (T := T) (w := w) (d := d); exact ⟨by show 0 ≤ zLd T w d + 1; omega, by show zLd T w d + 1 ≤ d; omega⟩
theorem zHv_b {id : Nat} {d : Nat} : 0 ≤ zHv T V d id ∧ zHv T V d id ≤ d := by
  unfold zHv
  cases V[id]? with
  | none => exact ⟨Int.le_refl _, by show (0 : Int) ≤ d; omega⟩
  | some w => have := zHn_b (T := T) (w := w) (d := d); exact ⟨by show (0 : Int) ≤ zHn T w d; omega, by show (zHn T w d : Int) ≤ d; omega⟩
theorem zFi_0 (h0 : tkn = tk) (hi : i = 0) (hd : 0 ≤ dist) : zFi pl nx idl fi la tm kept dist ro cs nxc fc lc bt ch ru ab tk l D tkn i := fun T V t hh => by
  subst hi
  have e := zPC_tk hh.2.1
  have c := hh.2.2.1
  refine ⟨Int.le_refl _, hd, ?_, by omega⟩
  show tkn = (zcs (zmx _ _ idl 0) : Int)
  rw [zmx_0]; omega
theorem zco_b {n : Nat} : zco n ≤ 2 * n + 96 := by unfold zco znc zrm zck; (repeat' split) <;> omega
theorem zco_l (n : Nat) : n ≤ zco n := by have := znc_b (n := n); unfold zco; omega
theorem zFi_s {Z TK L S N B U A C R1 R2 Q W : Int32} (h : zFi pl nx idl fi la tm kept dist ro cs nxc fc lc bt ch ru ab tk l D TK.toInt L.toInt) (hi : L.toInt < dist) (hd3 : dist ≤ 300) (eZ : Z = idl L.toNatClampNeg) (hb : zW (0 ≤ Z.toInt → Z.toInt ≤ 399 → B.toInt = (bt Z.toNatClampNeg).toInt)) (hla : zW (0 ≤ Z.toInt → Z.toInt ≤ 399 → 0 ≤ (l Z.toNatClampNeg).toInt → U.toInt = (l Z.toNatClampNeg).toInt - 1)) (hN : N.toInt = D) (eS : S = N - U) (hf : zBf pl nx idl fi la tm kept dist Z.toNatClampNeg S.toInt A.toInt) (eC : C = B + A) (h1 : zW (0 ≤ C.toInt → C.toInt ≤ 200000 → R1.toInt = (zco C.toInt.toNat : Int))) (h2 : zW (0 ≤ B.toInt → B.toInt ≤ 200000 → R2.toInt = (zco B.toInt.toNat : Int))) (eQ : Q = R1 - R2) (eW : W = TK + Q) (hi' : i' = L.toInt + 1) : zFi pl nx idl fi la tm kept dist ro cs nxc fc lc bt ch ru ab tk l D W.toInt i' := fun T V t hh => by
  obtain ⟨a1, a2, a3, a4⟩ := h T V t hh
  obtain ⟨c1, c2, c3, c4, c5, c6⟩ := hh
  obtain ⟨k1, k2, k3, k4, k5, k6⟩ := c1
  have eL : L.toNatClampNeg = L.toInt.toNat := rfl
  rw [eL] at eZ
  have z1 := k2 L.toInt.toNat (by omega)
  rw [← eZ] at z1
  have eN : Z.toNatClampNeg = Z.toInt.toNat := rfl
  have hz : Z.toInt.toNat < 400 := by omega
  have b1 := hb z1.1 (by omega)
  have b2 := c2.1 _ hz
  have lb := zLv_b (T := T) (V := V) (id := Z.toInt.toNat) (d := D.toNat)
  have l1 := c4 _ hz
  have u1 := hla z1.1 (by omega) (by rw [eN]; omega)
  rw [eN] at b1 u1 hf
  have s1 := zsub hN u1 eS (by omega) (by omega)
  have f1 := hf t V ⟨k1, k2, k3, k4, k5, k6⟩ hz (by omega) (by omega) z1.2.2
  have o1 := (k1.choose_spec _ hz).1
  have zn := zBn (T := T) (V := V) (t := t) (D := D.toNat) (id := Z.toInt.toNat)
  have gl : 0 < (zGp t V Z.toInt.toNat).length := by omega
  rw [if_pos gl, if_pos gl, if_pos gl] at zn
  have nl : ((zBv (zuf T D.toNat t) V (D.toNat + 1) Z.toInt.toNat).length : Int) = B.toInt + A.toInt := by
    rw [zn.1, f1, b1, b2, List.length_append, List.length_append, List.length_append, show S.toInt = ((D.toNat : Nat) : Int) + 1 - zLv T V D.toNat Z.toInt.toNat from by omega]
    omega
  have cz : zco (zBv T V D.toNat Z.toInt.toNat).length ≤ zcs (zBv T V D.toNat) := zsu_k (F := fun j => zco (zBv T V D.toNat j).length) (k := Z.toInt.toNat) (n := 400) hz
  have zl := zco_l (zBv T V D.toNat Z.toInt.toNat).length
  have cd : zsu (fun j => zco (zBv T V D.toNat j).length) 400 = zcs (zBv T V D.toNat) := rfl
  have go := zGp_o (t := t) (V := V) (id := Z.toInt.toNat)
  have r1 := zrL_le (l := zGp t V Z.toInt.toNat) go.2.2.2
  have g1 := zGa_l (n := S.toInt.toNat) (by omega)
  have g2 := zGa_l gl
  have g3 := zbd_k (m := S.toInt.toNat) (by omega)
  have g4 := zbd_k (m := (zGp t V Z.toInt.toNat).length) (by omega)
  have cc := zadd (x := B) (y := A) rfl rfl eC (by omega) (by omega)
  have t1 := h1 (by omega) (by omega)
  have t2 := h2 (by omega) (by omega)
  have zb := zco_b (n := C.toInt.toNat)
  have zb2 := zco_l B.toInt.toNat
  have zb3 := zco_b (n := B.toInt.toNat)
  have qq := zsub t1 t2 eQ (by omega) (by omega)
  have zp : 0 ≤ TK.toInt := by omega
  have ww := zadd (x := TK) rfl qq eW (by omega) (by omega)
  have mm := zmx_s (old := zBv T V D.toNat) (new := zBv (zuf T D.toNat t) V (D.toNat + 1)) (idl := idl) (i := L.toInt.toNat) (k := Z.toInt.toNat) (by rw [← eZ])
  have mn := zmx_n (old := zBv T V D.toNat) (new := zBv (zuf T D.toNat t) V (D.toNat + 1)) (k := Z.toInt.toNat) (dist := dist) k3 (fun a ha => (k2 a ha).1) (i := L.toInt.toNat) (by omega) (by rw [← eZ])
  have cu := zcs_u (B := zmx (zBv T V D.toNat) (zBv (zuf T D.toNat t) V (D.toNat + 1)) idl L.toInt.toNat) (k := Z.toInt.toNat) (l := zBv (zuf T D.toNat t) V (D.toNat + 1) Z.toInt.toNat) hz
  rw [mn] at cu
  rw [show (zBv (zuf T D.toNat t) V (D.toNat + 1) Z.toInt.toNat).length = C.toInt.toNat from by omega, show (zBv T V D.toNat Z.toInt.toNat).length = B.toInt.toNat from by omega] at cu
  rw [show i'.toNat = L.toInt.toNat + 1 from by omega, mm]
  exact ⟨by omega, by omega, by omega, by omega⟩
theorem zmx_e (hC : zCt pl nx idl fi la tm kept dist t V) {m : Nat} (hm : dist ≤ m) {d : Nat} : ∀ id, id < 400 → zmx (zBv T V d) (zBv (zuf T d t) V (d + 1)) idl m id = zBv (zuf T d t) V (d + 1) id ∧ zmx (zLv T V d) (zLv (zuf T d t) V (d + 1)) idl m id = zLv (zuf T d t) V (d + 1) id ∧ zmx (zHv T V d) (zHv (zuf T d t) V (d + 1)) idl m id = zHv (zuf T d t) V (d + 1) id := fun id hid => by
  unfold zmx
  by_cases c : zdn idl m id = true
  · rw [if_pos c, if_pos c, if_pos c]; exact ⟨rfl, rfl, rfl⟩
  · rw [if_neg c, if_neg c, if_neg c]
    obtain ⟨k1, k2, k3, k4, k5, k6⟩ := hC
    have o1 := (k1.choose_spec id hid).1
    have zn := zBn (T := T) (V := V) (t := t) (D := d) (id := id)
    have gl : ¬ 0 < (zGp t V id).length := fun q => by
      obtain ⟨a, a1, a2⟩ := k4 id hid (by omega)
      exact c (zdn_i.mpr ⟨a, by omega, by omega⟩)
    rw [if_neg gl, if_neg gl, if_neg gl] at zn
    exact ⟨zn.1.symm, zn.2.1.symm, zn.2.2.symm⟩
theorem zcs_c {B B' : Nat → List Bool} (h : ∀ id, id < 400 → B id = B' id) : zcs B = zcs B' := zsu_c (fun i hi => by rw [h i hi])
theorem zFf_e (h : zFi pl nx idl fi la tm kept dist ro cs nxc fc lc bt ch ru ab tk l D tkn i) (hi : dist ≤ i) (hr : (tkn ≤ 40000 ∧ r = 1) ∨ (40000 < tkn ∧ r = 0)) : zFf pl nx idl fi la tm kept dist ro cs nxc fc lc bt ch ru ab tk l D r := fun T V t hh => by
  obtain ⟨a1, a2, a3, a4⟩ := h T V t hh
  rw [zcs_c (fun id hid => (zmx_e (T := T) hh.1 (m := i.toNat) (by omega) (d := D.toNat) id hid).1)] at a3
  rcases hr with ⟨h1, h2⟩ | ⟨h1, h2⟩
  · rw [if_pos (by omega), h2]
  · rw [if_neg (by omega), h2]
end ZFI
def zWh (pl nx idl fi la tm : Nat → Int32) (kept dist : Int) (ro cs nxc fc lc bt : Nat → Int32) (ch ru ab tk : Int) (h l : Nat → Int32) (D : Int) (T : Nat → Nat → Int) (V : List Int) (t : Nat → Int) : Prop := zFh pl nx idl fi la tm kept dist ro cs nxc fc lc bt ch ru ab tk l D T V t ∧ (∀ id : Nat, id < 400 → (h id).toInt = zHv T V D.toNat id) ∧ zcs (zBv (zuf T D.toNat t) V (D.toNat + 1)) ≤ 40000
def zWm (h3 l3 idl : Nat → Int32) (D : Int) (T : Nat → Nat → Int) (V : List Int) (t : Nat → Int) (i : Nat) : Prop := ∀ id : Nat, id < 400 → (h3 id).toInt = zmx (zHv T V D.toNat) (zHv (zuf T D.toNat t) V (D.toNat + 1)) idl i id ∧ (l3 id).toInt = zmx (zLv T V D.toNat) (zLv (zuf T D.toNat t) V (D.toNat + 1)) idl i id
def zWu (pl nx idl fi la tm : Nat → Int32) (kept dist : Int) (ro cs nxc fc lc bt : Nat → Int32) (ch ru ab tk : Int) (h l : Nat → Int32) (D : Int) (ro3 cs3 nx3 fc3 lc3 bt3 : Nat → Int32) (ch3 ru3 ab3 tk3 : Int) (h3 l3 : Nat → Int32) (i : Int) : Prop := ∀ (T : Nat → Nat → Int) (V : List Int) (t : Nat → Int), zWh pl nx idl fi la tm kept dist ro cs nxc fc lc bt ch ru ab tk h l D T V t → 0 ≤ i ∧ i ≤ dist ∧ zPB ro3 cs3 nx3 fc3 lc3 bt3 ch3 ru3 ab3 tk3 (zmx (zBv T V D.toNat) (zBv (zuf T D.toNat t) V (D.toNat + 1)) idl i.toNat) ∧ zWm h3 l3 idl D T V t i.toNat
def zWv (pl nx idl fi la tm : Nat → Int32) (kept dist : Int) (ro cs nxc fc lc bt : Nat → Int32) (ch ru ab tk : Int) (h l : Nat → Int32) (D : Int) (ro3 cs3 nx3 fc3 lc3 bt3 : Nat → Int32) (ch3 ru3 ab3 tk3 : Int) (h3 l3 : Nat → Int32) (i : Int) (Z : Int32) (j ah tok : Int) : Prop := ∀ (T : Nat → Nat → Int) (V : List Int) (t : Nat → Int), zWh pl nx idl fi la tm kept dist ro cs nxc fc lc bt ch ru ab tk h l D T V t → 0 ≤ i ∧ i < dist ∧ Z = idl i.toNat ∧ 0 ≤ Z.toInt ∧ Z.toInt < 400 ∧ 0 < (zGp t V Z.toInt.toNat).length ∧ 0 ≤ j ∧ j ≤ (zGp t V Z.toInt.toNat).length ∧ zPB ro3 cs3 nx3 fc3 lc3 bt3 ch3 ru3 ab3 tk3 (zuf (zmx (zBv T V D.toNat) (zBv (zuf T D.toNat t) V (D.toNat + 1)) idl i.toNat) Z.toInt.toNat (zBv T V D.toNat Z.toInt.toNat ++ (zGa (D + 1 - zLv T V D.toNat Z.toInt.toNat).toNat ++ (zGa (zGp t V Z.toInt.toNat).length ++ zrL ((zGp t V Z.toInt.toNat).take j.toNat))))) ∧ zWm h3 l3 idl D T V t (i.toNat + 1) ∧ ah = (((zGp t V Z.toInt.toNat).take j.toNat).sum : Int) - 1 ∧ ∃ path : Nat → Nat, zpt pl nx (zGp t V Z.toInt.toNat) path ∧ (j < (zGp t V Z.toInt.toNat).length → tok = path j.toNat)
section ZWI
variable {pl nx idl fi la tm ro cs nxc fc lc bt h l ro3 cs3 nx3 fc3 lc3 bt3 h3 l3 ro4 cs4 nx4 fc4 lc4 bt4 h4 l4 : Nat → Int32} {kept dist ch ru ab tk ch3 ru3 ab3 tk3 ch4 ru4 ab4 tk4 D i i' j j' ah ah' tok tok' r : Int} {T : Nat → Nat → Int} {V : List Int} {t : Nat → Int} {Z : Int32}
theorem zWu_0 (hi : i = 0) (hd : 0 ≤ dist) : zWu pl nx idl fi la tm kept dist ro cs nxc fc lc bt ch ru ab tk h l D ro cs nxc fc lc bt ch ru ab tk h l i := fun T V t hh => by
  subst hi
  refine ⟨Int.le_refl _, hd, ?_, fun id hid => ?_⟩
  · show zPB _ _ _ _ _ _ _ _ _ _ (zmx _ _ idl 0)
    rw [zmx_0]; exact hh.1.2.1
  · show _ = zmx _ _ idl 0 id ∧ _ = zmx _ _ idl 0 id
    rw [zmx_0, zmx_0]
    exact ⟨hh.2.1 id hid, hh.1.2.2.2.1 id hid⟩
theorem zWc (d : Nat) {m : Nat} {Z : Nat} {pre : List Bool} (hZ : Z < 400) (hp : pre.length ≤ (zBv (zuf T d t) V (d + 1) Z).length) : zcs (zuf (zmx (zBv T V d) (zBv (zuf T d t) V (d + 1)) idl m) Z pre) ≤ zcs (zBv (zuf T d t) V (d + 1)) := zsu_m (fun q hq => by
  by_cases c : q = Z
  · subst c; rw [zuf_s]; exact zco_m hp
  · rw [zuf_n c]
    unfold zmx
    by_cases e : zdn idl m q = true
    · rw [if_pos e]; exact Nat.le_refl _
    · rw [if_neg e]
      have zn := (zBn (T := T) (V := V) (t := t) (D := d) (id := q)).1
      apply zco_m
      rw [zn]
      split
      · rw [List.length_append]; omega
      · exact Nat.le_refl _)
theorem zWv_0 {TM L F : Int32} (hw : zWu pl nx idl fi la tm kept dist ro cs nxc fc lc bt ch ru ab tk h l D ro3 cs3 nx3 fc3 lc3 bt3 ch3 ru3 ab3 tk3 h3 l3 L.toInt) (hi : L.toInt < dist) (eZ : Z = idl L.toNatClampNeg) (eT : TM = tm Z.toNatClampNeg)
    (s1 : zW (0 ≤ Z.toInt → Z.toInt ≤ 399 → 0 ≤ (l3 Z.toNatClampNeg).toInt → (l3 Z.toNatClampNeg).toInt ≤ D → D ≤ 1000 → 0 < TM.toInt → zAp ro3 cs3 nx3 fc3 lc3 bt3 ch3 ru3 ab3 tk3 ro4 cs4 nx4 fc4 lc4 bt4 ch4 ru4 ab4 tk4 Z.toNatClampNeg (zGa (D + 1 - (l3 Z.toNatClampNeg).toInt).toNat ++ zGa TM.toInt.toNat))) (s2 : zW (0 ≤ Z.toInt → Z.toInt ≤ 399 → 0 ≤ D → D ≤ 1000 → zUi l3 l4 Z.toNatClampNeg (D + 1))) (s3 : zW (0 ≤ Z.toInt → Z.toInt ≤ 399 → 0 ≤ (h3 Z.toNatClampNeg).toInt → (h3 Z.toNatClampNeg).toInt ≤ 1000 → zUi h3 h4 Z.toNatClampNeg ((h3 Z.toNatClampNeg).toInt + 1))) (hah : ah = -1) (eF : F = fi Z.toNatClampNeg) (hj : j = 0) : zWv pl nx idl fi la tm kept dist ro cs nxc fc lc bt ch ru ab tk h l D ro4 cs4 nx4 fc4 lc4 bt4 ch4 ru4 ab4 tk4 h4 l4 L.toInt Z j ah F.toInt := fun T V t hh => by
  obtain ⟨a1, a2, a3, a4⟩ := hw T V t hh
  obtain ⟨⟨c1, c2, c3, c4, c5, c6⟩, c7, c8⟩ := hh
  obtain ⟨k1, k2, k3, k4, k5, k6⟩ := c1
  have eL : L.toNatClampNeg = L.toInt.toNat := rfl
  rw [eL] at eZ
  have z1 := k2 L.toInt.toNat (by omega)
  rw [← eZ] at z1
  have eN : Z.toNatClampNeg = Z.toInt.toNat := rfl
  have hz : Z.toInt.toNat < 400 := by omega
  obtain ⟨o1, path, o2, o3⟩ := k1.choose_spec _ hz
  have gl : 0 < (zGp t V Z.toInt.toNat).length := by omega
  have zn := zBn (T := T) (V := V) (t := t) (D := D.toNat) (id := Z.toInt.toNat)
  rw [if_pos gl, if_pos gl, if_pos gl, show ((D.toNat : Nat) : Int) = D from by omega] at zn
  have mB := zmx_n (old := zBv T V D.toNat) (new := zBv (zuf T D.toNat t) V (D.toNat + 1)) (k := Z.toInt.toNat) (dist := dist) k3 (fun a ha => (k2 a ha).1) (i := L.toInt.toNat) (by omega) (by rw [← eZ])
  have mL := zmx_n (old := zLv T V D.toNat) (new := zLv (zuf T D.toNat t) V (D.toNat + 1)) (k := Z.toInt.toNat) (dist := dist) k3 (fun a ha => (k2 a ha).1) (i := L.toInt.toNat) (by omega) (by rw [← eZ])
  have mH := zmx_n (old := zHv T V D.toNat) (new := zHv (zuf T D.toNat t) V (D.toNat + 1)) (k := Z.toInt.toNat) (dist := dist) k3 (fun a ha => (k2 a ha).1) (i := L.toInt.toNat) (by omega) (by rw [← eZ])
  have lb := zLv_b (T := T) (V := V) (id := Z.toInt.toNat) (d := D.toNat)
  have hb := zHv_b (T := T) (V := V) (id := Z.toInt.toNat) (d := D.toNat)
  have w1 := a4 _ hz
  rw [mL, mH] at w1
  rw [eN] at eT eF s1 s2 s3
  have q1 := s1 z1.1 (by omega) (by omega) (by omega) (by omega) (by rw [eT]; omega) _ a3 hz
  rw [mB, w1.2, show TM.toInt.toNat = (zGp t V Z.toInt.toNat).length from by rw [eT]; omega] at q1
  have q2 := q1 (Nat.le_trans (zWc D.toNat hz (by rw [zn.1]; simp only [List.length_append]; omega)) c8)
  have q3 := s2 z1.1 (by omega) (by omega) (by omega)
  have q4 := s3 z1.1 (by omega) (by omega) (by omega)
  subst hj
  refine ⟨a1, hi, eZ, z1.1, z1.2.1, gl, Int.le_refl _, by omega, ?_, fun q hq => ?_, by rw [hah]; rfl, path, fun j hj => ⟨(o2 j hj).2.2.1, (o2 j hj).2.2.2⟩, fun _ => by rw [eF]; exact (o3 gl).1⟩
  · show zPB ro4 cs4 nx4 fc4 lc4 bt4 ch4 ru4 ab4 tk4 (zuf _ _ (_ ++ (_ ++ (_ ++ []))))
    rw [List.append_nil]
    exact q2
  · rw [zmx_s (k := Z.toInt.toNat) (by rw [← eZ]), zmx_s (k := Z.toInt.toNat) (by rw [← eZ]), q3 q, q4 q]
    have w2 := a4 q hq
    by_cases c : q = Z.toInt.toNat
    · rw [if_pos c, if_pos c, c, zuf_s, zuf_s, zn.2.1, zn.2.2]
      exact ⟨by rw [w1.1], rfl⟩
    · rw [if_neg c, if_neg c, zuf_n c, zuf_n c]
      exact w2
theorem zWv_s {P X G N TK AH : Int32} (hw : zWv pl nx idl fi la tm kept dist ro cs nxc fc lc bt ch ru ab tk h l D ro3 cs3 nx3 fc3 lc3 bt3 ch3 ru3 ab3 tk3 h3 l3 i Z j AH.toInt TK.toInt) (hj : j < (tm Z.toNatClampNeg).toInt) (eP : P = pl TK.toNatClampNeg) (eG : G = P - AH) (s1 : zW (0 < G.toInt → 0 ≤ Z.toInt → Z.toInt ≤ 399 → zAp ro3 cs3 nx3 fc3 lc3 bt3 ch3 ru3 ab3 tk3 ro4 cs4 nx4 fc4 lc4 bt4 ch4 ru4 ab4 tk4 Z.toNatClampNeg (zGa G.toInt.toNat))) (eX : X = pl TK.toNatClampNeg) (eN : N = nx TK.toNatClampNeg) (hj' : j' = j + 1) : zWv pl nx idl fi la tm kept dist ro cs nxc fc lc bt ch ru ab tk h l D ro4 cs4 nx4 fc4 lc4 bt4 ch4 ru4 ab4 tk4 h3 l3 i Z j' X.toInt N.toInt := fun T V t hh => by
  obtain ⟨a1, a2, a3, a4, a5, a6, a7, a8, a9, a10, a11, path, a12, a13⟩ := hw T V t hh
  obtain ⟨⟨c1, c2, c3, c4, c5, c6⟩, c7, c8⟩ := hh
  have eZ : Z.toNatClampNeg = Z.toInt.toNat := rfl
  rw [eZ] at hj s1
  have hz : Z.toInt.toNat < 400 := by omega
  have o1 := (c1.1.choose_spec _ hz).1
  have hl : j.toNat < (zGp t V Z.toInt.toNat).length := by omega
  have et := a13 (by omega)
  have ec : TK.toNatClampNeg = path j.toNat := by have : TK.toNatClampNeg = TK.toInt.toNat := rfl; omega
  obtain ⟨p1, p2⟩ := a12 j.toNat hl
  have go := zGp_o (t := t) (V := V) (id := Z.toInt.toNat)
  have gm := go.2.2.2 _ (List.getElem_mem hl)
  have sm := ztsm hl
  have s2 := ztss (G := zGp t V Z.toInt.toNat) (j.toNat + 1)
  rw [ec] at eP eX eN
  have eP' : P.toInt = (((zGp t V Z.toInt.toNat).take (j.toNat + 1)).sum : Int) - 1 := by rw [eP, p1]
  have g1 := zsub eP' a11 eG (by omega) (by omega)
  have gz : G.toInt.toNat = (zGp t V Z.toInt.toNat)[j.toNat] := by omega
  have q1 := s1 (by omega) a4 (by omega) _ a9 hz
  have zn := (zBn (T := T) (V := V) (t := t) (D := D.toNat) (id := Z.toInt.toNat)).1
  rw [if_pos a6, show ((D.toNat : Nat) : Int) = D from by omega] at zn
  rw [zuf_s, zuf_z, gz] at q1
  have hd : zrL (zGp t V Z.toInt.toNat) = zrL ((zGp t V Z.toInt.toNat).take j.toNat) ++ zGa (zGp t V Z.toInt.toNat)[j.toNat] ++ zrL ((zGp t V Z.toInt.toNat).drop (j.toNat + 1)) := by rw [← ztsl hl, ← zrL_a, List.take_append_drop]
  have q2 := q1 (Nat.le_trans (zWc D.toNat hz (by rw [zn, hd]; simp only [List.length_append]; omega)) c8)
  rw [show j'.toNat = j.toNat + 1 from by omega, ztsl hl]
  refine ⟨a1, a2, a3, a4, a5, a6, by omega, by omega, ?_, a10, by rw [eX, p1], path, a12, fun q => ?_⟩
  · simp only [List.append_assoc] at q2 ⊢
    exact q2
  · rw [eN, p2 (by omega)]
theorem zWu_j (hw : zWv pl nx idl fi la tm kept dist ro cs nxc fc lc bt ch ru ab tk h l D ro3 cs3 nx3 fc3 lc3 bt3 ch3 ru3 ab3 tk3 h3 l3 i Z j ah tok) (hj : (tm Z.toNatClampNeg).toInt ≤ j) (hi : i' = i + 1) : zWu pl nx idl fi la tm kept dist ro cs nxc fc lc bt ch ru ab tk h l D ro3 cs3 nx3 fc3 lc3 bt3 ch3 ru3 ab3 tk3 h3 l3 i' := fun T V t hh => by
  obtain ⟨a1, a2, a3, a4, a5, a6, a7, a8, a9, a10, a11, path, a12, a13⟩ := hw T V t hh
  obtain ⟨⟨c1, c2, c3, c4, c5, c6⟩, c7, c8⟩ := hh
  have eZ : Z.toNatClampNeg = Z.toInt.toNat := rfl
  rw [eZ] at hj
  have hz : Z.toInt.toNat < 400 := by omega
  have o1 := (c1.1.choose_spec _ hz).1
  rw [show j.toNat = (zGp t V Z.toInt.toNat).length from by omega, List.take_length] at a9
  have zn := (zBn (T := T) (V := V) (t := t) (D := D.toNat) (id := Z.toInt.toNat)).1
  rw [if_pos a6, show ((D.toNat : Nat) : Int) = D from by omega] at zn
  rw [← zn] at a9
  rw [show i'.toNat = i.toNat + 1 from by omega]
  refine ⟨by omega, by omega, ?_, a10⟩
  rw [zmx_s (k := Z.toInt.toNat) (by rw [a3])]
  exact a9
def zWf (pl nx idl fi la tm : Nat → Int32) (kept dist : Int) (ro cs nxc fc lc bt : Nat → Int32) (ch ru ab tk : Int) (h l : Nat → Int32) (D : Int) (ro3 cs3 nx3 fc3 lc3 bt3 : Nat → Int32) (ch3 ru3 ab3 tk3 : Int) (h3 l3 : Nat → Int32) : Prop := ∀ (T : Nat → Nat → Int) (V : List Int) (t : Nat → Int), zWh pl nx idl fi la tm kept dist ro cs nxc fc lc bt ch ru ab tk h l D T V t → zPB ro3 cs3 nx3 fc3 lc3 bt3 ch3 ru3 ab3 tk3 (zBv (zuf T D.toNat t) V (D.toNat + 1)) ∧ ∀ id : Nat, id < 400 → (h3 id).toInt = zHv (zuf T D.toNat t) V (D.toNat + 1) id ∧ (l3 id).toInt = zLv (zuf T D.toNat t) V (D.toNat + 1) id
theorem zPB_x {B B' : Nat → List Bool} (h : zPB ro cs nxc fc lc bt ch ru ab tk B) (e : ∀ id, id < 400 → B id = B' id) : zPB ro cs nxc fc lc bt ch ru ab tk B' := by
  obtain ⟨a1, a2, h1, h2, h3, h4, h5, h6, h7⟩ := h
  refine ⟨fun id hid => by rw [← e id hid]; exact a1 id hid, ?_, fun id j hid hj => h1 id j hid (by dsimp only at hj ⊢; rw [e id hid]; exact hj), fun id hid hj => ?_, fun id j id' j' k1 k2 k3 k4 k5 => h3 id j id' j' k1 k2 (by dsimp only at k3 ⊢; rw [e id k1]; exact k3) (by dsimp only at k4 ⊢; rw [e id' k2]; exact k4) k5, fun id i hid hi => ?_, h5, ?_, h7⟩
  · rw [a2, zsu_c (fun i hi => by rw [e i hi])]
  · dsimp only at hj ⊢
    rw [← e id hid] at hj ⊢
    exact h2 id hid hj
  · dsimp only at hi
    rw [← e id hid] at hi ⊢
    exact h4 id i hid hi
  · have q := zsu_c (F := fun i => zrm (znc (B i).length) + 16 * znc (B i).length) (G := fun i => zrm (znc (B' i).length) + 16 * znc (B' i).length) (n := 400) (fun i hi => by rw [e i hi])
    rw [h6]
    exact congrArg (fun x : Nat => (x : Int)) q
theorem zWf_e (hw : zWu pl nx idl fi la tm kept dist ro cs nxc fc lc bt ch ru ab tk h l D ro3 cs3 nx3 fc3 lc3 bt3 ch3 ru3 ab3 tk3 h3 l3 i) (hi : dist ≤ i) : zWf pl nx idl fi la tm kept dist ro cs nxc fc lc bt ch ru ab tk h l D ro3 cs3 nx3 fc3 lc3 bt3 ch3 ru3 ab3 tk3 h3 l3 := fun T V t hh => by
  obtain ⟨a1, a2, a3, a4⟩ := hw T V t hh
  have e := zmx_e (T := T) hh.1.1 (m := i.toNat) (by omega) (d := D.toNat)
  refine ⟨zPB_x a3 (fun id hid => (e id hid).1), fun id hid => ?_⟩
  rw [← (e id hid).2.1, ← (e id hid).2.2]
  exact a4 id hid
end ZWI
section ZFG
variable {s s' : Nat → Int64} {i i' fr fr1 fr2 : Nat → Int32} {n n' b b' : Int} {V : List Int}
def zSk (fr fr1 : Nat → Int32) (b e : Int) : Prop := ∀ j : Nat, (fr1 j).toInt = if b ≤ (j : Int) ∧ (j : Int) < e then -1 else (fr j).toInt
theorem zSk_0 {e : Int} (h : e ≤ b) : zSk fr fr b e := fun j => by rw [if_neg (by omega)]
theorem zSk_s {L : Int32} {e' : Int} (h : zSk fr fr1 b L.toInt) (hb : b ≤ L.toInt) (h0 : 0 ≤ L.toInt) (e : fr2 = upd fr1 L.toNatClampNeg (-1)) (he : e' = L.toInt + 1) : zSk fr fr2 b e' := fun j => by
  rw [e]
  have := zclamp h0
  by_cases c : j = L.toNatClampNeg
  · rw [c, pk_us, if_pos (by omega)]; rfl
  · rw [pk_un c, h j]
    by_cases d : b ≤ (j : Int) ∧ (j : Int) < L.toInt
    · rw [if_pos d, if_pos (by omega)]
    · rw [if_neg d, if_neg (by omega)]
theorem zft : ∀ {V : List Int} {k : Nat}, V.Nodup → V.filter (fun w => decide (w ∈ V.take k)) = V.take k := by
  intro V k h
  have e : V = V.take k ++ V.drop k := (List.take_append_drop k V).symm
  have hd : ∀ x ∈ V.drop k, x ∉ V.take k := fun x hx hy => by
    rw [e] at h
    exact (List.nodup_append.mp h).2.2 x hy x hx rfl
  have a1 : (V.take k).filter (fun w => decide (w ∈ V.take k)) = V.take k := List.filter_eq_self.mpr (fun x hx => decide_eq_true hx)
  have a2 : (V.drop k).filter (fun w => decide (w ∈ V.take k)) = [] := List.filter_eq_nil_iff.mpr (fun x hx c => hd x hx (of_decide_eq_true c))
  have a3 : V.filter (fun w => decide (w ∈ V.take k)) = (V.take k).filter (fun w => decide (w ∈ V.take k)) ++ (V.drop k).filter (fun w => decide (w ∈ V.take k)) := by rw [← List.filter_append, ← e]
  rw [a3, a1, a2, List.append_nil]
def zFo (s : Nat → Int64) (i fr : Nat → Int32) (n : Int) (s' : Nat → Int64) (i' fr' : Nat → Int32) (n' b : Int) : Prop := ∀ V : List Int, zVo s i fr n V → 0 ≤ b → b ≤ n → zVo s' i' fr' n' (V.take b.toNat)
theorem zFo_0 (h : n ≤ b) : zFo s i fr n s i fr n b := fun V hV _ hb => by
  rw [List.take_of_length_le (by have := hV.2.1; omega)]; exact hV
theorem zFo_1 {e : Int} (h : zSk fr fr1 b e) (he : n ≤ e) (hc : zClo fr1 s s' i i' n n') (hz : ∀ j : Nat, j < 400 → fr2 j = 0) : zFo s i fr n s' i' fr2 n' b := fun V hV h0 hb => by
  have hn := hV.2.1
  have h4 := hV.2.2.1
  have hd := zVo_nd hV
  rw [← zft hd (k := b.toNat)]
  refine zVo_c hV (fun j hj => ?_) hc hz
  rw [h j, hV.2.2.2.2.2 j (by omega), List.getElem?_eq_getElem hj]
  show _ ↔ decide (V[j] ∈ V.take b.toNat) = false
  rw [decide_eq_false_iff_not]
  by_cases c : b ≤ (j : Int)
  · rw [if_pos (by omega)]
    refine ⟨fun _ hm => ?_, fun _ => rfl⟩
    obtain ⟨k, hk, ek⟩ := List.getElem_of_mem hm
    rw [List.length_take] at hk
    rw [List.getElem_take] at ek
    exact List.pairwise_iff_getElem.mp hd k j (by omega) hj (by omega) ek
  · rw [if_neg (by omega)]
    refine ⟨fun q => absurd q (by decide), fun q => absurd ?_ q⟩
    rw [List.mem_take_iff_getElem]
    exact ⟨j, by omega, rfl⟩
end ZFG
section ZEX
variable {T : Nat → Nat → Int} {V : List Int} {w : Int} {D id : Nat} {t : Nat → Int}
theorem zPq_0 (h : ∀ d, d < D → ∀ k : Nat, T d k ≠ w) : zPq T w D = [] ∧ zLd T w D = -1 ∧ zHn T w D = 0 := zPs_z (d := 0) (Nat.zero_le _) (fun e _ he => by rw [(zPn_0 (h e he)).2.2]; omega)
theorem zBv_x (hT : zTv T V D) (hw : w ∉ V) (h0 : w ≠ 0) : zBv T (V ++ [w]) D id = zBv T V D id ∧ zHv T (V ++ [w]) D id = zHv T V D id ∧ zLv T (V ++ [w]) D id = zLv T V D id := by
  have z := zPq_0 (T := T) (w := w) (D := D) (fun d hd k e => by
    rcases (hT d hd).1 k with c | c
    · exact h0 (by rw [← e]; exact c)
    · exact hw (by rw [← e]; exact c))
  have n := zBv_n (T := T) (K := V) (d := D) (k := V.length) (Nat.le_refl _)
  rw [zBv_a, zHv_a, zLv_a]
  by_cases c : id = V.length
  · rw [if_pos c, if_pos c, c, zuf_s, n.1, n.2.1, n.2.2, z.1, z.2.1, z.2.2]
    exact ⟨rfl, rfl, rfl⟩
  · rw [if_neg c, if_neg c, zuf_n c]
    exact ⟨rfl, rfl, rfl⟩
theorem zkV_c {S : Int → Bool} : zkV S V w = V ∨ (w ∉ V ∧ zkV S V w = V ++ [w]) := by
  unfold zkV
  by_cases a : S w = true
  · rw [if_pos a]; exact Or.inl rfl
  · rw [if_neg a]
    by_cases b : w ∈ V
    · rw [if_pos b]; exact Or.inl rfl
    · rw [if_neg b]
      by_cases c : V.length < 400
      · rw [if_pos c]; exact Or.inr ⟨b, rfl⟩
      · rw [if_neg c]; exact Or.inl rfl
theorem zRqs_c {f : Nat → Int32} {n : Int} {S : Int → Bool} {k : Nat} {x : (Nat → Int) × Int × List Int × Nat × Bool} : (zRqs f n S k x).2.2.1 = x.2.2.1 ∨ (zsb f n k = true ∧ zwd f n k ∉ x.2.2.1 ∧ (zRqs f n S k x).2.2.1 = x.2.2.1 ++ [zwd f n k]) := by
  unfold zRqs
  by_cases a : x.2.2.2.2 = false
  · rw [if_pos a]; exact Or.inl rfl
  · rw [if_neg a]
    by_cases b : x.2.1 < 512 ∧ (f k).toInt = 10
    · rw [if_pos b]; exact Or.inl rfl
    · rw [if_neg b]
      by_cases c : zsb f n k = true
      · rw [if_pos c]
        by_cases d : zkO S x.2.2.1 (zwd f n k) = true
        · rw [if_pos d]
          rcases zkV_c (S := S) (V := x.2.2.1) (w := zwd f n k) with e | ⟨e1, e2⟩
          · exact Or.inl e
          · exact Or.inr ⟨c, e1, e2⟩
        · rw [if_neg d]; exact Or.inl rfl
      · rw [if_neg c]; exact Or.inl rfl
theorem zRq_V {f : Nat → Int32} {n : Int} {S : Int → Bool} (hT : zTv T V D) (k : Nat) : (∃ N, (zRq f n S V k).2.2.1 = V ++ N) ∧ zTv T (zRq f n S V k).2.2.1 D ∧ ∀ id, zBv T (zRq f n S V k).2.2.1 D id = zBv T V D id ∧ zHv T (zRq f n S V k).2.2.1 D id = zHv T V D id ∧ zLv T (zRq f n S V k).2.2.1 D id = zLv T V D id := by
  induction k with
  | zero => exact ⟨⟨[], (List.append_nil _).symm⟩, hT, fun _ => ⟨rfl, rfl, rfl⟩⟩
  | succ k ih =>
    obtain ⟨⟨N, i1⟩, i2, i3⟩ := ih
    rcases zRqs_c (f := f) (n := n) (S := S) (k := k) (x := zRq f n S V k) with e | ⟨e0, e1, e2⟩
    · have e : (zRq f n S V (k + 1)).2.2.1 = (zRq f n S V k).2.2.1 := e
      rw [e]; exact ⟨⟨N, i1⟩, i2, i3⟩
    · have e2 : (zRq f n S V (k + 1)).2.2.1 = (zRq f n S V k).2.2.1 ++ [zwd f n k] := e2
      have hw : zwd f n k ≠ 0 := by
        have e0' := e0
        unfold zsb at e0'
        rw [Bool.and_eq_true] at e0'
        have := zwd_p (zinb_i.mp e0'.1)
        omega
      rw [e2]
      refine ⟨⟨N ++ [zwd f n k], by rw [i1, List.append_assoc]⟩, fun d hd => ⟨fun j => ((i2 d hd).1 j).imp id (fun q => List.mem_append_left _ q), (i2 d hd).2⟩, fun id => ?_⟩
      have x := zBv_x (id := id) i2 e1 hw
      have y := i3 id
      exact ⟨x.1.trans y.1, x.2.1.trans y.2.1, x.2.2.trans y.2.2⟩
def zdc (t : Nat → Int) (V : List Int) : Nat := (V.filter (fun w => decide (0 < zTm t w 1024))).length
theorem zds : ∀ {k : Nat}, zsu (fun id => if 0 < (zGp t V id).length then 1 else 0) k = ((V.take k).filter (fun w => decide (0 < zTm t w 1024))).length := by
  intro k
  induction k with
  | zero => rfl
  | succ k ih =>
    show zsu (fun id => if 0 < (zGp t V id).length then 1 else 0) k + (if 0 < (zGp t V k).length then 1 else 0) = _
    rw [ih]
    rcases Nat.lt_or_ge k V.length with c | c
    · have e : V.take (k + 1) = V.take k ++ [V[k]] := by rw [List.take_add_one, List.getElem?_eq_getElem c]; rfl
      rw [e, List.filter_append, List.length_append, zGp_s (List.getElem?_eq_getElem c), zPn_l]
      by_cases q : 0 < zTm t V[k] 1024
      · rw [if_pos q, List.filter_cons_of_pos (p := fun w => decide (0 < zTm t w 1024)) (decide_eq_true q)]; rfl
      · rw [if_neg q, List.filter_cons_of_neg (p := fun w => decide (0 < zTm t w 1024)) (by rw [decide_eq_false q]; decide)]; rfl
    · rw [List.take_of_length_le c, List.take_of_length_le (by omega), zGp_n (List.getElem?_eq_none c)]
      rfl
theorem zdc_e {dist : Int} (h : dist = (zsu (fun id => if 0 < (zGp t V id).length then 1 else 0) 400 : Nat)) (hV : V.length ≤ 400) : dist = zdc t V := by
  rw [h, zds, List.take_of_length_le hV]; rfl
end ZEX
def zEh (f : Nat → Int32) (n : Int) (s : Nat → Int64) (i fr : Nat → Int32) (nw : Int) (s2 : Nat → Int64) (n2 : Int) (ro cs nxc fc lc bt : Nat → Int32) (ch ru ab tk : Int) (h l : Nat → Int32) (D : Int) (S : Int → Bool) (T : Nat → Nat → Int) (V : List Int) : Prop := zTy f n ∧ n ≤ 600 ∧ zSrt s2 n2 ∧ (∀ x, S x = true ↔ zHas s2 n2 x) ∧ zKl s i fr nw ro cs nxc fc lc bt ch ru ab tk h l D T V
def zac (f : Nat → Int32) (n : Int) (S : Int → Bool) (T : Nat → Nat → Int) (V : List Int) (D : Int) : Prop := D < 120 ∧ (zRq f n S V n.toNat).2.2.2.2 = true ∧ zcs (zBv (zuf T D.toNat (zRq f n S V n.toNat).1) (zRq f n S V n.toNat).2.2.1 (D.toNat + 1)) ≤ 40000
def zEk (f : Nat → Int32) (n : Int) (s : Nat → Int64) (i fr : Nat → Int32) (nw : Int) (s2 : Nat → Int64) (n2 : Int) (ro cs nxc fc lc bt : Nat → Int32) (ch ru ab tk : Int) (h l : Nat → Int32) (D : Int) (s' : Nat → Int64) (i' fr' : Nat → Int32) (nw' : Int) (ro3 cs3 nx3 fc3 lc3 bt3 : Nat → Int32) (ch3 ru3 ab3 tk3 : Int) (h3 l3 : Nat → Int32) (D3 : Int) (on ln mk wc on3 ln3 mk3 wc3 : Nat → Int32) (os os3 r : Int) : Prop := ∀ (S : Int → Bool) (T : Nat → Nat → Int) (V : List Int), zEh f n s i fr nw s2 n2 ro cs nxc fc lc bt ch ru ab tk h l D S T V → (zac f n S T V D ∧ r = D ∧ D3 = D + 1 ∧ zKl s' i' fr' nw' ro3 cs3 nx3 fc3 lc3 bt3 ch3 ru3 ab3 tk3 h3 l3 (D + 1) (zuf T D.toNat (zRq f n S V n.toNat).1) (zRq f n S V n.toNat).2.2.1 ∧ zUi on on3 D.toNat 1 ∧ zUi ln ln3 D.toNat (zRq f n S V n.toNat).2.2.2.1 ∧ mk3 = mk ∧ zUi wc wc3 D.toNat (zdc (zRq f n S V n.toNat).1 (zRq f n S V n.toNat).2.2.1) ∧ (0 ≤ os → os ≤ 1000 → os3 = os + 1)) ∨ (¬ zac f n S T V D ∧ r = -2 ∧ D3 = D ∧ zKl s' i' fr' nw' ro3 cs3 nx3 fc3 lc3 bt3 ch3 ru3 ab3 tk3 h3 l3 D T V ∧ on3 = on ∧ ln3 = ln ∧ mk3 = mk ∧ wc3 = wc ∧ os3 = os)
section ZEK
variable {f : Nat → Int32} {n nw n2 ch ru ab tk D nw' nw4 ch3 ru3 ab3 tk3 D3 os os3 r kept dist r2 b : Int} {s s2 s' s4 : Nat → Int64} {i fr ro cs nxc fc lc bt h l i' fr' i4 fr4 ro3 cs3 nx3 fc3 lc3 bt3 h3 l3 on ln mk wc on3 ln3 wc3 pl nx idl fi la tm : Nat → Int32}
theorem zEk_d (hD : 120 ≤ D) (hf : zFo s i fr nw s' i' fr' nw' b) (hb : b = nw) (hr : r = -2) : zEk f n s i fr nw s2 n2 ro cs nxc fc lc bt ch ru ab tk h l D s' i' fr' nw' ro cs nxc fc lc bt ch ru ab tk h l D on ln mk wc on ln mk wc os os r := fun S T V hh => by
  obtain ⟨a1, a2, a3, a4, a5⟩ := hh
  have v := a5.1
  have q := hf V v (by have := v.2.1; omega) (by omega)
  rw [List.take_of_length_le (by have := v.2.1; omega)] at q
  exact Or.inr ⟨fun c => by have := c.1; omega, hr, rfl, ⟨q, a5.2⟩, rfl, rfl, rfl, rfl, rfl⟩
theorem zEk_f (hz : zRz f n s i fr nw s2 n2 s' i' fr' nw' pl nx idl fi la tm kept dist r2) (hx : r2 = 0 ∨ ∃ rf : Int, rf = 0 ∧ zFf pl nx idl fi la tm kept dist ro cs nxc fc lc bt ch ru ab tk l D rf ∧ D < 120) (hf : zFo s' i' fr' nw' s4 i4 fr4 nw4 b) (hb : b = nw) (hr : r = -2) : zEk f n s i fr nw s2 n2 ro cs nxc fc lc bt ch ru ab tk h l D s4 i4 fr4 nw4 ro cs nxc fc lc bt ch ru ab tk h l D on ln mk wc on ln mk wc os os r := fun S T V hh => by
  obtain ⟨a1, a2, a3, a4, a5⟩ := hh
  have v := a5.1
  obtain ⟨z1, z2, z3, z4⟩ := hz S V ⟨a1, a3, a4, v, a5.2.1⟩
  obtain ⟨⟨N, e1⟩, e2, e3⟩ := zRq_V (f := f) (n := n) (S := S) (V := V) (T := T) (D := D.toNat) a5.2.2.2.2.2.2.2 n.toNat
  have q := hf _ z2 (by have := v.2.1; omega) (by have := v.2.1; have := z2.2.1; rw [e1, List.length_append] at this; omega)
  rw [e1, show b.toNat = V.length from by have := v.2.1; omega, List.take_left] at q
  refine Or.inr ⟨fun c => ?_, hr, rfl, ⟨q, a5.2⟩, rfl, rfl, rfl, rfl, rfl⟩
  rcases hx with hx | ⟨rf, h1, h2, h3⟩
  · rw [c.2.1, if_pos rfl] at z1; omega
  · obtain ⟨y1, y2, y3⟩ := z4 c.2.1
    have eB : zBv T (zRq f n S V n.toNat).2.2.1 D.toNat = zBv T V D.toNat := funext fun id => (e3 id).1
    have k := h2 T _ _ ⟨y1, by rw [eB]; exact a5.2.2.1, by rw [eB]; exact a5.2.2.2.1, fun id hid => by rw [(e3 id).2.2]; exact (a5.2.2.2.2.1 id hid).2, a5.2.2.2.2.2.1, by omega⟩
    rw [if_pos c.2.2] at k
    omega
theorem zEk_s {rf kp dp : Int} (hD : D < 120) (hz : zRz f n s i fr nw s2 n2 s' i' fr' nw' pl nx idl fi la tm kept dist r2) (hx : r2 ≠ 0) (hf : zFf pl nx idl fi la tm kept dist ro cs nxc fc lc bt ch ru ab tk l D rf) (hx2 : rf ≠ 0) (hw : zWf pl nx idl fi la tm kept dist ro cs nxc fc lc bt ch ru ab tk h l D ro3 cs3 nx3 fc3 lc3 bt3 ch3 ru3 ab3 tk3 h3 l3) (u1 : zUi on on3 D.toNat 1) (u2 : zUi ln ln3 D.toNat kp) (hkp : kp = kept) (u3 : zUi wc wc3 D.toNat dp) (hdp : dp = dist) (hD3 : D3 = D + 1) (hos : 0 ≤ os → os ≤ 1000 → os3 = os + 1) (hr : r = D) : zEk f n s i fr nw s2 n2 ro cs nxc fc lc bt ch ru ab tk h l D s' i' fr' nw' ro3 cs3 nx3 fc3 lc3 bt3 ch3 ru3 ab3 tk3 h3 l3 D3 on ln mk wc on3 ln3 mk wc3 os os3 r := fun S T V hh => by
  obtain ⟨a1, a2, a3, a4, a5⟩ := hh
  have v := a5.1
  obtain ⟨z1, z2, z3, z4⟩ := hz S V ⟨a1, a3, a4, v, a5.2.1⟩
  have ok : (zRq f n S V n.toNat).2.2.2.2 = true := by
    cases c : (zRq f n S V n.toNat).2.2.2.2
    · rw [c, if_neg (by decide)] at z1; exact absurd z1 hx
    · rfl
  obtain ⟨⟨N, e1⟩, e2, e3⟩ := zRq_V (f := f) (n := n) (S := S) (V := V) (T := T) (D := D.toNat) a5.2.2.2.2.2.2.2 n.toNat
  obtain ⟨y1, y2, y3⟩ := z4 ok
  have eB : zBv T (zRq f n S V n.toNat).2.2.1 D.toNat = zBv T V D.toNat := funext fun id => (e3 id).1
  have hF : zFh pl nx idl fi la tm kept dist ro cs nxc fc lc bt ch ru ab tk l D T (zRq f n S V n.toNat).2.2.1 (zRq f n S V n.toNat).1 := ⟨y1, by rw [eB]; exact a5.2.2.1, by rw [eB]; exact a5.2.2.2.1, fun id hid => by rw [(e3 id).2.2]; exact (a5.2.2.2.2.1 id hid).2, a5.2.2.2.2.2.1, by omega⟩
  have k := hf T _ _ hF
  have fit : zcs (zBv (zuf T D.toNat (zRq f n S V n.toNat).1) (zRq f n S V n.toNat).2.2.1 (D.toNat + 1)) ≤ 40000 := by
    by_cases c : zcs (zBv (zuf T D.toNat (zRq f n S V n.toNat).1) (zRq f n S V n.toNat).2.2.1 (D.toNat + 1)) ≤ 40000
    · exact c
    · rw [if_neg c] at k; exact absurd k hx2
  obtain ⟨w1, w2⟩ := hw T _ _ ⟨hF, fun id hid => by rw [(e3 id).2.1]; exact (a5.2.2.2.2.1 id hid).1, fit⟩
  have d0 := a5.2.2.2.2.2.1
  have eD : (D + 1).toNat = D.toNat + 1 := by omega
  have bb := zRq_b (f := f) (n := n) (S := S) (V := V) n.toNat
  refine Or.inl ⟨⟨hD, ok, fit⟩, hr, hD3, ⟨z2, z3, by rw [eD]; exact w1, by rw [eD]; exact fit, by rw [eD]; exact w2, by omega, by omega, ?_⟩, u1, zUi_e u2 (by omega), rfl, zUi_e u3 ?_, hos⟩
  · rw [eD]
    intro d hd
    by_cases c : d = D.toNat
    · rw [c, zuf_s]
      exact ⟨y2.2.2, fun k hk => y2.2.1 k (by omega)⟩
    · rw [zuf_n c]
      exact e2 d (by omega)
  · rw [hdp, zdc_e y1.2.2.2.2.1 (by have := z2.2.1; have := z2.2.2.1; omega)]
end ZEK
def zMv (g sz : Nat → Int32) (W : Int) (V : List Int) : Prop := zMs g sz W ∧ (V.length : Int) = W ∧ W ≤ 400 ∧ (∀ j : Nat, (j : Int) < W → V[j]? = some (zkw g sz j)) ∧ ∀ x ∈ V, x ≠ 0
def zRw (ta : Nat → Int32) (b : Nat) (t : Nat → Int) (V : List Int) : Prop := ∀ k : Nat, k < 1024 → ((ta (b + k)).toInt = 0 ∧ t k = 0) ∨ (∃ j : Nat, V[j]? = some (t k) ∧ (ta (b + k)).toInt = j + 1 ∧ t k ≠ 0)
def zMd (g sz : Nat → Int32) (W : Int) (ta ke : Nat → Int32) (D : Int) (T : Nat → Nat → Int) (V : List Int) : Prop := zMv g sz W V ∧ 0 ≤ D ∧ D ≤ 120 ∧ (∀ d : Nat, (d : Int) < D → zRw ta (1024 * d) (T d) V ∧ (∀ k : Nat, 1024 ≤ k → T d k = 0) ∧ ((ke d).toInt = 0 → ∀ k : Nat, T d k = 0)) ∧ ∀ j : Nat, 1024 * D ≤ (j : Int) → j < 122880 → (ta j).toInt = 0
section ZMV
variable {g sz g' sz' w : Nat → Int32} {W s r x : Int} {V : List Int}
theorem zMv_nd (h : zMv g sz W V) : V.Nodup := by
  unfold List.Nodup
  rw [List.pairwise_iff_getElem]
  intro j k hj hk hjk e
  have l := h.2.1
  have a := h.2.2.2.1 j (by omega)
  have b := h.2.2.2.1 k (by omega)
  rw [List.getElem?_eq_getElem hj] at a
  rw [List.getElem?_eq_getElem hk] at b
  exact h.1.2 j k hjk (by omega) (by rw [← Option.some.inj a, ← Option.some.inj b, e])
theorem zMv_m (h : zMv g sz W V) : x ∈ V ↔ zQ g sz W x := by
  have l := h.2.1
  constructor
  · intro hx
    obtain ⟨j, hj, e⟩ := List.getElem_of_mem hx
    have a := h.2.2.2.1 j (by omega)
    rw [List.getElem?_eq_getElem hj] at a
    exact ⟨j, by omega, by rw [← Option.some.inj a, e]⟩
  · rintro ⟨j, hj, e⟩
    rw [← e]
    exact List.mem_of_getElem? (h.2.2.2.1 j hj)
theorem zMv_f (h : zMv g sz W V) (hf : zFd g sz w s W r) (hv : ∀ k : Nat, (k : Int) < s → zVl (w k).toInt) (hs : s ≤ 12) (h0 : 0 ≤ s) (hx : x = zpk (fun k => (w k).toInt) s.toNat 12) : zIf V x r := by
  by_cases c : r = -1
  · refine Or.inl ⟨c, fun q => ?_⟩
    rw [zMv_m h, hx] at q
    exact zFd_o hf c h.1 hv hs h0 q
  · have q := zFd_x hf c
    refine Or.inr ⟨q.1, ?_⟩
    rw [h.2.2.2.1 r.toNat (by omega), q.2.2, hx]
theorem zMv_n {N S : Int32} {W' : Int} (h : zMv g sz W V) (hW : W < 400) (hx : x ∉ V) (hxe : x = zpk (fun k => (w k).toInt) s.toNat 12) (hx0 : x ≠ 0) (hv : ∀ k : Nat, (k : Int) < s → zVl (w k).toInt) (hs : s ≤ 12) (h0 : 0 ≤ s) (hc : zC g g' w (12 * W) s) (hz : sz' = upd sz N.toNatClampNeg S) (hN : N.toInt = W) (hS : S.toInt = s) (hW' : W' = W + 1) : zMv g' sz' W' (V ++ [x]) := by
  have l := h.2.1
  have ho : ¬ zQ g sz W x := fun q => hx ((zMv_m h).mpr q)
  have hs0 := h.1
  have qN : N.toNatClampNeg = W.toNat := by have q : N.toNatClampNeg = N.toInt.toNat := rfl; omega
  have es : ∀ j : Nat, (j : Int) < W → sz' j = sz j := fun j hj => by rw [hz, pk_un (by omega)]
  have eg : ∀ j : Nat, (j : Int) < W → ∀ k : Nat, k < 12 → g' (12 * j + k) = g (12 * j + k) := fun j hj k hk => hc.1 _ (by omega)
  have ek : ∀ j : Nat, (j : Int) < W → zkw g' sz' j = zkw g sz j := fun j hj => zkw_c (es j hj) (fun k hk => eg j hj k (by have q := (hs0.1 j hj).2.1; omega))
  have esn : (sz' W.toNat).toInt = s := by rw [hz, qN, pk_us]; exact hS
  have egn : ∀ k : Nat, (k : Int) < s → g' (12 * W.toNat + k) = w k := fun k hk => by
    have q := hc.2 k hk (hv k hk)
    rw [show (12 * W).toNat = 12 * W.toNat from by omega] at q
    exact q
  have en : zkw g' sz' W.toNat = x := by
    rw [hxe]
    unfold zkw
    rw [esn]
    refine zpk_c (fun k hk => ?_) 12
    show (g' (12 * W.toNat + k)).toInt = (w k).toInt
    rw [egn k (by omega)]
  subst hW'
  refine ⟨⟨fun j hj => ?_, fun a b hab hb => ?_⟩, by rw [List.length_append, List.length_singleton]; omega, by omega, fun j hj => ?_, fun y hy => ?_⟩
  · by_cases c : (j : Int) < W
    · have q := hs0.1 j c
      rw [es j c]
      exact ⟨q.1, q.2.1, fun k hk => by rw [eg j c k (by omega)]; exact q.2.2 k hk⟩
    · rw [show j = W.toNat from by omega, esn]
      exact ⟨by omega, hs, fun k hk => by rw [egn k hk]; exact hv k hk⟩
  · by_cases c : (b : Int) < W
    · rw [ek a (by omega), ek b c]; exact hs0.2 a b hab c
    · rw [show b = W.toNat from by omega, en, ek a (by omega)]
      exact fun q => ho ⟨a, by omega, q⟩
  · by_cases c : (j : Int) < W
    · rw [List.getElem?_append_left (by omega), ek j c]; exact h.2.2.2.1 j c
    · rw [show j = V.length from by omega, List.getElem?_append_right (Nat.le_refl _), Nat.sub_self, show V.length = W.toNat from by omega, en]; rfl
  · rcases List.mem_append.mp hy with c | c
    · exact h.2.2.2.2 y c
    · rw [List.mem_singleton] at c; rw [c]; exact hx0
end ZMV
theorem zTx {f w : Nat → Int32} {n p q s : Int} (h1 : zTok (f p.toNat).toInt) (hp : 0 ≤ p) (hpn : p < n) (hq : q ≤ n) (hpq : p ≤ q) (h2 : zAt f p q) (h3 : q < n → ¬ zTok (f q.toNat).toInt) (hw : zMw f p q w s) : zwd f n p = zpk (fun k => (w k).toInt) s.toNat 12 ∧ (∀ k : Nat, (k : Int) < s → zVl (w k).toInt) ∧ 1 ≤ s ∧ s ≤ 12 := by
  obtain ⟨m, a1, a2, a3, a4, a5⟩ := hw h2 hp hpq
  have hin : zIn f n p := ⟨hp, hpn, h1⟩
  have hr : zRaw f n p m := ⟨a2, fun k hk => ⟨by omega, by omega, h2 _ (by omega) (by omega)⟩, by
    rcases a3 with c | c
    · exact Or.inl c
    · right
      intro d
      rw [c] at d
      exact h3 d.2.1 d.2.2⟩
  have hv : ∀ k, k < m → zVl (zLt f p k) := fun k hk => zLt_v (hr.2.1 k hk) hp
  have e : zpk (fun k => (w k).toInt) s.toNat 12 = zWrd f p m := by
    unfold zWrd
    rw [show s.toNat = zshm (zLt f p) m from by omega]
    exact zpk_c (fun k hk => a5 k hk) 12
  have hm1 : 1 ≤ m := by
    rcases Nat.eq_zero_or_pos m with c | c
    · rcases hr.2.2 with d | d
      · omega
      · rw [c] at d; exact absurd (show zIn f n (p + ((0 : Nat) : Int)) by rw [Int.ofNat_zero, Int.add_zero]; exact hin) d
    · exact c
  refine ⟨by rw [e]; exact (zwd_e ⟨m, hr, rfl⟩).symm, fun k hk => ?_, ?_, ?_⟩
  · rw [a5 k (by omega)]; exact zsh_v hv k (by omega)
  · have q := zshm_pos (L := zLt f p) hm1; omega
  · have q := zshm_le (L := zLt f p) (m := m); omega
section ZBT
variable {ta ke : Nat → Int32} {T : Nat → Nat → Int} {x w : Int} {t : Nat → Int}
theorem zp_T {d : Int} : ∀ {k : Nat}, (∀ j : Nat, j < k → ((ta (1024 * d + j).toNat).toInt = w + 1 ↔ t j = x)) → zp ta d w k = ((zTm t x k : Int), ((zrL (zPn t x k)).length : Int), zLp t x k) := by
  intro k
  induction k with
  | zero => intro _; rfl
  | succ k ih =>
    intro h
    have i := ih (fun j hj => h j (by omega))
    have hk := h k (by omega)
    have lb := zLp_b (t := t) (w := x) (k := k)
    by_cases c : t k = x
    · rw [zp_y (hk.mpr c), i]
      have e1 : zTm t x (k + 1) = zTm t x k + 1 := if_pos c
      have e2 : zPn t x (k + 1) = zPn t x k ++ [((k : Int) - zLp t x k).toNat] := if_pos c
      have e3 : zLp t x (k + 1) = k := if_pos c
      have g := zga_g (n := ((k : Int) - zLp t x k).toNat) (by omega)
      rw [show ((((k : Int) - zLp t x k).toNat : Nat) : Int) = (k : Int) - zLp t x k from by omega] at g
      rw [e1, e2, e3, zrL_a, List.length_append, ← g]
      have e4 : zrL [((k : Int) - zLp t x k).toNat] = zGa ((k : Int) - zLp t x k).toNat := List.append_nil _
      rw [e4]
      exact Prod.ext (by dsimp only; omega) (Prod.ext (by dsimp only; omega) rfl)
    · rw [zp_n (fun q => c (hk.mp q)), i]
      have e1 : zTm t x (k + 1) = zTm t x k := if_neg c
      have e2 : zPn t x (k + 1) = zPn t x k := if_neg c
      have e3 : zLp t x (k + 1) = zLp t x k := if_neg c
      rw [e1, e2, e3]
theorem zB_T (hx : x ≠ 0) : ∀ {D : Nat}, (∀ d : Nat, d < D → (∀ j : Nat, j < 1024 → ((ta (1024 * (d : Int) + j).toNat).toInt = w + 1 ↔ T d j = x)) ∧ ((ke d).toInt = 0 → ∀ j : Nat, T d j = 0)) → zB ta ke w D = (((zPq T x D).length : Int), zLd T x D) := by
  intro D
  induction D with
  | zero => intro _; rfl
  | succ D ih =>
    intro h
    have i := ih (fun d hd => h d (by omega))
    obtain ⟨h1, h2⟩ := h D (by omega)
    have hp := zp_T (t := T D) (x := x) (d := (D : Int)) (k := 1024) (fun j hj => h1 j hj)
    have lb := zLd_b (T := T) (w := x) (d := D)
    have ec : zcnw ta ke w D = (zTm (T D) x 1024 : Int) := by
      by_cases c : (ke D).toInt = 0
      · rw [zcnw_0 c, (zPn_0 (t := T D) (w := x) (fun k e => hx (by rw [← e]; exact h2 c k))).2.2]; rfl
      · rw [zcnw_p c, hp]
    by_cases c : 0 < zTm (T D) x 1024
    · rw [zB_y (by rw [ec]; omega), i, ec, hp, zPs_y c, zLd_y c]
      have g1 := zga_g (n := ((D : Int) - zLd T x D).toNat) (by omega)
      rw [show ((((D : Int) - zLd T x D).toNat : Nat) : Int) = (D : Int) - zLd T x D from by omega] at g1
      have g2 := zga_g c
      refine Prod.ext ?_ rfl
      dsimp only
      rw [List.length_append, List.length_append, List.length_append, ← g1, ← g2]
      omega
    · rw [zB_n (by rw [ec]; omega), i, zPs_n c, zLd_n c]
theorem zRw_i {V : List Int} {b j k : Nat} {x : Int} (h : zRw ta b t V) (hn : V.Nodup) (hv : V[j]? = some x) (hx : x ≠ 0) (hk : k < 1024) : (ta (b + k)).toInt = (j : Int) + 1 ↔ t k = x := by
  rcases h k hk with ⟨a1, a2⟩ | ⟨q, a1, a2, a3⟩
  · rw [a1, a2]
    exact ⟨fun e => by omega, fun e => absurd e.symm hx⟩
  · rw [a2]
    have lj : j < V.length := by
      rcases Nat.lt_or_ge j V.length with c | c
      · exact c
      · rw [List.getElem?_eq_none c] at hv; exact absurd hv (by simp)
    have lq : q < V.length := by
      rcases Nat.lt_or_ge q V.length with c | c
      · exact c
      · rw [List.getElem?_eq_none c] at a1; exact absurd a1 (by simp)
    rw [List.getElem?_eq_getElem lj] at hv
    rw [List.getElem?_eq_getElem lq] at a1
    have e1 := Option.some.inj hv
    have e2 := Option.some.inj a1
    constructor
    · intro e
      have : q = j := by omega
      subst this
      rw [← e1, ← e2]
    · intro e
      have hp := List.pairwise_iff_getElem.mp hn
      rcases Nat.lt_trichotomy q j with c | c | c
      · exact absurd (by rw [e1, e2, e]) (hp q j lq lj c)
      · omega
      · exact absurd (by rw [e1, e2, e]) (hp j q lj lq c)
theorem zMd_B {g sz : Nat → Int32} {W D : Int} {V : List Int} (h : zMd g sz W ta ke D T V) {j : Nat} (hj : (j : Int) < W) : zB ta ke j D.toNat = (((zBv T V D.toNat j).length : Int), zLd T (zkw g sz j) D.toNat) := by
  obtain ⟨h1, h2, h3, h4, h5⟩ := h
  have hv := h1.2.2.2.1 j hj
  have hx := h1.2.2.2.2 _ (List.mem_of_getElem? hv)
  have eB : zBv T V D.toNat j = zPq T (zkw g sz j) D.toNat := by unfold zBv; rw [hv]; rfl
  rw [eB]
  refine zB_T hx (fun d hd => ?_)
  obtain ⟨q1, q2, q3⟩ := h4 d (by omega)
  refine ⟨fun k hk => ?_, q3⟩
  rw [show (1024 * (d : Int) + (k : Int)).toNat = 1024 * d + k from by omega]
  exact zRw_i q1 (zMv_nd h1) hv hx hk
end ZBT
def zCs (n sum left room : Int) : Prop := 0 ≤ n → ∃ j : Nat, sum = (zrm j : Int) + 16 * j ∧ left = n - zrm j ∧ room = zbc j ∧ (j = 0 ∨ (zrm (j - 1) : Int) < n)
theorem zCs_0 {n sum left room : Int} (h1 : sum = 0) (h2 : left = n) (h3 : room = 32) : zCs n sum left room := fun _ => ⟨0, by rw [h1]; rfl, by rw [h2]; exact (Int.sub_zero n).symm, by rw [h3]; rfl, Or.inl rfl⟩
theorem zCs_s {n sum left room sum' left' room' : Int} (h : zCs n sum left room) (hl : 0 < left) (h1 : sum' = sum + (room + 16)) (h2 : left' = left - room) (h3 : room' = min 256 (2 * room)) : zCs n sum' left' room' := fun h0 => by
  obtain ⟨j, a1, a2, a3, a4⟩ := h h0
  have s := zrm_s j
  have b : (zbc (j + 1) : Int) = min 256 (2 * (zbc j : Int)) := by unfold zbc; (repeat' split) <;> omega
  exact ⟨j + 1, by omega, by omega, by omega, Or.inr (by rw [Nat.add_sub_cancel]; omega)⟩
theorem zCs_e {n sum left room r : Int} (h : zCs n sum left room) (hl : left ≤ 0) (hr : r = sum) : 0 ≤ n → r = (zco n.toNat : Int) := fun h0 => by
  obtain ⟨j, a1, a2, a3, a4⟩ := h h0
  have e : j = znc n.toNat := by
    rcases Nat.lt_trichotomy j (znc n.toNat) with c | c | c
    · have q := znc_p (n := n.toNat) (by
        rcases Nat.eq_zero_or_pos n.toNat with d | d
        · rw [d, znc_0] at c; omega
        · exact d)
      have z := zck_b (n.toNat - 1)
      have := zrm_m (i := j) (j := zck (n.toNat - 1)) (by omega)
      have : n.toNat ≠ 0 := fun d => by rw [d, znc_0] at c; omega
      omega
    · exact c
    · rcases a4 with d | d
      · omega
      · have := zrm_m (i := znc n.toNat) (j := j - 1) (by omega)
        have := znc_b (n := n.toNat)
        omega
  unfold zco
  rw [hr, a1, e]
  omega
def zTz (su : Nat → Int32) (j s : Int) : Prop := (∀ w : Nat, (w : Int) < j → 0 ≤ (su w).toInt) → s = (zsu (fun w => zco (su w).toInt.toNat) j.toNat : Nat)
theorem zTz_0 {su : Nat → Int32} {j s : Int} (h : j = 0) (h2 : s = 0) : zTz su j s := fun _ => by subst h; rw [h2]; rfl
theorem zTz_s {su : Nat → Int32} {j s j' s' c : Int} {i z : Int32} (h : zTz su j s) (hi : i.toInt = j) (h0 : 0 ≤ j) (ez : z = su i.toNatClampNeg) (hc : 0 ≤ z.toInt → c = (zco z.toInt.toNat : Int)) (hs : s' = s + c) (e : j' = j + 1) : zTz su j' s' := fun hp => by
  have ei : i.toNatClampNeg = j.toNat := by have : i.toNatClampNeg = i.toInt.toNat := rfl; omega
  rw [ei] at ez
  have q := h (fun w hw => hp w (by omega))
  have q2 := hp j.toNat (by omega)
  rw [← ez] at q2
  rw [show j'.toNat = j.toNat + 1 from by omega]
  show s' = ((zsu (fun w => zco (su w).toInt.toNat) j.toNat + zco (su j.toNat).toInt.toNat : Nat) : Int)
  rw [← ez, hs, q, hc q2]
  omega
def zTn (g sz : Nat → Int32) (W : Int) (ta ke : Nat → Int32) (D r : Int) : Prop := ∀ (T : Nat → Nat → Int) (V : List Int), zMd g sz W ta ke D T V → r = (zcs (zBv T V D.toNat) : Int)
theorem zTn_e {g sz su ld ta ke : Nat → Int32} {W D j r : Int} (h : zM1 su ld ta ke W D) (ht : zTz su j r) (hj : W ≤ j) (hj2 : j ≤ W) : zTn g sz W ta ke D r := fun T V hh => by
  have l := hh.1.2.1
  have l4 := hh.1.2.2.1
  have e : ∀ w : Nat, (w : Int) < W → (su w).toInt = ((zBv T V D.toNat w).length : Int) := fun w hw => by rw [(h w hw).1, zMd_B hh hw]
  rw [ht (fun w hw => by rw [e w (by omega)]; omega)]
  have a : zsu (fun w => zco (su w).toInt.toNat) j.toNat = zsu (fun w => zco (zBv T V D.toNat w).length) j.toNat := zsu_c (fun w hw => by rw [e w (by omega), Int.toNat_natCast])
  have b := zsu_0 (F := fun w => zco (zBv T V D.toNat w).length) (m := j.toNat) (n := 400) (by omega) (fun q q1 _ => by rw [(zBv_n (T := T) (K := V) (d := D.toNat) (k := q) (by omega)).1]; rfl)
  rw [a, ← b]
  rfl
theorem zRq_run {f : Nat → Int32} {n : Int} {S : Int → Bool} {V : List Int} {a : Nat} : ∀ {b : Nat}, a ≤ b → (∀ j : Nat, a ≤ j → j < b → zIn f n ((j : Int) - 1) ∧ zIn f n j) → zRq f n S V b = zRq f n S V a := by
  intro b
  induction b with
  | zero => intro h _; rw [show a = 0 from by omega]
  | succ b ih =>
    intro h hz
    by_cases c : a = b + 1
    · rw [c]
    · have i := ih (by omega) (fun j h1 h2 => hz j h1 (by omega))
      obtain ⟨q1, q2⟩ := hz b (by omega) (by omega)
      show zRqs f n S b (zRq f n S V b) = _
      rw [← i]
      unfold zRqs
      by_cases d : (zRq f n S V b).2.2.2.2 = false
      · rw [if_pos d]
      · have ne : ¬ (f b).toInt = 10 := fun e => by
          have t := q2.2.2
          rw [Int.toNat_natCast, e] at t
          unfold zTok at t
          omega
        rw [if_neg d, if_neg (fun e => ne e.2), if_neg]
        rw [zsb_0 (Or.inr q1)]
        decide
section ZRW
variable {ta ta' : Nat → Int32} {b : Nat} {t : Nat → Int} {V : List Int} {x p : Int}
theorem zRw_x {N : List Int} (h : zRw ta b t V) : zRw ta b t (V ++ N) := fun k hk => (h k hk).imp id (fun ⟨j, a1, a2, a3⟩ => ⟨j, by
  rw [List.getElem?_append_left]
  · exact a1
  · rcases Nat.lt_or_ge j V.length with c | c
    · exact c
    · rw [List.getElem?_eq_none c] at a1; exact absurd a1 (by simp), a2, a3⟩)
theorem zRw_u {I y : Int32} {j : Nat} (h : zRw ta b t V) (e : ta' = upd ta I.toNatClampNeg y) (h0 : 0 ≤ p) (hI : I.toInt = (b : Int) + p) (hy : y.toInt = (j : Int) + 1) (hv : V[j]? = some x) (hx : x ≠ 0) : zRw ta' b (zuf t p.toNat x) V := fun k hk => by
  have ei : I.toNatClampNeg = b + p.toNat := by have : I.toNatClampNeg = I.toInt.toNat := rfl; omega
  rw [e, ei]
  by_cases c : k = p.toNat
  · rw [c, pk_us, zuf_s]
    exact Or.inr ⟨j, hv, hy, hx⟩
  · rw [pk_un (by omega), zuf_n c]
    exact h k hk
theorem zRw_c (h : zRw ta b t V) (e : ∀ j : Nat, j < b + 1024 → b ≤ j → ta' j = ta j) : zRw ta' b t V := fun k hk => by rw [e (b + k) (by omega) (by omega)]; exact h k hk
end ZRW
theorem zRq_n {f : Nat → Int32} {n : Int} {S : Int → Bool} {V : List Int} (k : Nat) : (zRq f n S V k).2.1 < 512 → (2 * (zRq f n S V k).2.1 ≤ k + 1 ∧ (zinb f n ((k : Int) - 1) = false → 2 * (zRq f n S V k).2.1 ≤ k)) := by
  induction k with
  | zero => intro _; exact ⟨by show (2 * (0 : Int)) ≤ ((0 : Nat) : Int) + 1; omega, fun _ => by show (2 * (0 : Int)) ≤ ((0 : Nat) : Int); omega⟩
  | succ k ih =>
    have e : zRq f n S V (k + 1) = zRqs f n S k (zRq f n S V k) := rfl
    rw [e, show (((k + 1 : Nat) : Int)) - 1 = (k : Int) from by omega]
    unfold zRqs
    by_cases c1 : (zRq f n S V k).2.2.2.2 = false
    · rw [if_pos c1]
      intro h
      have := ih h
      exact ⟨by omega, fun _ => by omega⟩
    · rw [if_neg c1]
      by_cases c2 : (zRq f n S V k).2.1 < 512 ∧ (f k).toInt = 10
      · rw [if_pos c2]
        intro h
        exact absurd (show (512 : Int) < 512 from h) (by decide)
      · rw [if_neg c2]
        by_cases c3 : zsb f n k = true
        · rw [if_pos c3]
          have c3' := c3
          unfold zsb at c3'
          rw [Bool.and_eq_true, Bool.not_eq_true'] at c3'
          by_cases c4 : zkO S (zRq f n S V k).2.2.1 (zwd f n k) = true
          · rw [if_pos c4]
            intro h
            have h : (zRq f n S V k).2.1 + 1 < 512 := h
            have i := ih (by omega)
            have j := i.2 c3'.2
            refine ⟨?_, fun q => ?_⟩
            · show 2 * ((zRq f n S V k).2.1 + 1) ≤ _; omega
            · rw [c3'.1] at q; exact absurd q (by decide)
          · rw [if_neg c4]
            intro h
            have i := ih h
            exact ⟨by show 2 * (zRq f n S V k).2.1 ≤ _; omega, fun _ => by show 2 * (zRq f n S V k).2.1 ≤ _; omega⟩
        · rw [if_neg c3]
          intro h
          have i := ih h
          exact ⟨by omega, fun _ => by omega⟩
def zNh (f : Nat → Int32) (n : Int) (g sz : Nat → Int32) (W : Int) (ta ke : Nat → Int32) (D : Int) (sg ssz : Nat → Int32) (sn : Int) (S : Int → Bool) (T : Nat → Nat → Int) (V : List Int) : Prop := zTy f n ∧ n ≤ 600 ∧ 0 ≤ n ∧ zMs sg ssz sn ∧ (∀ x, S x = true ↔ zQ sg ssz sn x) ∧ zMd g sz W ta ke D T V ∧ D < 120
def zNc (f : Nat → Int32) (n : Int) (S : Int → Bool) (V : List Int) (D : Int) (g3 sz3 : Nat → Int32) (W3 : Int) (ta3 : Nat → Int32) (k place isB kept ti : Int) : Prop := (zRq f n S V k.toNat).2.2.2.2 = true ∧ (zRq f n S V k.toNat).2.1 = place ∧ ((isB = 0 ∧ place < 512) ∨ (isB = 1 ∧ 512 ≤ place)) ∧ kept = ((zRq f n S V k.toNat).2.2.2.1 : Int) ∧ zMv g3 sz3 W3 (zRq f n S V k.toNat).2.2.1 ∧ zRw ta3 (1024 * D.toNat) (zRq f n S V k.toNat).1 (zRq f n S V k.toNat).2.2.1 ∧ zTt (zRq f n S V k.toNat).1 place (zRq f n S V k.toNat).2.2.1 ∧ (zinb f n (k - 1) = true → zinb f n k = false) ∧ (isB = 1 → 0 ≤ ti ∧ ∀ q : Nat, ti ≤ (q : Int) → q < 512 → (zRq f n S V k.toNat).1 q = 0)
def zNe (f : Nat → Int32) (n : Int) (g sz : Nat → Int32) (W : Int) (ta ke : Nat → Int32) (D : Int) (sg ssz : Nat → Int32) (sn : Int) (g3 sz3 : Nat → Int32) (W3 : Int) (ta3 : Nat → Int32) (k place isB crowd kept ti : Int) : Prop := ∀ (S : Int → Bool) (T : Nat → Nat → Int) (V : List Int), zNh f n g sz W ta ke D sg ssz sn S T V → 0 ≤ k ∧ k ≤ n ∧ (∀ j : Nat, (j : Int) < 1024 * D → ta3 j = ta j) ∧ (∀ j : Nat, 1024 * (D + 1) ≤ (j : Int) → ta3 j = ta j) ∧ (crowd = 0 → zNc f n S V D g3 sz3 W3 ta3 k place isB kept ti) ∧ (crowd ≠ 0 → (zRq f n S V n.toNat).2.2.2.2 = false ∧ ∃ N, zMv g3 sz3 W3 (V ++ N))
section ZNE
variable {f g sz ta ke sg ssz g3 sz3 ta3 g4 sz4 ta4 w : Nat → Int32} {n W D sn W3 W4 k place isB crowd kept ti k' place' isB' crowd' kept' ti' s r rs : Int} {T : Nat → Nat → Int} {V : List Int} {S : Int → Bool}
theorem zMd_t (h : zMd g sz W ta ke D T V) : zTv T V D.toNat := fun d hd => by
  obtain ⟨h1, h2, h3, h4, h5⟩ := h
  obtain ⟨q1, q2, q3⟩ := h4 d (by omega)
  refine ⟨fun k => ?_, q2⟩
  rcases Nat.lt_or_ge k 1024 with c | c
  · rcases q1 k c with a | ⟨j, a1, a2, a3⟩
    · exact Or.inl a.2
    · exact Or.inr (List.mem_of_getElem? a1)
  · exact Or.inl (q2 k c)
theorem zNe_0 (hk : k = 0) (hp : place = 0) (hb : isB = 0) (hc : crowd = 0) (hq : kept = 0) : zNe f n g sz W ta ke D sg ssz sn g sz W ta k place isB crowd kept ti := fun S T V hh => by
  obtain ⟨a1, a2, a3, a4, a5, a6, a7⟩ := hh
  subst hk; subst hp
  refine ⟨Int.le_refl _, a3, fun _ _ => rfl, fun _ _ => rfl, fun _ => ?_, fun c => absurd hc c⟩
  have d0 := a6.2.1
  refine ⟨rfl, rfl, Or.inl ⟨hb, by decide⟩, by rw [hq]; rfl, a6.1, fun q hq => Or.inl ⟨a6.2.2.2.2 _ (by omega) (by omega), rfl⟩, ⟨Int.le_refl _, fun _ _ => rfl, fun _ => Or.inl rfl⟩, fun c => ?_, fun c => by omega⟩
  exfalso
  rw [zinb_i] at c
  have := c.1
  omega
theorem zNe_l (h : zNe f n g sz W ta ke D sg ssz sn g3 sz3 W3 ta3 k place isB crowd kept ti) (hk : k < n) (hc : crowd = 0) (hb : isB = 0) (hf : (f k.toNat).toInt = 10) (hk' : k' = k + 1) (hp' : place' = 512) (hb' : isB' = 1) (ht : ti' = place) : zNe f n g sz W ta ke D sg ssz sn g3 sz3 W3 ta3 k' place' isB' crowd kept ti' := fun S T V hh => by
  obtain ⟨b1, b2, b3, b4, b5, b6⟩ := h S T V hh
  obtain ⟨c1, c2, c3, c4, c5, c6, c7, c8, c9⟩ := b5 hc
  have e : zRq f n S V k'.toNat = ((zRq f n S V k.toNat).1, 512, (zRq f n S V k.toNat).2.2.1, (zRq f n S V k.toNat).2.2.2.1, true) := by
    rw [show k'.toNat = k.toNat + 1 from by omega]
    show zRqs f n S k.toNat (zRq f n S V k.toNat) = _
    unfold zRqs
    rw [if_neg (by rw [c1]; decide), if_pos ⟨by rw [c2]; omega, hf⟩]
  refine ⟨by omega, by omega, b3, b4, fun _ => ?_, fun q => absurd hc q⟩
  unfold zNc
  rw [e]
  refine ⟨rfl, hp'.symm, Or.inr ⟨hb', by omega⟩, c4, c5, c6, zTt_m c7 (by omega), fun q => ?_, fun _ => ⟨by have := c7.1; omega, fun q h1 h2 => c7.2.1 q (by omega)⟩⟩
  exfalso
  rw [zinb_i, show k' - 1 = k from by omega] at q
  have t := q.2.2
  rw [hf] at t
  unfold zTok at t
  omega
theorem zNe_o (h : zNe f n g sz W ta ke D sg ssz sn g3 sz3 W3 ta3 k place isB crowd kept ti) (hk : k < n) (hc : crowd = 0) (ht : ¬ zTok (f k.toNat).toInt) (hf : isB ≠ 0 ∨ (f k.toNat).toInt ≠ 10) (hk' : k' = k + 1) : zNe f n g sz W ta ke D sg ssz sn g3 sz3 W3 ta3 k' place isB crowd kept ti := fun S T V hh => by
  obtain ⟨b1, b2, b3, b4, b5, b6⟩ := h S T V hh
  obtain ⟨c1, c2, c3, c4, c5, c6, c7, c8, c9⟩ := b5 hc
  have ni : ¬ zIn f n k := fun q => ht q.2.2
  have e : zRq f n S V k'.toNat = zRq f n S V k.toNat := zRe_e c1 c2 (fun q => by rcases hf with d | d; · omega
                                                                                  · exact d q.2) b1 hk' (zsb_0 (Or.inl ni))
  refine ⟨by omega, by omega, b3, b4, fun _ => ?_, fun q => absurd hc q⟩
  unfold zNc
  rw [e]
  refine ⟨c1, c2, c3, c4, c5, c6, c7, fun q => ?_, c9⟩
  exfalso
  rw [zinb_i, show k' - 1 = k from by omega] at q
  exact ni q
theorem zNe_t {q : Int} (c1 : (zRq f n S V k.toNat).2.2.2.2 = true) (c2 : (zRq f n S V k.toNat).2.1 = place) (c8 : zinb f n (k - 1) = true → zinb f n k = false) (h0 : 0 ≤ k) (hk : k < n) (ht : zTok (f k.toNat).toInt) (ha : zAt f k q) (hkq : k < q) (hq : q ≤ n) : zRq f n S V q.toNat = if zkO S (zRq f n S V k.toNat).2.2.1 (zwd f n k) = true then (zkT S (zRq f n S V k.toNat).1 place (zwd f n k), place + 1, zkV S (zRq f n S V k.toNat).2.2.1 (zwd f n k), (zRq f n S V k.toNat).2.2.2.1 + zkC S (zwd f n k), true) else ((zRq f n S V k.toNat).1, (zRq f n S V k.toNat).2.1, (zRq f n S V k.toNat).2.2.1, (zRq f n S V k.toNat).2.2.2.1, false) := by
  have hin : zIn f n k := ⟨h0, hk, ht⟩
  have hz : zinb f n (k - 1) = false := by
    cases c : zinb f n (k - 1)
    · rfl
    · have := c8 c
      rw [zinb_n] at this
      exact absurd hin this
  have hs : zsb f n k = true := by unfold zsb; rw [zinb_i.mpr hin, hz]; rfl
  rw [zRq_run (a := k.toNat + 1) (b := q.toNat) (by omega) (fun j h1 h2 => ⟨⟨by omega, by omega, ha _ (by omega) (by omega)⟩, ⟨by omega, by omega, ha _ (by omega) (by omega)⟩⟩)]
  have e := zRe_q (f := f) (n := n) (S := S) (V := V) (at_ := k) (at' := k + 1) (place := place) c1 c2 (fun d => by
    have d2 := d.2
    rw [d2] at ht
    unfold zTok at ht
    omega) h0 rfl hs rfl
  rw [show (k + 1).toNat = k.toNat + 1 from by omega] at e
  exact e
theorem zNe_s {q : Int} (h : zNe f n g sz W ta ke D sg ssz sn g3 sz3 W3 ta3 k place isB crowd kept ti) (hk : k < n) (hc : crowd = 0) (ht : zTok (f k.toNat).toInt) (ha : zAt f k q) (hkq : k < q) (hq : q ≤ n) (hq2 : q < n → ¬ zTok (f q.toNat).toInt) (hw : zMw f k q w s) (hs : zFd sg ssz w s sn rs) (hr : rs ≠ -1) (hk' : k' = q) (hp' : place' = place + 1) (hpb : place' < 1024 ∨ True) : zNe f n g sz W ta ke D sg ssz sn g3 sz3 W3 ta3 k' place' isB crowd kept ti := fun S T V hh => by
  obtain ⟨b1, b2, b3, b4, b5, b6⟩ := h S T V hh
  obtain ⟨c1, c2, c3, c4, c5, c6, c7, c8, c9⟩ := b5 hc
  obtain ⟨x1, x2, x3, x4⟩ := zTx ht b1 hk hq (by omega) ha hq2 hw
  have hS : S (zwd f n k) = true := by
    rw [hh.2.2.2.2.1]
    have := zFd_x hs hr
    exact ⟨rs.toNat, by omega, by rw [this.2.2, x1]⟩
  have e := zNe_t (S := S) (V := V) c1 c2 c8 b1 hk ht ha hkq hq
  have e1 : zkV S (zRq f n S V k.toNat).2.2.1 (zwd f n k) = (zRq f n S V k.toNat).2.2.1 := if_pos hS
  have e2 : zkT S (zRq f n S V k.toNat).1 place (zwd f n k) = (zRq f n S V k.toNat).1 := if_pos hS
  have e3 : zkC S (zwd f n k) = 0 := if_pos hS
  have e4 : zkO S (zRq f n S V k.toNat).2.2.1 (zwd f n k) = true := by unfold zkO; rw [hS]; rfl
  rw [if_pos e4, e1, e2, e3] at e
  subst hk'
  have rb := zRq_b (f := f) (n := n) (S := S) (V := V) k.toNat
  refine ⟨by omega, hq, b3, b4, fun _ => ?_, fun q => absurd hc q⟩
  unfold zNc
  rw [e]
  refine ⟨rfl, hp'.symm, ?_, c4, c5, c6, zTt_m c7 (by omega), fun d => ?_, c9⟩
  · rcases c3 with d | d
    · have b9 := zRq_n (f := f) (n := n) (S := S) (V := V) k.toNat (by rw [c2]; exact d.2)
      rw [c2] at b9
      exact Or.inl ⟨d.1, by have := hh.2.1; omega⟩
    · exact Or.inr ⟨d.1, by omega⟩
  · rw [zinb_n]
    exact fun z => hq2 z.2.1 z.2.2
theorem zNe_w {q : Int} {I y : Int32} {j : Nat} (h : zNe f n g sz W ta ke D sg ssz sn g3 sz3 W3 ta3 k place isB crowd kept ti) (hk : k < n) (hc : crowd = 0) (ht : zTok (f k.toNat).toInt) (ha : zAt f k q) (hkq : k < q) (hq : q ≤ n) (hq2 : q < n → ¬ zTok (f q.toNat).toInt) (hw : zMw f k q w s) (hs : zFd sg ssz w s sn rs) (hr : rs = -1) (hf : zFd g3 sz3 w s W3 r)
    (hn : (r ≠ -1 ∧ (j : Int) = r ∧ g4 = g3 ∧ sz4 = sz3 ∧ W4 = W3) ∨ (r = -1 ∧ W3 ≠ 400 ∧ (j : Int) = W3 ∧ W4 = W3 + 1 ∧ zC g3 g4 w (12 * W3) s ∧ ∃ N S' : Int32, sz4 = upd sz3 N.toNatClampNeg S' ∧ N.toInt = W3 ∧ S'.toInt = s))
    (et : ta4 = upd ta3 I.toNatClampNeg y) (hI : I.toInt = 1024 * D + place) (hy : y.toInt = (j : Int) + 1) (hk' : k' = q) (hp' : place' = place + 1) (hkp : kept' = kept + 1) : zNe f n g sz W ta ke D sg ssz sn g4 sz4 W4 ta4 k' place' isB crowd kept' ti := fun S T V hh => by
  obtain ⟨b1, b2, b3, b4, b5, b6⟩ := h S T V hh
  obtain ⟨c1, c2, c3, c4, c5, c6, c7, c8, c9⟩ := b5 hc
  obtain ⟨x1, x2, x3, x4⟩ := zTx ht b1 hk hq (by omega) ha hq2 hw
  have hS : S (zwd f n k) = false := by
    cases c : S (zwd f n k)
    · rfl
    · have := (hh.2.2.2.2.1 _).mp c
      rw [x1] at this
      exact absurd this (zFd_o hs hr hh.2.2.2.1 x2 x4 (by omega))
  have d0 := hh.2.2.2.2.2.1.2.1
  have x0 : zwd f n k ≠ 0 := by have := zwd_p (f := f) (n := n) (p := k) ⟨b1, hk, ht⟩; omega
  have hI' := zMv_f c5 hf x2 x4 (by omega) x1
  have e := zNe_t (S := S) (V := V) c1 c2 c8 b1 hk ht ha hkq hq
  have e2 : zkT S (zRq f n S V k.toNat).1 place (zwd f n k) = zuf (zRq f n S V k.toNat).1 place.toNat (zwd f n k) := by unfold zkT; rw [hS, if_neg (by decide)]
  have e3 : zkC S (zwd f n k) = 1 := by unfold zkC; rw [hS, if_neg (by decide)]
  have rb := zRq_b (f := f) (n := n) (S := S) (V := V) k.toNat
  have pl0 := c7.1
  have key : zkO S (zRq f n S V k.toNat).2.2.1 (zwd f n k) = true ∧ zMv g4 sz4 W4 (zkV S (zRq f n S V k.toNat).2.2.1 (zwd f n k)) ∧ (zkV S (zRq f n S V k.toNat).2.2.1 (zwd f n k))[j]? = some (zwd f n k) ∧ ∃ N, zkV S (zRq f n S V k.toNat).2.2.1 (zwd f n k) = (zRq f n S V k.toNat).2.2.1 ++ N := by
    rcases hn with ⟨n1, n2, n3, n4, n5⟩ | ⟨n1, n2, n3, n4, n5, N, S', n6, n7, n8⟩
    · rcases hI' with ⟨i1, -⟩ | ⟨i1, i2⟩
      · exact absurd i1 n1
      · have hm := List.mem_of_getElem? i2
        have e1 : zkV S (zRq f n S V k.toNat).2.2.1 (zwd f n k) = (zRq f n S V k.toNat).2.2.1 := by unfold zkV; rw [hS, if_neg (by decide), if_pos hm]
        have e4 : zkO S (zRq f n S V k.toNat).2.2.1 (zwd f n k) = true := by unfold zkO; rw [hS, decide_eq_true hm]; rfl
        rw [e1, n3, n4, n5, show j = r.toNat from by omega]
        exact ⟨e4, c5, i2, [], (List.append_nil _).symm⟩
    · rcases hI' with ⟨-, i2⟩ | ⟨i1, -⟩
      · have l := c5.2.1
        have l4 := c5.2.2.1
        have e1 : zkV S (zRq f n S V k.toNat).2.2.1 (zwd f n k) = (zRq f n S V k.toNat).2.2.1 ++ [zwd f n k] := by unfold zkV; rw [hS, if_neg (by decide), if_neg i2, if_pos (by omega)]
        have e4 : zkO S (zRq f n S V k.toNat).2.2.1 (zwd f n k) = true := by unfold zkO; rw [hS, decide_eq_true (show (zRq f n S V k.toNat).2.2.1.length < 400 from by omega), Bool.or_true]
        rw [e1]
        refine ⟨e4, zMv_n c5 (by omega) i2 x1 x0 x2 x4 (by omega) n5 n6 n7 n8 n4, ?_, _, rfl⟩
        rw [show j = (zRq f n S V k.toNat).2.2.1.length from by omega, List.getElem?_append_right (Nat.le_refl _), Nat.sub_self]
        rfl
      · omega
  obtain ⟨k1, k2, k3, N, k4⟩ := key
  have hmem : zwd f n k ∈ zkV S (zRq f n S V k.toNat).2.2.1 (zwd f n k) := List.mem_of_getElem? k3
  rw [if_pos k1, e2, e3] at e
  subst hk'
  have pb : place < 1024 := by have := hh.2.1; omega
  have ei : I.toNatClampNeg = I.toInt.toNat := rfl
  refine ⟨by omega, hq, fun q hq => ?_, fun q hq => ?_, fun _ => ?_, fun q => absurd hc q⟩
  · rw [et, pk_un (by omega)]; exact b3 q hq
  · rw [et, pk_un (by omega)]; exact b4 q hq
  · unfold zNc
    rw [e]
    refine ⟨rfl, hp'.symm, ?_, by rw [hkp, c4]; exact (Int.natCast_add _ 1).symm, k2, ?_, ?_, fun d => ?_, fun d => ?_⟩
    · rcases c3 with d | d
      · have b9 := zRq_n (f := f) (n := n) (S := S) (V := V) k.toNat (by rw [c2]; exact d.2)
        rw [c2] at b9
        exact Or.inl ⟨d.1, by have := hh.2.1; omega⟩
      · exact Or.inr ⟨d.1, by omega⟩
    · refine zRw_u (j := j) ?_ et pl0 (by omega) hy k3 x0
      rw [k4]
      exact zRw_x c6
    · refine zTt_a (V := zkV S (zRq f n S V k.toNat).2.2.1 (zwd f n k)) ⟨pl0, c7.2.1, fun q => (c7.2.2 q).imp id (fun z => by rw [k4]; exact List.mem_append_left _ z)⟩ hmem hp'
    · rw [zinb_n]
      exact fun z => hq2 z.2.1 z.2.2
    · have d1 := c9 d
      refine ⟨d1.1, fun q h1 h2 => ?_⟩
      show zuf _ _ _ q = 0
      rw [zuf_n (by omega)]
      exact d1.2 q h1 h2
theorem zNe_c {q : Int} (h : zNe f n g sz W ta ke D sg ssz sn g3 sz3 W3 ta3 k place isB crowd kept ti) (hk : k < n) (hc : crowd = 0) (ht : zTok (f k.toNat).toInt) (ha : zAt f k q) (hkq : k < q) (hq : q ≤ n) (hq2 : q < n → ¬ zTok (f q.toNat).toInt) (hw : zMw f k q w s) (hs : zFd sg ssz w s sn rs) (hr : rs = -1) (hf : zFd g3 sz3 w s W3 r) (hr2 : r = -1) (hW : W3 = 400) (hk' : k' = q) (hc' : crowd' = 1) : zNe f n g sz W ta ke D sg ssz sn g3 sz3 W3 ta3 k' place' isB' crowd' kept' ti' := fun S T V hh => by
  obtain ⟨b1, b2, b3, b4, b5, b6⟩ := h S T V hh
  obtain ⟨c1, c2, c3, c4, c5, c6, c7, c8, c9⟩ := b5 hc
  obtain ⟨x1, x2, x3, x4⟩ := zTx ht b1 hk hq (by omega) ha hq2 hw
  have hS : S (zwd f n k) = false := by
    cases c : S (zwd f n k)
    · rfl
    · have := (hh.2.2.2.2.1 _).mp c
      rw [x1] at this
      exact absurd this (zFd_o hs hr hh.2.2.2.1 x2 x4 (by omega))
  have e := zNe_t (S := S) (V := V) c1 c2 c8 b1 hk ht ha hkq hq
  have l := c5.2.1
  rcases zMv_f c5 hf x2 x4 (by omega) x1 with ⟨-, i2⟩ | ⟨i1, -⟩
  · have e4 : zkO S (zRq f n S V k.toNat).2.2.1 (zwd f n k) = false := by unfold zkO; rw [hS, decide_eq_false i2, decide_eq_false (show ¬ (zRq f n S V k.toNat).2.2.1.length < 400 from by omega)]; rfl
    rw [if_neg (by rw [e4]; decide)] at e
    obtain ⟨⟨N, v1⟩, -, -⟩ := zRq_V (f := f) (n := n) (S := S) (V := V) (T := T) (D := D.toNat) (zMd_t hh.2.2.2.2.2.1) k.toNat
    refine ⟨by omega, by omega, b3, b4, fun q => by omega, fun _ => ⟨?_, N, by rw [← v1]; exact c5⟩⟩
    rw [zRq_f (k := q.toNat) (m := n.toNat) (by rw [e]) (by omega), e]
  · omega
end ZNE
section ZMR
variable {g sz ta ke g3 sz3 ta3 ke3 ta4 f sg ssz : Nat → Int32} {W D W3 n sn k place isB crowd kept ti : Int} {T : Nat → Nat → Int} {V N : List Int} {S : Int → Bool}
theorem zMv_r (h : zMv g sz W3 (V ++ N)) (hl : (V.length : Int) = W) : zMv g sz W V := by
  obtain ⟨h1, h2, h3, h4, h5⟩ := h
  rw [List.length_append] at h2
  refine ⟨⟨fun j hj => h1.1 j (by omega), fun a b hab hb => h1.2 a b hab (by omega)⟩, hl, by omega, fun j hj => ?_, fun x hx => h5 x (List.mem_append_left _ hx)⟩
  have := h4 j (by omega)
  rw [List.getElem?_append_left (by omega)] at this
  exact this
theorem zMd_n (h : zMd g sz W ta ke D T V) (hD : D < 120) (t1 : ∀ j : Nat, (j : Int) < 1024 * D → ta3 j = ta j) (t2 : ∀ j : Nat, 1024 * (D + 1) ≤ (j : Int) → ta3 j = ta j) {V3 : List Int} {t : Nat → Int} (hV : zMv g3 sz3 W3 V3) (hN : V3 = V ++ N) (hr : zRw ta3 (1024 * D.toNat) t V3) (ht : zTt t place V3) (hp : place ≤ 1024) (k1 : ∀ j : Nat, (j : Int) < D → (ke3 j) = ke j) (k2 : (ke3 D.toNat).toInt ≠ 0) : zMd g3 sz3 W3 ta3 ke3 (D + 1) (zuf T D.toNat t) V3 := by
  obtain ⟨h1, h2, h3, h4, h5⟩ := h
  refine ⟨hV, by omega, by omega, fun d hd => ?_, fun j q1 q2 => by rw [t2 j q1]; exact h5 j (by omega) q2⟩
  by_cases c : d = D.toNat
  · rw [c, zuf_s]
    exact ⟨hr, fun q hq => ht.2.1 q (by omega), fun q => absurd q k2⟩
  · rw [zuf_n c]
    obtain ⟨q1, q2, q3⟩ := h4 d (by omega)
    refine ⟨?_, q2, fun z => q3 (by rw [← k1 d (by omega)]; exact z)⟩
    rw [hN]
    exact zRw_x (zRw_c q1 (fun j j1 j2 => t1 j (by omega)))
theorem zMd_z (h : zMd g sz W ta ke D T V) (hD : D < 120) (t1 : ∀ j : Nat, (j : Int) < 1024 * D → ta4 j = ta j) (t2 : ∀ j : Nat, 1024 * D ≤ (j : Int) → j < 122880 → (ta4 j).toInt = 0) (hV : zMv g3 sz3 W3 (V ++ N)) (k1 : ∀ j : Nat, (j : Int) < D → (ke3 j) = ke j) : zMd g3 sz3 W ta4 ke3 D T V := by
  obtain ⟨h1, h2, h3, h4, h5⟩ := h
  refine ⟨zMv_r hV h1.2.1, h2, h3, fun d hd => ?_, t2⟩
  obtain ⟨q1, q2, q3⟩ := h4 d (by omega)
  exact ⟨zRw_c q1 (fun j j1 j2 => t1 j (by omega)), q2, fun z => q3 (by rw [← k1 d hd]; exact z)⟩
end ZMR
def zUn (of : Nat → Int32) (j s : Int) : Prop := s = (zsu (fun w => if 0 < (of w).toInt then 1 else 0) j.toNat : Nat)
theorem zUn_0 {of : Nat → Int32} {j s : Int} (h : j = 0) (h2 : s = 0) : zUn of j s := by unfold zUn; subst h; rw [h2]; rfl
theorem zUn_s {of : Nat → Int32} {j s j' s' : Int} {i z : Int32} (h : zUn of j s) (hi : i.toInt = j) (h0 : 0 ≤ j) (ez : z = of i.toNatClampNeg) (hs : (0 < z.toInt ∧ s' = s + 1) ∨ (z.toInt ≤ 0 ∧ s' = s)) (e : j' = j + 1) : zUn of j' s' := by
  have ei : i.toNatClampNeg = j.toNat := by have : i.toNatClampNeg = i.toInt.toNat := rfl; omega
  rw [ei] at ez
  unfold zUn at h ⊢
  rw [show j'.toNat = j.toNat + 1 from by omega]
  show s' = ((zsu (fun w => if 0 < (of w).toInt then 1 else 0) j.toNat + (if 0 < (of j.toNat).toInt then 1 else 0) : Nat) : Int)
  rw [← ez]
  rcases hs with ⟨a, b⟩ | ⟨a, b⟩
  · rw [if_pos a]; omega
  · rw [if_neg (by omega)]; omega
def zUf (ta ti bo : Nat → Int32) (W d r : Int) : Prop := ∀ P : Nat → Prop, ∀ F : Nat → Nat, (∀ w : Nat, (w : Int) < W → (zHw ta ti bo d w ↔ P w)) → (∀ w : Nat, (w : Int) < W → (P w → F w = 1) ∧ (¬ P w → F w = 0)) → r = (zsu F W.toNat : Nat)
theorem zUf_e {of ta ti bo : Nat → Int32} {W d j s r : Int} (h : zTc of ta ti bo W d) (hu : zUn of j s) (hj : W ≤ j) (hj2 : j ≤ W) (hr : r = s) : zUf ta ti bo W d r := fun P F h1 h2 => by
  unfold zUn at hu
  rw [hr, hu, show j.toNat = W.toNat from by omega]
  have e : zsu (fun w => if 0 < (of w).toInt then 1 else 0) W.toNat = zsu F W.toNat := zsu_c (fun w hw => by
    have a := h w (by omega)
    have b := h1 w (by omega)
    have c := h2 w (by omega)
    by_cases q : 0 < (of w).toInt
    · rw [if_pos q, c.1 (b.mp (a.mp q))]
    · rw [if_neg q, c.2 (fun z => q (a.mpr (b.mpr z)))])
  rw [e]
theorem zUf_d {ta ti bo : Nat → Int32} {W D r : Int} {t : Nat → Int} {V : List Int} (h : zUf ta ti bo W D r) (hl : (V.length : Int) = W) (hn : V.Nodup) (hV : ∀ x ∈ V, x ≠ 0) (h0 : 0 ≤ D) (hr : zRw ta (1024 * D.toNat) t V) (hti : (ti D.toNat).toInt ≤ 512) (hbo : (bo D.toNat).toInt ≤ 512) (hc : ∀ q : Nat, t q ≠ 0 → (q : Int) < (ti D.toNat).toInt ∨ (512 ≤ q ∧ (q : Int) < 512 + (bo D.toNat).toInt)) : r = (zdc t V : Int) := by
  have e := h (fun w => ∃ q : Nat, q < 1024 ∧ V[w]? = some (t q) ∧ t q ≠ 0) (fun w => if 0 < (zGp t V w).length then 1 else 0) (fun w hw => ?_) (fun w hw => ?_)
  · rw [e, zds, List.take_of_length_le (by omega)]
    rfl
  · have hw' : w < V.length := by omega
    have hg := List.getElem?_eq_getElem hw'
    have hx := hV _ (List.getElem_mem hw')
    constructor
    · intro z
      have : ∃ q : Nat, q < 1024 ∧ (ta (1024 * D.toNat + q)).toInt = (w : Int) + 1 := by
        rcases z with ⟨p, p1, p2, p3⟩ | ⟨p, p1, p2, p3⟩
        · exact ⟨p.toNat, by omega, by have p3' : (ta (1024 * D + p).toNat).toInt = w + 1 := p3; rw [show 1024 * D.toNat + p.toNat = (1024 * D + p).toNat from by omega]; exact p3'⟩
        · exact ⟨p.toNat, by omega, by have p3' : (ta (1024 * D + p).toNat).toInt = w + 1 := p3; rw [show 1024 * D.toNat + p.toNat = (1024 * D + p).toNat from by omega]; exact p3'⟩
      obtain ⟨q, q1, q2⟩ := this
      have q3 := (zRw_i hr hn hg hx q1).mp q2
      exact ⟨q, q1, by rw [hg, q3], by rw [q3]; exact hx⟩
    · rintro ⟨q, q1, q2, q3⟩
      rw [hg] at q2
      have q4 := (zRw_i hr hn hg hx q1).mpr (Option.some.inj q2).symm
      have at_ : zAtw ta D w (q : Int) := by
        show (ta (1024 * D + q).toNat).toInt = w + 1
        rw [show (1024 * D + (q : Int)).toNat = 1024 * D.toNat + q from by omega]; exact q4
      rcases hc q q3 with c | c
      · exact Or.inl ⟨q, by omega, c, at_⟩
      · exact Or.inr ⟨q, by omega, c.2, at_⟩
  · have hw' : w < V.length := by omega
    have hg := List.getElem?_eq_getElem hw'
    rw [zGp_s hg, zPn_l]
    constructor
    · rintro ⟨q, q1, q2, q3⟩
      rw [hg] at q2
      rw [if_pos (zTm_p (k := q) (Option.some.inj q2).symm q1)]
    · intro z
      rw [if_neg]
      intro y
      apply z
      have key : ∀ m : Nat, 0 < zTm t V[w] m → ∃ q : Nat, q < m ∧ t q = V[w] := by
        intro m
        induction m with
        | zero => intro c; exact absurd c (Nat.lt_irrefl _)
        | succ m ih =>
          intro c
          by_cases d : t m = V[w]
          · exact ⟨m, by omega, d⟩
          · have c : 0 < (if t m = V[w] then zTm t V[w] m + 1 else zTm t V[w] m) := c
            rw [if_neg d] at c
            obtain ⟨q, q1, q2⟩ := ih c
            exact ⟨q, by omega, q2⟩
      obtain ⟨q, q1, q2⟩ := key 1024 y
      exact ⟨q, q1, by rw [hg, q2], by rw [q2]; exact hV _ (List.getElem_mem hw')⟩
def zEm (f : Nat → Int32) (n : Int) (g sz : Nat → Int32) (W : Int) (ta ke : Nat → Int32) (D : Int) (sg ssz : Nat → Int32) (sn : Int) (g3 sz3 : Nat → Int32) (W3 : Int) (ta3 ke3 : Nat → Int32) (D3 : Int) (on ln mk un on3 ln3 mk3 un3 : Nat → Int32) (r : Int) : Prop := ∀ (S : Int → Bool) (T : Nat → Nat → Int) (V : List Int), zTy f n → n ≤ 600 → 0 ≤ n → zMs sg ssz sn → (∀ x, S x = true ↔ zQ sg ssz sn x) → zMd g sz W ta ke D T V → (zac f n S T V D ∧ r = D ∧ D3 = D + 1 ∧ zMd g3 sz3 W3 ta3 ke3 (D + 1) (zuf T D.toNat (zRq f n S V n.toNat).1) (zRq f n S V n.toNat).2.2.1 ∧ zUi on on3 D.toNat 1 ∧ zUi ln ln3 D.toNat (zRq f n S V n.toNat).2.2.2.1 ∧ zUi mk mk3 D.toNat 0 ∧ zUi un un3 D.toNat (zdc (zRq f n S V n.toNat).1 (zRq f n S V n.toNat).2.2.1)) ∨ (¬ zac f n S T V D ∧ r = -2 ∧ D3 = D ∧ zMd g3 sz3 W3 ta3 ke3 D T V ∧ on3 = on ∧ ln3 = ln ∧ mk3 = mk ∧ un3 = un)
section ZEM
variable {f g sz ta ke sg ssz g3 sz3 ta3 ta4 ke3 ke4 on ln mk un on3 ln3 mk3 un3 ti3 bo3 : Nat → Int32} {n W D sn W3 k place isB crowd kept ti r tk D3 : Int} {T : Nat → Nat → Int} {V : List Int} {S : Int → Bool}
theorem zEm_d (hD : D = 120) (hr : r = -2) (h3 : D3 = D) : zEm f n g sz W ta ke D sg ssz sn g sz W ta ke D3 on ln mk un on ln mk un r := fun S T V _ _ _ _ _ h => by
  subst h3
  exact Or.inr ⟨fun c => by have := c.1; omega, hr, rfl, h, rfl, rfl, rfl, rfl⟩
theorem zNe_x (h : zNe f n g sz W ta ke D sg ssz sn g3 sz3 W3 ta3 k place isB crowd kept ti) (hx : n ≤ k ∨ crowd ≠ 0) (hh : zNh f n g sz W ta ke D sg ssz sn S T V) : (∀ j : Nat, (j : Int) < 1024 * D → ta3 j = ta j) ∧ (∀ j : Nat, 1024 * (D + 1) ≤ (j : Int) → ta3 j = ta j) ∧ ((crowd ≠ 0 ∧ (zRq f n S V n.toNat).2.2.2.2 = false ∧ ∃ N, zMv g3 sz3 W3 (V ++ N)) ∨ (crowd = 0 ∧ zNc f n S V D g3 sz3 W3 ta3 n place isB kept ti ∧ ∃ N, (zRq f n S V n.toNat).2.2.1 = V ++ N)) := by
  obtain ⟨b1, b2, b3, b4, b5, b6⟩ := h S T V hh
  refine ⟨b3, b4, ?_⟩
  by_cases c : crowd = 0
  · have e : k = n := by omega
    have q := b5 c
    rw [e] at q
    exact Or.inr ⟨c, q, (zRq_V (f := f) (n := n) (S := S) (V := V) (T := T) (D := D.toNat) (zMd_t hh.2.2.2.2.2.1) n.toNat).1⟩
  · exact Or.inl ⟨c, b6 c⟩
theorem zEm_r (h : zNe f n g sz W ta ke D sg ssz sn g3 sz3 W3 ta3 k place isB crowd kept ti) (hD : D < 120) (hx : n ≤ k ∨ crowd ≠ 0) (k1 : ∀ j : Nat, (j : Int) < D → ke3 j = ke j) (k2 : (ke3 D.toNat).toInt ≠ 0) (k3 : ∀ j : Nat, (j : Int) < D → ke4 j = ke j) (ht : crowd ≠ 0 ∨ (zTn g3 sz3 W3 ta3 ke3 (D + 1) tk ∧ 40000 < tk)) (t1 : ∀ j : Nat, ¬ (1024 * D ≤ (j : Int) ∧ (j : Int) < 1024 * D + 1024) → ta4 j = ta3 j) (t2 : ∀ j : Nat, 1024 * D ≤ (j : Int) → (j : Int) < 1024 * D + 1024 → (ta4 j).toInt = 0) (hr : r = -2) (h3 : D3 = D) : zEm f n g sz W ta ke D sg ssz sn g3 sz3 W ta4 ke4 D3 on ln mk un on ln mk un r := fun S T V q1 q2 q3 q4 q5 q6 => by
  subst h3
  have d0 := q6.2.1
  obtain ⟨x1, x2, x3⟩ := zNe_x (S := S) (T := T) (V := V) h hx ⟨q1, q2, q3, q4, q5, q6, hD⟩
  have u1 : ∀ j : Nat, (j : Int) < 1024 * D3 → ta4 j = ta j := fun j hj => by rw [t1 j (by omega)]; exact x1 j hj
  have u2 : ∀ j : Nat, 1024 * D3 ≤ (j : Int) → j < 122880 → (ta4 j).toInt = 0 := fun j j1 j2 => by
    by_cases c : (j : Int) < 1024 * D3 + 1024
    · exact t2 j j1 c
    · rw [t1 j (by omega), x2 j (by omega)]; exact q6.2.2.2.2 j (by omega) j2
  rcases x3 with ⟨y1, y2, N, y3⟩ | ⟨y1, y2, N, y3⟩
  · exact Or.inr ⟨fun c => by have := c.2.1; rw [y2] at this; exact absurd this (by decide), hr, rfl, zMd_z q6 hD u1 u2 y3 k3, rfl, rfl, rfl, rfl⟩
  · obtain ⟨c1, c2, c3, c4, c5, c6, c7, c8, c9⟩ := y2
    rcases ht with z | ⟨z1, z2⟩
    · exact absurd y1 z
    · have rb := zRq_b (f := f) (n := n) (S := S) (V := V) n.toNat
      have md := zMd_n (N := N) q6 hD x1 x2 c5 y3 c6 c7 (by omega) k1 k2
      have e := z1 _ _ md
      rw [show (D3 + 1).toNat = D3.toNat + 1 from by omega] at e
      exact Or.inr ⟨fun c => by have := c.2.2; omega, hr, rfl, zMd_z q6 hD u1 u2 (by rw [← y3]; exact c5) k3, rfl, rfl, rfl, rfl⟩
theorem zEm_a (h : zNe f n g sz W ta ke D sg ssz sn g3 sz3 W3 ta3 k place isB crowd kept ti) (hD : D < 120) (hx : n ≤ k ∨ crowd ≠ 0) (hc : crowd = 0) (k1 : ∀ j : Nat, (j : Int) < D → ke3 j = ke j) (k2 : (ke3 D.toNat).toInt ≠ 0) (ht : zTn g3 sz3 W3 ta3 ke3 D3 tk) (hk : tk ≤ 40000) (o1 : zUi on on3 D.toNat 1) (o2 : zUi ln ln3 D.toNat kept) (o3 : zUi mk mk3 D.toNat 0) {ru : Int} (o4 : zUi un un3 D.toNat ru) (hu : zUf ta3 ti3 bo3 W3 D ru) (b1 : (isB = 1 ∧ (ti3 D.toNat).toInt = ti ∧ (bo3 D.toNat).toInt = place - 512) ∨ (isB ≠ 1 ∧ (ti3 D.toNat).toInt = min place 512)) (b2 : 0 ≤ (bo3 D.toNat).toInt ∧ (bo3 D.toNat).toInt ≤ 512 ∧ (ti3 D.toNat).toInt ≤ 512) (hr : r = D) (h3 : D3 = D + 1) : zEm f n g sz W ta ke D sg ssz sn g3 sz3 W3 ta3 ke3 D3 on ln mk un on3 ln3 mk3 un3 r := fun S T V q1 q2 q3 q4 q5 q6 => by
  rw [h3] at ht
  have d0 := q6.2.1
  obtain ⟨x1, x2, x3⟩ := zNe_x (S := S) (T := T) (V := V) h hx ⟨q1, q2, q3, q4, q5, q6, hD⟩
  rcases x3 with ⟨y1, -⟩ | ⟨-, y2, N, y3⟩
  · exact absurd hc y1
  · obtain ⟨c1, c2, c3, c4, c5, c6, c7, c8, c9⟩ := y2
    have rb := zRq_b (f := f) (n := n) (S := S) (V := V) n.toNat
    have md := zMd_n (N := N) q6 hD x1 x2 c5 y3 c6 c7 (by omega) k1 k2
    have e := ht _ _ md
    rw [show (D + 1).toNat = D.toNat + 1 from by omega] at e
    refine Or.inl ⟨⟨hD, c1, by omega⟩, hr, h3, md, o1, zUi_e o2 c4.symm, o3, zUi_e o4 ?_⟩
    refine (zUf_d hu c5.2.1 (zMv_nd c5) c5.2.2.2.2 d0 c6 b2.2.2 b2.2.1 (fun q hq => ?_)).symm
    rcases b1 with ⟨z1, z2, z3⟩ | ⟨z1, z2⟩
    · have c9' := c9 z1
      by_cases a : (q : Int) < ti
      · exact Or.inl (by omega)
      · by_cases b : q < 512
        · exact absurd (c9'.2 q (by omega) b) hq
        · refine Or.inr ⟨by omega, ?_⟩
          by_cases c : (q : Int) < place
          · omega
          · exact absurd (c7.2.1 q (by omega)) hq
    · have : place < 512 := by omega
      refine Or.inl ?_
      by_cases c : (q : Int) < place
      · omega
      · exact absurd (c7.2.1 q (by omega)) hq
end ZEM
def zEx (crowd : Int) (g sz : Nat → Int32) (W : Int) (ta ke : Nat → Int32) (D : Int) : Prop := crowd ≠ 0 ∨ ∃ tk : Int, zTn g sz W ta ke D tk ∧ 40000 < tk
def zKs (ke ke3 : Nat → Int32) (D : Int) (v : Int) : Prop := (∀ j : Nat, (j : Int) < D → ke3 j = ke j) ∧ (ke3 D.toNat).toInt = v
def zEz (f : Nat → Int32) (n : Int) (g sz : Nat → Int32) (W : Int) (ta ke : Nat → Int32) (D : Int) (sg ssz : Nat → Int32) (sn : Int) (g3 sz3 : Nat → Int32) (W3 : Int) (ta4 : Nat → Int32) (i : Int) : Prop := ∃ (ta3 ke3 : Nat → Int32) (k place isB crowd kept ti : Int), zNe f n g sz W ta ke D sg ssz sn g3 sz3 W3 ta3 k place isB crowd kept ti ∧ (n ≤ k ∨ crowd ≠ 0) ∧ zKs ke ke3 D 1 ∧ zEx crowd g3 sz3 W3 ta3 ke3 (D + 1) ∧ (∀ j : Nat, ¬ (1024 * D ≤ (j : Int) ∧ (j : Int) < 1024 * D + i) → ta4 j = ta3 j) ∧ (∀ j : Nat, 1024 * D ≤ (j : Int) → (j : Int) < 1024 * D + i → (ta4 j).toInt = 0)
section ZEZ
variable {f g sz ta ke sg ssz g3 sz3 ta3 ta4 ta5 ke3 ke4 on ln mk un : Nat → Int32} {n W D sn W3 k place isB crowd kept ti ti' i i' r D3 v : Int}
theorem zKs_i {I x : Int32} (e : ke3 = upd ke I.toNatClampNeg x) (hI : I.toInt = D) (h0 : 0 ≤ D) (hx : x.toInt = v) : zKs ke ke3 D v := by
  have ei : I.toNatClampNeg = D.toNat := by have : I.toNatClampNeg = I.toInt.toNat := rfl; omega
  rw [ei] at e
  exact ⟨fun j hj => by rw [e, pk_un (by omega)], by rw [e, pk_us, hx]⟩
theorem zKs_j {I x : Int32} {u : Int} (h : zKs ke ke3 D u) (e : ke4 = upd ke3 I.toNatClampNeg x) (hI : I.toInt = D) (h0 : 0 ≤ D) (hx : x.toInt = v) : zKs ke ke4 D v := by
  have ei : I.toNatClampNeg = D.toNat := by have : I.toNatClampNeg = I.toInt.toNat := rfl; omega
  rw [ei] at e
  exact ⟨fun j hj => by rw [e, pk_un (by omega)]; exact h.1 j hj, by rw [e, pk_us, hx]⟩
theorem zNe_ti (h : zNe f n g sz W ta ke D sg ssz sn g3 sz3 W3 ta3 k place isB crowd kept ti) (hb : isB ≠ 1) : zNe f n g sz W ta ke D sg ssz sn g3 sz3 W3 ta3 k place isB crowd kept ti' := fun S T V hh => by
  obtain ⟨b1, b2, b3, b4, b5, b6⟩ := h S T V hh
  refine ⟨b1, b2, b3, b4, fun c => ?_, b6⟩
  obtain ⟨c1, c2, c3, c4, c5, c6, c7, c8, c9⟩ := b5 c
  exact ⟨c1, c2, c3, c4, c5, c6, c7, c8, fun z => absurd z hb⟩
theorem zEz_0 (h : zNe f n g sz W ta ke D sg ssz sn g3 sz3 W3 ta3 k place isB crowd kept ti) (hx : n ≤ k ∨ crowd ≠ 0) (hk : zKs ke ke3 D 1) (he : zEx crowd g3 sz3 W3 ta3 ke3 D3) (h3 : D3 = D + 1) (hi : i = 0) : zEz f n g sz W ta ke D sg ssz sn g3 sz3 W3 ta3 i := by
  subst h3
  exact ⟨ta3, ke3, k, place, isB, crowd, kept, ti, h, hx, hk, he, fun _ _ => rfl, fun j j1 j2 => by omega⟩
theorem zEz_s {I x : Int32} (h : zEz f n g sz W ta ke D sg ssz sn g3 sz3 W3 ta4 i) (e : ta5 = upd ta4 I.toNatClampNeg x) (hI : I.toInt = 1024 * D + i) (h0 : 0 ≤ 1024 * D + i) (h1 : 0 ≤ i) (hx : x.toInt = 0) (hi : i' = i + 1) : zEz f n g sz W ta ke D sg ssz sn g3 sz3 W3 ta5 i' := by
  obtain ⟨ta3, ke3, k, place, isB, crowd, kept, ti, a1, a2, a3, a4, a5, a6⟩ := h
  have ei : I.toNatClampNeg = (1024 * D + i).toNat := by have : I.toNatClampNeg = I.toInt.toNat := rfl; omega
  rw [ei] at e
  refine ⟨ta3, ke3, k, place, isB, crowd, kept, ti, a1, a2, a3, a4, fun j hj => ?_, fun j j1 j2 => ?_⟩
  · rw [e, pk_un (by omega)]; exact a5 j (by omega)
  · by_cases c : j = (1024 * D + i).toNat
    · rw [e, c, pk_us, hx]
    · rw [e, pk_un c]; exact a6 j j1 (by omega)
theorem zEm_z (h : zEz f n g sz W ta ke D sg ssz sn g3 sz3 W3 ta4 i) (hi : i = 1024) (hD : D < 120) (hk : zKs ke ke4 D 0) (hr : r = -2) (h3 : D3 = D) : zEm f n g sz W ta ke D sg ssz sn g3 sz3 W ta4 ke4 D3 on ln mk un on ln mk un r := by
  obtain ⟨ta3, ke3, k, place, isB, crowd, kept, ti, a1, a2, a3, a4, a5, a6⟩ := h
  subst hi
  rcases a4 with a4 | ⟨tk, b1, b2⟩
  · exact zEm_r (tk := 0) a1 hD a2 a3.1 (by rw [a3.2]; decide) hk.1 (Or.inl a4) a5 a6 hr h3
  · exact zEm_r a1 hD a2 a3.1 (by rw [a3.2]; decide) hk.1 (Or.inr ⟨b1, b2⟩) a5 a6 hr h3
end ZEZ
def zOc (T : Nat → Nat → Int) (D : Int) (x : Int) : Prop := ∃ d k : Nat, (d : Int) < D ∧ k < 1024 ∧ T d k = x
def zTg (on ta ke : Nat → Int32) (D : Int) (ta3 ke3 : Nat → Int32) (d i : Int) : Prop := (∀ e : Nat, (e : Int) < D → ((e : Int) < d → ((on e).toInt ≠ 0 ∧ ke3 e = ke e ∧ ∀ k : Nat, k < 1024 → ta3 (1024 * e + k) = ta (1024 * e + k)) ∨ ((on e).toInt = 0 ∧ (ke3 e).toInt = 0 ∧ (((ke e).toInt = 0 ∧ ∀ k : Nat, k < 1024 → ta3 (1024 * e + k) = ta (1024 * e + k)) ∨ ∀ k : Nat, k < 1024 → (ta3 (1024 * e + k)).toInt = 0))) ∧ ((e : Int) = d → (0 ≤ i → (on e).toInt = 0 ∧ (ke3 e).toInt = 0 ∧ ∀ k : Nat, k < 1024 → ((k : Int) < i → (ta3 (1024 * e + k)).toInt = 0)) ∧ (i < 0 → ke3 e = ke e ∧ ∀ k : Nat, k < 1024 → ta3 (1024 * e + k) = ta (1024 * e + k))) ∧ (d < (e : Int) → ke3 e = ke e ∧ ∀ k : Nat, k < 1024 → ta3 (1024 * e + k) = ta (1024 * e + k))) ∧ ∀ j : Nat, 1024 * D ≤ (j : Int) → ta3 j = ta j
section ZTG
variable {on ta ke ta3 ke3 ta4 ke4 g sz g3 sz3 : Nat → Int32} {D d d' i i' W W3 : Int} {T : Nat → Nat → Int} {V : List Int}
theorem zTg_0 (hd : d = 0) (hi : i = -1) : zTg on ta ke D ta ke d i := by
  subst hd; subst hi
  exact ⟨fun e he => ⟨fun c => by omega, fun c => ⟨fun q => by omega, fun _ => ⟨rfl, fun _ _ => rfl⟩⟩, fun _ => ⟨rfl, fun _ _ => rfl⟩⟩, fun _ _ => rfl⟩
theorem zTg_n {Q z y : Int32} (h : zTg on ta ke D ta3 ke3 Q.toInt i) (hi : i = -1) (h0 : 0 ≤ Q.toInt) (hz : (on Q.toNatClampNeg).toInt ≠ 0 ∨ ((on Q.toNatClampNeg).toInt = 0 ∧ (ke3 Q.toNatClampNeg).toInt = 0)) (hd : d' = Q.toInt + 1) (hi' : i' = -1) : zTg on ta ke D ta3 ke3 d' i' := by
  refine ⟨fun e he => ?_, h.2⟩
  obtain ⟨a1, a2, a3⟩ := h.1 e he
  refine ⟨fun c => ?_, fun c => ⟨fun q => by omega, fun _ => a3 (by omega)⟩, fun c => a3 (by omega)⟩
  by_cases c2 : (e : Int) < Q.toInt
  · exact a1 c2
  · have eQ : e = Q.toNatClampNeg := by have := zclamp h0; omega
    have b := (a2 (by omega)).2 (by omega)
    rw [eQ] at b ⊢
    rcases hz with z | z
    · exact Or.inl ⟨z, b.1, b.2⟩
    · exact Or.inr ⟨z.1, z.2, Or.inl ⟨by rw [← b.1]; exact z.2, b.2⟩⟩
theorem zTg_k {Q x : Int32} (h : zTg on ta ke D ta3 ke3 Q.toInt i) (h0 : 0 ≤ Q.toInt) (hi : i = -1) (hz : (on Q.toNatClampNeg).toInt = 0) (e : ke4 = upd ke3 Q.toNatClampNeg x) (hx : x.toInt = 0) (hi' : i' = 0) : zTg on ta ke D ta3 ke4 Q.toInt i' := by
  refine ⟨fun q hq => ?_, h.2⟩
  obtain ⟨a1, a2, a3⟩ := h.1 q hq
  have cl := zclamp h0
  refine ⟨fun c => ?_, fun c => ⟨fun _ => ?_, fun c => by omega⟩, fun c => ?_⟩
  · rw [e, pk_un (by omega)]; exact a1 c
  · have eQ : q = Q.toNatClampNeg := by omega
    rw [eQ, e, pk_us]
    exact ⟨hz, hx, fun k _ hk => by omega⟩
  · rw [e, pk_un (by omega)]; exact a3 c
theorem zTg_r {Q I x : Int32} (h : zTg on ta ke D ta3 ke3 Q.toInt i) (h0 : 0 ≤ Q.toInt) (hQ : Q.toInt < D) (hi : 0 ≤ i) (hi2 : i < 1024) (e : ta4 = upd ta3 I.toNatClampNeg x) (hI : I.toInt = 1024 * Q.toInt + i) (hx : x.toInt = 0) (hi' : i' = i + 1) : zTg on ta ke D ta4 ke3 Q.toInt i' := by
  have ei : I.toNatClampNeg = (1024 * Q.toInt + i).toNat := by have : I.toNatClampNeg = I.toInt.toNat := rfl; omega
  rw [ei] at e
  refine ⟨fun q hq => ?_, fun j hj => by rw [e, pk_un (by omega)]; exact h.2 j hj⟩
  obtain ⟨a1, a2, a3⟩ := h.1 q hq
  have same : (q : Int) ≠ Q.toInt → ∀ k : Nat, k < 1024 → ta4 (1024 * q + k) = ta3 (1024 * q + k) := fun hne k hk => by rw [e, pk_un (by omega)]
  refine ⟨fun c => ?_, fun c => ⟨fun _ => ?_, fun c => by omega⟩, fun c => ?_⟩
  · rcases a1 c with ⟨b1, b2, b3⟩ | ⟨b1, b2, b3⟩
    · exact Or.inl ⟨b1, b2, fun k hk => by rw [same (by omega) k hk]; exact b3 k hk⟩
    · refine Or.inr ⟨b1, b2, ?_⟩
      rcases b3 with ⟨b3, b4⟩ | b3
      · exact Or.inl ⟨b3, fun k hk => by rw [same (by omega) k hk]; exact b4 k hk⟩
      · exact Or.inr (fun k hk => by rw [same (by omega) k hk]; exact b3 k hk)
  · obtain ⟨b1, b2, b3⟩ := (a2 c).1 hi
    refine ⟨b1, b2, fun k hk hki => ?_⟩
    by_cases z : 1024 * q + k = (1024 * Q.toInt + i).toNat
    · rw [e, z, pk_us, hx]
    · rw [e, pk_un z]; exact b3 k hk (by omega)
  · exact ⟨(a3 c).1, fun k hk => by rw [same (by omega) k hk]; exact (a3 c).2 k hk⟩
theorem zTg_d (h : zTg on ta ke D ta3 ke3 d i) (hi : 1024 ≤ i) (hd : d' = d + 1) (hi' : i' = -1) : zTg on ta ke D ta3 ke3 d' i' := by
  refine ⟨fun e he => ?_, h.2⟩
  obtain ⟨a1, a2, a3⟩ := h.1 e he
  refine ⟨fun c => ?_, fun c => ⟨fun q => by omega, fun _ => a3 (by omega)⟩, fun c => a3 (by omega)⟩
  by_cases c2 : (e : Int) < d
  · exact a1 c2
  · obtain ⟨b1, b2, b3⟩ := (a2 (by omega)).1 (by omega)
    exact Or.inr ⟨b1, b2, Or.inr (fun k hk => b3 k hk (by omega))⟩
theorem zTg_e (h : zTg on ta ke D ta3 ke3 d i) (hd : D ≤ d) (hm : zMd g sz W ta ke D T V) : zMd g sz W ta3 ke3 D (zTo on T) V := by
  obtain ⟨h1, h2, h3, h4, h5⟩ := hm
  refine ⟨h1, h2, h3, fun e he => ?_, fun j j1 j2 => by rw [h.2 j j1]; exact h5 j j1 j2⟩
  obtain ⟨q1, q2, q3⟩ := h4 e he
  rcases (h.1 e he).1 (by omega) with ⟨b1, b2, b3⟩ | ⟨b1, b2, b3⟩
  · rw [zTo_y b1]
    exact ⟨zRw_c q1 (fun j j1 j2 => by have := b3 (j - 1024 * e) (by omega); rw [show 1024 * e + (j - 1024 * e) = j from by omega] at this; exact this), q2, fun z => q3 (by rw [← b2]; exact z)⟩
  · rw [zTo_n b1]
    refine ⟨fun k hk => Or.inl ⟨?_, rfl⟩, fun _ _ => rfl, fun _ _ => rfl⟩
    rcases b3 with ⟨b3, b4⟩ | b3
    · rw [b4 k hk]
      rcases q1 k hk with c | ⟨j, c1, c2, c3⟩
      · exact c.1
      · exact absurd (q3 b3 k) c3
    · exact b3 k hk
def zHr (he ta : Nat → Int32) (W K : Int) : Prop := ∀ w : Nat, (w : Int) < W → 0 < (he w).toInt → ∃ k : Nat, (k : Int) < K ∧ (ta k).toInt = w + 1
theorem zHr_0 {he ta : Nat → Int32} {W L K : Int} (h : zT0 he L) (e : W ≤ L) : zHr he ta W K := fun w hw q => by have := h w (by omega); omega
theorem zHr_n {he ta : Nat → Int32} {W K K' : Int} (h : zHr he ta W K) (e : K' = K + 1) : zHr he ta W K' := fun w hw q => by
  obtain ⟨k, k1, k2⟩ := h w hw q
  exact ⟨k, by omega, k2⟩
theorem zHr_y {he ta : Nat → Int32} {W K K' v : Int} {I x : Int32} (h : zHr he ta W K) (hK : 0 ≤ K) (hv : (ta K.toNat).toInt = v) (hI : I.toInt = v - 1) (h0 : 0 ≤ I.toInt) (e : K' = K + 1) : zHr (upd he I.toNatClampNeg x) ta W K' := fun w hw q => by
  have ci := zclamp h0
  by_cases c : w = I.toNatClampNeg
  · exact ⟨K.toNat, by omega, by rw [hv]; omega⟩
  · rw [pk_un c] at q
    obtain ⟨k, k1, k2⟩ := h w hw q
    exact ⟨k, by omega, k2⟩
theorem zHr_c {he ta : Nat → Int32} {W K K' : Int} (h : zHr he ta W K) (e : K' = K) : zHr he ta W K' := by rw [e]; exact h
theorem zOc_i (hm : zMd g sz W ta ke D T V) {j : Nat} {x : Int} (hv : V[j]? = some x) : zOc T D x ↔ ∃ k : Nat, (k : Int) < 1024 * D ∧ (ta k).toInt = (j : Int) + 1 := by
  obtain ⟨h1, h2, h3, h4, h5⟩ := hm
  have hx := h1.2.2.2.2 _ (List.mem_of_getElem? hv)
  constructor
  · rintro ⟨d, k, d1, k1, e⟩
    exact ⟨1024 * d + k, by omega, (zRw_i (h4 d d1).1 (zMv_nd h1) hv hx k1).mpr e⟩
  · rintro ⟨k, k1, k2⟩
    have e := (zRw_i (b := 1024 * (k / 1024)) (k := k % 1024) (h4 (k / 1024) (by omega)).1 (zMv_nd h1) hv hx (by omega)).mp (by rw [show 1024 * (k / 1024) + k % 1024 = k from by omega]; exact k2)
    exact ⟨k / 1024, k % 1024, by omega, by omega, e⟩
theorem zOc_h {x : Int} (hx : x ≠ 0) (hz : ∀ d : Nat, (d : Int) < D → ∀ k : Nat, 1024 ≤ k → T d k = 0) (h0 : 0 ≤ D) : zOc T D x ↔ 0 < zHn T x D.toNat := by
  constructor
  · rintro ⟨d, k, d1, k1, e⟩
    exact zHn_p (d := d) (zTm_p e k1) (by omega)
  · intro h
    have key : ∀ m : Nat, 0 < zHn T x m → ∃ d, d < m ∧ 0 < zTm (T d) x 1024 := by
      intro m
      induction m with
      | zero => intro c; exact absurd c (Nat.lt_irrefl _)
      | succ m ih =>
        intro c
        by_cases q : 0 < zTm (T m) x 1024
        · exact ⟨m, by omega, q⟩
        · rw [zHn_n q] at c
          obtain ⟨d, d1, d2⟩ := ih c
          exact ⟨d, by omega, d2⟩
    obtain ⟨d, d1, d2⟩ := key _ h
    have key2 : ∀ m : Nat, 0 < zTm (T d) x m → ∃ k, k < m ∧ T d k = x := by
      intro m
      induction m with
      | zero => intro c; exact absurd c (Nat.lt_irrefl _)
      | succ m ih =>
        intro c
        by_cases q : T d m = x
        · exact ⟨m, by omega, q⟩
        · have c : 0 < (if T d m = x then zTm (T d) x m + 1 else zTm (T d) x m) := c
          rw [if_neg q] at c
          obtain ⟨k, k1, k2⟩ := ih c
          exact ⟨k, by omega, k2⟩
    obtain ⟨k, k1, k2⟩ := key2 _ d2
    exact ⟨d, k, by omega, k1, k2⟩
end ZTG
theorem zmg {V : List Int} {x : Int} : x ∈ V ↔ ∃ j : Nat, V[j]? = some x := ⟨fun h => by
  obtain ⟨j, hj, e⟩ := List.getElem_of_mem h
  exact ⟨j, by rw [List.getElem?_eq_getElem hj, e]⟩, fun ⟨j, h⟩ => List.mem_of_getElem? h⟩
def zDp (g sz : Nat → Int32) (W : Int) (ta ke : Nat → Int32) (D : Int) (g3 sz3 : Nat → Int32) (W3 : Int) (ta3 : Nat → Int32) (w : Int) : Prop := ∀ (T : Nat → Nat → Int) (V : List Int), zMd g sz W ta ke D T V → ∃ V' : List Int, zMd g3 sz3 W3 ta3 ke D T V' ∧ (∀ x, x ∈ V' ↔ (x ∈ V ∧ x ≠ zkw g sz w.toNat)) ∧ ∀ j : Nat, (j : Int) < w → V'[j]? = V[j]?
section ZDP
variable {g sz ta ke g3 sz3 ta3 he he3 on g4 sz4 ta4 ke3 : Nat → Int32} {W D W3 w la r i i' W4 : Int} {T : Nat → Nat → Int} {V : List Int}
theorem zDp_i {P N S : Int32} (hP : P.toInt = w) (h0 : 0 ≤ w) (hw : w < W) (hla : la = W - 1) (hW : W3 = W - 1) (hd : zHd he ta W (1024 * D)) (hh : (he w.toNat).toInt ≤ 0) (hr : zRn ta ta3 w la (1024 * D)) (hc : zC g g3 (fun i => g ((12 * la).toNat + i)) (12 * w) 12) (hz : sz3 = upd sz P.toNatClampNeg S) (hS : S = sz N.toNatClampNeg) (hN : N.toInt = la) : zDp g sz W ta ke D g3 sz3 W3 ta3 w := fun T V hm => by
  obtain ⟨h1, h2, h3, h4, h5⟩ := hm
  have l := h1.2.1
  have l4 := h1.2.2.1
  have hs := h1.1
  have nd := zMv_nd h1
  have eP : P.toNatClampNeg = w.toNat := by have q : P.toNatClampNeg = P.toInt.toNat := rfl; omega
  have eN : N.toNatClampNeg = la.toNat := by have q : N.toNatClampNeg = N.toInt.toNat := rfl; omega
  rw [eP] at hz
  rw [eN] at hS
  have es : ∀ j : Nat, j ≠ w.toNat → sz3 j = sz j := fun j hj => by rw [hz, pk_un hj]
  have esw : sz3 w.toNat = sz la.toNat := by rw [hz, pk_us, hS]
  have eg : ∀ j : Nat, j ≠ w.toNat → ∀ k : Nat, k < 12 → g3 (12 * j + k) = g (12 * j + k) := fun j hj k hk => hc.1 _ (by omega)
  have egw : ∀ k : Nat, (k : Int) < (sz la.toNat).toInt → g3 (12 * w.toNat + k) = g (12 * la.toNat + k) := fun k hk => by
    have a := hs.1 la.toNat (by omega)
    have q := hc.2 k (by omega) (by
      show zVl (g ((12 * la).toNat + k)).toInt
      rw [show (12 * la).toNat = 12 * la.toNat from by omega]; exact a.2.2 k hk)
    rw [show (12 * w).toNat = 12 * w.toNat from by omega] at q
    rw [q]
    show g ((12 * la).toNat + k) = _
    rw [show (12 * la).toNat = 12 * la.toNat from by omega]
  have ek : ∀ j : Nat, (j : Int) < W → j ≠ w.toNat → zkw g3 sz3 j = zkw g sz j := fun j hj hne => zkw_c (es j hne) (fun k hk => eg j hne k (by have q := (hs.1 j hj).2.1; omega))
  have ekw : zkw g3 sz3 w.toNat = zkw g sz la.toNat := zkw_c esw egw
  have hlast : la.toNat < V.length := by omega
  have vl := h1.2.2.2.1 la.toNat (by omega)
  have gv : ∀ j : Nat, j < la.toNat → ((V.set w.toNat (zkw g sz la.toNat)).take la.toNat)[j]? = some (if j = w.toNat then zkw g sz la.toNat else zkw g sz j) := fun j hj => by
    rw [List.getElem?_take, if_pos hj, List.getElem?_set]
    by_cases c : w.toNat = j
    · rw [if_pos c, if_pos (by omega), if_pos c.symm]
    · rw [if_neg c, if_neg (fun e => c e.symm)]
      exact h1.2.2.2.1 j (by omega)
  have gl : ((V.set w.toNat (zkw g sz la.toNat)).take la.toNat).length = la.toNat := by rw [List.length_take, List.length_set]; omega
  have inj : ∀ a b : Nat, (a : Int) < W → (b : Int) < W → zkw g sz a = zkw g sz b → a = b := fun a b ha hb e => by
    rcases Nat.lt_trichotomy a b with c | c | c
    · exact absurd e (hs.2 a b c hb)
    · exact c
    · exact absurd e.symm (hs.2 b a c ha)
  have mem : ∀ x, x ∈ (V.set w.toNat (zkw g sz la.toNat)).take la.toNat ↔ (x ∈ V ∧ x ≠ zkw g sz w.toNat) := fun x => by
    constructor
    · intro hx
      obtain ⟨j, hj, e⟩ := List.getElem_of_mem hx
      rw [gl] at hj
      have q := gv j hj
      rw [List.getElem?_eq_getElem (by rw [gl]; exact hj), e] at q
      have q := Option.some.inj q
      by_cases c : j = w.toNat
      · rw [if_pos c] at q
        rw [q]
        exact ⟨List.mem_of_getElem? vl, fun e2 => by have := inj _ _ (by omega) (by omega) e2; omega⟩
      · rw [if_neg c] at q
        rw [q]
        exact ⟨List.mem_of_getElem? (h1.2.2.2.1 j (by omega)), fun e2 => c (inj _ _ (by omega) (by omega) e2)⟩
    · rintro ⟨hx, hne⟩
      obtain ⟨j, hj, e⟩ := List.getElem_of_mem hx
      have q := h1.2.2.2.1 j (by omega)
      rw [List.getElem?_eq_getElem hj, e] at q
      have q := Option.some.inj q
      have c : j ≠ w.toNat := fun c => hne (by rw [q, c])
      by_cases cl : j = la.toNat
      · have : w.toNat < la.toNat := by omega
        have z := gv w.toNat this
        rw [if_pos rfl] at z
        rw [q, cl]
        exact List.mem_of_getElem? z
      · have z := gv j (by omega)
        rw [if_neg c] at z
        rw [q]
        exact List.mem_of_getElem? z
  have nw : ∀ k : Nat, (k : Int) < 1024 * D → (ta k).toInt ≠ w + 1 := fun k hk e => by
    have := hd w.toNat (by omega) k (by omega) hk (by rw [Int.toNat_natCast, e]; omega)
    omega
  refine ⟨(V.set w.toNat (zkw g sz la.toNat)).take la.toNat, ⟨⟨⟨fun j hj => ?_, fun a b hab hb => ?_⟩, by rw [gl]; omega, by omega, fun j hj => ?_, fun x hx => h1.2.2.2.2 x ((mem x).mp hx).1⟩, h2, h3, fun d hd' => ?_, fun j j1 j2 => by rw [(hr j).2 j1]; exact h5 j j1 j2⟩, mem, fun j hj => ?_⟩
  · by_cases c : j = w.toNat
    · have q := hs.1 la.toNat (by omega)
      rw [c, esw]
      exact ⟨q.1, q.2.1, fun k hk => by rw [egw k hk]; exact q.2.2 k hk⟩
    · have q := hs.1 j (by omega)
      rw [es j c]
      exact ⟨q.1, q.2.1, fun k hk => by rw [eg j c k (by omega)]; exact q.2.2 k hk⟩
  · by_cases ca : a = w.toNat
    · rw [ca, ekw, ek b (by omega) (by omega)]
      exact fun e => by have := inj _ _ (by omega) (by omega) e; omega
    · rw [ek a (by omega) ca]
      by_cases cb : b = w.toNat
      · rw [cb, ekw]; exact fun e => by have := inj _ _ (by omega) (by omega) e; omega
      · rw [ek b (by omega) cb]; exact hs.2 a b hab (by omega)
  · rw [gv j (by omega)]
    by_cases c : j = w.toNat
    · rw [if_pos c, c, ekw]
    · rw [if_neg c, ek j (by omega) c]
  · obtain ⟨q1, q2, q3⟩ := h4 d hd'
    refine ⟨fun k hk => ?_, q2, q3⟩
    have rr := (hr (1024 * d + k)).1 (by omega)
    rcases q1 k hk with ⟨c1, c2⟩ | ⟨j, c1, c2, c3⟩
    · exact Or.inl ⟨by rw [rr.2 (by rw [c1]; omega)]; exact c1, c2⟩
    · have lj : j < V.length := by
        rcases Nat.lt_or_ge j V.length with c | c
        · exact c
        · rw [List.getElem?_eq_none c] at c1; exact absurd c1 (by simp)
      have jw : j ≠ w.toNat := fun c => nw (1024 * d + k) (by omega) (by rw [c2]; omega)
      have vj := h1.2.2.2.1 j (by omega)
      rw [c1] at vj
      have vj := Option.some.inj vj
      by_cases cl : j = la.toNat
      · refine Or.inr ⟨w.toNat, ?_, by rw [rr.1 (by rw [c2]; omega)]; omega, c3⟩
        rw [gv w.toNat (by omega), if_pos rfl, vj, cl]
      · refine Or.inr ⟨j, ?_, by rw [rr.2 (by rw [c2]; omega)]; exact c2, c3⟩
        rw [gv j (by omega), if_neg jw, vj]
  · rw [gv j (by omega), if_neg (by omega)]
    exact (h1.2.2.2.1 j (by omega)).symm
theorem zHr_d {Q x : Int32} {K : Int} (h : zHr he ta W K) (hr : zRn ta ta3 w la K) (h0 : 0 ≤ w) (hw : w < W) (hla : la = W - 1) (hW : W3 = W - 1) (e : he3 = upd he Q.toNatClampNeg x) (hQ : Q.toInt = w) (hx : x = he la.toNat) : zHr he3 ta3 W3 K := fun v hv q => by
  have eQ : Q.toNatClampNeg = w.toNat := by have : Q.toNatClampNeg = Q.toInt.toNat := rfl; omega
  rw [e, eQ] at q
  by_cases c : v = w.toNat
  · rw [c, pk_us, hx] at q
    obtain ⟨k, k1, k2⟩ := h la.toNat (by omega) q
    exact ⟨k, k1, by rw [((hr k).1 k1).1 (by omega)]; omega⟩
  · rw [pk_un c] at q
    obtain ⟨k, k1, k2⟩ := h v (by omega) q
    exact ⟨k, k1, by rw [((hr k).1 k1).2 (by omega)]; exact k2⟩
def zYm (g sz : Nat → Int32) (W : Int) (ta ke on : Nat → Int32) (D : Int) (g3 sz3 : Nat → Int32) (W3 : Int) (ta3 ke3 : Nat → Int32) (i : Int) : Prop := ∀ (T : Nat → Nat → Int) (V : List Int), zMd g sz W ta ke D T V → ∃ V1 : List Int, zMd g3 sz3 W3 ta3 ke3 D (zTo on T) V1 ∧ (∀ x ∈ V1, x ∈ V) ∧ (∀ x ∈ V, x ∉ V1 → ¬ zOc (zTo on T) D x) ∧ ∀ j : Nat, (j : Int) < i → ∀ x, V1[j]? = some x → zOc (zTo on T) D x
theorem zYm_0 {d j : Int} (h : zTg on ta ke D ta3 ke3 d j) (hd : D ≤ d) (hi : i = 0) : zYm g sz W ta ke on D g sz W ta3 ke3 i := fun T V hm => ⟨V, zTg_e h hd hm, fun _ q => q, fun x hx hn => absurd hx hn, fun j hj => by omega⟩
theorem zYm_h {I : Int32} (h : zYm g sz W ta ke on D g3 sz3 W3 ta3 ke3 I.toInt) (hr : zHr he ta3 W3 (1024 * D)) (h0 : 0 ≤ I.toInt) (hI : I.toInt < W3) (hp : 0 < (he I.toNatClampNeg).toInt) (hi : i' = I.toInt + 1) : zYm g sz W ta ke on D g3 sz3 W3 ta3 ke3 i' := fun T V hm => by
  obtain ⟨V1, a1, a2, a3, a4⟩ := h T V hm
  refine ⟨V1, a1, a2, a3, fun j hj x hx => ?_⟩
  by_cases c : (j : Int) < I.toInt
  · exact a4 j c x hx
  · have ej : j = I.toNatClampNeg := by have := zclamp h0; omega
    rw [← ej] at hp
    exact (zOc_i a1 hx).mpr (hr j (by omega) hp)
theorem zYm_d (h : zYm g sz W ta ke on D g3 sz3 W3 ta3 ke3 w) (hd : zHd he ta3 W3 (1024 * D)) (h0 : 0 ≤ w) (hw : w < W3) (hh : (he w.toNat).toInt ≤ 0) (hp : zDp g3 sz3 W3 ta3 ke3 D g4 sz4 W4 ta4 w) : zYm g sz W ta ke on D g4 sz4 W4 ta4 ke3 w := fun T V hm => by
  obtain ⟨V1, a1, a2, a3, a4⟩ := h T V hm
  obtain ⟨V', b1, b2, b3⟩ := hp _ _ a1
  have vw := a1.1.2.2.2.1 w.toNat (by omega)
  have no : ¬ zOc (zTo on T) D (zkw g3 sz3 w.toNat) := fun c => by
    obtain ⟨k, k1, k2⟩ := (zOc_i a1 vw).mp c
    have := hd w.toNat (by omega) k (by omega) k1 (by rw [Int.toNat_natCast]; exact k2)
    omega
  refine ⟨V', b1, fun x hx => a2 x ((b2 x).mp hx).1, fun x hx hn => ?_, fun j hj x hx => a4 j hj x (by rw [← b3 j hj]; exact hx)⟩
  by_cases c : x ∈ V1
  · have : x = zkw g3 sz3 w.toNat := by
      by_cases d : x = zkw g3 sz3 w.toNat
      · exact d
      · exact absurd ((b2 x).mpr ⟨c, d⟩) hn
    rw [this]; exact no
  · exact a3 x hx c
def zYn (g sz : Nat → Int32) (W : Int) (ta ke on : Nat → Int32) (D : Int) (g3 sz3 : Nat → Int32) (W3 : Int) (ta3 ke3 : Nat → Int32) (r : Int) : Prop := ∀ (T : Nat → Nat → Int) (V : List Int), zMd g sz W ta ke D T V → zcs (zBv T V D.toNat) ≤ 40000 → ∃ V1 : List Int, zMd g3 sz3 W3 ta3 ke3 D (zTo on T) V1 ∧ (∀ x, x ∈ V1 ↔ x ∈ V.filter (zkp on T D)) ∧ (zcs (zBv (zTo on T) V1 D.toNat) ≤ 40000 → r = (zcs (zBv T V D.toNat) : Int) - zcs (zBv (zTo on T) V1 D.toNat))
theorem zYn_e {A B R : Int32} (h : zYm g sz W ta ke on D g3 sz3 W3 ta3 ke3 i) (hi : W3 ≤ i) (h1 : zTn g sz W ta ke D A.toInt) (h2 : zTn g3 sz3 W3 ta3 ke3 D B.toInt) (e : R = A - B) : zYn g sz W ta ke on D g3 sz3 W3 ta3 ke3 R.toInt := fun T V hm hc => by
  obtain ⟨V1, a1, a2, a3, a4⟩ := h T V hm
  have q1 := h1 T V hm
  have q2 := h2 _ _ a1
  refine ⟨V1, a1, fun x => ?_, fun hc2 => zsub q1 q2 e (by omega) (by omega)⟩
  rw [List.mem_filter]
  have oc : x ≠ 0 → (zOc (zTo on T) D x ↔ zkp on T D x = true) := fun hx => by
    rw [zOc_h hx (fun d hd k hk => (a1.2.2.2.1 d hd).2.1 k hk) a1.2.1]
    unfold zkp
    rw [decide_eq_true_eq]
  constructor
  · intro hx
    have x0 := a1.1.2.2.2.2 x hx
    obtain ⟨j, hj⟩ := zmg.mp hx
    have lj : j < V1.length := by
      rcases Nat.lt_or_ge j V1.length with c | c
      · exact c
      · rw [List.getElem?_eq_none c] at hj; exact absurd hj (by simp)
    exact ⟨a2 x hx, (oc x0).mp (a4 j (by have := a1.1.2.1; omega) x hj)⟩
  · rintro ⟨hx, hp⟩
    by_cases c : x ∈ V1
    · exact c
    · exact absurd ((oc (hm.1.2.2.2.2 x hx)).mpr hp) (a3 x hx c)
end ZDP
def zpb (row : Nat → Int32) (p : Nat) : Bool := (row (p / 32)).toBitVec.getLsbD (p % 32)
def zpP (row row' : Nat → Int32) (place : Int) : Prop := ∀ q : Nat, q < 832 → zpb row' q = (zpb row q || decide ((q : Int) = place))
theorem zpP_i {row row' : Nat → Int32} {X Z Y S I : Int32} {place : Int} (eX : X = row I.toNatClampNeg) (eZ : Z = 1 <<< (S &&& 31)) (eY : Y = X ||| Z) (er : row' = upd row I.toNatClampNeg Y) (hI : I.toInt = place / 32) (hS : S.toInt = place % 32) (p0 : 0 ≤ place) : zpP row row' place := fun q hq => by
  have eI : I.toNatClampNeg = place.toNat / 32 := by have : I.toNatClampNeg = I.toInt.toNat := rfl; omega
  unfold zpb
  by_cases c : q / 32 = place.toNat / 32
  · have e1 : decide (q % 32 = S.toInt.toNat) = decide ((q : Int) = place) := decide_eq_decide.mpr (by omega)
    have g := zgb2 eZ eY (Or.inr rfl) (by omega) (by omega) (q % 32) (by omega)
    rw [eX, eI, e1, show decide ((1 : Int32) = 1) = true from rfl, Bool.and_true] at g
    rw [er, eI, c, pk_us]
    exact g
  · have e2 : decide ((q : Int) = place) = false := decide_eq_false (by omega)
    rw [er, eI, pk_un c, e2, Bool.or_false]
theorem zpP_o {row : Nat → Int32} {place : Int} (h : place < 0 ∨ 832 ≤ place) : zpP row row place := fun q hq => by
  have e2 : decide ((q : Int) = place) = false := decide_eq_false (by omega)
  rw [e2, Bool.or_false]
def zcp (row0 row : Nat → Int32) (lo hi : Int) : Prop := ∀ j : Nat, j < 26 → row j = if lo ≤ (j : Int) ∧ (j : Int) < hi then 0 else row0 j
theorem zcp_0 {row : Nat → Int32} {lo hi : Int} (h : hi ≤ lo) : zcp row row lo hi := fun j hj => by
  have c : ¬ (lo ≤ (j : Int) ∧ (j : Int) < hi) := fun d => by omega
  rw [if_neg c]
theorem zcp_s {row0 row row' : Nat → Int32} {lo hi' : Int} {I : Int32} (h : zcp row0 row lo I.toInt) (h0 : 0 ≤ lo) (hl : lo ≤ I.toInt) (e : row' = upd row I.toNatClampNeg 0) (hh : hi' = I.toInt + 1) : zcp row0 row' lo hi' := fun j hj => by
  have eI : I.toNatClampNeg = I.toInt.toNat := rfl
  by_cases c : j = I.toNatClampNeg
  · have d : lo ≤ (j : Int) ∧ (j : Int) < hi' := ⟨by omega, by omega⟩
    rw [if_pos d, e, c, pk_us]
  · rw [e, pk_un c, h j hj]
    by_cases d : lo ≤ (j : Int) ∧ (j : Int) < I.toInt
    · have d' : lo ≤ (j : Int) ∧ (j : Int) < hi' := ⟨d.1, by omega⟩
      rw [if_pos d, if_pos d']
    · have d' : ¬ (lo ≤ (j : Int) ∧ (j : Int) < hi') := fun f => d ⟨f.1, by omega⟩
      rw [if_neg d, if_neg d']
def zclr (row0 row : Nat → Int32) (lo hi : Nat) : Prop := ∀ q : Nat, q < 832 → zpb row q = if lo ≤ q ∧ q < hi then false else zpb row0 q
theorem zclr_e {row0 row : Nat → Int32} {lo hi : Int} {a b : Nat} (h : zcp row0 row lo hi) (h1 : lo = a) (h2 : (b : Int) ≤ hi) (h3 : hi ≤ b) : zclr row0 row (32 * a) (32 * b) := fun q hq => by
  unfold zpb
  rw [h (q / 32) (by omega)]
  by_cases d : lo ≤ ((q / 32 : Nat) : Int) ∧ ((q / 32 : Nat) : Int) < hi
  · have d' : 32 * a ≤ q ∧ q < 32 * b := ⟨by omega, by omega⟩
    rw [if_pos d, if_pos d']
    exact BitVec.getLsbD_zero
  · have d' : ¬ (32 * a ≤ q ∧ q < 32 * b) := fun f => d ⟨by omega, by omega⟩
    rw [if_neg d, if_neg d']
theorem zclr_z {row : Nat → Int32} (h : ∀ j : Nat, (j : Int) < 26 → row j = (0 : Int32)) : ∀ q : Nat, q < 832 → zpb row q = false := fun q hq => by
  unfold zpb
  rw [h (q / 32) (by omega)]
  exact BitVec.getLsbD_zero
def zjn (row0 row other : Nat → Int32) (hi : Int) : Prop := ∀ j : Nat, j < 26 → row j = if (j : Int) < hi then row0 j ||| other j else row0 j
theorem zjn_0 {row other : Nat → Int32} {hi : Int} (h : hi ≤ 0) : zjn row row other hi := fun j hj => by rw [if_neg (show ¬ ((j : Int) < hi) from by omega)]
theorem zjn_s {row0 row row' other : Nat → Int32} {hi' : Int} {I X O Y : Int32} (h : zjn row0 row other I.toInt) (h0 : 0 ≤ I.toInt) (h1 : I.toInt < 26) (eX : X = row I.toNatClampNeg) (eO : O = other I.toNatClampNeg) (eY : Y = X ||| O) (e : row' = upd row I.toNatClampNeg Y) (hh : hi' = I.toInt + 1) : zjn row0 row' other hi' := fun j hj => by
  have eI : I.toNatClampNeg = I.toInt.toNat := rfl
  by_cases c : j = I.toNatClampNeg
  · have q := h j hj
    rw [if_neg (show ¬ ((j : Int) < I.toInt) from by omega)] at q
    rw [if_pos (show (j : Int) < hi' from by omega), e, c, pk_us, eY, eX, eO, ← c, q]
  · rw [e, pk_un c, h j hj]
    by_cases d : (j : Int) < I.toInt
    · rw [if_pos d, if_pos (show (j : Int) < hi' from by omega)]
    · rw [if_neg d, if_neg (show ¬ ((j : Int) < hi') from by omega)]
theorem zjn_e {row0 row other : Nat → Int32} {hi : Int} (h : zjn row0 row other hi) (h2 : 26 ≤ hi) : ∀ q : Nat, q < 832 → zpb row q = (zpb row0 q || zpb other q) := fun q hq => by
  unfold zpb
  rw [h (q / 32) (by omega), if_pos (show ((q / 32 : Nat) : Int) < hi from by omega)]
  exact BitVec.getLsbD_or
theorem zodd : ∀ n : Nat, 0 < n → ∃ t m : Nat, n = 2 ^ t * (2 * m + 1) := by
  intro n
  induction n using Nat.strongRecOn with
  | ind n ih =>
    intro h
    by_cases c : n % 2 = 1
    · exact ⟨0, n / 2, by omega⟩
    · obtain ⟨t, m, e⟩ := ih (n / 2) (by omega) (by omega)
      refine ⟨t + 1, m, ?_⟩
      rw [Nat.pow_succ, Nat.mul_comm (2 ^ t) 2, Nat.mul_assoc, ← e]
      omega
def zCtz (x : Int32) (r : Int) : Prop := x ≠ 0 → 0 ≤ r ∧ r ≤ 31 ∧ x.toBitVec.getLsbD r.toNat = true ∧ ∀ j : Nat, (j : Int) < r → x.toBitVec.getLsbD j = false
theorem zct_y {x a b y : Int32} {t m : Nat} (ea : a = x ^^^ (-1)) (eb : b = x - 1) (ey : y = a &&& b) (e : x.toBitVec.toNat = 2 ^ t * (2 * m + 1)) : y.toBitVec.toNat = 2 ^ t - 1 ∧ t ≤ 31 ∧ x.toBitVec.getLsbD t = true ∧ ∀ j : Nat, j < t → x.toBitVec.getLsbD j = false := by
  have lt : x.toBitVec.toNat < 2 ^ 32 := x.toBitVec.isLt
  have pos : 0 < 2 ^ t := Nat.two_pow_pos t
  have t31 : t ≤ 31 := by
    rcases Nat.lt_or_ge t 32 with c | c
    · omega
    · have q := Nat.pow_le_pow_right (show 0 < 2 by decide) c
      have q2 : 2 ^ t * 1 ≤ 2 ^ t * (2 * m + 1) := Nat.mul_le_mul_left _ (by omega)
      omega
  have xb : ∀ j : Nat, x.toBitVec.toNat.testBit j = if j < t then false else (2 * m + 1).testBit (j - t) := fun j => by
    have q := Nat.testBit_two_pow_mul_add (2 * m + 1) (b := 0) (i := t) pos j
    rw [Nat.add_zero, ← e] at q
    rw [q, Nat.zero_testBit]
  have bn : b.toBitVec.toNat = 2 ^ t * (2 * m) + (2 ^ t - 1) := by
    have q : b.toBitVec.toNat = (2 ^ 32 - 1 + x.toBitVec.toNat) % 2 ^ 32 := by rw [eb]; rfl
    have q2 : 2 ^ t * (2 * m + 1) = 2 ^ t * (2 * m) + 2 ^ t := by rw [Nat.mul_add, Nat.mul_one]
    rw [q2] at e
    rw [q]
    omega
  have bb : ∀ j : Nat, b.toBitVec.toNat.testBit j = if j < t then true else (2 * m).testBit (j - t) := fun j => by
    have q := Nat.testBit_two_pow_mul_add (2 * m) (b := 2 ^ t - 1) (i := t) (by omega) j
    rw [bn, q, Nat.testBit_two_pow_sub_one]
    by_cases c : j < t
    · rw [if_pos c, if_pos c, decide_eq_true c]
    · rw [if_neg c, if_neg c]
  have ab : ∀ j : Nat, j < 32 → a.toBitVec.getLsbD j = !x.toBitVec.getLsbD j := fun j hj => by
    have q : a.toBitVec = x.toBitVec ^^^ BitVec.allOnes 32 := by rw [ea]; rfl
    rw [q, BitVec.getLsbD_xor, BitVec.getLsbD_allOnes, decide_eq_true hj, Bool.xor_true]
  have yn : ∀ j : Nat, y.toBitVec.toNat.testBit j = decide (j < t) := fun j => by
    by_cases hj : j < 32
    · have q : y.toBitVec.getLsbD j = (a.toBitVec.getLsbD j && b.toBitVec.getLsbD j) := by rw [ey]; exact BitVec.getLsbD_and
      have q2 : y.toBitVec.toNat.testBit j = (!x.toBitVec.toNat.testBit j && b.toBitVec.toNat.testBit j) := by
        have q3 := ab j hj
        unfold BitVec.getLsbD at q q3
        rw [q, q3]
      rw [q2, xb j, bb j]
      by_cases c : j < t
      · rw [if_pos c, if_pos c, decide_eq_true c]; rfl
      · rw [if_neg c, if_neg c, decide_eq_false c]
        by_cases d : j - t = 0
        · rw [d, Nat.testBit_zero, Nat.testBit_zero, show (2 * m + 1) % 2 = 1 from by omega]
          rfl
        · obtain ⟨k, hk⟩ : ∃ k, j - t = k + 1 := ⟨j - t - 1, by omega⟩
          rw [hk, Nat.testBit_succ, Nat.testBit_succ, show (2 * m + 1) / 2 = m from by omega, show (2 * m) / 2 = m from by omega]
          cases m.testBit k <;> rfl
    · rw [decide_eq_false (by omega)]
      exact Nat.testBit_lt_two_pow (Nat.lt_of_lt_of_le y.toBitVec.isLt (Nat.pow_le_pow_right (by decide) (by omega)))
  refine ⟨Nat.eq_of_testBit_eq (fun j => by rw [yn j, Nat.testBit_two_pow_sub_one]), t31, ?_, fun j hj => ?_⟩
  · show x.toBitVec.toNat.testBit t = true
    rw [xb t, if_neg (Nat.lt_irrefl t), Nat.sub_self, Nat.testBit_zero, show (2 * m + 1) % 2 = 1 from by omega]
    rfl
  · show x.toBitVec.toNat.testBit j = false
    rw [xb j, if_pos hj]
theorem zbd_1s {t : Nat} (h : 0 < t) : zbd (2 ^ t - 1) = t := by
  have p := Nat.pow_le_pow_right (show 0 < 2 by decide) h
  rw [Nat.pow_one] at p
  have a := zbd_2 (n := 2 ^ t - 1) (by omega)
  have c1 : zbd (2 ^ t - 1) ≤ t := zbd_le (by omega)
  rcases Nat.lt_or_ge (zbd (2 ^ t - 1)) t with c | c
  · have q := Nat.pow_le_pow_right (show 0 < 2 by decide) (show zbd (2 ^ t - 1) ≤ t - 1 by omega)
    have e : 2 ^ t = 2 * 2 ^ (t - 1) := by rw [← Nat.pow_succ']; congr 1; omega
    omega
  · omega
def zTzC (p a n : Int) : Prop := 0 < p → 0 < a ∧ (zbd p.toNat : Int) + 1 = zbd a.toNat + n
theorem zTzC_0 {p a n : Int} (h1 : a = p) (h2 : n = 1) : zTzC p a n := fun h => by subst h1; subst h2; exact ⟨h, rfl⟩
theorem zTzC_s {p a n a' n' : Int} (k : Nat) (h : zTzC p a n) (hk : ((2 ^ k : Nat) : Int) ≤ a) (ha : a' = a / ((2 ^ k : Nat) : Int)) (hn : n' = n + k) : zTzC p a' n' := fun h0 => by
  obtain ⟨q1, q2⟩ := h h0
  have pos : 0 < 2 ^ k := Nat.two_pow_pos k
  have e : a'.toNat = a.toNat / 2 ^ k := by
    rw [ha, ← Int.toNat_of_nonneg (show 0 ≤ a by omega)]
    rfl
  have g : 1 ≤ a.toNat / 2 ^ k := (Nat.one_le_div_iff pos).mpr (by omega)
  have s := zbd_s (k := k) (n := a.toNat) (by omega)
  rw [e]
  exact ⟨by omega, by omega⟩
theorem zTzC_e {p a n r : Int} (h : zTzC p a n) (h4 : a ≤ 4) (hr : r = n + a / 2) : 0 < p → r = (zbd p.toNat : Int) := fun h0 => by
  obtain ⟨q1, q2⟩ := h h0
  have b : zbd 1 = 1 ∧ zbd 2 = 2 ∧ zbd 3 = 2 ∧ zbd 4 = 3 := by decide
  have : a = 1 ∨ a = 2 ∨ a = 3 ∨ a = 4 := by omega
  rcases this with c | c | c | c <;> (rw [c] at q2 hr; first | (rw [show (1 : Int).toNat = 1 from rfl] at q2; omega) | (rw [show (2 : Int).toNat = 2 from rfl] at q2; omega) | (rw [show (3 : Int).toNat = 3 from rfl] at q2; omega) | (rw [show (4 : Int).toNat = 4 from rfl] at q2; omega))
theorem zCtz_i {x a b y : Int32} {r : Int} (ea : a = x ^^^ (-1)) (eb : b = x - 1) (ey : y = a &&& b) (h1 : 0 < y.toInt → r = (zbd y.toInt.toNat : Int)) (h2 : y.toInt = 0 → r = 0) : zCtz x r := fun hx => by
  have x0 : 0 < x.toBitVec.toNat := by
    rcases Nat.eq_zero_or_pos x.toBitVec.toNat with c | c
    · exfalso
      apply hx
      apply zeqi.mpr
      have q := ztoi x
      rw [c] at q
      rw [q]
      decide
    · exact c
  obtain ⟨t, m, e⟩ := zodd _ x0
  obtain ⟨y1, t1, b1, b2⟩ := zct_y ea eb ey e
  have p31 := Nat.pow_le_pow_right (show 0 < 2 by decide) t1
  have pos : 0 < 2 ^ t := Nat.two_pow_pos t
  have yi : y.toInt = ((2 ^ t - 1 : Nat) : Int) := by
    have q := ztoi y
    rw [y1, if_pos (by omega)] at q
    exact q
  have rt : r = (t : Int) := by
    by_cases c : t = 0
    · rw [c] at yi
      rw [h2 (yi.trans (by decide)), c]
      rfl
    · have p := Nat.pow_le_pow_right (show 0 < 2 by decide) (show 1 ≤ t by omega)
      rw [Nat.pow_one] at p
      rw [h1 (by omega), yi, Int.toNat_natCast, zbd_1s (by omega)]
  rw [rt]
  exact ⟨by omega, by omega, by rw [Int.toNat_natCast]; exact b1, fun j hj => b2 j (by omega)⟩
def zNf (row : Nat → Int32) (fr r : Int) : Prop := 0 ≤ fr → (r = -1 ∧ ∀ q : Nat, fr ≤ (q : Int) → q < 832 → zpb row q = false) ∨ (fr ≤ r ∧ r < 832 ∧ zpb row r.toNat = true ∧ ∀ q : Nat, fr ≤ (q : Int) → (q : Int) < r → zpb row q = false)
theorem zNf_o {row : Nat → Int32} {fr r : Int} (h : fr < 0 ∨ 832 ≤ fr) (hr : r = -1) : zNf row fr r := fun h0 => Or.inl ⟨hr, fun q h1 h2 => by omega⟩
def zNi (row : Nat → Int32) (fr : Int) (here : Int32) (i : Int) : Prop := 0 ≤ fr → (∀ q : Nat, fr ≤ (q : Int) → (q : Int) < 32 * i → zpb row q = false) ∧ (i = fr / 32 → ∀ j : Nat, j < 32 → here.toBitVec.getLsbD j = ((row i.toNat).toBitVec.getLsbD j && decide (fr % 32 ≤ (j : Int))))
theorem zsl {s z : Int32} (e : z = (-1) <<< (s &&& 31)) (h0 : 0 ≤ s.toInt) (h1 : s.toInt ≤ 31) (j : Nat) (hj : j < 32) : z.toBitVec.getLsbD j = decide (s.toInt ≤ (j : Int)) := by
  have key : ∀ k : Nat, k ≤ 31 → ∀ j : Nat, j < 32 → ((-1 : Int32) <<< (Int32.ofNat k &&& 31)).toBitVec.getLsbD j = decide (k ≤ j) := by decide +kernel
  have q2 : ∀ k : Nat, k ≤ 31 → (Int32.ofNat k).toInt = (k : Int) := by decide
  have es : s = Int32.ofNat s.toInt.toNat := zeqi.mpr (by rw [q2 _ (by omega)]; omega)
  have q := key s.toInt.toNat (by omega) j hj
  rw [← es, ← e] at q
  rw [q]
  exact decide_eq_decide.mpr (by omega)
theorem zNi_0 {row : Nat → Int32} {fr i : Int} {X M Hh S I : Int32} (hi : i = fr / 32) (hI : I.toInt = fr / 32) (hS : S.toInt = fr % 32) (eX : X = row I.toNatClampNeg) (eM : M = (-1) <<< (S &&& 31)) (eH : Hh = X &&& M) : zNi row fr Hh i := fun h0 => by
  refine ⟨fun q h1 h2 => by omega, fun _ j hj => ?_⟩
  have eI : I.toNatClampNeg = i.toNat := by have : I.toNatClampNeg = I.toInt.toNat := rfl; omega
  rw [eI] at eX
  have g := zsl eM (by omega) (by omega) j hj
  rw [eH, show (X &&& M).toBitVec = X.toBitVec &&& M.toBitVec from rfl, BitVec.getLsbD_and, g, eX, hS]
theorem zNi_z {row : Nat → Int32} {fr : Int} {here here' I : Int32} {i' : Int} (h : zNi row fr here I.toInt) (i0 : 0 ≤ I.toInt) (hi : fr / 32 ≤ I.toInt) (hh : (I.toInt ≤ fr / 32 ∧ here' = here) ∨ (fr / 32 < I.toInt ∧ here' = row I.toNatClampNeg)) (hz : here'.toInt = 0) (e : i' = I.toInt + 1) : zNi row fr here' i' := fun h0 => by
  obtain ⟨q1, q2⟩ := h h0
  have z : here' = 0 := zeqi.mpr (hz.trans (by decide))
  have eI : I.toNatClampNeg = I.toInt.toNat := rfl
  refine ⟨fun q h1 h2 => ?_, fun c => by omega⟩
  by_cases c : (q : Int) < 32 * I.toInt
  · exact q1 q h1 c
  · have e1 : q / 32 = I.toInt.toNat := by omega
    unfold zpb
    rw [e1]
    rcases hh with ⟨a, b⟩ | ⟨a, b⟩
    · have g := q2 (by omega) (q % 32) (by omega)
      rw [← b, z, decide_eq_true (show fr % 32 ≤ ((q % 32 : Nat) : Int) from by omega), Bool.and_true] at g
      rw [← g]
      exact BitVec.getLsbD_zero
    · rw [eI] at b
      rw [← b, z]
      exact BitVec.getLsbD_zero
theorem zNf_y {row : Nat → Int32} {fr r c : Int} {here here' I : Int32} (h : zNi row fr here I.toInt) (i0 : 0 ≤ I.toInt) (i1 : I.toInt < 26) (hi : fr / 32 ≤ I.toInt) (hh : (I.toInt ≤ fr / 32 ∧ here' = here) ∨ (fr / 32 < I.toInt ∧ here' = row I.toNatClampNeg)) (hz : here'.toInt ≠ 0) (hc : zCtz here' c) (e : r = 32 * I.toInt + c) : zNf row fr r := fun h0 => by
  obtain ⟨q1, q2⟩ := h h0
  obtain ⟨c1, c2, c3, c4⟩ := hc (fun d => hz (by rw [d]; decide))
  have eI : I.toNatClampNeg = I.toInt.toNat := rfl
  have hb : ∀ j : Nat, j < 32 → here'.toBitVec.getLsbD j = ((row I.toInt.toNat).toBitVec.getLsbD j && decide (fr ≤ 32 * I.toInt + (j : Int))) := fun j hj => by
    rcases hh with ⟨a, b⟩ | ⟨a, b⟩
    · rw [b, q2 (by omega) j hj]
      rw [decide_eq_decide.mpr (show fr % 32 ≤ (j : Int) ↔ fr ≤ 32 * I.toInt + (j : Int) from by omega)]
    · rw [b, eI, decide_eq_true (show fr ≤ 32 * I.toInt + (j : Int) from by omega), Bool.and_true]
  have g := hb c.toNat (by omega)
  rw [c3] at g
  have g2 := (Bool.and_eq_true_iff.mp g.symm)
  have g3 := of_decide_eq_true g2.2
  refine Or.inr ⟨by omega, by omega, ?_, fun q h1 h2 => ?_⟩
  · unfold zpb
    rw [show r.toNat / 32 = I.toInt.toNat from by omega, show r.toNat % 32 = c.toNat from by omega]
    exact g2.1
  · by_cases d : (q : Int) < 32 * I.toInt
    · exact q1 q h1 d
    · unfold zpb
      have e1 : q / 32 = I.toInt.toNat := by omega
      have k := hb (q % 32) (by omega)
      rw [c4 (q % 32) (by omega), decide_eq_true (show fr ≤ 32 * I.toInt + ((q % 32 : Nat) : Int) from by omega), Bool.and_true] at k
      rw [e1]
      exact k.symm
theorem zNf_e {row : Nat → Int32} {fr r i : Int} {here : Int32} (h : zNi row fr here i) (hi : 26 ≤ i) (hr : r = -1) : zNf row fr r := fun h0 => Or.inl ⟨hr, fun q h1 h2 => (h h0).1 q h1 (by omega)⟩
def znr (n : Int) (p q : Nat) : Prop := (p < 512 ↔ q < 512) ∧ (p : Int) ≤ (q : Int) + n ∧ (q : Int) ≤ (p : Int) + n
def zNr (A B : Nat → Int32) (n r : Int) : Prop := 0 ≤ n → n ≤ 1000 → (r = 1 ∧ ∃ p q : Nat, p < 832 ∧ q < 832 ∧ zpb A p = true ∧ zpb B q = true ∧ znr n p q) ∨ (r = 0 ∧ ∀ p q : Nat, p < 832 → q < 832 → zpb A p = true → zpb B q = true → ¬ znr n p q)
def zNw (A B : Nat → Int32) (n pl i : Int) : Prop := (pl = -1 ∧ ∀ p q : Nat, p < 832 → q < 832 → zpb A p = true → zpb B q = true → ¬ znr n p q) ∨ (0 ≤ pl ∧ pl < 832 ∧ i ≤ pl ∧ zpb A pl.toNat = true ∧ ∀ p q : Nat, (p : Int) < pl → q < 832 → zpb A p = true → zpb B q = true → ¬ znr n p q)
theorem zNw_0 {A B : Nat → Int32} {n pl i fr : Int} (h : zNf A fr pl) (hf : fr = 0) (hi : i = 0) : zNw A B n pl i := by
  rcases h (by omega) with ⟨a, b⟩ | ⟨a, b, c, d⟩
  · exact Or.inl ⟨a, fun p q h1 h2 h3 _ _ => by rw [b p (by omega) h1] at h3; exact absurd h3 (by decide)⟩
  · exact Or.inr ⟨by omega, b, by omega, c, fun p q h1 h2 h3 _ _ => by rw [d p (by omega) h1] at h3; exact absurd h3 (by decide)⟩
theorem zNw_s {A B : Nat → Int32} {n pl i pl' i' met fr fr2 bound : Int} (h : zNw A B n pl i) (n0 : 0 ≤ n) (hp : pl ≠ -1) (hm : zNf B fr met) (hl : (pl < 512 ∧ fr = max 0 (pl - n) ∧ bound = 512) ∨ (512 ≤ pl ∧ fr = max 512 (pl - n) ∧ bound = 832)) (hx : met = -1 ∨ bound ≤ met ∨ pl + n < met) (h2 : zNf A fr2 pl') (e2 : fr2 = pl + 1) (hi : i' = i + 1) : zNw A B n pl' i' := by
  rcases h with ⟨a, -⟩ | ⟨a1, a2, a3, a4, a5⟩
  · exact absurd a hp
  have none : ∀ q : Nat, q < 832 → zpb B q = true → ¬ znr n pl.toNat q := fun q q1 q2 ⟨r1, r2, r3⟩ => by
    rcases hm (by omega) with ⟨m1, m2⟩ | ⟨m1, m2, m3, m4⟩
    · rw [m2 q (by omega) q1] at q2
      exact absurd q2 (by decide)
    · by_cases c : (q : Int) < met
      · rw [m4 q (by omega) c] at q2
        exact absurd q2 (by decide)
      · omega
  rcases h2 (by omega) with ⟨b1, b2⟩ | ⟨b1, b2, b3, b4⟩
  · refine Or.inl ⟨b1, fun p q h1 h3 h4 h5 => ?_⟩
    rcases Int.lt_trichotomy (p : Int) pl with c | c | c
    · exact a5 p q c h3 h4 h5
    · rw [show p = pl.toNat from by omega]; exact none q h3 h5
    · rw [b2 p (by omega) h1] at h4
      exact absurd h4 (by decide)
  · refine Or.inr ⟨by omega, b2, by omega, b3, fun p q h1 h3 h4 h5 => ?_⟩
    rcases Int.lt_trichotomy (p : Int) pl with c | c | c
    · exact a5 p q c h3 h4 h5
    · rw [show p = pl.toNat from by omega]; exact none q h3 h5
    · rw [b4 p (by omega) h1] at h4
      exact absurd h4 (by decide)
theorem zNr_y {A B : Nat → Int32} {n pl i met fr bound r : Int} (h : 0 ≤ n → zNw A B n pl i) (hp : pl ≠ -1) (hm : zNf B fr met) (hl : (pl < 512 ∧ fr = max 0 (pl - n) ∧ bound = 512) ∨ (512 ≤ pl ∧ fr = max 512 (pl - n) ∧ bound = 832)) (h1 : met ≠ -1) (h2 : met < bound) (h3 : met ≤ pl + n) (hr : r = 1) : zNr A B n r := fun n0 _ => by
  rcases h n0 with ⟨a, -⟩ | ⟨a1, a2, a3, a4, a5⟩
  · exact absurd a hp
  · rcases hm (by omega) with ⟨m1, -⟩ | ⟨m1, m2, m3, m4⟩
    · exact absurd m1 h1
    · exact Or.inl ⟨hr, pl.toNat, met.toNat, by omega, by omega, a4, m3, ⟨by omega, by omega, by omega⟩⟩
theorem zNr_n {A B : Nat → Int32} {n pl i r : Int} (h : 0 ≤ n → zNw A B n pl i) (hx : 832 ≤ i ∨ pl = -1) (hr : r = 0) : zNr A B n r := fun n0 _ => by
  rcases h n0 with ⟨a, b⟩ | ⟨a1, a2, a3, a4, a5⟩
  · exact Or.inr ⟨hr, b⟩
  · omega
def zPgA (fc nx : Nat → Int32) (B : Nat → List Bool) (bl ck wh ins nu pc pl pa : Int) (T : Nat → Nat → Int) (w : Int) (D x : Nat) : Prop := nu = (x : Int) ∧ x < D ∧ 0 < zTm (T x) w 1024 ∧ pc = (zTm (T x) w 1024 : Int) ∧ pl = (zTm (T x) w 1024 : Int) ∧ pa = -1 ∧ ∃ R' : List Bool, zRr fc nx B bl ck wh ins (zrL (zPn (T x) w 1024) ++ R') ∧ zPq T w D = zPq T w (x + 1) ++ R'
def zPg (fc nx : Nat → Int32) (B : Nat → List Bool) (bl ck wh ins nu pc pl pa : Int) (T : Nat → Nat → Int) (w : Int) (D d : Nat) (i : Int) : Prop :=
  (∃ e : Nat, zRp fc nx B bl ck wh ins nu pl T w D e ∧ nu < (d : Int) ∧ i ≤ (e : Int)) ∨
  (∃ x : Nat, d ≤ x ∧ (∀ y : Nat, d ≤ y → y < x → ¬ 0 < zTm (T y) w 1024) ∧ zPgA fc nx B bl ck wh ins nu pc pl pa T w D x) ∨
  (nu = 120 ∧ ∀ y : Nat, d ≤ y → y < D → ¬ 0 < zTm (T y) w 1024)
theorem zLd_n2 {T : Nat → Nat → Int} {w : Int} : ∀ {e : Nat} {y : Nat}, zLd T w e < (y : Int) → y < e → ¬ 0 < zTm (T y) w 1024 := by
  intro e
  induction e with
  | zero => intro y _ h; omega
  | succ e ih =>
    intro y h hy
    by_cases c : 0 < zTm (T e) w 1024
    · rw [zLd_y c] at h
      omega
    · rw [zLd_n c] at h
      by_cases k : y = e
      · rw [k]; exact c
      · exact ih h (by omega)
section ZPG
variable {ro cs nx fc lc bt : Nat → Int32} {ch ru ab tk bl ck wh ins nu pc pl pa bl3 ck3 wh3 ins3 nu3 pc3 pl3 pa3 bl4 ck4 wh4 ins4 nu4 pc4 pl4 pa4 x i i' r : Int} {B : Nat → List Bool} {T : Nat → Nat → Int} {w : Int} {D d : Nat}
theorem zRp_A {x : Nat} (h : zPgA fc nx B bl ck wh ins nu pc pl pa T w D x) : zRp fc nx B bl ck wh ins nu pl T w D (x + 1) := by
  obtain ⟨h1, h2, h3, h4, h5, h6, R', h7, h8⟩ := h
  exact ⟨zPn (T x) w 1024, R', zPn_r (Nat.le_refl _), by rw [zPn_l]; exact h5.symm, h7, h8, by rw [zLd_y h3]; exact h1, h2⟩
theorem zPg_s (hP : zPB ro cs nx fc lc bt ch ru ab tk B) (hD : D ≤ 120) (h : zPg fc nx B bl3 ck3 wh3 ins3 nu3 pc3 pl3 pa3 T w D d i) (hn : zNo ro cs nx fc lc bt ch ru ab tk bl3 ck3 wh3 ins3 bl4 ck4 wh4 ins4 pl3 nu3 nu4 pc4 pl4 pa4 r) (h0 : r = 0 → nu4 = 120) (hx : nu3 < (d : Int)) (d1 : d ≤ 119) (hi : i' = i + 1) : zPg fc nx B bl4 ck4 wh4 ins4 nu4 pc4 pl4 pa4 T w D d i' := by
  rcases h with ⟨e, e1, e2, e3⟩ | ⟨x, x1, x2, x3⟩ | ⟨x1, x2⟩
  · have el : nu3 = zLd T w e := by obtain ⟨ms, R, -, -, -, -, q, -⟩ := e1; exact q
    have lo : ∀ y : Nat, d ≤ y → y < e → ¬ 0 < zTm (T y) w 1024 := fun y y1 y2 => zLd_n2 (e := e) (by omega) y2
    rcases zRp_n hP hD e1 hn with ⟨c1, c2⟩ | ⟨c0, d', R', c1, c2, c3, c4, c5, c6, c7, c8, c9, c10⟩
    · refine Or.inr (Or.inr ⟨h0 c1, fun y y1 y2 => ?_⟩)
      rcases Nat.lt_or_ge y e with k | k
      · exact lo y y1 k
      · exact c2 y k y2
    · have A : zPgA fc nx B bl4 ck4 wh4 ins4 nu4 pc4 pl4 pa4 T w D d' := ⟨c5, c2, c4, c6, c7, c8, R', c9, c10⟩
      rcases Nat.lt_or_ge d' d with k | k
      · exact Or.inl ⟨d' + 1, zRp_A A, by omega, by omega⟩
      · refine Or.inr (Or.inl ⟨d', k, fun y y1 y2 => ?_, A⟩)
        rcases Nat.lt_or_ge y e with j | j
        · exact lo y y1 j
        · exact c3 y j y2
  · have := x3.1
    omega
  · omega
def zPgE (fc nx : Nat → Int32) (B : Nat → List Bool) (bl ck wh ins nu pc pl pa : Int) (T : Nat → Nat → Int) (w : Int) (D x : Nat) (r : Int) : Prop := (r = 1 ∧ zPgA fc nx B bl ck wh ins nu pc pl pa T w D x) ∨ (r = 0 ∧ (x < D → ¬ 0 < zTm (T x) w 1024) ∧ zPg fc nx B bl ck wh ins nu pc pl pa T w D (x + 1) 0)
theorem zPg_e (hD : D ≤ 120) (h : zPg fc nx B bl ck wh ins nu pc pl pa T w D d i) (hx : (d : Int) ≤ nu ∨ 120 ≤ i) (d1 : d ≤ 119) (hr : (nu = (d : Int) ∧ r = 1) ∨ (nu ≠ (d : Int) ∧ r = 0)) : zPgE fc nx B bl ck wh ins nu pc pl pa T w D d r := by
  rcases h with ⟨e, e1, e2, e3⟩ | ⟨x, x1, x2, x3⟩ | ⟨x1, x2⟩
  · have eD : e ≤ D := by obtain ⟨ms, R, -, -, -, -, -, q⟩ := e1; exact q
    have el : nu = zLd T w e := by obtain ⟨ms, R, -, -, -, -, q, -⟩ := e1; exact q
    refine Or.inr ⟨by omega, fun k => zLd_n2 (e := e) (by omega) (by omega), Or.inl ⟨e, e1, by omega, by omega⟩⟩
  · have q := x3.1
    by_cases c : x = d
    · subst c
      exact Or.inl ⟨by omega, x3⟩
    · refine Or.inr ⟨by omega, fun _ => x2 d (Nat.le_refl _) (by omega), Or.inr (Or.inl ⟨x, by omega, fun y y1 y2 => x2 y (by omega) y2, x3⟩)⟩
  · refine Or.inr ⟨by omega, fun k => x2 d (Nat.le_refl _) k, Or.inr (Or.inr ⟨x1, fun y y1 y2 => x2 y (by omega) y2⟩)⟩
def zRa (ro cs nx fc lc bt : Nat → Int32) (ch ru ab tk bl ck wh ins nu pc pl pa bl3 ck3 wh3 ins3 nu3 pc3 pl3 pa3 x i : Int) : Prop := ∀ (B : Nat → List Bool) (T : Nat → Nat → Int) (w : Int) (D : Nat), D ≤ 120 → zPB ro cs nx fc lc bt ch ru ab tk B → zPg fc nx B bl ck wh ins nu pc pl pa T w D x.toNat 0 → zPg fc nx B bl3 ck3 wh3 ins3 nu3 pc3 pl3 pa3 T w D x.toNat i
theorem zRa_0 (hi : i = 0) : zRa ro cs nx fc lc bt ch ru ab tk bl ck wh ins nu pc pl pa bl ck wh ins nu pc pl pa x i := fun B T w D _ _ h => by rw [hi]; exact h
theorem zRa_s (h : zRa ro cs nx fc lc bt ch ru ab tk bl ck wh ins nu pc pl pa bl3 ck3 wh3 ins3 nu3 pc3 pl3 pa3 x i) (hn : zNo ro cs nx fc lc bt ch ru ab tk bl3 ck3 wh3 ins3 bl4 ck4 wh4 ins4 pl3 nu3 nu4 pc4 pl4 pa4 r) (h0 : r = 0 → nu4 = 120) (hx : nu3 < x) (x0 : 0 ≤ x) (x1 : x ≤ 119) (hi : i' = i + 1) : zRa ro cs nx fc lc bt ch ru ab tk bl ck wh ins nu pc pl pa bl4 ck4 wh4 ins4 nu4 pc4 pl4 pa4 x i' := fun B T w D hD hP hq => zPg_s hP hD (h B T w D hD hP hq) hn h0 (by omega) (by omega) hi
def zRch (ro cs nx fc lc bt : Nat → Int32) (ch ru ab tk bl ck wh ins nu pc pl pa bl3 ck3 wh3 ins3 nu3 pc3 pl3 pa3 x r : Int) : Prop := ∀ (B : Nat → List Bool) (T : Nat → Nat → Int) (w : Int) (D : Nat), D ≤ 120 → zPB ro cs nx fc lc bt ch ru ab tk B → zPg fc nx B bl ck wh ins nu pc pl pa T w D x.toNat 0 → zPgE fc nx B bl3 ck3 wh3 ins3 nu3 pc3 pl3 pa3 T w D x.toNat r
theorem zRch_e (h : zRa ro cs nx fc lc bt ch ru ab tk bl ck wh ins nu pc pl pa bl3 ck3 wh3 ins3 nu3 pc3 pl3 pa3 x i) (hx : x ≤ nu3 ∨ 120 ≤ i) (x0 : 0 ≤ x) (x1 : x ≤ 119) (hr : (nu3 = x ∧ r = 1) ∨ (nu3 ≠ x ∧ r = 0)) : zRch ro cs nx fc lc bt ch ru ab tk bl ck wh ins nu pc pl pa bl3 ck3 wh3 ins3 nu3 pc3 pl3 pa3 x r := fun B T w D hD hP hq => zPg_e hD (h B T w D hD hP hq) (by omega) (by omega) (by omega)
def zPgR (fc nx : Nat → Int32) (B : Nat → List Bool) (bl ck wh ins nu pl pa : Int) (T : Nat → Nat → Int) (w : Int) (D x : Nat) (j : Int) : Prop := nu = (x : Int) ∧ x < D ∧ 0 < zTm (T x) w 1024 ∧ 0 ≤ j ∧ j ≤ (zTm (T x) w 1024 : Int) ∧ pl = (zTm (T x) w 1024 : Int) - j ∧ pa = (((zPn (T x) w 1024).take j.toNat).sum : Int) - 1 ∧ ∃ R' : List Bool, zRr fc nx B bl ck wh ins (zrL ((zPn (T x) w 1024).drop j.toNat) ++ R') ∧ zPq T w D = zPq T w (x + 1) ++ R'
theorem zPgR_0 {x : Nat} {j : Int} (h : zPgA fc nx B bl ck wh ins nu pc pl pa T w D x) (hj : j = 0) : zPgR fc nx B bl ck wh ins nu pl pa T w D x j := by
  subst hj
  obtain ⟨h1, h2, h3, h4, h5, h6, R', h7, h8⟩ := h
  exact ⟨h1, h2, h3, by omega, by omega, by omega, h6, R', h7, h8⟩
end ZPG
theorem zPn_w {t : Nat → Int} {w : Int} : ∀ k : Nat, (∀ j : Nat, j < (zPn t w k).length → t (((zPn t w k).take (j + 1)).sum - 1) = w ∧ ((zPn t w k).take j).sum < ((zPn t w k).take (j + 1)).sum ∧ ((zPn t w k).take (j + 1)).sum ≤ k ∧ ∀ q : Nat, ((zPn t w k).take j).sum ≤ q → q + 1 < ((zPn t w k).take (j + 1)).sum → t q ≠ w) ∧ (∀ q : Nat, (zPn t w k).sum ≤ q → q < k → t q ≠ w) ∧ (zPn t w k).sum ≤ k := by
  intro k
  induction k with
  | zero => exact ⟨fun j hj => absurd hj (Nat.not_lt_zero _), fun q _ h => by omega, Nat.le_refl _⟩
  | succ k ih =>
    obtain ⟨i1, i2, i3⟩ := ih
    have s := zPn_s (t := t) (w := w) (k := k)
    by_cases c : t k = w
    · have e : zPn t w (k + 1) = zPn t w k ++ [((k : Int) - zLp t w k).toNat] := if_pos c
      generalize zPn t w k = L at e i1 i2 i3 s
      have m : ((k : Int) - zLp t w k).toNat = k + 1 - L.sum := by omega
      rw [m] at e
      rw [e]
      refine ⟨fun j hj => ?_, fun q h1 h2 => ?_, ?_⟩
      · rw [List.length_append, List.length_singleton] at hj
        by_cases d : j < L.length
        · rw [List.take_append_of_le_length (by omega), List.take_append_of_le_length (by omega)]
          have q := i1 j d
          exact ⟨q.1, q.2.1, by omega, q.2.2.2⟩
        · have ej : j = L.length := by omega
          have e1 : (L ++ [k + 1 - L.sum]).take (j + 1) = L ++ [k + 1 - L.sum] := List.take_of_length_le (by rw [List.length_append, List.length_singleton]; omega)
          have e2 : (L ++ [k + 1 - L.sum]).take j = L := by rw [ej]; exact List.take_left
          have e3 : (L ++ [k + 1 - L.sum]).sum = k + 1 := by rw [List.sum_append, List.sum_singleton]; omega
          rw [e1, e2, e3]
          exact ⟨c, by omega, Nat.le_refl _, fun q h1 h2 => i2 q h1 (by omega)⟩
      · rw [List.sum_append, List.sum_singleton] at h1
        omega
      · rw [List.sum_append, List.sum_singleton]
        omega
    · have e : zPn t w (k + 1) = zPn t w k := if_neg c
      rw [e]
      refine ⟨fun j hj => ?_, fun q h1 h2 => ?_, by omega⟩
      · have q := i1 j hj
        exact ⟨q.1, q.2.1, by omega, q.2.2.2⟩
      · by_cases d : q = k
        · rw [d]; exact c
        · exact i2 q h1 (by omega)
section ZPGR
variable {ro cs nx fc lc bt : Nat → Int32} {ch ru ab tk bl ck wh ins nu pc pl pa bl4 ck4 wh4 ins4 pl4 pa4 j j' r : Int} {B : Nat → List Bool} {T : Nat → Nat → Int} {w : Int} {D x : Nat}
theorem zPgR_s (hP : zPB ro cs nx fc lc bt ch ru ab tk B) (h : zPgR fc nx B bl ck wh ins nu pl pa T w D x j) (hj : j < (zTm (T x) w 1024 : Int)) (hn : zNp ro cs nx fc lc bt ch ru ab tk bl ck wh ins bl4 ck4 wh4 ins4 pl pa pl4 pa4 r) (e : j' = j + 1) : zPgR fc nx B bl4 ck4 wh4 ins4 nu pl4 pa4 T w D x j' ∧ 0 ≤ r ∧ r < 1024 ∧ T x r.toNat = w ∧ pa < r ∧ pa4 = r ∧ ∀ q : Nat, pa < (q : Int) → (q : Int) < r → T x q ≠ w := by
  obtain ⟨h1, h2, h3, h4, h5, h6, h7, R', h8, h9⟩ := h
  have l := zPn_l (t := T x) (w := w) (k := 1024)
  have lt : j.toNat < (zPn (T x) w 1024).length := by omega
  obtain ⟨w1, w2, w3, w4⟩ := (zPn_w (t := T x) (w := w) 1024).1 j.toNat lt
  have o := zPn_r (t := T x) (w := w) (k := 1024) (Nat.le_refl _) _ (List.getElem_mem lt)
  have tk : ((zPn (T x) w 1024).take (j.toNat + 1)).sum = ((zPn (T x) w 1024).take j.toNat).sum + (zPn (T x) w 1024)[j.toNat] := by
    rw [List.take_add_one, List.getElem?_eq_getElem lt, List.sum_append]
    show _ + ([(zPn (T x) w 1024)[j.toNat]]).sum = _
    rw [List.sum_singleton]
  rw [zrL_d lt, List.append_assoc] at h8
  generalize (zPn (T x) w 1024)[j.toNat] = m at o tk h8
  obtain ⟨n1, n2, n3, n4⟩ := hn B m _ hP o.1 o.2 h8 (by omega) (by omega) (by omega)
  have er : r.toNat = ((zPn (T x) w 1024).take (j.toNat + 1)).sum - 1 := by omega
  refine ⟨⟨h1, h2, h3, by omega, by omega, by omega, ?_, R', ?_, h9⟩, by omega, by omega, by rw [er]; exact w1, by omega, by omega, fun q q1 q2 => w4 q (by omega) (by omega)⟩
  · rw [show j'.toNat = j.toNat + 1 from by omega, n2, tk]
    omega
  · rw [show j'.toNat = j.toNat + 1 from by omega]
    exact n4
theorem zPgR_e (h : zPgR fc nx B bl ck wh ins nu pl pa T w D x j) (hj : (zTm (T x) w 1024 : Int) ≤ j) : zPg fc nx B bl ck wh ins nu pc pl pa T w D (x + 1) 0 ∧ ∀ q : Nat, pa < (q : Int) → q < 1024 → T x q ≠ w := by
  obtain ⟨h1, h2, h3, h4, h5, h6, h7, R', h8, h9⟩ := h
  have l := zPn_l (t := T x) (w := w) (k := 1024)
  have e : j.toNat = (zPn (T x) w 1024).length := by omega
  rw [e, List.drop_length] at h8
  rw [e, List.take_length] at h7
  have w5 := (zPn_w (t := T x) (w := w) 1024).2.1
  refine ⟨Or.inl ⟨x + 1, ⟨[], R', fun m hm => absurd hm List.not_mem_nil, by rw [h6]; show (0 : Int) = _; omega, h8, h9, by rw [zLd_y h3]; exact h1, h2⟩, by omega, by omega⟩, fun q q1 q2 => w5 q (by omega) q2⟩
end ZPGR
def zMb (ti bo : Nat → Int32) (D : Int) (T : Nat → Nat → Int) : Prop := ∀ d : Nat, (d : Int) < D → 0 ≤ (ti d).toInt ∧ (ti d).toInt ≤ 512 ∧ 0 ≤ (bo d).toInt ∧ (bo d).toInt ≤ 512 ∧ ∀ q : Nat, T d q ≠ 0 → (q : Int) < (ti d).toInt ∨ (512 ≤ q ∧ (q : Int) < 512 + (bo d).toInt)
def zEn (f : Nat → Int32) (n : Int) (g sz : Nat → Int32) (W : Int) (ta ke : Nat → Int32) (D : Int) (sg ssz : Nat → Int32) (sn : Int) (ti bo ti3 bo3 : Nat → Int32) : Prop := ∀ (S : Int → Bool) (T : Nat → Nat → Int) (V : List Int), zTy f n → n ≤ 600 → 0 ≤ n → zMs sg ssz sn → (∀ x, S x = true ↔ zQ sg ssz sn x) → zMd g sz W ta ke D T V → (∀ d : Nat, (d : Int) < D → ti3 d = ti d ∧ bo3 d = bo d) ∧ (zac f n S T V D → 0 ≤ (ti3 D.toNat).toInt ∧ (ti3 D.toNat).toInt ≤ 512 ∧ 0 ≤ (bo3 D.toNat).toInt ∧ (bo3 D.toNat).toInt ≤ 512 ∧ ∀ q : Nat, (zRq f n S V n.toNat).1 q ≠ 0 → (q : Int) < (ti3 D.toNat).toInt ∨ (512 ≤ q ∧ (q : Int) < 512 + (bo3 D.toNat).toInt))
theorem zEn_r {f g sz ta ke sg ssz g3 sz3 ta3 ke3 on ln mk un on3 ln3 mk3 un3 ti bo ti3 bo3 : Nat → Int32} {n W D sn W3 D3 r : Int} (h : zEm f n g sz W ta ke D sg ssz sn g3 sz3 W3 ta3 ke3 D3 on ln mk un on3 ln3 mk3 un3 r) (hr : r = -2) (e1 : zEq ti ti3 D) (e2 : zEq bo bo3 D) : zEn f n g sz W ta ke D sg ssz sn ti bo ti3 bo3 := fun S T V a1 a2 a3 a4 a5 a6 => by
  refine ⟨fun d hd => ⟨e1 d hd, e2 d hd⟩, fun hz => ?_⟩
  rcases h S T V a1 a2 a3 a4 a5 a6 with ⟨-, q, -⟩ | ⟨q, -⟩
  · have := a6.2.1; omega
  · exact absurd hz q
theorem zEn_a {f g sz ta ke sg ssz g3 sz3 ta3 ti bo ti3 bo3 : Nat → Int32} {n W D sn W3 k place isB crowd kept tt : Int} (h : zNe f n g sz W ta ke D sg ssz sn g3 sz3 W3 ta3 k place isB crowd kept tt) (hD : D < 120) (hx : n ≤ k ∨ crowd ≠ 0) (hc : crowd = 0) (b1 : (isB = 1 ∧ (ti3 D.toNat).toInt = tt ∧ (bo3 D.toNat).toInt = place - 512) ∨ (isB ≠ 1 ∧ (ti3 D.toNat).toInt = min place 512)) (b2 : 0 ≤ (bo3 D.toNat).toInt ∧ (bo3 D.toNat).toInt ≤ 512 ∧ (ti3 D.toNat).toInt ≤ 512) (b3 : 0 ≤ (ti3 D.toNat).toInt) (e1 : zEq ti ti3 D) (e2 : zEq bo bo3 D) : zEn f n g sz W ta ke D sg ssz sn ti bo ti3 bo3 := fun S T V q1 q2 q3 q4 q5 q6 => by
  refine ⟨fun d hd => ⟨e1 d hd, e2 d hd⟩, fun hz => ⟨b3, b2.2.2, b2.1, b2.2.1, fun q hq => ?_⟩⟩
  obtain ⟨x1, x2, x3⟩ := zNe_x (S := S) (T := T) (V := V) h hx ⟨q1, q2, q3, q4, q5, q6, hD⟩
  rcases x3 with ⟨y1, -⟩ | ⟨-, y2, N, y3⟩
  · exact absurd hc y1
  · obtain ⟨c1, c2, c3, c4, c5, c6, c7, c8, c9⟩ := y2
    rcases b1 with ⟨z1, z2, z3⟩ | ⟨z1, z2⟩
    · have c9' := c9 z1
      by_cases a : (q : Int) < tt
      · exact Or.inl (by omega)
      · by_cases b : q < 512
        · exact absurd (c9'.2 q (by omega) b) hq
        · refine Or.inr ⟨by omega, ?_⟩
          by_cases c : (q : Int) < place
          · omega
          · exact absurd (c7.2.1 q (by omega)) hq
    · have : place < 512 := by omega
      refine Or.inl ?_
      by_cases c : (q : Int) < place
      · omega
      · exact absurd (c7.2.1 q (by omega)) hq
