def ztk (b : Int) : Bool := decide (48 ≤ b ∧ b ≤ 57) || decide (97 ≤ b ∧ b ≤ 122) || decide (65 ≤ b ∧ b ≤ 90)
theorem ztk_i {b : Int} : ztk b = true ↔ zTok b := by
  unfold ztk zTok
  simp only [Bool.or_eq_true, decide_eq_true_eq]
  omega
def zinb (f : Nat → Int32) (n i : Int) : Bool := decide (0 ≤ i ∧ i < n) && ztk (f i.toNat).toInt
theorem zinb_i {f : Nat → Int32} {n i : Int} : zinb f n i = true ↔ zIn f n i := by
  unfold zinb
  rw [Bool.and_eq_true, decide_eq_true_eq, ztk_i]
  exact ⟨fun q => ⟨q.1.1, q.1.2, q.2⟩, fun q => ⟨⟨q.1, q.2.1⟩, q.2.2⟩⟩
theorem zinb_n {f : Nat → Int32} {n i : Int} : zinb f n i = false ↔ ¬ zIn f n i := by
  rw [← zinb_i]; cases zinb f n i <;> simp
def zrq (f : Nat → Int32) (n p : Int) : Nat → Nat
  | 0 => 0
  | k + 1 => if zinb f n (p + (k : Int)) = true ∧ zrq f n p k = k then k + 1 else zrq f n p k
theorem zrq_r {f : Nat → Int32} {n p : Int} : zRaw f n p (zrq f n p 12) := by
  have key : ∀ k : Nat, zrq f n p k ≤ k ∧ (∀ j : Nat, j < zrq f n p k → zIn f n (p + j)) ∧ (zrq f n p k = k ∨ ¬ zIn f n (p + (zrq f n p k : Nat))) := by
    intro k
    induction k with
    | zero => exact ⟨Nat.le_refl _, fun j hj => absurd hj (Nat.not_lt_zero _), Or.inl rfl⟩
    | succ k ih =>
      obtain ⟨i1, i2, i3⟩ := ih
      show (if zinb f n (p + (k : Int)) = true ∧ zrq f n p k = k then k + 1 else zrq f n p k) ≤ k + 1 ∧ (∀ j : Nat, j < (if zinb f n (p + (k : Int)) = true ∧ zrq f n p k = k then k + 1 else zrq f n p k) → zIn f n (p + j)) ∧ ((if zinb f n (p + (k : Int)) = true ∧ zrq f n p k = k then k + 1 else zrq f n p k) = k + 1 ∨ ¬ zIn f n (p + ((if zinb f n (p + (k : Int)) = true ∧ zrq f n p k = k then k + 1 else zrq f n p k : Nat) : Int)))
      by_cases c : zinb f n (p + (k : Int)) = true ∧ zrq f n p k = k
      · rw [if_pos c]
        refine ⟨Nat.le_refl _, fun j hj => ?_, Or.inl rfl⟩
        by_cases d : j = k
        · subst d; exact zinb_i.mp c.1
        · exact i2 j (by omega)
      · rw [if_neg c]
        refine ⟨by omega, i2, Or.inr ?_⟩
        by_cases d : zrq f n p k = k
        · rw [d]
          intro q
          exact c ⟨zinb_i.mpr q, d⟩
        · rcases i3 with i3 | i3
          · exact absurd i3 d
          · exact i3
  exact key 12
def zwd (f : Nat → Int32) (n p : Int) : Int := zWrd f p (zrq f n p 12)
theorem zwd_e {f : Nat → Int32} {n p x : Int} (h : ∃ m : Nat, zRaw f n p m ∧ x = zWrd f p m) : x = zwd f n p := by
  obtain ⟨m, h1, h2⟩ := h
  rw [h2, zRaw_u h1 zrq_r]
  rfl
theorem zwd_p {f : Nat → Int32} {n p : Int} (h : zIn f n p) : 1 ≤ zwd f n p := zWrd_pos zrq_r h
def zsb (f : Nat → Int32) (n p : Int) : Bool := zinb f n p && !zinb f n (p - 1)
def zkV (S : Int → Bool) (V : List Int) (w : Int) : List Int := if S w = true then V else if w ∈ V then V else if V.length < 400 then V ++ [w] else V
def zkO (S : Int → Bool) (V : List Int) (w : Int) : Bool := S w || decide (w ∈ V) || decide (V.length < 400)
def zkT (S : Int → Bool) (t : Nat → Int) (p w : Int) : Nat → Int := if S w = true then t else zuf t p.toNat w
def zkC (S : Int → Bool) (w : Int) : Nat := if S w = true then 0 else 1
def zRqs (f : Nat → Int32) (n : Int) (S : Int → Bool) (k : Nat) (x : (Nat → Int) × Int × List Int × Nat × Bool) : (Nat → Int) × Int × List Int × Nat × Bool := if x.2.2.2.2 = false then x else if x.2.1 < 512 ∧ (f k).toInt = 10 then (x.1, 512, x.2.2.1, x.2.2.2.1, true) else if zsb f n k = true then (if zkO S x.2.2.1 (zwd f n k) = true then (zkT S x.1 x.2.1 (zwd f n k), x.2.1 + 1, zkV S x.2.2.1 (zwd f n k), x.2.2.2.1 + zkC S (zwd f n k), true) else (x.1, x.2.1, x.2.2.1, x.2.2.2.1, false)) else x
def zRq (f : Nat → Int32) (n : Int) (S : Int → Bool) (V : List Int) : Nat → (Nat → Int) × Int × List Int × Nat × Bool
  | 0 => (fun _ => 0, 0, V, 0, true)
  | k + 1 => zRqs f n S k (zRq f n S V k)
def zTt (t : Nat → Int) (p : Int) (V : List Int) : Prop := 0 ≤ p ∧ (∀ k : Nat, p ≤ (k : Int) → t k = 0) ∧ ∀ k : Nat, t k = 0 ∨ t k ∈ V
def zGp (t : Nat → Int) (V : List Int) (id : Nat) : List Nat := (V[id]?).elim [] (fun w => zPn t w 1024)
def zCt (pl nx idl fi la tm : Nat → Int32) (kept dist : Int) (t : Nat → Int) (V : List Int) : Prop :=
  (∃ own : Nat → Nat, ∀ id, id < 400 → (tm id).toInt = ((zGp t V id).length : Int) ∧ ∃ path : Nat → Nat, (∀ j, j < (zGp t V id).length → (path j : Int) < kept ∧ own (path j) = id ∧ (pl (path j)).toInt = (((zGp t V id).take (j + 1)).sum : Int) - 1 ∧ (j + 1 < (zGp t V id).length → (nx (path j)).toInt = path (j + 1))) ∧ (0 < (zGp t V id).length → (fi id).toInt = path 0 ∧ (la id).toInt = path ((zGp t V id).length - 1))) ∧
  (∀ i : Nat, (i : Int) < dist → 0 ≤ (idl i).toInt ∧ (idl i).toInt < 400 ∧ 0 < (tm (idl i).toInt.toNat).toInt) ∧ (∀ i j : Nat, i < j → (j : Int) < dist → (idl i).toInt ≠ (idl j).toInt) ∧ (∀ id : Nat, id < 400 → 0 < (tm id).toInt → ∃ i : Nat, (i : Int) < dist ∧ (idl i).toInt = id) ∧ dist = (zsu (fun id => if 0 < (zGp t V id).length then 1 else 0) 400 : Nat) ∧ 0 ≤ kept
section ZPNA
variable {t : Nat → Int} {p w v : Int} {V : List Int}
theorem zPn_c {t t' : Nat → Int} {w : Int} : ∀ {k : Nat}, (∀ j, j < k → (t' j = w ↔ t j = w)) → zPn t' w k = zPn t w k ∧ zLp t' w k = zLp t w k ∧ zTm t' w k = zTm t w k := by
  intro k
  induction k with
  | zero => intro _; exact ⟨rfl, rfl, rfl⟩
  | succ k ih =>
    intro h
    obtain ⟨i1, i2, i3⟩ := ih (fun j hj => h j (by omega))
    have hk := h k (by omega)
    show (if t' k = w then zPn t' w k ++ [((k : Int) - zLp t' w k).toNat] else zPn t' w k) = (if t k = w then zPn t w k ++ [((k : Int) - zLp t w k).toNat] else zPn t w k) ∧ (if t' k = w then (k : Int) else zLp t' w k) = (if t k = w then (k : Int) else zLp t w k) ∧ (if t' k = w then zTm t' w k + 1 else zTm t' w k) = (if t k = w then zTm t w k + 1 else zTm t w k)
    rw [i1, i2, i3]
    by_cases c : t k = w
    · rw [if_pos c, if_pos c, if_pos c, if_pos (hk.mpr c), if_pos (hk.mpr c), if_pos (hk.mpr c)]; exact ⟨rfl, rfl, rfl⟩
    · rw [if_neg c, if_neg c, if_neg c, if_neg (fun q => c (hk.mp q)), if_neg (fun q => c (hk.mp q)), if_neg (fun q => c (hk.mp q))]; exact ⟨rfl, rfl, rfl⟩
theorem zPn_z {t : Nat → Int} {w : Int} {a : Nat} : ∀ {k : Nat}, a ≤ k → (∀ j, a ≤ j → j < k → t j ≠ w) → zPn t w k = zPn t w a ∧ zLp t w k = zLp t w a ∧ zTm t w k = zTm t w a := by
  intro k
  induction k with
  | zero => intro h _; rw [show a = 0 from by omega]; exact ⟨rfl, rfl, rfl⟩
  | succ k ih =>
    intro h hz
    by_cases c : a = k + 1
    · subst c; exact ⟨rfl, rfl, rfl⟩
    · have q := hz k (by omega) (by omega)
      have i := ih (by omega) (fun j h1 h2 => hz j h1 (by omega))
      show (if t k = w then zPn t w k ++ [((k : Int) - zLp t w k).toNat] else zPn t w k) = _ ∧ (if t k = w then (k : Int) else zLp t w k) = _ ∧ (if t k = w then zTm t w k + 1 else zTm t w k) = _
      rw [if_neg q, if_neg q, if_neg q]
      exact i
theorem zPn_a (h0 : 0 ≤ p) (h1 : p < 1024) (hz : ∀ k : Nat, p ≤ (k : Int) → t k = 0) (hw : w ≠ 0) : zPn (zuf t p.toNat w) w 1024 = zPn t w 1024 ++ [(p - zLp t w 1024).toNat] ∧ zLp (zuf t p.toNat w) w 1024 = p ∧ zTm (zuf t p.toNat w) w 1024 = zTm t w 1024 + 1 := by
  have a1 := zPn_z (t := t) (w := w) (a := p.toNat) (k := 1024) (by omega) (fun j h2 _ e => hw (by rw [← e]; exact hz j (by omega)))
  have a2 := zPn_c (t := t) (t' := zuf t p.toNat w) (w := w) (k := p.toNat) (fun j hj => by rw [zuf_n (by omega)])
  have a3 := zPn_z (t := zuf t p.toNat w) (w := w) (a := p.toNat + 1) (k := 1024) (by omega) (fun j h2 _ => by
    rw [zuf_n (by omega), hz j (by omega)]; exact fun e => hw e.symm)
  have a4 : zPn (zuf t p.toNat w) w (p.toNat + 1) = zPn t w p.toNat ++ [(((p.toNat : Nat) : Int) - zLp t w p.toNat).toNat] ∧ zLp (zuf t p.toNat w) w (p.toNat + 1) = ((p.toNat : Nat) : Int) ∧ zTm (zuf t p.toNat w) w (p.toNat + 1) = zTm t w p.toNat + 1 := by
    have e : zuf t p.toNat w p.toNat = w := zuf_s
    rw [← a2.1, ← a2.2.1, ← a2.2.2]
    exact ⟨if_pos e, if_pos e, if_pos e⟩
  rw [a3.1, a3.2.1, a3.2.2, a4.1, a4.2.1, a4.2.2, a1.1, a1.2.1, a1.2.2, show ((p.toNat : Nat) : Int) = p from by omega]
  exact ⟨rfl, rfl, rfl⟩
theorem zPn_v (hz : t p.toNat = 0) (hv : v ≠ 0) (hvw : v ≠ w) : zPn (zuf t p.toNat w) v 1024 = zPn t v 1024 ∧ zLp (zuf t p.toNat w) v 1024 = zLp t v 1024 ∧ zTm (zuf t p.toNat w) v 1024 = zTm t v 1024 := zPn_c (fun j _ => by
  by_cases c : j = p.toNat
  · subst c
    rw [zuf_s, hz]
    exact ⟨fun e => absurd e.symm hvw, fun e => absurd e.symm hv⟩
  · rw [zuf_n c])
theorem zPn_0 (h : ∀ k : Nat, t k ≠ w) : zPn t w 1024 = [] ∧ zLp t w 1024 = -1 ∧ zTm t w 1024 = 0 := zPn_z (a := 0) (Nat.zero_le _) (fun j _ _ => h j)
theorem zPn_t {j k : Nat} (hj : j < k) (hk : k ≤ (zPn t w 1024).length) : ((zPn t w 1024).take j).sum < ((zPn t w 1024).take k).sum := by
  induction k with
  | zero => omega
  | succ k ih =>
    have hl : k < (zPn t w 1024).length := by omega
    have hm := (zPn_o (t := t) (w := w) (k := 1024) _ (List.getElem_mem hl)).1
    have e : (zPn t w 1024).take (k + 1) = (zPn t w 1024).take k ++ [(zPn t w 1024)[k]] := by rw [List.take_succ, List.getElem?_eq_getElem hl]; rfl
    rw [e, List.sum_append, List.sum_cons, List.sum_nil]
    by_cases c : j = k
    · subst c; omega
    · have := ih (by omega) (by omega); omega
end ZPNA
theorem zsb_1 {f : Nat → Int32} {n p q : Int} (h1 : zIn f n p) (h2 : ¬ zIn f n q) (e : q = p - 1) : zsb f n p = true := by
  unfold zsb
  rw [← e, zinb_i.mpr h1, zinb_n.mpr h2]; rfl
theorem zsb_0 {f : Nat → Int32} {n p : Int} (h : ¬ zIn f n p ∨ zIn f n (p - 1)) : zsb f n p = false := by
  unfold zsb
  rcases h with h | h
  · rw [zinb_n.mpr h]; rfl
  · rw [zinb_i.mpr h, Bool.not_true, Bool.and_false]
section ZCT
variable {pl nx idl fi la tm pl' nx' idl' fi' la' tm' : Nat → Int32} {kept dist kept' dist' p p' w : Int} {t : Nat → Int} {V : List Int} {id0 : Nat}
theorem zGp_s {v : Int} {id : Nat} (h : V[id]? = some v) : zGp t V id = zPn t v 1024 := by unfold zGp; rw [h]; rfl
theorem zGp_n {id : Nat} (h : V[id]? = none) : zGp t V id = [] := by unfold zGp; rw [h]; rfl
theorem zsu_z {n : Nat} : zsu (fun _ => 0) n = 0 := by
  induction n with
  | zero => rfl
  | succ n ih => show zsu (fun _ => 0) n + 0 = 0; rw [ih]
theorem zCt_0 (hV : ∀ x ∈ V, x ≠ 0) (h : ∀ j : Nat, j < 400 → tm j = 0) (hk : kept = 0) (hd : dist = 0) : zCt pl nx idl fi la tm kept dist (fun _ => 0) V := by
  have e : ∀ id, zGp (fun _ => 0) V id = [] := fun id => by
    cases hv : V[id]? with
    | none => exact zGp_n hv
    | some v => rw [zGp_s hv]; exact (zPn_0 (fun k e => hV v (List.mem_of_getElem? hv) e.symm)).1
  refine ⟨⟨fun _ => 0, fun id hid => ⟨by rw [h id hid, e]; rfl, fun _ => 0, fun j hj => ?_, fun hj => ?_⟩⟩, fun i hi => by omega, fun i j _ hj => by omega, fun id hid hq => ?_, ?_, by omega⟩
  · rw [e] at hj; exact absurd hj (Nat.not_lt_zero _)
  · rw [e] at hj; exact absurd hj (Nat.not_lt_zero _)
  · rw [h id hid] at hq; exact absurd hq (by decide)
  · have : (fun id => if 0 < (zGp (fun _ => 0) V id).length then 1 else 0) = fun _ => 0 := funext fun id => by rw [e]; rfl
    rw [hd, this, zsu_z]
    rfl
theorem zCt_e {t' : Nat → Int} {V' : List Int} (h : zCt pl nx idl fi la tm kept dist t V) (e : ∀ id, zGp t' V' id = zGp t V id) : zCt pl nx idl fi la tm kept dist t' V' := by
  unfold zCt at h ⊢
  simp only [e]
  exact h
theorem zGp_x (hw : ∀ k : Nat, t k ≠ w) (id : Nat) : zGp t (V ++ [w]) id = zGp t V id := by
  unfold zGp
  rcases Nat.lt_trichotomy id V.length with c | c | c
  · rw [List.getElem?_append_left c]
  · rw [c, List.getElem?_append_right (Nat.le_refl _), Nat.sub_self, List.getElem?_eq_none (Nat.le_refl _)]
    exact (zPn_0 hw).1
  · rw [List.getElem?_eq_none (by rw [List.length_append, List.length_singleton]; omega), List.getElem?_eq_none (by omega)]
theorem zCt_a (h : zCt pl nx idl fi la tm kept dist t V) (hid : id0 < 400) (hv : V[id0]? = some w) (hnd : V.Nodup) (hV : ∀ x ∈ V, x ≠ 0) (ht : zTt t p V) (hp : p < 1024)
    (hpl : ∀ q : Nat, (pl' q).toInt = if (q : Int) = kept then p else (pl q).toInt) (htm : ∀ q : Nat, (tm' q).toInt = if q = id0 then (tm id0).toInt + 1 else (tm q).toInt) (hla : ∀ q : Nat, (la' q).toInt = if q = id0 then kept else (la q).toInt)
    (hfi : ∀ q : Nat, (fi' q).toInt = if q = id0 ∧ (tm id0).toInt = 0 then kept else (fi q).toInt) (hnx : ∀ q : Nat, (q : Int) < kept → (nx' q).toInt = if (q : Int) = (la id0).toInt ∧ (tm id0).toInt ≠ 0 then kept else (nx q).toInt) (hk : kept' = kept + 1)
    (hdi : ((tm id0).toInt ≠ 0 ∧ dist' = dist ∧ ∀ q : Nat, (idl' q).toInt = (idl q).toInt) ∨ ((tm id0).toInt = 0 ∧ dist' = dist + 1 ∧ ∀ q : Nat, (idl' q).toInt = if (q : Int) = dist then (id0 : Int) else (idl q).toInt)) : zCt pl' nx' idl' fi' la' tm' kept' dist' (zuf t p.toNat w) V := by
  obtain ⟨⟨own, ho⟩, h2, h3, h4, h5, h6⟩ := h
  have hw : w ≠ 0 := hV w (List.mem_of_getElem? hv)
  have hz : t p.toNat = 0 := ht.2.1 _ (by have := ht.1; omega)
  have ga := zPn_a (t := t) (p := p) (w := w) ht.1 hp ht.2.1 hw
  have g0 : zGp (zuf t p.toNat w) V id0 = zGp t V id0 ++ [(p - zLp t w 1024).toNat] := by rw [zGp_s hv, zGp_s hv]; exact ga.1
  have gn : ∀ id, id ≠ id0 → zGp (zuf t p.toNat w) V id = zGp t V id := fun id hne => by
    cases hu : V[id]? with
    | none => rw [zGp_n hu, zGp_n hu]
    | some v =>
      rw [zGp_s hu, zGp_s hu]
      refine (zPn_v hz (hV v (List.mem_of_getElem? hu)) (fun e => ?_)).1
      rw [e] at hu
      have l1 : id < V.length := by
        rcases Nat.lt_or_ge id V.length with c | c
        · exact c
        · rw [List.getElem?_eq_none c] at hu; exact absurd hu (by simp)
      have l2 : id0 < V.length := by
        rcases Nat.lt_or_ge id0 V.length with c | c
        · exact c
        · rw [List.getElem?_eq_none c] at hv; exact absurd hv (by simp)
      rw [List.getElem?_eq_getElem l1] at hu
      rw [List.getElem?_eq_getElem l2] at hv
      have hp := List.pairwise_iff_getElem.mp hnd
      rcases Nat.lt_trichotomy id id0 with c | c | c
      · exact hp _ _ l1 l2 c (by rw [Option.some.inj hu, Option.some.inj hv])
      · exact hne c
      · exact hp _ _ l2 l1 c (by rw [Option.some.inj hu, Option.some.inj hv])
  have hs := zPn_s (t := t) (w := w) (k := 1024)
  have hb := zLp_b (t := t) (w := w) (k := 1024)
  have lp : zLp t w 1024 < p := by
    have a1 := zPn_z (t := t) (w := w) (a := p.toNat) (k := 1024) (by have := ht.1; omega) (fun j h2 _ e => hw (by rw [← e]; exact ht.2.1 j (by have := ht.1; omega)))
    have := zLp_b (t := t) (w := w) (k := p.toNat)
    have := ht.1
    rw [a1.2.1]; omega
  refine ⟨⟨zuf own kept.toNat id0, fun id hi => ?_⟩, ?_, ?_, ?_, ?_, by omega⟩
  · by_cases c : id = id0
    · subst c
      obtain ⟨o1, path, o2, o3⟩ := ho id hi
      rw [g0, htm, if_pos rfl, List.length_append, List.length_singleton]
      refine ⟨by omega, zuf path (zGp t V id).length kept.toNat, fun j hj => ?_, fun _ => ⟨?_, ?_⟩⟩
      · by_cases d : j = (zGp t V id).length
        · subst d
          rw [zuf_s, zuf_s, hpl, if_pos (by omega), List.take_of_length_le (by rw [List.length_append, List.length_singleton]; omega), List.sum_append, List.sum_cons, List.sum_nil]
          refine ⟨by omega, rfl, ?_, fun q => by omega⟩
          rw [zGp_s hv]
          omega
        · obtain ⟨p1, p2, p3, p4⟩ := o2 j (by omega)
          rw [zuf_n d, zuf_n (by omega), hpl, if_neg (by omega), List.take_append_of_le_length (by omega)]
          refine ⟨by omega, p2, p3, fun q => ?_⟩
          rw [hnx _ p1]
          have o4 := o3 (by omega)
          by_cases e : j + 1 = (zGp t V id).length
          · rw [e, zuf_s, if_pos ⟨by rw [o4.2, show (zGp t V id).length - 1 = j from by omega], by omega⟩]
            omega
          · rw [zuf_n e, if_neg, p4 (by omega)]
            rintro ⟨e1, -⟩
            rw [o4.2] at e1
            have e2 : path j = path ((zGp t V id).length - 1) := by omega
            have p5 := (o2 ((zGp t V id).length - 1) (by omega)).2.2.1
            rw [← e2, p3] at p5
            have p6 := zPn_t (t := t) (w := w) (j := j + 1) (k := (zGp t V id).length - 1 + 1) (by omega) (by rw [← zGp_s hv]; omega)
            rw [← zGp_s hv] at p6
            omega
      · rw [hfi]
        by_cases e : (zGp t V id).length = 0
        · rw [if_pos ⟨rfl, by omega⟩, e, zuf_s]; omega
        · rw [if_neg (by omega), zuf_n (by omega)]; exact (o3 (by omega)).1
      · rw [hla, if_pos rfl, Nat.add_sub_cancel, zuf_s]; omega
    · obtain ⟨o1, path, o2, o3⟩ := ho id hi
      rw [gn id c, htm, if_neg c]
      refine ⟨o1, path, fun j hj => ?_, fun hj => ?_⟩
      · obtain ⟨p1, p2, p3, p4⟩ := o2 j hj
        rw [zuf_n (by omega), hpl, if_neg (by omega), hnx _ p1]
        refine ⟨by omega, p2, p3, fun q => ?_⟩
        rw [if_neg, p4 q]
        rintro ⟨e1, e2⟩
        obtain ⟨r1, path0, r2, r3⟩ := ho id0 hid
        have r4 := (r3 (by omega)).2
        have e3 : path j = path0 ((zGp t V id0).length - 1) := by omega
        have r5 := (r2 ((zGp t V id0).length - 1) (by omega)).2.1
        rw [← e3, p2] at r5
        exact c r5
      · rw [hfi, if_neg (fun q => c q.1), hla, if_neg c]; exact o3 hj
  · intro q hq
    rcases hdi with ⟨d1, d2, d3⟩ | ⟨d1, d2, d3⟩
    · have := h2 q (by omega)
      rw [d3, htm]
      refine ⟨this.1, this.2.1, ?_⟩
      split
      · have := (ho id0 hid).1; omega
      · exact this.2.2
    · rw [d3]
      by_cases e : (q : Int) = dist
      · rw [if_pos e, Int.toNat_natCast, htm, if_pos rfl]; omega
      · have := h2 q (by omega)
        rw [if_neg e, htm]
        refine ⟨this.1, this.2.1, ?_⟩
        split
        · omega
        · exact this.2.2
  · intro a b hab hbq
    rcases hdi with ⟨d1, d2, d3⟩ | ⟨d1, d2, d3⟩
    · rw [d3, d3]; exact h3 a b hab (by omega)
    · rw [d3, d3, if_neg (show ¬ (a : Int) = dist from by omega)]
      by_cases e : (b : Int) = dist
      · have := h2 a (by omega)
        rw [if_pos e]
        intro e2
        rw [e2, Int.toNat_natCast] at this
        omega
      · rw [if_neg e]; exact h3 a b hab (by omega)
  · intro id hi hq
    rw [htm] at hq
    rcases hdi with ⟨d1, d2, d3⟩ | ⟨d1, d2, d3⟩
    · have : 0 < (tm id).toInt := by
        by_cases c : id = id0
        · subst c; have := (ho id hi).1; omega
        · rw [if_neg c] at hq; exact hq
      obtain ⟨q, q1, q2⟩ := h4 id hi this
      exact ⟨q, by omega, by rw [d3]; exact q2⟩
    · by_cases c : id = id0
      · have := h5
        exact ⟨dist.toNat, by omega, by rw [d3, if_pos (by omega)]; omega⟩
      · rw [if_neg c] at hq
        obtain ⟨q, q1, q2⟩ := h4 id hi hq
        exact ⟨q, by omega, by rw [d3, if_neg (by omega)]; exact q2⟩
  · have o1 := (ho id0 hid).1
    have q := zsu_u (F := fun id => if 0 < (zGp (zuf t p.toNat w) V id).length then 1 else 0) (G := fun id => if 0 < (zGp t V id).length then 1 else 0) hid (fun id _ c => by rw [gn id c])
    rw [g0, List.length_append, List.length_singleton, if_pos (show 0 < (zGp t V id0).length + 1 from by omega)] at q
    rcases hdi with ⟨d1, d2, d3⟩ | ⟨d1, d2, d3⟩
    · rw [if_pos (show 0 < (zGp t V id0).length from by omega)] at q
      omega
    · rw [if_neg (show ¬ 0 < (zGp t V id0).length from by omega)] at q
      omega
theorem zTt_a (ht : zTt t p V) (hv : w ∈ V) (hp : p' = p + 1) : zTt (zuf t p.toNat w) p' V := by
  have := ht.1
  refine ⟨by omega, fun k hk => ?_, fun k => ?_⟩
  · rw [zuf_n (by omega)]; exact ht.2.1 k (by omega)
  · by_cases c : k = p.toNat
    · subst c; rw [zuf_s]; exact Or.inr hv
    · rw [zuf_n c]; exact ht.2.2 k
theorem zTt_x (ht : zTt t p V) : zTt t p (V ++ [w]) := ⟨ht.1, ht.2.1, fun k => (ht.2.2 k).imp id (fun q => List.mem_append_left _ q)⟩
theorem zTt_m (ht : zTt t p V) (h : p ≤ p') : zTt t p' V := ⟨by have := ht.1; omega, fun k hk => ht.2.1 k (by omega), ht.2.2⟩
end ZCT
theorem zCt_b {pl nx idl fi la tm pl' nx' idl' fi' la' tm' : Nat → Int32} {kept' dist' p w : Int} {t : Nat → Int} {V : List Int} {K D P I Z M L : Int32} (h : zCt pl nx idl fi la tm K.toInt D.toInt t V) (hI0 : 0 ≤ I.toInt) (hI1 : I.toInt < 400) (hD0 : 0 ≤ D.toInt) (hL0 : 0 ≤ L.toInt) (hv : V[I.toInt.toNat]? = some w) (hnd : V.Nodup) (hV : ∀ x ∈ V, x ≠ 0) (ht : zTt t p V) (hp : p < 1024) (e1 : pl' = upd pl K.toNatClampNeg P) (hP : P.toInt = p) (e4 : la' = upd la I.toNatClampNeg K) (e5 : tm' = upd tm I.toNatClampNeg Z) (hZ : Z.toInt = (tm I.toNatClampNeg).toInt + 1) (hk : kept' = K.toInt + 1)
    (hc : ((tm I.toNatClampNeg).toInt = 0 ∧ fi' = upd fi I.toNatClampNeg K ∧ nx' = upd nx K.toNatClampNeg M ∧ idl' = upd idl D.toNatClampNeg I ∧ dist' = D.toInt + 1) ∨ ((tm I.toNatClampNeg).toInt ≠ 0 ∧ fi' = fi ∧ nx' = upd (upd nx K.toNatClampNeg M) L.toNatClampNeg K ∧ L = la I.toNatClampNeg ∧ idl' = idl ∧ dist' = D.toInt)) : zCt pl' nx' idl' fi' la' tm' kept' dist' (zuf t p.toNat w) V := by
  have hK := h.2.2.2.2.2
  have ck : ∀ (X : Int32) (q : Nat), 0 ≤ X.toInt → (q = X.toNatClampNeg ↔ (q : Int) = X.toInt) := fun X q h => by have := zclamp h; omega
  have cI : I.toNatClampNeg = I.toInt.toNat := rfl
  rw [cI] at e4 e5 hZ hc
  refine zCt_a h (id0 := I.toInt.toNat) (by omega) hv hnd hV ht hp (fun q => ?_) (fun q => ?_) (fun q => ?_) (fun q => ?_) (fun q hq => ?_) hk ?_
  · rw [e1]
    by_cases c : q = K.toNatClampNeg
    · rw [if_pos ((ck K q hK).mp c), c, pk_us, hP]
    · rw [if_neg (fun d => c ((ck K q hK).mpr d)), pk_un c]
  · rw [e5]
    by_cases c : q = I.toInt.toNat
    · rw [if_pos c, c, pk_us, hZ]
    · rw [if_neg c, pk_un c]
  · rw [e4]
    by_cases c : q = I.toInt.toNat
    · rw [if_pos c, c, pk_us]
    · rw [if_neg c, pk_un c]
  · rcases hc with ⟨c0, f, -⟩ | ⟨c0, f, -⟩
    · rw [f]
      by_cases c : q = I.toInt.toNat
      · rw [if_pos ⟨c, c0⟩, c, pk_us]
      · rw [if_neg (fun d => c d.1), pk_un c]
    · rw [f, if_neg (fun d => c0 d.2)]
  · have nk : q ≠ K.toNatClampNeg := fun d => by have := (ck K q hK).mp d; omega
    rcases hc with ⟨c0, -, f, -⟩ | ⟨c0, -, f, eL, -⟩
    · rw [f, pk_un nk, if_neg (fun d => d.2 c0)]
    · rw [f, ← eL]
      by_cases c : q = L.toNatClampNeg
      · rw [if_pos ⟨(ck L q hL0).mp c, c0⟩, c, pk_us]
      · rw [if_neg (fun d => c ((ck L q hL0).mpr d.1)), pk_un c, pk_un nk]
  · rcases hc with ⟨c0, -, -, f, d⟩ | ⟨c0, -, -, -, f, d⟩
    · refine Or.inr ⟨c0, d, fun q => ?_⟩
      rw [f]
      by_cases c : q = D.toNatClampNeg
      · rw [if_pos ((ck D q hD0).mp c), c, pk_us]; omega
      · rw [if_neg (fun e => c ((ck D q hD0).mpr e)), pk_un c]
    · exact Or.inl ⟨c0, d, fun q => by rw [f]⟩
def zKe (s : Nat → Int64) (i fr : Nat → Int32) (n : Int) (s2 : Nat → Int64) (n2 : Int) (pl nx idl fi la tm : Nat → Int32) (kept dist : Int) (s' : Nat → Int64) (i' fr' : Nat → Int32) (n' : Int) (pl' nx' idl' fi' la' tm' : Nat → Int32) (kept' dist' w p r : Int) : Prop := ∀ (S : Int → Bool) (V : List Int) (t : Nat → Int), zSrt s2 n2 → (∀ x, S x = true ↔ zHas s2 n2 x) → zVo s i fr n V → (∀ x ∈ V, x ≠ 0) → zCt pl nx idl fi la tm kept dist t V → zTt t p V → p < 1024 → kept < 300 → w ≠ 0 → zVo s' i' fr' n' (zkV S V w) ∧ (∀ x ∈ zkV S V w, x ≠ 0) ∧ r = (if zkO S V w = true then 1 else 0) ∧ (zkO S V w = true → zCt pl' nx' idl' fi' la' tm' kept' dist' (zkT S t p w) (zkV S V w) ∧ zTt (zkT S t p w) (p + 1) (zkV S V w) ∧ kept' = kept + zkC S w)
section ZKE
variable {s s' s2 : Nat → Int64} {i fr i' fr' : Nat → Int32} {n n' n2 kept' dist' w p r r5 id : Int} {pl nx idl fi la tm pl' nx' idl' fi' la' tm' : Nat → Int32} {K D P I Z M L : Int32}
theorem zKe_s {kept dist : Int} (h5 : zRf s2 n2 w r5) (hne : r5 ≠ -1) (hr : r = 1) : zKe s i fr n s2 n2 pl nx idl fi la tm kept dist s i fr n pl nx idl fi la tm kept dist w p r := fun S V t hs hS hV hV0 hC hT _ _ _ => by
  have hw : S w = true := by
    rw [hS]
    rcases h5 hs with ⟨q, -⟩ | ⟨q1, q2, q3⟩
    · exact absurd q hne
    · exact ⟨r5.toNat, by omega, q3⟩
  have e1 : zkV S V w = V := if_pos hw
  have e2 : zkT S t p w = t := if_pos hw
  have e3 : zkC S w = 0 := if_pos hw
  have e4 : zkO S V w = true := by unfold zkO; rw [hw]; rfl
  rw [e1, e2, e3, e4]
  exact ⟨hV, hV0, hr, fun _ => ⟨hC, zTt_m hT (by omega), by omega⟩⟩
theorem zKe_n (h5 : zRf s2 n2 w r5) (he : r5 = -1) {S : Int → Bool} (hs : zSrt s2 n2) (hS : ∀ x, S x = true ↔ zHas s2 n2 x) : S w = false := by
  cases c : S w
  · rfl
  · obtain ⟨a, a1, a2⟩ := (hS w).mp c
    rcases h5 hs with ⟨-, q⟩ | ⟨q, -⟩
    · exact absurd a2 (q a a1)
    · omega
theorem zKe_y (h5 : zRf s2 n2 w r5) (he : r5 = -1) (hid : ∀ V : List Int, zVo s i fr n V → zIf V w I.toInt) (hne : I.toInt ≠ -1) (hI1 : I.toInt < 400) (hD0 : 0 ≤ D.toInt) (hL0 : 0 ≤ L.toInt) (e1 : pl' = upd pl K.toNatClampNeg P) (hP : P.toInt = p) (e4 : la' = upd la I.toNatClampNeg K) (e5 : tm' = upd tm I.toNatClampNeg Z) (hZ : Z.toInt = (tm I.toNatClampNeg).toInt + 1) (hk : kept' = K.toInt + 1)
    (hc : ((tm I.toNatClampNeg).toInt = 0 ∧ fi' = upd fi I.toNatClampNeg K ∧ nx' = upd nx K.toNatClampNeg M ∧ idl' = upd idl D.toNatClampNeg I ∧ dist' = D.toInt + 1) ∨ ((tm I.toNatClampNeg).toInt ≠ 0 ∧ fi' = fi ∧ nx' = upd (upd nx K.toNatClampNeg M) L.toNatClampNeg K ∧ L = la I.toNatClampNeg ∧ idl' = idl ∧ dist' = D.toInt)) (hr : r = 1) : zKe s i fr n s2 n2 pl nx idl fi la tm K.toInt D.toInt s i fr n pl' nx' idl' fi' la' tm' kept' dist' w p r := fun S V t hs hS hV hV0 hC hT hp hk3 hw => by
  have hw := zKe_n h5 he hs hS
  rcases hid V hV with ⟨q, -⟩ | ⟨q1, q2⟩
  · exact absurd q hne
  · have hm : w ∈ V := List.mem_of_getElem? q2
    have a1 : zkV S V w = V := by unfold zkV; rw [hw, if_neg (by decide), if_pos hm]
    have a2 : zkT S t p w = zuf t p.toNat w := by unfold zkT; rw [hw, if_neg (by decide)]
    have a3 : zkC S w = 1 := by unfold zkC; rw [hw, if_neg (by decide)]
    have a4 : zkO S V w = true := by unfold zkO; rw [hw, decide_eq_true hm]; rfl
    rw [a1, a2, a3, a4]
    exact ⟨hV, hV0, hr, fun _ => ⟨zCt_b hC q1 hI1 hD0 hL0 q2 (zVo_nd hV) hV0 hT hp e1 hP e4 e5 hZ hk hc, zTt_a hT hm rfl, hk⟩⟩
theorem zKe_x {X : Int32} (h5 : zRf s2 n2 w r5) (he : r5 = -1) (hid : ∀ V : List Int, zVo s i fr n V → zIf V w id) (hne : id = -1) (hins : zIns s s' i i' n w) (hn : n < 400) (hn' : n' = n + 1) (hI : I.toInt = n) (hI0 : 0 ≤ n) (hD0 : 0 ≤ D.toInt) (hL0 : 0 ≤ L.toInt) (e1 : pl' = upd pl K.toNatClampNeg P) (hP : P.toInt = p) (e4 : la' = upd la I.toNatClampNeg K) (e5 : tm' = upd tm I.toNatClampNeg Z) (hZ : Z.toInt = (tm I.toNatClampNeg).toInt + 1) (hk : kept' = K.toInt + 1)
    (hc : ((tm I.toNatClampNeg).toInt = 0 ∧ fi' = upd fi I.toNatClampNeg K ∧ nx' = upd nx K.toNatClampNeg M ∧ idl' = upd idl D.toNatClampNeg I ∧ dist' = D.toInt + 1) ∨ ((tm I.toNatClampNeg).toInt ≠ 0 ∧ fi' = fi ∧ nx' = upd (upd nx K.toNatClampNeg M) L.toNatClampNeg K ∧ L = la I.toNatClampNeg ∧ idl' = idl ∧ dist' = D.toInt)) (hr : r = 1) : zKe s i fr n s2 n2 pl nx idl fi la tm K.toInt D.toInt s' i' fr n' pl' nx' idl' fi' la' tm' kept' dist' w p r := fun S V t hs hS hV hV0 hC hT hp hk3 hw0 => by
  have hw := zKe_n h5 he hs hS
  rcases hid V hV with ⟨-, q⟩ | ⟨q1, q2⟩
  · have hl := hV.2.1
    have a1 : zkV S V w = V ++ [w] := by unfold zkV; rw [hw, if_neg (by decide), if_neg q, if_pos (by omega)]
    have a2 : zkT S t p w = zuf t p.toNat w := by unfold zkT; rw [hw, if_neg (by decide)]
    have a3 : zkC S w = 1 := by unfold zkC; rw [hw, if_neg (by decide)]
    have a4 : zkO S V w = true := by unfold zkO; rw [hw, decide_eq_true (show V.length < 400 from by omega), Bool.or_true]
    have nt : ∀ k : Nat, t k ≠ w := fun k e => by
      rcases hT.2.2 k with c | c
      · exact hw0 (by rw [← e]; exact c)
      · exact q (by rw [← e]; exact c)
    have hV' := zVo_i hV hn q hins hn'
    have hC' : zCt pl nx idl fi la tm K.toInt D.toInt t (V ++ [w]) := zCt_e hC (fun id => zGp_x nt id)
    have hV0' : ∀ x ∈ V ++ [w], x ≠ 0 := fun x hx => by
      rcases List.mem_append.mp hx with c | c
      · exact hV0 x c
      · rw [List.mem_singleton] at c; rw [c]; exact hw0
    have hg : (V ++ [w])[I.toInt.toNat]? = some w := by rw [show I.toInt.toNat = V.length from by omega, List.getElem?_append_right (Nat.le_refl _), Nat.sub_self]; rfl
    rw [a1, a2, a3, a4]
    exact ⟨hV', hV0', hr, fun _ => ⟨zCt_b hC' (by omega) (by omega) hD0 hL0 hg (zVo_nd hV') hV0' (zTt_x hT) hp e1 hP e4 e5 hZ hk hc, zTt_a (zTt_x hT) (List.mem_append_right _ (List.mem_singleton.mpr rfl)) rfl, hk⟩⟩
  · omega
theorem zKe_f {kept dist : Int} (h5 : zRf s2 n2 w r5) (he : r5 = -1) (hid : ∀ V : List Int, zVo s i fr n V → zIf V w id) (hne : id = -1) (hn : 400 ≤ n) (hsame : ∀ j : Nat, s' j = s j ∧ i' j = i j) (hn' : n' = n) (hr : r = 0) : zKe s i fr n s2 n2 pl nx idl fi la tm kept dist s' i' fr n' pl' nx' idl' fi' la' tm' kept' dist' w p r := fun S V t hs hS hV hV0 hC hT hp hk3 hw0 => by
  have hw := zKe_n h5 he hs hS
  rcases hid V hV with ⟨-, q⟩ | ⟨q1, q2⟩
  · have hl := hV.2.1
    have a1 : zkV S V w = V := by unfold zkV; rw [hw, if_neg (by decide), if_neg q, if_neg (by omega)]
    have a4 : zkO S V w = false := by unfold zkO; rw [hw, decide_eq_false q, decide_eq_false (show ¬ V.length < 400 from by omega)]; rfl
    have es : s' = s := funext fun j => (hsame j).1
    have ei : i' = i := funext fun j => (hsame j).2
    rw [a1, a4, es, ei, hn']
    exact ⟨hV, hV0, hr, fun c => absurd c (by decide)⟩
  · omega
theorem zKe_k {kept dist : Int} (h : 300 ≤ kept) : zKe s i fr n s2 n2 pl nx idl fi la tm kept dist s' i' fr' n' pl' nx' idl' fi' la' tm' kept' dist' w p r := fun S V t _ _ _ _ _ _ _ hk _ => by omega
end ZKE
section ZRQ
variable {f : Nat → Int32} {n : Int} {S : Int → Bool} {V : List Int}
theorem zRq_b (k : Nat) : 2 * ((zRq f n S V k).2.2.2.1 : Int) ≤ k + 1 ∧ (zinb f n ((k : Int) - 1) = false → 2 * ((zRq f n S V k).2.2.2.1 : Int) ≤ k) ∧ 0 ≤ (zRq f n S V k).2.1 ∧ 2 * (zRq f n S V k).2.1 ≤ k + 1 + 1024 ∧ (zinb f n ((k : Int) - 1) = false → 2 * (zRq f n S V k).2.1 ≤ k + 1024) := by
  induction k with
  | zero => exact ⟨by show (2 * ((0 : Nat) : Int)) ≤ ((0 : Nat) : Int) + 1; omega, fun _ => by show (2 * ((0 : Nat) : Int)) ≤ ((0 : Nat) : Int); omega, Int.le_refl _, by show (2 * (0 : Int)) ≤ ((0 : Nat) : Int) + 1 + 1024; omega, fun _ => by show (2 * (0 : Int)) ≤ ((0 : Nat) : Int) + 1024; omega⟩
  | succ k ih =>
    obtain ⟨i1, i2, i3, i4, i5⟩ := ih
    have e : zRq f n S V (k + 1) = zRqs f n S k (zRq f n S V k) := rfl
    rw [e, show (((k + 1 : Nat) : Int)) - 1 = (k : Int) from by omega]
    unfold zRqs
    by_cases c1 : (zRq f n S V k).2.2.2.2 = false
    · rw [if_pos c1]
      exact ⟨by omega, fun _ => by omega, i3, by omega, fun _ => by omega⟩
    · rw [if_neg c1]
      by_cases c2 : (zRq f n S V k).2.1 < 512 ∧ (f k).toInt = 10
      · rw [if_pos c2]
        refine ⟨?_, fun _ => ?_, ?_, ?_, fun _ => ?_⟩ <;> dsimp only <;> omega
      · rw [if_neg c2]
        by_cases c3 : zsb f n k = true
        · rw [if_pos c3]
          have c3' := c3
          unfold zsb at c3'
          rw [Bool.and_eq_true, Bool.not_eq_true'] at c3'
          have j1 := i2 c3'.2
          have j2 := i5 c3'.2
          have hC : zkC S (zwd f n k) ≤ 1 := by unfold zkC; split <;> omega
          by_cases c4 : zkO S (zRq f n S V k).2.2.1 (zwd f n k) = true
          · rw [if_pos c4]
            refine ⟨?_, fun q => ?_, ?_, ?_, fun q => ?_⟩ <;> dsimp only
            · omega
            · rw [c3'.1] at q; exact absurd q (by decide)
            · omega
            · omega
            · rw [c3'.1] at q; exact absurd q (by decide)
          · rw [if_neg c4]
            refine ⟨?_, fun q => ?_, ?_, ?_, fun q => ?_⟩ <;> dsimp only <;> omega
        · rw [if_neg c3]
          exact ⟨by omega, fun _ => by omega, i3, by omega, fun _ => by omega⟩
theorem zRq_f {k m : Nat} (h : (zRq f n S V k).2.2.2.2 = false) (hm : k ≤ m) : zRq f n S V m = zRq f n S V k := by
  induction m with
  | zero => rw [show k = 0 from by omega]
  | succ m ih =>
    by_cases c : k = m + 1
    · rw [c]
    · have i := ih (by omega)
      show zRqs f n S m (zRq f n S V m) = _
      rw [i]
      unfold zRqs
      rw [if_pos h]
end ZRQ
def zTy (f : Nat → Int32) (n : Int) : Prop := ∀ j : Nat, (j : Int) < n → -128 ≤ (f j).toInt ∧ (f j).toInt ≤ 127
def zRh (f : Nat → Int32) (n : Int) (s : Nat → Int64) (i fr : Nat → Int32) (nw : Int) (s2 : Nat → Int64) (n2 : Int) (S : Int → Bool) (V : List Int) : Prop := zTy f n ∧ zSrt s2 n2 ∧ (∀ x, S x = true ↔ zHas s2 n2 x) ∧ zVo s i fr nw V ∧ (∀ x ∈ V, x ≠ 0)
def zRe (f : Nat → Int32) (n : Int) (s : Nat → Int64) (i fr : Nat → Int32) (nw : Int) (s2 : Nat → Int64) (n2 : Int) (s' : Nat → Int64) (i' fr' : Nat → Int32) (nw' : Int) (pl nx idl fi la tm : Nat → Int32) (kept dist at_ place : Int) : Prop := ∀ (S : Int → Bool) (V : List Int), zRh f n s i fr nw s2 n2 S V → 0 ≤ at_ ∧ (zRq f n S V at_.toNat).2.2.2.2 = true ∧ (zRq f n S V at_.toNat).2.1 = place ∧ zVo s' i' fr' nw' (zRq f n S V at_.toNat).2.2.1 ∧ (∀ x ∈ (zRq f n S V at_.toNat).2.2.1, x ≠ 0) ∧ zCt pl nx idl fi la tm kept dist (zRq f n S V at_.toNat).1 (zRq f n S V at_.toNat).2.2.1 ∧ zTt (zRq f n S V at_.toNat).1 place (zRq f n S V at_.toNat).2.2.1 ∧ kept = ((zRq f n S V at_.toNat).2.2.2.1 : Int)
def zRz (f : Nat → Int32) (n : Int) (s : Nat → Int64) (i fr : Nat → Int32) (nw : Int) (s2 : Nat → Int64) (n2 : Int) (s' : Nat → Int64) (i' fr' : Nat → Int32) (nw' : Int) (pl nx idl fi la tm : Nat → Int32) (kept dist r : Int) : Prop := ∀ (S : Int → Bool) (V : List Int), zRh f n s i fr nw s2 n2 S V → r = (if (zRq f n S V n.toNat).2.2.2.2 = true then 1 else 0) ∧ zVo s' i' fr' nw' (zRq f n S V n.toNat).2.2.1 ∧ (∀ x ∈ (zRq f n S V n.toNat).2.2.1, x ≠ 0) ∧ ((zRq f n S V n.toNat).2.2.2.2 = true → zCt pl nx idl fi la tm kept dist (zRq f n S V n.toNat).1 (zRq f n S V n.toNat).2.2.1 ∧ zTt (zRq f n S V n.toNat).1 (zRq f n S V n.toNat).2.1 (zRq f n S V n.toNat).2.2.1 ∧ kept = ((zRq f n S V n.toNat).2.2.2.1 : Int))
theorem zb10 {x : Int32} (h : -128 ≤ x.toInt ∧ x.toInt ≤ 127) (e : (x &&& 255).toInt = 10) : x.toInt = 10 := by
  have ex := ztoi x
  have hx : (x &&& 255).toInt = (x.toBitVec.toNat % 256 : Nat) := by
    have ey := ztoi (x &&& 255)
    have h2 : (x &&& 255).toBitVec.toNat = x.toBitVec.toNat % 256 := by
      have : (x &&& 255).toBitVec.toNat = x.toBitVec.toNat &&& 255 := by rw [Int32.toBitVec_and, BitVec.toNat_and]; rfl
      rw [this]
      exact Nat.and_two_pow_sub_one_eq_mod x.toBitVec.toNat 8
    rw [h2] at ey
    rw [ey, if_pos (by omega)]
  rw [hx] at e
  have := x.toBitVec.isLt
  split at ex <;> omega
theorem zb10' {x : Int32} (h : x.toInt = 10) : (x &&& 255).toInt = 10 := by
  have : x = 10 := zeqi.mpr (by rw [h]; decide)
  rw [this]; decide
section ZRE
variable {S : Int → Bool} {V : List Int} {f : Nat → Int32} {n r' : Int} {s s2 s' s3 : Nat → Int64} {i fr i' fr' i3 fr3 : Nat → Int32} {nw n2 nw' nw3 kept dist kept3 dist3 at_ at' place place' w r : Int} {pl nx idl fi la tm pl3 nx3 idl3 fi3 la3 tm3 : Nat → Int32}
theorem zRe_0 (h : ∀ j : Nat, j < 400 → tm j = 0) (hk : kept = 0) (hd : dist = 0) (ha : at_ = 0) (hp : place = 0) : zRe f n s i fr nw s2 n2 s i fr nw pl nx idl fi la tm kept dist at_ place := fun S V hh => by
  subst ha; subst hp
  exact ⟨Int.le_refl _, rfl, rfl, hh.2.2.2.1, hh.2.2.2.2, zCt_0 hh.2.2.2.2 h hk hd, ⟨Int.le_refl _, fun _ _ => rfl, fun _ => Or.inl rfl⟩, by rw [hk]; rfl⟩
theorem zRe_l {b : Int} (h : zRe f n s i fr nw s2 n2 s' i' fr' nw' pl nx idl fi la tm kept dist at_ place) (hn : at_ < n) (hp : place < 512) (hb : b = 10) (hx : 0 ≤ at_ ∧ at_ < n → b = (f at_.toNat &&& 255).toInt) (ha : at' = at_ + 1) (hp' : place' = 512) : zRe f n s i fr nw s2 n2 s' i' fr' nw' pl nx idl fi la tm kept dist at' place' := fun S V hh => by
  obtain ⟨q1, q2, q3, q4, q5, q6, q7, q8⟩ := h S V hh
  have hb2 := hx ⟨q1, hn⟩
  have ty := hh.1 at_.toNat (by omega)
  have e10 : (f at_.toNat).toInt = 10 := zb10 ty (by omega)
  have e : zRq f n S V at'.toNat = ((zRq f n S V at_.toNat).1, 512, (zRq f n S V at_.toNat).2.2.1, (zRq f n S V at_.toNat).2.2.2.1, true) := by
    rw [show at'.toNat = at_.toNat + 1 from by omega]
    show zRqs f n S at_.toNat (zRq f n S V at_.toNat) = _
    unfold zRqs
    rw [if_neg (by rw [q2]; decide), if_pos ⟨by rw [q3]; exact hp, e10⟩]
  rw [e]
  exact ⟨by omega, rfl, hp'.symm, q4, q5, q6, by rw [hp']; exact zTt_m q7 (by omega), q8⟩
theorem zRe_e (h2 : (zRq f n S V at_.toNat).2.2.2.2 = true) (h3 : (zRq f n S V at_.toNat).2.1 = place) (hnl : ¬ (place < 512 ∧ (f at_.toNat).toInt = 10)) (h0 : 0 ≤ at_) (ha : at' = at_ + 1) (hs : zsb f n at_ = false) : zRq f n S V at'.toNat = zRq f n S V at_.toNat := by
  rw [show at'.toNat = at_.toNat + 1 from by omega]
  show zRqs f n S at_.toNat (zRq f n S V at_.toNat) = _
  unfold zRqs
  rw [if_neg (by rw [h2]; decide), if_neg (by rw [h3]; exact hnl), if_neg (by rw [show ((at_.toNat : Nat) : Int) = at_ from by omega, hs]; decide)]
theorem zRe_n {b : Int} (h : zRe f n s i fr nw s2 n2 s' i' fr' nw' pl nx idl fi la tm kept dist at_ place) (hn : at_ < n) (hnl : 512 ≤ place ∨ (b ≠ 10 ∧ (0 ≤ at_ ∧ at_ < n → b = (f at_.toNat &&& 255).toInt))) (hs : zsb f n at_ = false) (ha : at' = at_ + 1) : zRe f n s i fr nw s2 n2 s' i' fr' nw' pl nx idl fi la tm kept dist at' place := fun S V hh => by
  obtain ⟨q1, q2, q3, q4, q5, q6, q7, q8⟩ := h S V hh
  have ty := hh.1 at_.toNat (by omega)
  have nl : ¬ (place < 512 ∧ (f at_.toNat).toInt = 10) := fun c => by
    rcases hnl with d | ⟨d1, d2⟩
    · omega
    · exact d1 (by rw [d2 ⟨q1, hn⟩]; exact zb10' c.2)
  rw [zRe_e q2 q3 nl q1 ha hs]
  exact ⟨by omega, q2, q3, q4, q5, q6, q7, q8⟩
theorem zRe_q (h2 : (zRq f n S V at_.toNat).2.2.2.2 = true) (h3 : (zRq f n S V at_.toNat).2.1 = place) (hnl : ¬ (place < 512 ∧ (f at_.toNat).toInt = 10)) (h0 : 0 ≤ at_) (ha : at' = at_ + 1) (hs : zsb f n at_ = true) (hw : w = zwd f n at_) : zRq f n S V at'.toNat = if zkO S (zRq f n S V at_.toNat).2.2.1 w = true then (zkT S (zRq f n S V at_.toNat).1 place w, place + 1, zkV S (zRq f n S V at_.toNat).2.2.1 w, (zRq f n S V at_.toNat).2.2.2.1 + zkC S w, true) else ((zRq f n S V at_.toNat).1, (zRq f n S V at_.toNat).2.1, (zRq f n S V at_.toNat).2.2.1, (zRq f n S V at_.toNat).2.2.2.1, false) := by
  rw [show at'.toNat = at_.toNat + 1 from by omega]
  show zRqs f n S at_.toNat (zRq f n S V at_.toNat) = _
  unfold zRqs
  have ea : ((at_.toNat : Nat) : Int) = at_ := by omega
  rw [if_neg (by rw [h2]; decide), if_neg (by rw [h3]; exact hnl), if_pos (by rw [ea]; exact hs), ea, ← hw, h3]
theorem zRe_w {b : Int} (h : zRe f n s i fr nw s2 n2 s' i' fr' nw' pl nx idl fi la tm kept dist at_ place) (hn : at_ < n) (hn6 : n ≤ 600) (hnl : 512 ≤ place ∨ (b ≠ 10 ∧ (0 ≤ at_ ∧ at_ < n → b = (f at_.toNat &&& 255).toInt))) (hs : zsb f n at_ = true) (hw : w = zwd f n at_) (hk : zKe s' i' fr' nw' s2 n2 pl nx idl fi la tm kept dist s3 i3 fr3 nw3 pl3 nx3 idl3 fi3 la3 tm3 kept3 dist3 w place r) {S : Int → Bool} {V : List Int} (hh : zRh f n s i fr nw s2 n2 S V) : ∃ V1 : List Int, V1 = (zRq f n S V at_.toNat).2.2.1 ∧ zVo s3 i3 fr3 nw3 (zkV S V1 w) ∧ (∀ x ∈ zkV S V1 w, x ≠ 0) ∧ r = (if zkO S V1 w = true then 1 else 0) ∧ (zkO S V1 w = true → zCt pl3 nx3 idl3 fi3 la3 tm3 kept3 dist3 (zkT S (zRq f n S V at_.toNat).1 place w) (zkV S V1 w) ∧ zTt (zkT S (zRq f n S V at_.toNat).1 place w) (place + 1) (zkV S V1 w) ∧ kept3 = kept + zkC S w) ∧ zRq f n S V (at_.toNat + 1) = if zkO S V1 w = true then (zkT S (zRq f n S V at_.toNat).1 place w, place + 1, zkV S V1 w, (zRq f n S V at_.toNat).2.2.2.1 + zkC S w, true) else ((zRq f n S V at_.toNat).1, (zRq f n S V at_.toNat).2.1, V1, (zRq f n S V at_.toNat).2.2.2.1, false) := by
  obtain ⟨q1, q2, q3, q4, q5, q6, q7, q8⟩ := h S V hh
  have nl : ¬ (place < 512 ∧ (f at_.toNat).toInt = 10) := fun c => by
    rcases hnl with d | ⟨d1, d2⟩
    · omega
    · exact d1 (by rw [d2 ⟨q1, hn⟩]; exact zb10' c.2)
  have hs' := hs
  unfold zsb at hs'
  rw [Bool.and_eq_true, Bool.not_eq_true'] at hs'
  have hb := zRq_b (f := f) (n := n) (S := S) (V := V) at_.toNat
  rw [show ((at_.toNat : Nat) : Int) = at_ from by omega] at hb
  have b1 := hb.2.1 hs'.2
  have b2 := hb.2.2.2.2 hs'.2
  have hw1 : w ≠ 0 := by
    have := zwd_p (zinb_i.mp hs'.1)
    omega
  obtain ⟨k1, k2, k3, k4⟩ := hk S _ _ hh.2.1 hh.2.2.1 q4 q5 q6 q7 (by omega) (by omega) hw1
  have e := zRe_q (at' := at_ + 1) q2 q3 nl q1 rfl hs hw
  rw [show (at_ + 1).toNat = at_.toNat + 1 from by omega] at e
  exact ⟨_, rfl, k1, k2, k3, k4, e⟩
theorem zRe_k {b : Int} (h : zRe f n s i fr nw s2 n2 s' i' fr' nw' pl nx idl fi la tm kept dist at_ place) (hn : at_ < n) (hn6 : n ≤ 600) (hnl : 512 ≤ place ∨ (b ≠ 10 ∧ (0 ≤ at_ ∧ at_ < n → b = (f at_.toNat &&& 255).toInt))) (hs : zsb f n at_ = true) (hw : w = zwd f n at_) (hk : zKe s' i' fr' nw' s2 n2 pl nx idl fi la tm kept dist s3 i3 fr3 nw3 pl3 nx3 idl3 fi3 la3 tm3 kept3 dist3 w place r) (hr : r ≠ 0) (ha : at' = at_ + 1) (hp : place' = place + 1) : zRe f n s i fr nw s2 n2 s3 i3 fr3 nw3 pl3 nx3 idl3 fi3 la3 tm3 kept3 dist3 at' place' := fun S V hh => by
  have q8 := (h S V hh).2.2.2.2.2.2.2
  have q1 := (h S V hh).1
  obtain ⟨V1, e1, k1, k2, k3, k4, e⟩ := zRe_w h hn hn6 hnl hs hw hk hh
  have hO : zkO S V1 w = true := by
    cases c : zkO S V1 w
    · rw [c, if_neg (by decide)] at k3; exact absurd k3 hr
    · rfl
  rw [if_pos hO] at e
  obtain ⟨k5, k6, k7⟩ := k4 hO
  rw [show at'.toNat = at_.toNat + 1 from by omega, e, hp]
  exact ⟨by omega, rfl, rfl, k1, k2, k5, k6, by rw [k7, q8]; exact (Int.natCast_add _ _).symm⟩
theorem zRz_f {b : Int} (h : zRe f n s i fr nw s2 n2 s' i' fr' nw' pl nx idl fi la tm kept dist at_ place) (hn : at_ < n) (hn6 : n ≤ 600) (hnl : 512 ≤ place ∨ (b ≠ 10 ∧ (0 ≤ at_ ∧ at_ < n → b = (f at_.toNat &&& 255).toInt))) (hs : zsb f n at_ = true) (hw : w = zwd f n at_) (hk : zKe s' i' fr' nw' s2 n2 pl nx idl fi la tm kept dist s3 i3 fr3 nw3 pl3 nx3 idl3 fi3 la3 tm3 kept3 dist3 w place r) (hr : r = 0) (hr' : r' = 0) : zRz f n s i fr nw s2 n2 s3 i3 fr3 nw3 pl3 nx3 idl3 fi3 la3 tm3 kept3 dist3 r' := fun S V hh => by
  have q1 := (h S V hh).1
  obtain ⟨V1, e1, k1, k2, k3, k4, e⟩ := zRe_w h hn hn6 hnl hs hw hk hh
  have hO : zkO S V1 w = false := by
    cases c : zkO S V1 w
    · rfl
    · rw [c, if_pos rfl] at k3; omega
  rw [if_neg (by rw [hO]; decide)] at e
  have eV : zkV S V1 w = V1 := by
    unfold zkO at hO
    rw [Bool.or_eq_false_iff, Bool.or_eq_false_iff] at hO
    unfold zkV
    rw [if_neg (by rw [hO.1.1]; decide), if_neg (of_decide_eq_false hO.1.2), if_neg (of_decide_eq_false hO.2)]
  rw [eV] at k1 k2
  have ef := zRq_f (f := f) (n := n) (S := S) (V := V) (k := at_.toNat + 1) (m := n.toNat) (by rw [e]) (by omega)
  rw [ef, e]
  exact ⟨hr', k1, k2, fun c => absurd (show false = true from c) (by decide)⟩
theorem zRz_e (h : zRe f n s i fr nw s2 n2 s' i' fr' nw' pl nx idl fi la tm kept dist at_ place) (hn : n ≤ at_) (ha : at_ ≤ n) (hr : r = 1) : zRz f n s i fr nw s2 n2 s' i' fr' nw' pl nx idl fi la tm kept dist r := fun S V hh => by
  obtain ⟨q1, q2, q3, q4, q5, q6, q7, q8⟩ := h S V hh
  rw [show n.toNat = at_.toNat from by omega, q2]
  exact ⟨hr, q4, q5, fun _ => ⟨q6, by rw [q3]; exact q7, q8⟩⟩
end ZRE
def zdn (idl : Nat → Int32) : Nat → Nat → Bool
  | 0, _ => false
  | i + 1, id => zdn idl i id || decide ((idl i).toInt.toNat = id)
theorem zdn_i {idl : Nat → Int32} {i id : Nat} : zdn idl i id = true ↔ ∃ j, j < i ∧ (idl j).toInt.toNat = id := by
  induction i with
  | zero => constructor
            · intro h; exact absurd h (by intro c; cases c)
            · rintro ⟨j, h, -⟩; exact absurd h (Nat.not_lt_zero _)
  | succ i ih =>
    show (zdn idl i id || decide ((idl i).toInt.toNat = id)) = true ↔ _
    rw [Bool.or_eq_true, ih, decide_eq_true_eq]
    constructor
    · rintro (⟨j, h1, h2⟩ | h)
      · exact ⟨j, by omega, h2⟩
      · exact ⟨i, by omega, h⟩
    · rintro ⟨j, h1, h2⟩
      by_cases c : j = i
      · subst c; exact Or.inr h2
      · exact Or.inl ⟨j, by omega, h2⟩
def zmx {α : Type} (old new : Nat → α) (idl : Nat → Int32) (i : Nat) : Nat → α := fun id => if zdn idl i id = true then new id else old id
theorem zmx_0 {α : Type} {old new : Nat → α} {idl : Nat → Int32} : zmx old new idl 0 = old := funext fun id => if_neg (by intro c; cases c)
theorem zmx_s {α : Type} {old new : Nat → α} {idl : Nat → Int32} {i k : Nat} (hk : (idl i).toInt.toNat = k) : zmx old new idl (i + 1) = zuf (zmx old new idl i) k (new k) := funext fun id => by
  unfold zmx
  by_cases c : id = k
  · subst c
    rw [zuf_s, if_pos]
    exact zdn_i.mpr ⟨i, by omega, hk⟩
  · rw [zuf_n c]
    have e : zdn idl (i + 1) id = zdn idl i id := by
      show (zdn idl i id || decide ((idl i).toInt.toNat = id)) = _
      rw [decide_eq_false (fun q => c (by rw [← hk, q])), Bool.or_false]
    rw [e]
theorem zmx_n {α : Type} {old new : Nat → α} {idl : Nat → Int32} {i k : Nat} {dist : Int} (h3 : ∀ a b : Nat, a < b → (b : Int) < dist → (idl a).toInt ≠ (idl b).toInt) (h2 : ∀ a : Nat, (a : Int) < dist → 0 ≤ (idl a).toInt) (hi : (i : Int) < dist) (hk : (idl i).toInt.toNat = k) : zmx old new idl i k = old k := if_neg (fun c => by
  obtain ⟨j, j1, j2⟩ := zdn_i.mp c
  have a1 := h3 j i j1 hi
  have a2 := h2 j (by omega)
  have a3 := h2 i hi
  omega)
section ZBN
variable {T : Nat → Nat → Int} {V : List Int} {t : Nat → Int} {D : Nat} {w : Int}
theorem zPq_c {T' : Nat → Nat → Int} {w : Int} : ∀ {D : Nat}, (∀ d, d < D → T' d = T d) → zPq T' w D = zPq T w D ∧ zLd T' w D = zLd T w D ∧ zHn T' w D = zHn T w D := by
  intro D
  induction D with
  | zero => intro _; exact ⟨rfl, rfl, rfl⟩
  | succ D ih =>
    intro h
    obtain ⟨i1, i2, i3⟩ := ih (fun d hd => h d (by omega))
    have e := h D (by omega)
    show (if 0 < zTm (T' D) w 1024 then _ else _) = (if 0 < zTm (T D) w 1024 then _ else _) ∧ (if 0 < zTm (T' D) w 1024 then _ else _) = (if 0 < zTm (T D) w 1024 then _ else _) ∧ (if 0 < zTm (T' D) w 1024 then _ else _) = (if 0 < zTm (T D) w 1024 then _ else _)
    rw [e, i1, i2, i3]
    exact ⟨rfl, rfl, rfl⟩
theorem zBn {id : Nat} : zBv (zuf T D t) V (D + 1) id = (if 0 < (zGp t V id).length then zBv T V D id ++ (zGa ((D : Int) + 1 - zLv T V D id).toNat ++ (zGa (zGp t V id).length ++ zrL (zGp t V id))) else zBv T V D id) ∧ zLv (zuf T D t) V (D + 1) id = (if 0 < (zGp t V id).length then (D : Int) + 1 else zLv T V D id) ∧ zHv (zuf T D t) V (D + 1) id = (if 0 < (zGp t V id).length then zHv T V D id + 1 else zHv T V D id) := by
  have c := fun w => zPq_c (T := T) (T' := zuf T D t) (w := w) (D := D) (fun d hd => zuf_n (by omega))
  unfold zBv zLv zHv
  cases hv : V[id]? with
  | none => rw [zGp_n hv]; exact ⟨rfl, rfl, rfl⟩
  | some w =>
    rw [zGp_s hv, zPn_l]
    show zPq (zuf T D t) w (D + 1) = (if 0 < zTm t w 1024 then zPq T w D ++ (zGa ((D : Int) + 1 - (zLd T w D + 1)).toNat ++ (zGa (zTm t w 1024) ++ zrL (zPn t w 1024))) else zPq T w D) ∧ zLd (zuf T D t) w (D + 1) + 1 = (if 0 < zTm t w 1024 then (D : Int) + 1 else zLd T w D + 1) ∧ (zHn (zuf T D t) w (D + 1) : Int) = (if 0 < zTm t w 1024 then (zHn T w D : Int) + 1 else zHn T w D)
    have e : zuf T D t D = t := zuf_s
    by_cases q : 0 < zTm t w 1024
    · have q' : 0 < zTm (zuf T D t D) w 1024 := by rw [e]; exact q
      rw [if_pos q, if_pos q, if_pos q, zPs_y q', zLd_y q', zHn_y q', e, (c w).1, (c w).2.1, (c w).2.2, show (D : Int) + 1 - (zLd T w D + 1) = (D : Int) - zLd T w D from by omega]
      exact ⟨rfl, rfl, by omega⟩
    · have q' : ¬ 0 < zTm (zuf T D t D) w 1024 := by rw [e]; exact q
      rw [if_neg q, if_neg q, if_neg q, zPs_n q', zLd_n q', zHn_n q', (c w).1, (c w).2.1, (c w).2.2]
      exact ⟨rfl, rfl, rfl⟩
end ZBN
theorem zGp_o {t : Nat → Int} {V : List Int} {id : Nat} : zrO (zGp t V id) ∧ (zGp t V id).length ≤ 1024 ∧ ((zGp t V id).sum : Int) ≤ 1024 ∧ ∀ m ∈ zGp t V id, 0 < m ∧ m ≤ 1024 := by
  cases hv : V[id]? with
  | none => rw [zGp_n hv]; exact ⟨fun m hm => absurd hm List.not_mem_nil, by decide, by decide, fun m hm => absurd hm List.not_mem_nil⟩
  | some w =>
    rw [zGp_s hv]
    have := zPn_s (t := t) (w := w) (k := 1024)
    have := zLp_b (t := t) (w := w) (k := 1024)
    have := zTm_b (t := t) (w := w) (k := 1024)
    exact ⟨zPn_r (Nat.le_refl _), by rw [zPn_l]; omega, by omega, fun m hm => zPn_o m hm⟩
theorem zrL_le : ∀ {l : List Nat}, (∀ m ∈ l, 0 < m ∧ m ≤ 1024) → (zrL l).length ≤ 21 * l.length := by
  intro l
  induction l with
  | nil => intro _; exact Nat.le_refl _
  | cons m l ih =>
    intro h
    have h1 := h m List.mem_cons_self
    have h2 := ih (fun x hx => h x (List.mem_cons_of_mem _ hx))
    have := zGa_l h1.1
    have := zbd_le (n := m) (k := 11) (by omega)
    rw [zrL_c, List.length_append, List.length_cons]
    omega
def zpt (pl nx : Nat → Int32) (G : List Nat) (path : Nat → Nat) : Prop := ∀ j, j < G.length → (pl (path j)).toInt = ((G.take (j + 1)).sum : Int) - 1 ∧ (j + 1 < G.length → (nx (path j)).toInt = path (j + 1))
def zBg (pl nx idl fi la tm : Nat → Int32) (kept dist : Int) (id : Nat) (step bits ah tok i : Int) : Prop := ∀ (t : Nat → Int) (V : List Int), zCt pl nx idl fi la tm kept dist t V → id < 400 → 0 < step → step ≤ 1000 → 0 < (tm id).toInt → 0 ≤ i ∧ i ≤ (zGp t V id).length ∧ bits = ((zGa step.toNat).length : Int) + (zGa (zGp t V id).length).length + (zrL ((zGp t V id).take i.toNat)).length ∧ ah = (((zGp t V id).take i.toNat).sum : Int) - 1 ∧ ∃ path : Nat → Nat, zpt pl nx (zGp t V id) path ∧ (i < (zGp t V id).length → tok = path i.toNat)
def zBf (pl nx idl fi la tm : Nat → Int32) (kept dist : Int) (id : Nat) (step r : Int) : Prop := ∀ (t : Nat → Int) (V : List Int), zCt pl nx idl fi la tm kept dist t V → id < 400 → 0 < step → step ≤ 1000 → 0 < (tm id).toInt → r = ((zGa step.toNat).length : Int) + (zGa (zGp t V id).length).length + (zrL (zGp t V id)).length
theorem zts {G : List Nat} {i : Nat} (h : i < G.length) : G.take (i + 1) = G.take i ++ [G[i]] := by rw [List.take_add_one, List.getElem?_eq_getElem h]; rfl
theorem ztsm {G : List Nat} {i : Nat} (h : i < G.length) : (G.take (i + 1)).sum = (G.take i).sum + G[i] := by rw [zts h, List.sum_append, List.sum_cons, List.sum_nil, Nat.add_zero]
theorem ztsl {G : List Nat} {i : Nat} (h : i < G.length) : zrL (G.take (i + 1)) = zrL (G.take i) ++ zGa G[i] := by
  rw [zts h, zrL_a, zrL_c]
  show _ ++ (_ ++ []) = _
  rw [List.append_nil]
theorem ztss {G : List Nat} (i : Nat) : (G.take i).sum ≤ G.sum := by
  conv => rhs; rw [← List.take_append_drop i G, List.sum_append]
  omega
section ZBG
variable {pl nx idl fi la tm : Nat → Int32} {kept dist step bits bits' ah ah' tok tok' i i' r : Int} {id : Nat}
theorem zBg_0 {F : Int32} {r1 r10 : Int} (h1 : 0 < step → r1 = 2 * (zbd step.toNat : Int) - 1) (h2 : 0 < (tm id).toInt → r10 = 2 * (zbd (tm id).toInt.toNat : Int) - 1) {A B C : Int32} (hA : A.toInt = r1) (hB : B.toInt = r10) (eC : C = A + B) (hah : ah = -1) (eF : F = fi id) (hi : i = 0) : zBg pl nx idl fi la tm kept dist id step C.toInt ah F.toInt i := fun t V hC hid q1 q2 q3 => by
  obtain ⟨o1, path, o2, o3⟩ := hC.1.choose_spec id hid
  have e1 := h1 q1
  have e2 := h2 q3
  have b1 := zbd_k (m := step.toNat) (by omega)
  have b2 := zbd_i (tm id)
  have l1 := zGa_l (n := step.toNat) (by omega)
  have l2 := zGa_l (n := (zGp t V id).length) (by omega)
  have z1 := zbd_0 (n := step.toNat) (by omega)
  have z2 := zbd_0 (n := (zGp t V id).length) (by omega)
  rw [o1, Int.toNat_natCast] at e2 b2
  have ec := zadd hA hB eC (by omega) (by omega)
  subst hi
  refine ⟨Int.le_refl _, by omega, ?_, by rw [hah]; rfl, path, fun j hj => ⟨(o2 j hj).2.2.1, (o2 j hj).2.2.2⟩, fun _ => by rw [eF]; exact (o3 (by omega)).1⟩
  show C.toInt = _ + _ + ((0 : Nat) : Int)
  omega
theorem zBg_s {P X G N : Int32} {TK AH B B' R : Int32} (h : zBg pl nx idl fi la tm kept dist id step B.toInt AH.toInt TK.toInt i) (hi : i < (tm id).toInt) (eP : P = pl TK.toNatClampNeg) (eG : G = P - AH) (hR : 0 < G.toInt → R.toInt = 2 * (zbd G.toInt.toNat : Int) - 1) (eB : B' = B + R) (eX : X = pl TK.toNatClampNeg) (eN : N = nx TK.toNatClampNeg) (hi' : i' = i + 1) : zBg pl nx idl fi la tm kept dist id step B'.toInt X.toInt N.toInt i' := fun t V hC hid q1 q2 q3 => by
  obtain ⟨a1, a2, a3, a4, path, a5, a6⟩ := h t V hC hid q1 q2 q3
  have o1 := (hC.1.choose_spec id hid).1
  have hl : i.toNat < (zGp t V id).length := by omega
  have et := a6 (by omega)
  have ec : TK.toNatClampNeg = path i.toNat := by have : TK.toNatClampNeg = TK.toInt.toNat := rfl; omega
  obtain ⟨p1, p2⟩ := a5 i.toNat hl
  have go := zGp_o (t := t) (V := V) (id := id)
  have gm := go.2.2.2 _ (List.getElem_mem hl)
  have sm := ztsm hl
  have s2 := ztss (G := zGp t V id) (i.toNat + 1)
  rw [ec] at eP eX eN
  have eP' : P.toInt = (((zGp t V id).take (i.toNat + 1)).sum : Int) - 1 := by rw [eP, p1]
  have g1 := zsub eP' a4 eG (by omega) (by omega)
  have hR' := hR (by omega)
  have gz : G.toInt.toNat = (zGp t V id)[i.toNat] := by omega
  rw [gz] at hR'
  have l1 := zGa_l gm.1
  have l2 := zbd_0 gm.1
  have l3 := zbd_k (m := (zGp t V id)[i.toNat]) (by omega)
  have r1 := zrL_le (l := (zGp t V id).take i.toNat) (fun m hm => go.2.2.2 m (List.mem_of_mem_take hm))
  rw [List.length_take] at r1
  have l4 := zGa_l (n := step.toNat) (by omega)
  have l5 := zGa_l (n := (zGp t V id).length) (by omega)
  have l6 := zbd_k (m := step.toNat) (by omega)
  have l7 := zbd_k (m := (zGp t V id).length) (by omega)
  have b1 := zadd (x := B) rfl hR' eB (by omega) (by omega)
  rw [show i'.toNat = i.toNat + 1 from by omega, ztsl hl, sm, List.length_append]
  refine ⟨by omega, by omega, by omega, by rw [eX, p1, sm], path, a5, fun q => ?_⟩
  rw [eN, p2 (by omega)]
theorem zBf_e (h : zBg pl nx idl fi la tm kept dist id step bits ah tok i) (hi : (tm id).toInt ≤ i) (hr : r = bits) : zBf pl nx idl fi la tm kept dist id step r := fun t V hC hid q1 q2 q3 => by
  obtain ⟨a1, a2, a3, a4, path, a5, a6⟩ := h t V hC hid q1 q2 q3
  have o1 := (hC.1.choose_spec id hid).1
  rw [show i.toNat = (zGp t V id).length from by omega, List.take_length] at a3
  rw [hr, a3]
end ZBG
theorem znc_y {b c r n : Int} (h : zCk b c) (hb : b = n - 1) (hr : r = c + 1) (hn : 0 < n) : r = (znc n.toNat : Int) := by
  have q := zCk_n h
  rw [znc_p (by omega), show n.toNat - 1 = b.toNat from by omega]
  omega
theorem znc_z {n r : Int} (hn : n ≤ 0) (hr : r = 0) : r = (znc n.toNat : Int) := by
  rw [show n.toNat = 0 from by omega, hr]; rfl
theorem zco_t {b : Int} {C A Z R : Int32} (h1 : C.toInt = (znc b.toNat : Int)) (q1 : 0 ≤ b) (q2 : b ≤ 200000) (h6 : 0 ≤ C.toInt → C.toInt ≤ 1000 → zRo C.toInt A.toInt) (e1 : Z = 16 * C) (e2 : R = A + Z) : R.toInt = (zco b.toNat : Int) := by
  have cb : znc b.toNat ≤ 800 := by unfold znc zck; (repeat' split) <;> omega
  have rr := zRo_n (h6 (by omega) (by omega))
  have z1 := zmul (show (16 : Int32).toInt = 16 from by decide) (y := C) rfl e1 (by omega) (by omega)
  have rb : zrm (znc b.toNat) ≤ 256 * znc b.toNat := by unfold zrm; (repeat' split) <;> omega
  rw [h1, Int.toNat_natCast] at rr
  have a1 := zadd rr z1 e2 (by omega) (by omega)
  unfold zco
  omega
def zFh (pl nx idl fi la tm : Nat → Int32) (kept dist : Int) (ro cs nxc fc lc bt : Nat → Int32) (ch ru ab tk : Int) (l : Nat → Int32) (D : Int) (T : Nat → Nat → Int) (V : List Int) (t : Nat → Int) : Prop := zCt pl nx idl fi la tm kept dist t V ∧ zPB ro cs nxc fc lc bt ch ru ab tk (zBv T V D.toNat) ∧ zcs (zBv T V D.toNat) ≤ 40000 ∧ (∀ id : Nat, id < 400 → (l id).toInt = zLv T V D.toNat id) ∧ 0 ≤ D ∧ D ≤ 119
def zFi (pl nx idl fi la tm : Nat → Int32) (kept dist : Int) (ro cs nxc fc lc bt : Nat → Int32) (ch ru ab tk : Int) (l : Nat → Int32) (D tkn i : Int) : Prop := ∀ (T : Nat → Nat → Int) (V : List Int) (t : Nat → Int), zFh pl nx idl fi la tm kept dist ro cs nxc fc lc bt ch ru ab tk l D T V t → 0 ≤ i ∧ i ≤ dist ∧ tkn = (zcs (zmx (zBv T V D.toNat) (zBv (zuf T D.toNat t) V (D.toNat + 1)) idl i.toNat) : Int) ∧ tkn ≤ 40000 + 100000 * i
def zFf (pl nx idl fi la tm : Nat → Int32) (kept dist : Int) (ro cs nxc fc lc bt : Nat → Int32) (ch ru ab tk : Int) (l : Nat → Int32) (D r : Int) : Prop := ∀ (T : Nat → Nat → Int) (V : List Int) (t : Nat → Int), zFh pl nx idl fi la tm kept dist ro cs nxc fc lc bt ch ru ab tk l D T V t → r = if zcs (zBv (zuf T D.toNat t) V (D.toNat + 1)) ≤ 40000 then 1 else 0
section ZFI
variable {pl nx idl fi la tm ro cs nxc fc lc bt l : Nat → Int32} {kept dist ch ru ab tk D tkn i i' r : Int} {T : Nat → Nat → Int} {V : List Int} {t : Nat → Int}
theorem zLv_b {id : Nat} {d : Nat} : 0 ≤ zLv T V d id ∧ zLv T V d id ≤ d := by
  unfold zLv
  cases V[id]? with
  | none => exact ⟨Int.le_refl _, by show (0 : Int) ≤ d; omega⟩
  | some w => have := zLd_b (T := T) (w := w) (d := d); exact ⟨by show 0 ≤ zLd T w d + 1; omega, by show zLd T w d + 1 ≤ d; omega⟩
theorem zHv_b {id : Nat} {d : Nat} : 0 ≤ zHv T V d id ∧ zHv T V d id ≤ d := by
  unfold zHv
  cases V[id]? with
  | none => exact ⟨Int.le_refl _, by show (0 : Int) ≤ d; omega⟩
  | some w => have := zHn_b (T := T) (w := w) (d := d); exact ⟨by show (0 : Int) ≤ zHn T w d; omega, by show (zHn T w d : Int) ≤ d; omega⟩
theorem zFi_0 (h0 : tkn = tk) (hi : i = 0) (hd : 0 ≤ dist) : zFi pl nx idl fi la tm kept dist ro cs nxc fc lc bt ch ru ab tk l D tkn i := fun T V t hh => by
  subst hi
  have e := zPC_tk hh.2.1
  have c := hh.2.2.1
  refine ⟨Int.le_refl _, hd, ?_, by omega⟩
  show tkn = (zcs (zmx _ _ idl 0) : Int)
  rw [zmx_0]; omega
theorem zco_b {n : Nat} : zco n ≤ 2 * n + 96 := by unfold zco znc zrm zck; (repeat' split) <;> omega
theorem zco_l (n : Nat) : n ≤ zco n := by have := znc_b (n := n); unfold zco; omega
theorem zFi_s {Z TK L S N B U A C R1 R2 Q W : Int32} (h : zFi pl nx idl fi la tm kept dist ro cs nxc fc lc bt ch ru ab tk l D TK.toInt L.toInt) (hi : L.toInt < dist) (hd3 : dist ≤ 300) (eZ : Z = idl L.toNatClampNeg) (hb : zW (0 ≤ Z.toInt → Z.toInt ≤ 399 → B.toInt = (bt Z.toNatClampNeg).toInt)) (hla : zW (0 ≤ Z.toInt → Z.toInt ≤ 399 → 0 ≤ (l Z.toNatClampNeg).toInt → U.toInt = (l Z.toNatClampNeg).toInt - 1)) (hN : N.toInt = D) (eS : S = N - U) (hf : zBf pl nx idl fi la tm kept dist Z.toNatClampNeg S.toInt A.toInt) (eC : C = B + A) (h1 : zW (0 ≤ C.toInt → C.toInt ≤ 200000 → R1.toInt = (zco C.toInt.toNat : Int))) (h2 : zW (0 ≤ B.toInt → B.toInt ≤ 200000 → R2.toInt = (zco B.toInt.toNat : Int))) (eQ : Q = R1 - R2) (eW : W = TK + Q) (hi' : i' = L.toInt + 1) : zFi pl nx idl fi la tm kept dist ro cs nxc fc lc bt ch ru ab tk l D W.toInt i' := fun T V t hh => by
  obtain ⟨a1, a2, a3, a4⟩ := h T V t hh
  obtain ⟨c1, c2, c3, c4, c5, c6⟩ := hh
  obtain ⟨k1, k2, k3, k4, k5, k6⟩ := c1
  have eL : L.toNatClampNeg = L.toInt.toNat := rfl
  rw [eL] at eZ
  have z1 := k2 L.toInt.toNat (by omega)
  rw [← eZ] at z1
  have eN : Z.toNatClampNeg = Z.toInt.toNat := rfl
  have hz : Z.toInt.toNat < 400 := by omega
  have b1 := hb z1.1 (by omega)
  have b2 := c2.1 _ hz
  have lb := zLv_b (T := T) (V := V) (id := Z.toInt.toNat) (d := D.toNat)
  have l1 := c4 _ hz
  have u1 := hla z1.1 (by omega) (by rw [eN]; omega)
  rw [eN] at b1 u1 hf
  have s1 := zsub hN u1 eS (by omega) (by omega)
  have f1 := hf t V ⟨k1, k2, k3, k4, k5, k6⟩ hz (by omega) (by omega) z1.2.2
  have o1 := (k1.choose_spec _ hz).1
  have zn := zBn (T := T) (V := V) (t := t) (D := D.toNat) (id := Z.toInt.toNat)
  have gl : 0 < (zGp t V Z.toInt.toNat).length := by omega
  rw [if_pos gl, if_pos gl, if_pos gl] at zn
  have nl : ((zBv (zuf T D.toNat t) V (D.toNat + 1) Z.toInt.toNat).length : Int) = B.toInt + A.toInt := by
    rw [zn.1, f1, b1, b2, List.length_append, List.length_append, List.length_append, show S.toInt = ((D.toNat : Nat) : Int) + 1 - zLv T V D.toNat Z.toInt.toNat from by omega]
    omega
  have cz : zco (zBv T V D.toNat Z.toInt.toNat).length ≤ zcs (zBv T V D.toNat) := zsu_k (F := fun j => zco (zBv T V D.toNat j).length) (k := Z.toInt.toNat) (n := 400) hz
  have zl := zco_l (zBv T V D.toNat Z.toInt.toNat).length
  have cd : zsu (fun j => zco (zBv T V D.toNat j).length) 400 = zcs (zBv T V D.toNat) := rfl
  have go := zGp_o (t := t) (V := V) (id := Z.toInt.toNat)
  have r1 := zrL_le (l := zGp t V Z.toInt.toNat) go.2.2.2
  have g1 := zGa_l (n := S.toInt.toNat) (by omega)
  have g2 := zGa_l gl
  have g3 := zbd_k (m := S.toInt.toNat) (by omega)
  have g4 := zbd_k (m := (zGp t V Z.toInt.toNat).length) (by omega)
  have cc := zadd (x := B) (y := A) rfl rfl eC (by omega) (by omega)
  have t1 := h1 (by omega) (by omega)
  have t2 := h2 (by omega) (by omega)
  have zb := zco_b (n := C.toInt.toNat)
  have zb2 := zco_l B.toInt.toNat
  have zb3 := zco_b (n := B.toInt.toNat)
  have qq := zsub t1 t2 eQ (by omega) (by omega)
  have zp : 0 ≤ TK.toInt := by omega
  have ww := zadd (x := TK) rfl qq eW (by omega) (by omega)
  have mm := zmx_s (old := zBv T V D.toNat) (new := zBv (zuf T D.toNat t) V (D.toNat + 1)) (idl := idl) (i := L.toInt.toNat) (k := Z.toInt.toNat) (by rw [← eZ])
  have mn := zmx_n (old := zBv T V D.toNat) (new := zBv (zuf T D.toNat t) V (D.toNat + 1)) (k := Z.toInt.toNat) (dist := dist) k3 (fun a ha => (k2 a ha).1) (i := L.toInt.toNat) (by omega) (by rw [← eZ])
  have cu := zcs_u (B := zmx (zBv T V D.toNat) (zBv (zuf T D.toNat t) V (D.toNat + 1)) idl L.toInt.toNat) (k := Z.toInt.toNat) (l := zBv (zuf T D.toNat t) V (D.toNat + 1) Z.toInt.toNat) hz
  rw [mn] at cu
  rw [show (zBv (zuf T D.toNat t) V (D.toNat + 1) Z.toInt.toNat).length = C.toInt.toNat from by omega, show (zBv T V D.toNat Z.toInt.toNat).length = B.toInt.toNat from by omega] at cu
  rw [show i'.toNat = L.toInt.toNat + 1 from by omega, mm]
  exact ⟨by omega, by omega, by omega, by omega⟩
theorem zmx_e (hC : zCt pl nx idl fi la tm kept dist t V) {m : Nat} (hm : dist ≤ m) {d : Nat} : ∀ id, id < 400 → zmx (zBv T V d) (zBv (zuf T d t) V (d + 1)) idl m id = zBv (zuf T d t) V (d + 1) id ∧ zmx (zLv T V d) (zLv (zuf T d t) V (d + 1)) idl m id = zLv (zuf T d t) V (d + 1) id ∧ zmx (zHv T V d) (zHv (zuf T d t) V (d + 1)) idl m id = zHv (zuf T d t) V (d + 1) id := fun id hid => by
  unfold zmx
  by_cases c : zdn idl m id = true
  · rw [if_pos c, if_pos c, if_pos c]; exact ⟨rfl, rfl, rfl⟩
  · rw [if_neg c, if_neg c, if_neg c]
    obtain ⟨k1, k2, k3, k4, k5, k6⟩ := hC
    have o1 := (k1.choose_spec id hid).1
    have zn := zBn (T := T) (V := V) (t := t) (D := d) (id := id)
    have gl : ¬ 0 < (zGp t V id).length := fun q => by
      obtain ⟨a, a1, a2⟩ := k4 id hid (by omega)
      exact c (zdn_i.mpr ⟨a, by omega, by omega⟩)
    rw [if_neg gl, if_neg gl, if_neg gl] at zn
    exact ⟨zn.1.symm, zn.2.1.symm, zn.2.2.symm⟩
theorem zcs_c {B B' : Nat → List Bool} (h : ∀ id, id < 400 → B id = B' id) : zcs B = zcs B' := zsu_c (fun i hi => by rw [h i hi])
theorem zFf_e (h : zFi pl nx idl fi la tm kept dist ro cs nxc fc lc bt ch ru ab tk l D tkn i) (hi : dist ≤ i) (hr : (tkn ≤ 40000 ∧ r = 1) ∨ (40000 < tkn ∧ r = 0)) : zFf pl nx idl fi la tm kept dist ro cs nxc fc lc bt ch ru ab tk l D r := fun T V t hh => by
  obtain ⟨a1, a2, a3, a4⟩ := h T V t hh
  rw [zcs_c (fun id hid => (zmx_e (T := T) hh.1 (m := i.toNat) (by omega) (d := D.toNat) id hid).1)] at a3
  rcases hr with ⟨h1, h2⟩ | ⟨h1, h2⟩
  · rw [if_pos (by omega), h2]
  · rw [if_neg (by omega), h2]
end ZFI
def zWh (pl nx idl fi la tm : Nat → Int32) (kept dist : Int) (ro cs nxc fc lc bt : Nat → Int32) (ch ru ab tk : Int) (h l : Nat → Int32) (D : Int) (T : Nat → Nat → Int) (V : List Int) (t : Nat → Int) : Prop := zFh pl nx idl fi la tm kept dist ro cs nxc fc lc bt ch ru ab tk l D T V t ∧ (∀ id : Nat, id < 400 → (h id).toInt = zHv T V D.toNat id) ∧ zcs (zBv (zuf T D.toNat t) V (D.toNat + 1)) ≤ 40000
def zWm (h3 l3 idl : Nat → Int32) (D : Int) (T : Nat → Nat → Int) (V : List Int) (t : Nat → Int) (i : Nat) : Prop := ∀ id : Nat, id < 400 → (h3 id).toInt = zmx (zHv T V D.toNat) (zHv (zuf T D.toNat t) V (D.toNat + 1)) idl i id ∧ (l3 id).toInt = zmx (zLv T V D.toNat) (zLv (zuf T D.toNat t) V (D.toNat + 1)) idl i id
def zWu (pl nx idl fi la tm : Nat → Int32) (kept dist : Int) (ro cs nxc fc lc bt : Nat → Int32) (ch ru ab tk : Int) (h l : Nat → Int32) (D : Int) (ro3 cs3 nx3 fc3 lc3 bt3 : Nat → Int32) (ch3 ru3 ab3 tk3 : Int) (h3 l3 : Nat → Int32) (i : Int) : Prop := ∀ (T : Nat → Nat → Int) (V : List Int) (t : Nat → Int), zWh pl nx idl fi la tm kept dist ro cs nxc fc lc bt ch ru ab tk h l D T V t → 0 ≤ i ∧ i ≤ dist ∧ zPB ro3 cs3 nx3 fc3 lc3 bt3 ch3 ru3 ab3 tk3 (zmx (zBv T V D.toNat) (zBv (zuf T D.toNat t) V (D.toNat + 1)) idl i.toNat) ∧ zWm h3 l3 idl D T V t i.toNat
def zWv (pl nx idl fi la tm : Nat → Int32) (kept dist : Int) (ro cs nxc fc lc bt : Nat → Int32) (ch ru ab tk : Int) (h l : Nat → Int32) (D : Int) (ro3 cs3 nx3 fc3 lc3 bt3 : Nat → Int32) (ch3 ru3 ab3 tk3 : Int) (h3 l3 : Nat → Int32) (i : Int) (Z : Int32) (j ah tok : Int) : Prop := ∀ (T : Nat → Nat → Int) (V : List Int) (t : Nat → Int), zWh pl nx idl fi la tm kept dist ro cs nxc fc lc bt ch ru ab tk h l D T V t → 0 ≤ i ∧ i < dist ∧ Z = idl i.toNat ∧ 0 ≤ Z.toInt ∧ Z.toInt < 400 ∧ 0 < (zGp t V Z.toInt.toNat).length ∧ 0 ≤ j ∧ j ≤ (zGp t V Z.toInt.toNat).length ∧ zPB ro3 cs3 nx3 fc3 lc3 bt3 ch3 ru3 ab3 tk3 (zuf (zmx (zBv T V D.toNat) (zBv (zuf T D.toNat t) V (D.toNat + 1)) idl i.toNat) Z.toInt.toNat (zBv T V D.toNat Z.toInt.toNat ++ (zGa (D + 1 - zLv T V D.toNat Z.toInt.toNat).toNat ++ (zGa (zGp t V Z.toInt.toNat).length ++ zrL ((zGp t V Z.toInt.toNat).take j.toNat))))) ∧ zWm h3 l3 idl D T V t (i.toNat + 1) ∧ ah = (((zGp t V Z.toInt.toNat).take j.toNat).sum : Int) - 1 ∧ ∃ path : Nat → Nat, zpt pl nx (zGp t V Z.toInt.toNat) path ∧ (j < (zGp t V Z.toInt.toNat).length → tok = path j.toNat)
section ZWI
variable {pl nx idl fi la tm ro cs nxc fc lc bt h l ro3 cs3 nx3 fc3 lc3 bt3 h3 l3 ro4 cs4 nx4 fc4 lc4 bt4 h4 l4 : Nat → Int32} {kept dist ch ru ab tk ch3 ru3 ab3 tk3 ch4 ru4 ab4 tk4 D i i' j j' ah ah' tok tok' r : Int} {T : Nat → Nat → Int} {V : List Int} {t : Nat → Int} {Z : Int32}
theorem zWu_0 (hi : i = 0) (hd : 0 ≤ dist) : zWu pl nx idl fi la tm kept dist ro cs nxc fc lc bt ch ru ab tk h l D ro cs nxc fc lc bt ch ru ab tk h l i := fun T V t hh => by
  subst hi
  refine ⟨Int.le_refl _, hd, ?_, fun id hid => ?_⟩
  · show zPB _ _ _ _ _ _ _ _ _ _ (zmx _ _ idl 0)
    rw [zmx_0]; exact hh.1.2.1
  · show _ = zmx _ _ idl 0 id ∧ _ = zmx _ _ idl 0 id
    rw [zmx_0, zmx_0]
    exact ⟨hh.2.1 id hid, hh.1.2.2.2.1 id hid⟩
theorem zWc (d : Nat) {m : Nat} {Z : Nat} {pre : List Bool} (hZ : Z < 400) (hp : pre.length ≤ (zBv (zuf T d t) V (d + 1) Z).length) : zcs (zuf (zmx (zBv T V d) (zBv (zuf T d t) V (d + 1)) idl m) Z pre) ≤ zcs (zBv (zuf T d t) V (d + 1)) := zsu_m (fun q hq => by
  by_cases c : q = Z
  · subst c; rw [zuf_s]; exact zco_m hp
  · rw [zuf_n c]
    unfold zmx
    by_cases e : zdn idl m q = true
    · rw [if_pos e]; exact Nat.le_refl _
    · rw [if_neg e]
      have zn := (zBn (T := T) (V := V) (t := t) (D := d) (id := q)).1
      apply zco_m
      rw [zn]
      split
      · rw [List.length_append]; omega
      · exact Nat.le_refl _)
theorem zWv_0 {TM L F : Int32} (hw : zWu pl nx idl fi la tm kept dist ro cs nxc fc lc bt ch ru ab tk h l D ro3 cs3 nx3 fc3 lc3 bt3 ch3 ru3 ab3 tk3 h3 l3 L.toInt) (hi : L.toInt < dist) (eZ : Z = idl L.toNatClampNeg) (eT : TM = tm Z.toNatClampNeg)
    (s1 : zW (0 ≤ Z.toInt → Z.toInt ≤ 399 → 0 ≤ (l3 Z.toNatClampNeg).toInt → (l3 Z.toNatClampNeg).toInt ≤ D → D ≤ 1000 → 0 < TM.toInt → zAp ro3 cs3 nx3 fc3 lc3 bt3 ch3 ru3 ab3 tk3 ro4 cs4 nx4 fc4 lc4 bt4 ch4 ru4 ab4 tk4 Z.toNatClampNeg (zGa (D + 1 - (l3 Z.toNatClampNeg).toInt).toNat ++ zGa TM.toInt.toNat))) (s2 : zW (0 ≤ Z.toInt → Z.toInt ≤ 399 → 0 ≤ D → D ≤ 1000 → zUi l3 l4 Z.toNatClampNeg (D + 1))) (s3 : zW (0 ≤ Z.toInt → Z.toInt ≤ 399 → 0 ≤ (h3 Z.toNatClampNeg).toInt → (h3 Z.toNatClampNeg).toInt ≤ 1000 → zUi h3 h4 Z.toNatClampNeg ((h3 Z.toNatClampNeg).toInt + 1))) (hah : ah = -1) (eF : F = fi Z.toNatClampNeg) (hj : j = 0) : zWv pl nx idl fi la tm kept dist ro cs nxc fc lc bt ch ru ab tk h l D ro4 cs4 nx4 fc4 lc4 bt4 ch4 ru4 ab4 tk4 h4 l4 L.toInt Z j ah F.toInt := fun T V t hh => by
  obtain ⟨a1, a2, a3, a4⟩ := hw T V t hh
  obtain ⟨⟨c1, c2, c3, c4, c5, c6⟩, c7, c8⟩ := hh
  obtain ⟨k1, k2, k3, k4, k5, k6⟩ := c1
  have eL : L.toNatClampNeg = L.toInt.toNat := rfl
  rw [eL] at eZ
  have z1 := k2 L.toInt.toNat (by omega)
  rw [← eZ] at z1
  have eN : Z.toNatClampNeg = Z.toInt.toNat := rfl
  have hz : Z.toInt.toNat < 400 := by omega
  obtain ⟨o1, path, o2, o3⟩ := k1.choose_spec _ hz
  have gl : 0 < (zGp t V Z.toInt.toNat).length := by omega
  have zn := zBn (T := T) (V := V) (t := t) (D := D.toNat) (id := Z.toInt.toNat)
  rw [if_pos gl, if_pos gl, if_pos gl, show ((D.toNat : Nat) : Int) = D from by omega] at zn
  have mB := zmx_n (old := zBv T V D.toNat) (new := zBv (zuf T D.toNat t) V (D.toNat + 1)) (k := Z.toInt.toNat) (dist := dist) k3 (fun a ha => (k2 a ha).1) (i := L.toInt.toNat) (by omega) (by rw [← eZ])
  have mL := zmx_n (old := zLv T V D.toNat) (new := zLv (zuf T D.toNat t) V (D.toNat + 1)) (k := Z.toInt.toNat) (dist := dist) k3 (fun a ha => (k2 a ha).1) (i := L.toInt.toNat) (by omega) (by rw [← eZ])
  have mH := zmx_n (old := zHv T V D.toNat) (new := zHv (zuf T D.toNat t) V (D.toNat + 1)) (k := Z.toInt.toNat) (dist := dist) k3 (fun a ha => (k2 a ha).1) (i := L.toInt.toNat) (by omega) (by rw [← eZ])
  have lb := zLv_b (T := T) (V := V) (id := Z.toInt.toNat) (d := D.toNat)
  have hb := zHv_b (T := T) (V := V) (id := Z.toInt.toNat) (d := D.toNat)
  have w1 := a4 _ hz
  rw [mL, mH] at w1
  rw [eN] at eT eF s1 s2 s3
  have q1 := s1 z1.1 (by omega) (by omega) (by omega) (by omega) (by rw [eT]; omega) _ a3 hz
  rw [mB, w1.2, show TM.toInt.toNat = (zGp t V Z.toInt.toNat).length from by rw [eT]; omega] at q1
  have q2 := q1 (Nat.le_trans (zWc D.toNat hz (by rw [zn.1]; simp only [List.length_append]; omega)) c8)
  have q3 := s2 z1.1 (by omega) (by omega) (by omega)
  have q4 := s3 z1.1 (by omega) (by omega) (by omega)
  subst hj
  refine ⟨a1, hi, eZ, z1.1, z1.2.1, gl, Int.le_refl _, by omega, ?_, fun q hq => ?_, by rw [hah]; rfl, path, fun j hj => ⟨(o2 j hj).2.2.1, (o2 j hj).2.2.2⟩, fun _ => by rw [eF]; exact (o3 gl).1⟩
  · show zPB ro4 cs4 nx4 fc4 lc4 bt4 ch4 ru4 ab4 tk4 (zuf _ _ (_ ++ (_ ++ (_ ++ []))))
    rw [List.append_nil]
    exact q2
  · rw [zmx_s (k := Z.toInt.toNat) (by rw [← eZ]), zmx_s (k := Z.toInt.toNat) (by rw [← eZ]), q3 q, q4 q]
    have w2 := a4 q hq
    by_cases c : q = Z.toInt.toNat
    · rw [if_pos c, if_pos c, c, zuf_s, zuf_s, zn.2.1, zn.2.2]
      exact ⟨by rw [w1.1], rfl⟩
    · rw [if_neg c, if_neg c, zuf_n c, zuf_n c]
      exact w2
theorem zWv_s {P X G N TK AH : Int32} (hw : zWv pl nx idl fi la tm kept dist ro cs nxc fc lc bt ch ru ab tk h l D ro3 cs3 nx3 fc3 lc3 bt3 ch3 ru3 ab3 tk3 h3 l3 i Z j AH.toInt TK.toInt) (hj : j < (tm Z.toNatClampNeg).toInt) (eP : P = pl TK.toNatClampNeg) (eG : G = P - AH) (s1 : zW (0 < G.toInt → 0 ≤ Z.toInt → Z.toInt ≤ 399 → zAp ro3 cs3 nx3 fc3 lc3 bt3 ch3 ru3 ab3 tk3 ro4 cs4 nx4 fc4 lc4 bt4 ch4 ru4 ab4 tk4 Z.toNatClampNeg (zGa G.toInt.toNat))) (eX : X = pl TK.toNatClampNeg) (eN : N = nx TK.toNatClampNeg) (hj' : j' = j + 1) : zWv pl nx idl fi la tm kept dist ro cs nxc fc lc bt ch ru ab tk h l D ro4 cs4 nx4 fc4 lc4 bt4 ch4 ru4 ab4 tk4 h3 l3 i Z j' X.toInt N.toInt := fun T V t hh => by
  obtain ⟨a1, a2, a3, a4, a5, a6, a7, a8, a9, a10, a11, path, a12, a13⟩ := hw T V t hh
  obtain ⟨⟨c1, c2, c3, c4, c5, c6⟩, c7, c8⟩ := hh
  have eZ : Z.toNatClampNeg = Z.toInt.toNat := rfl
  rw [eZ] at hj s1
  have hz : Z.toInt.toNat < 400 := by omega
  have o1 := (c1.1.choose_spec _ hz).1
  have hl : j.toNat < (zGp t V Z.toInt.toNat).length := by omega
  have et := a13 (by omega)
  have ec : TK.toNatClampNeg = path j.toNat := by have : TK.toNatClampNeg = TK.toInt.toNat := rfl; omega
  obtain ⟨p1, p2⟩ := a12 j.toNat hl
  have go := zGp_o (t := t) (V := V) (id := Z.toInt.toNat)
  have gm := go.2.2.2 _ (List.getElem_mem hl)
  have sm := ztsm hl
  have s2 := ztss (G := zGp t V Z.toInt.toNat) (j.toNat + 1)
  rw [ec] at eP eX eN
  have eP' : P.toInt = (((zGp t V Z.toInt.toNat).take (j.toNat + 1)).sum : Int) - 1 := by rw [eP, p1]
  have g1 := zsub eP' a11 eG (by omega) (by omega)
  have gz : G.toInt.toNat = (zGp t V Z.toInt.toNat)[j.toNat] := by omega
  have q1 := s1 (by omega) a4 (by omega) _ a9 hz
  have zn := (zBn (T := T) (V := V) (t := t) (D := D.toNat) (id := Z.toInt.toNat)).1
  rw [if_pos a6, show ((D.toNat : Nat) : Int) = D from by omega] at zn
  rw [zuf_s, zuf_z, gz] at q1
  have hd : zrL (zGp t V Z.toInt.toNat) = zrL ((zGp t V Z.toInt.toNat).take j.toNat) ++ zGa (zGp t V Z.toInt.toNat)[j.toNat] ++ zrL ((zGp t V Z.toInt.toNat).drop (j.toNat + 1)) := by rw [← ztsl hl, ← zrL_a, List.take_append_drop]
  have q2 := q1 (Nat.le_trans (zWc D.toNat hz (by rw [zn, hd]; simp only [List.length_append]; omega)) c8)
  rw [show j'.toNat = j.toNat + 1 from by omega, ztsl hl]
  refine ⟨a1, a2, a3, a4, a5, a6, by omega, by omega, ?_, a10, by rw [eX, p1], path, a12, fun q => ?_⟩
  · simp only [List.append_assoc] at q2 ⊢
    exact q2
  · rw [eN, p2 (by omega)]
theorem zWu_j (hw : zWv pl nx idl fi la tm kept dist ro cs nxc fc lc bt ch ru ab tk h l D ro3 cs3 nx3 fc3 lc3 bt3 ch3 ru3 ab3 tk3 h3 l3 i Z j ah tok) (hj : (tm Z.toNatClampNeg).toInt ≤ j) (hi : i' = i + 1) : zWu pl nx idl fi la tm kept dist ro cs nxc fc lc bt ch ru ab tk h l D ro3 cs3 nx3 fc3 lc3 bt3 ch3 ru3 ab3 tk3 h3 l3 i' := fun T V t hh => by
  obtain ⟨a1, a2, a3, a4, a5, a6, a7, a8, a9, a10, a11, path, a12, a13⟩ := hw T V t hh
  obtain ⟨⟨c1, c2, c3, c4, c5, c6⟩, c7, c8⟩ := hh
  have eZ : Z.toNatClampNeg = Z.toInt.toNat := rfl
  rw [eZ] at hj
  have hz : Z.toInt.toNat < 400 := by omega
  have o1 := (c1.1.choose_spec _ hz).1
  rw [show j.toNat = (zGp t V Z.toInt.toNat).length from by omega, List.take_length] at a9
  have zn := (zBn (T := T) (V := V) (t := t) (D := D.toNat) (id := Z.toInt.toNat)).1
  rw [if_pos a6, show ((D.toNat : Nat) : Int) = D from by omega] at zn
  rw [← zn] at a9
  rw [show i'.toNat = i.toNat + 1 from by omega]
  refine ⟨by omega, by omega, ?_, a10⟩
  rw [zmx_s (k := Z.toInt.toNat) (by rw [a3])]
  exact a9
def zWf (pl nx idl fi la tm : Nat → Int32) (kept dist : Int) (ro cs nxc fc lc bt : Nat → Int32) (ch ru ab tk : Int) (h l : Nat → Int32) (D : Int) (ro3 cs3 nx3 fc3 lc3 bt3 : Nat → Int32) (ch3 ru3 ab3 tk3 : Int) (h3 l3 : Nat → Int32) : Prop := ∀ (T : Nat → Nat → Int) (V : List Int) (t : Nat → Int), zWh pl nx idl fi la tm kept dist ro cs nxc fc lc bt ch ru ab tk h l D T V t → zPB ro3 cs3 nx3 fc3 lc3 bt3 ch3 ru3 ab3 tk3 (zBv (zuf T D.toNat t) V (D.toNat + 1)) ∧ ∀ id : Nat, id < 400 → (h3 id).toInt = zHv (zuf T D.toNat t) V (D.toNat + 1) id ∧ (l3 id).toInt = zLv (zuf T D.toNat t) V (D.toNat + 1) id
theorem zPB_x {B B' : Nat → List Bool} (h : zPB ro cs nxc fc lc bt ch ru ab tk B) (e : ∀ id, id < 400 → B id = B' id) : zPB ro cs nxc fc lc bt ch ru ab tk B' := by
  obtain ⟨a1, a2, h1, h2, h3, h4, h5, h6, h7⟩ := h
  refine ⟨fun id hid => by rw [← e id hid]; exact a1 id hid, ?_, fun id j hid hj => h1 id j hid (by dsimp only at hj ⊢; rw [e id hid]; exact hj), fun id hid hj => ?_, fun id j id' j' k1 k2 k3 k4 k5 => h3 id j id' j' k1 k2 (by dsimp only at k3 ⊢; rw [e id k1]; exact k3) (by dsimp only at k4 ⊢; rw [e id' k2]; exact k4) k5, fun id i hid hi => ?_, h5, ?_, h7⟩
  · rw [a2, zsu_c (fun i hi => by rw [e i hi])]
  · dsimp only at hj ⊢
    rw [← e id hid] at hj ⊢
    exact h2 id hid hj
  · dsimp only at hi
    rw [← e id hid] at hi ⊢
    exact h4 id i hid hi
  · have q := zsu_c (F := fun i => zrm (znc (B i).length) + 16 * znc (B i).length) (G := fun i => zrm (znc (B' i).length) + 16 * znc (B' i).length) (n := 400) (fun i hi => by rw [e i hi])
    rw [h6]
    exact congrArg (fun x : Nat => (x : Int)) q
theorem zWf_e (hw : zWu pl nx idl fi la tm kept dist ro cs nxc fc lc bt ch ru ab tk h l D ro3 cs3 nx3 fc3 lc3 bt3 ch3 ru3 ab3 tk3 h3 l3 i) (hi : dist ≤ i) : zWf pl nx idl fi la tm kept dist ro cs nxc fc lc bt ch ru ab tk h l D ro3 cs3 nx3 fc3 lc3 bt3 ch3 ru3 ab3 tk3 h3 l3 := fun T V t hh => by
  obtain ⟨a1, a2, a3, a4⟩ := hw T V t hh
  have e := zmx_e (T := T) hh.1.1 (m := i.toNat) (by omega) (d := D.toNat)
  refine ⟨zPB_x a3 (fun id hid => (e id hid).1), fun id hid => ?_⟩
  rw [← (e id hid).2.1, ← (e id hid).2.2]
  exact a4 id hid
end ZWI
section ZFG
variable {s s' : Nat → Int64} {i i' fr fr1 fr2 : Nat → Int32} {n n' b b' : Int} {V : List Int}
def zSk (fr fr1 : Nat → Int32) (b e : Int) : Prop := ∀ j : Nat, (fr1 j).toInt = if b ≤ (j : Int) ∧ (j : Int) < e then -1 else (fr j).toInt
theorem zSk_0 {e : Int} (h : e ≤ b) : zSk fr fr b e := fun j => by rw [if_neg (by omega)]
theorem zSk_s {L : Int32} {e' : Int} (h : zSk fr fr1 b L.toInt) (hb : b ≤ L.toInt) (h0 : 0 ≤ L.toInt) (e : fr2 = upd fr1 L.toNatClampNeg (-1)) (he : e' = L.toInt + 1) : zSk fr fr2 b e' := fun j => by
  rw [e]
  have := zclamp h0
  by_cases c : j = L.toNatClampNeg
  · rw [c, pk_us, if_pos (by omega)]; rfl
  · rw [pk_un c, h j]
    by_cases d : b ≤ (j : Int) ∧ (j : Int) < L.toInt
    · rw [if_pos d, if_pos (by omega)]
    · rw [if_neg d, if_neg (by omega)]
theorem zft : ∀ {V : List Int} {k : Nat}, V.Nodup → V.filter (fun w => decide (w ∈ V.take k)) = V.take k := by
  intro V k h
  have e : V = V.take k ++ V.drop k := (List.take_append_drop k V).symm
  have hd : ∀ x ∈ V.drop k, x ∉ V.take k := fun x hx hy => by
    rw [e] at h
    exact (List.nodup_append.mp h).2.2 x hy x hx rfl
  have a1 : (V.take k).filter (fun w => decide (w ∈ V.take k)) = V.take k := List.filter_eq_self.mpr (fun x hx => decide_eq_true hx)
  have a2 : (V.drop k).filter (fun w => decide (w ∈ V.take k)) = [] := List.filter_eq_nil_iff.mpr (fun x hx c => hd x hx (of_decide_eq_true c))
  have a3 : V.filter (fun w => decide (w ∈ V.take k)) = (V.take k).filter (fun w => decide (w ∈ V.take k)) ++ (V.drop k).filter (fun w => decide (w ∈ V.take k)) := by rw [← List.filter_append, ← e]
  rw [a3, a1, a2, List.append_nil]
def zFo (s : Nat → Int64) (i fr : Nat → Int32) (n : Int) (s' : Nat → Int64) (i' fr' : Nat → Int32) (n' b : Int) : Prop := ∀ V : List Int, zVo s i fr n V → 0 ≤ b → b ≤ n → zVo s' i' fr' n' (V.take b.toNat)
theorem zFo_0 (h : n ≤ b) : zFo s i fr n s i fr n b := fun V hV _ hb => by
  rw [List.take_of_length_le (by have := hV.2.1; omega)]; exact hV
theorem zFo_1 {e : Int} (h : zSk fr fr1 b e) (he : n ≤ e) (hc : zClo fr1 s s' i i' n n') (hz : ∀ j : Nat, j < 400 → fr2 j = 0) : zFo s i fr n s' i' fr2 n' b := fun V hV h0 hb => by
  have hn := hV.2.1
  have h4 := hV.2.2.1
  have hd := zVo_nd hV
  rw [← zft hd (k := b.toNat)]
  refine zVo_c hV (fun j hj => ?_) hc hz
  rw [h j, hV.2.2.2.2.2 j (by omega), List.getElem?_eq_getElem hj]
  show _ ↔ decide (V[j] ∈ V.take b.toNat) = false
  rw [decide_eq_false_iff_not]
  by_cases c : b ≤ (j : Int)
  · rw [if_pos (by omega)]
    refine ⟨fun _ hm => ?_, fun _ => rfl⟩
    obtain ⟨k, hk, ek⟩ := List.getElem_of_mem hm
    rw [List.length_take] at hk
    rw [List.getElem_take] at ek
    exact List.pairwise_iff_getElem.mp hd k j (by omega) hj (by omega) ek
  · rw [if_neg (by omega)]
    refine ⟨fun q => absurd q (by decide), fun q => absurd ?_ q⟩
    rw [List.mem_take_iff_getElem]
    exact ⟨j, by omega, rfl⟩
end ZFG
section ZEX
variable {T : Nat → Nat → Int} {V : List Int} {w : Int} {D id : Nat} {t : Nat → Int}
theorem zPq_0 (h : ∀ d, d < D → ∀ k : Nat, T d k ≠ w) : zPq T w D = [] ∧ zLd T w D = -1 ∧ zHn T w D = 0 := zPs_z (d := 0) (Nat.zero_le _) (fun e _ he => by rw [(zPn_0 (h e he)).2.2]; omega)
theorem zBv_x (hT : zTv T V D) (hw : w ∉ V) (h0 : w ≠ 0) : zBv T (V ++ [w]) D id = zBv T V D id ∧ zHv T (V ++ [w]) D id = zHv T V D id ∧ zLv T (V ++ [w]) D id = zLv T V D id := by
  have z := zPq_0 (T := T) (w := w) (D := D) (fun d hd k e => by
    rcases (hT d hd).1 k with c | c
    · exact h0 (by rw [← e]; exact c)
    · exact hw (by rw [← e]; exact c))
  have n := zBv_n (T := T) (K := V) (d := D) (k := V.length) (Nat.le_refl _)
  rw [zBv_a, zHv_a, zLv_a]
  by_cases c : id = V.length
  · rw [if_pos c, if_pos c, c, zuf_s, n.1, n.2.1, n.2.2, z.1, z.2.1, z.2.2]
    exact ⟨rfl, rfl, rfl⟩
  · rw [if_neg c, if_neg c, zuf_n c]
    exact ⟨rfl, rfl, rfl⟩
theorem zkV_c {S : Int → Bool} : zkV S V w = V ∨ (w ∉ V ∧ zkV S V w = V ++ [w]) := by
  unfold zkV
  by_cases a : S w = true
  · rw [if_pos a]; exact Or.inl rfl
  · rw [if_neg a]
    by_cases b : w ∈ V
    · rw [if_pos b]; exact Or.inl rfl
    · rw [if_neg b]
      by_cases c : V.length < 400
      · rw [if_pos c]; exact Or.inr ⟨b, rfl⟩
      · rw [if_neg c]; exact Or.inl rfl
theorem zRqs_c {f : Nat → Int32} {n : Int} {S : Int → Bool} {k : Nat} {x : (Nat → Int) × Int × List Int × Nat × Bool} : (zRqs f n S k x).2.2.1 = x.2.2.1 ∨ (zsb f n k = true ∧ zwd f n k ∉ x.2.2.1 ∧ (zRqs f n S k x).2.2.1 = x.2.2.1 ++ [zwd f n k]) := by
  unfold zRqs
  by_cases a : x.2.2.2.2 = false
  · rw [if_pos a]; exact Or.inl rfl
  · rw [if_neg a]
    by_cases b : x.2.1 < 512 ∧ (f k).toInt = 10
    · rw [if_pos b]; exact Or.inl rfl
    · rw [if_neg b]
      by_cases c : zsb f n k = true
      · rw [if_pos c]
        by_cases d : zkO S x.2.2.1 (zwd f n k) = true
        · rw [if_pos d]
          rcases zkV_c (S := S) (V := x.2.2.1) (w := zwd f n k) with e | ⟨e1, e2⟩
          · exact Or.inl e
          · exact Or.inr ⟨c, e1, e2⟩
        · rw [if_neg d]; exact Or.inl rfl
      · rw [if_neg c]; exact Or.inl rfl
theorem zRq_V {f : Nat → Int32} {n : Int} {S : Int → Bool} (hT : zTv T V D) (k : Nat) : (∃ N, (zRq f n S V k).2.2.1 = V ++ N) ∧ zTv T (zRq f n S V k).2.2.1 D ∧ ∀ id, zBv T (zRq f n S V k).2.2.1 D id = zBv T V D id ∧ zHv T (zRq f n S V k).2.2.1 D id = zHv T V D id ∧ zLv T (zRq f n S V k).2.2.1 D id = zLv T V D id := by
  induction k with
  | zero => exact ⟨⟨[], (List.append_nil _).symm⟩, hT, fun _ => ⟨rfl, rfl, rfl⟩⟩
  | succ k ih =>
    obtain ⟨⟨N, i1⟩, i2, i3⟩ := ih
    rcases zRqs_c (f := f) (n := n) (S := S) (k := k) (x := zRq f n S V k) with e | ⟨e0, e1, e2⟩
    · have e : (zRq f n S V (k + 1)).2.2.1 = (zRq f n S V k).2.2.1 := e
      rw [e]; exact ⟨⟨N, i1⟩, i2, i3⟩
    · have e2 : (zRq f n S V (k + 1)).2.2.1 = (zRq f n S V k).2.2.1 ++ [zwd f n k] := e2
      have hw : zwd f n k ≠ 0 := by
        have e0' := e0
        unfold zsb at e0'
        rw [Bool.and_eq_true] at e0'
        have := zwd_p (zinb_i.mp e0'.1)
        omega
      rw [e2]
      refine ⟨⟨N ++ [zwd f n k], by rw [i1, List.append_assoc]⟩, fun d hd => ⟨fun j => ((i2 d hd).1 j).imp id (fun q => List.mem_append_left _ q), (i2 d hd).2⟩, fun id => ?_⟩
      have x := zBv_x (id := id) i2 e1 hw
      have y := i3 id
      exact ⟨x.1.trans y.1, x.2.1.trans y.2.1, x.2.2.trans y.2.2⟩
def zdc (t : Nat → Int) (V : List Int) : Nat := (V.filter (fun w => decide (0 < zTm t w 1024))).length
theorem zds : ∀ {k : Nat}, zsu (fun id => if 0 < (zGp t V id).length then 1 else 0) k = ((V.take k).filter (fun w => decide (0 < zTm t w 1024))).length := by
  intro k
  induction k with
  | zero => rfl
  | succ k ih =>
    show zsu (fun id => if 0 < (zGp t V id).length then 1 else 0) k + (if 0 < (zGp t V k).length then 1 else 0) = _
    rw [ih]
    rcases Nat.lt_or_ge k V.length with c | c
    · have e : V.take (k + 1) = V.take k ++ [V[k]] := by rw [List.take_add_one, List.getElem?_eq_getElem c]; rfl
      rw [e, List.filter_append, List.length_append, zGp_s (List.getElem?_eq_getElem c), zPn_l]
      by_cases q : 0 < zTm t V[k] 1024
      · rw [if_pos q, List.filter_cons_of_pos (p := fun w => decide (0 < zTm t w 1024)) (decide_eq_true q)]; rfl
      · rw [if_neg q, List.filter_cons_of_neg (p := fun w => decide (0 < zTm t w 1024)) (by rw [decide_eq_false q]; decide)]; rfl
    · rw [List.take_of_length_le c, List.take_of_length_le (by omega), zGp_n (List.getElem?_eq_none c)]
      rfl
theorem zdc_e {dist : Int} (h : dist = (zsu (fun id => if 0 < (zGp t V id).length then 1 else 0) 400 : Nat)) (hV : V.length ≤ 400) : dist = zdc t V := by
  rw [h, zds, List.take_of_length_le hV]; rfl
end ZEX
def zEh (f : Nat → Int32) (n : Int) (s : Nat → Int64) (i fr : Nat → Int32) (nw : Int) (s2 : Nat → Int64) (n2 : Int) (ro cs nxc fc lc bt : Nat → Int32) (ch ru ab tk : Int) (h l : Nat → Int32) (D : Int) (S : Int → Bool) (T : Nat → Nat → Int) (V : List Int) : Prop := zTy f n ∧ n ≤ 600 ∧ zSrt s2 n2 ∧ (∀ x, S x = true ↔ zHas s2 n2 x) ∧ zKl s i fr nw ro cs nxc fc lc bt ch ru ab tk h l D T V
def zac (f : Nat → Int32) (n : Int) (S : Int → Bool) (T : Nat → Nat → Int) (V : List Int) (D : Int) : Prop := D < 120 ∧ (zRq f n S V n.toNat).2.2.2.2 = true ∧ zcs (zBv (zuf T D.toNat (zRq f n S V n.toNat).1) (zRq f n S V n.toNat).2.2.1 (D.toNat + 1)) ≤ 40000
def zEk (f : Nat → Int32) (n : Int) (s : Nat → Int64) (i fr : Nat → Int32) (nw : Int) (s2 : Nat → Int64) (n2 : Int) (ro cs nxc fc lc bt : Nat → Int32) (ch ru ab tk : Int) (h l : Nat → Int32) (D : Int) (s' : Nat → Int64) (i' fr' : Nat → Int32) (nw' : Int) (ro3 cs3 nx3 fc3 lc3 bt3 : Nat → Int32) (ch3 ru3 ab3 tk3 : Int) (h3 l3 : Nat → Int32) (D3 : Int) (on ln mk wc on3 ln3 mk3 wc3 : Nat → Int32) (os os3 r : Int) : Prop := ∀ (S : Int → Bool) (T : Nat → Nat → Int) (V : List Int), zEh f n s i fr nw s2 n2 ro cs nxc fc lc bt ch ru ab tk h l D S T V → (zac f n S T V D ∧ r = D ∧ D3 = D + 1 ∧ zKl s' i' fr' nw' ro3 cs3 nx3 fc3 lc3 bt3 ch3 ru3 ab3 tk3 h3 l3 (D + 1) (zuf T D.toNat (zRq f n S V n.toNat).1) (zRq f n S V n.toNat).2.2.1 ∧ zUi on on3 D.toNat 1 ∧ zUi ln ln3 D.toNat (zRq f n S V n.toNat).2.2.2.1 ∧ mk3 = mk ∧ zUi wc wc3 D.toNat (zdc (zRq f n S V n.toNat).1 (zRq f n S V n.toNat).2.2.1) ∧ (0 ≤ os → os ≤ 1000 → os3 = os + 1)) ∨ (¬ zac f n S T V D ∧ r = -2 ∧ D3 = D ∧ zKl s' i' fr' nw' ro3 cs3 nx3 fc3 lc3 bt3 ch3 ru3 ab3 tk3 h3 l3 D T V ∧ on3 = on ∧ ln3 = ln ∧ mk3 = mk ∧ wc3 = wc ∧ os3 = os)
section ZEK
variable {f : Nat → Int32} {n nw n2 ch ru ab tk D nw' nw4 ch3 ru3 ab3 tk3 D3 os os3 r kept dist r2 b : Int} {s s2 s' s4 : Nat → Int64} {i fr ro cs nxc fc lc bt h l i' fr' i4 fr4 ro3 cs3 nx3 fc3 lc3 bt3 h3 l3 on ln mk wc on3 ln3 wc3 pl nx idl fi la tm : Nat → Int32}
theorem zEk_d (hD : 120 ≤ D) (hf : zFo s i fr nw s' i' fr' nw' b) (hb : b = nw) (hr : r = -2) : zEk f n s i fr nw s2 n2 ro cs nxc fc lc bt ch ru ab tk h l D s' i' fr' nw' ro cs nxc fc lc bt ch ru ab tk h l D on ln mk wc on ln mk wc os os r := fun S T V hh => by
  obtain ⟨a1, a2, a3, a4, a5⟩ := hh
  have v := a5.1
  have q := hf V v (by have := v.2.1; omega) (by omega)
  rw [List.take_of_length_le (by have := v.2.1; omega)] at q
  exact Or.inr ⟨fun c => by have := c.1; omega, hr, rfl, ⟨q, a5.2⟩, rfl, rfl, rfl, rfl, rfl⟩
theorem zEk_f (hz : zRz f n s i fr nw s2 n2 s' i' fr' nw' pl nx idl fi la tm kept dist r2) (hx : r2 = 0 ∨ ∃ rf : Int, rf = 0 ∧ zFf pl nx idl fi la tm kept dist ro cs nxc fc lc bt ch ru ab tk l D rf ∧ D < 120) (hf : zFo s' i' fr' nw' s4 i4 fr4 nw4 b) (hb : b = nw) (hr : r = -2) : zEk f n s i fr nw s2 n2 ro cs nxc fc lc bt ch ru ab tk h l D s4 i4 fr4 nw4 ro cs nxc fc lc bt ch ru ab tk h l D on ln mk wc on ln mk wc os os r := fun S T V hh => by
  obtain ⟨a1, a2, a3, a4, a5⟩ := hh
  have v := a5.1
  obtain ⟨z1, z2, z3, z4⟩ := hz S V ⟨a1, a3, a4, v, a5.2.1⟩
  obtain ⟨⟨N, e1⟩, e2, e3⟩ := zRq_V (f := f) (n := n) (S := S) (V := V) (T := T) (D := D.toNat) a5.2.2.2.2.2.2.2 n.toNat
  have q := hf _ z2 (by have := v.2.1; omega) (by have := v.2.1; have := z2.2.1; rw [e1, List.length_append] at this; omega)
  rw [e1, show b.toNat = V.length from by have := v.2.1; omega, List.take_left] at q
  refine Or.inr ⟨fun c => ?_, hr, rfl, ⟨q, a5.2⟩, rfl, rfl, rfl, rfl, rfl⟩
  rcases hx with hx | ⟨rf, h1, h2, h3⟩
  · rw [c.2.1, if_pos rfl] at z1; omega
  · obtain ⟨y1, y2, y3⟩ := z4 c.2.1
    have eB : zBv T (zRq f n S V n.toNat).2.2.1 D.toNat = zBv T V D.toNat := funext fun id => (e3 id).1
    have k := h2 T _ _ ⟨y1, by rw [eB]; exact a5.2.2.1, by rw [eB]; exact a5.2.2.2.1, fun id hid => by rw [(e3 id).2.2]; exact (a5.2.2.2.2.1 id hid).2, a5.2.2.2.2.2.1, by omega⟩
    rw [if_pos c.2.2] at k
    omega
theorem zEk_s {rf kp dp : Int} (hD : D < 120) (hz : zRz f n s i fr nw s2 n2 s' i' fr' nw' pl nx idl fi la tm kept dist r2) (hx : r2 ≠ 0) (hf : zFf pl nx idl fi la tm kept dist ro cs nxc fc lc bt ch ru ab tk l D rf) (hx2 : rf ≠ 0) (hw : zWf pl nx idl fi la tm kept dist ro cs nxc fc lc bt ch ru ab tk h l D ro3 cs3 nx3 fc3 lc3 bt3 ch3 ru3 ab3 tk3 h3 l3) (u1 : zUi on on3 D.toNat 1) (u2 : zUi ln ln3 D.toNat kp) (hkp : kp = kept) (u3 : zUi wc wc3 D.toNat dp) (hdp : dp = dist) (hD3 : D3 = D + 1) (hos : 0 ≤ os → os ≤ 1000 → os3 = os + 1) (hr : r = D) : zEk f n s i fr nw s2 n2 ro cs nxc fc lc bt ch ru ab tk h l D s' i' fr' nw' ro3 cs3 nx3 fc3 lc3 bt3 ch3 ru3 ab3 tk3 h3 l3 D3 on ln mk wc on3 ln3 mk wc3 os os3 r := fun S T V hh => by
  obtain ⟨a1, a2, a3, a4, a5⟩ := hh
  have v := a5.1
  obtain ⟨z1, z2, z3, z4⟩ := hz S V ⟨a1, a3, a4, v, a5.2.1⟩
  have ok : (zRq f n S V n.toNat).2.2.2.2 = true := by
    cases c : (zRq f n S V n.toNat).2.2.2.2
    · rw [c, if_neg (by decide)] at z1; exact absurd z1 hx
    · rfl
  obtain ⟨⟨N, e1⟩, e2, e3⟩ := zRq_V (f := f) (n := n) (S := S) (V := V) (T := T) (D := D.toNat) a5.2.2.2.2.2.2.2 n.toNat
  obtain ⟨y1, y2, y3⟩ := z4 ok
  have eB : zBv T (zRq f n S V n.toNat).2.2.1 D.toNat = zBv T V D.toNat := funext fun id => (e3 id).1
  have hF : zFh pl nx idl fi la tm kept dist ro cs nxc fc lc bt ch ru ab tk l D T (zRq f n S V n.toNat).2.2.1 (zRq f n S V n.toNat).1 := ⟨y1, by rw [eB]; exact a5.2.2.1, by rw [eB]; exact a5.2.2.2.1, fun id hid => by rw [(e3 id).2.2]; exact (a5.2.2.2.2.1 id hid).2, a5.2.2.2.2.2.1, by omega⟩
  have k := hf T _ _ hF
  have fit : zcs (zBv (zuf T D.toNat (zRq f n S V n.toNat).1) (zRq f n S V n.toNat).2.2.1 (D.toNat + 1)) ≤ 40000 := by
    by_cases c : zcs (zBv (zuf T D.toNat (zRq f n S V n.toNat).1) (zRq f n S V n.toNat).2.2.1 (D.toNat + 1)) ≤ 40000
    · exact c
    · rw [if_neg c] at k; exact absurd k hx2
  obtain ⟨w1, w2⟩ := hw T _ _ ⟨hF, fun id hid => by rw [(e3 id).2.1]; exact (a5.2.2.2.2.1 id hid).1, fit⟩
  have d0 := a5.2.2.2.2.2.1
  have eD : (D + 1).toNat = D.toNat + 1 := by omega
  have bb := zRq_b (f := f) (n := n) (S := S) (V := V) n.toNat
  refine Or.inl ⟨⟨hD, ok, fit⟩, hr, hD3, ⟨z2, z3, by rw [eD]; exact w1, by rw [eD]; exact fit, by rw [eD]; exact w2, by omega, by omega, ?_⟩, u1, zUi_e u2 (by omega), rfl, zUi_e u3 ?_, hos⟩
  · rw [eD]
    intro d hd
    by_cases c : d = D.toNat
    · rw [c, zuf_s]
      exact ⟨y2.2.2, fun k hk => y2.2.1 k (by omega)⟩
    · rw [zuf_n c]
      exact e2 d (by omega)
  · rw [hdp, zdc_e y1.2.2.2.2.1 (by have := z2.2.1; have := z2.2.2.1; omega)]
end ZEK
def zMv (g sz : Nat → Int32) (W : Int) (V : List Int) : Prop := zMs g sz W ∧ (V.length : Int) = W ∧ W ≤ 400 ∧ (∀ j : Nat, (j : Int) < W → V[j]? = some (zkw g sz j)) ∧ ∀ x ∈ V, x ≠ 0
def zRw (ta : Nat → Int32) (b : Nat) (t : Nat → Int) (V : List Int) : Prop := ∀ k : Nat, k < 1024 → ((ta (b + k)).toInt = 0 ∧ t k = 0) ∨ (∃ j : Nat, V[j]? = some (t k) ∧ (ta (b + k)).toInt = j + 1 ∧ t k ≠ 0)
def zMd (g sz : Nat → Int32) (W : Int) (ta ke : Nat → Int32) (D : Int) (T : Nat → Nat → Int) (V : List Int) : Prop := zMv g sz W V ∧ 0 ≤ D ∧ D ≤ 120 ∧ (∀ d : Nat, (d : Int) < D → zRw ta (1024 * d) (T d) V ∧ (∀ k : Nat, 1024 ≤ k → T d k = 0) ∧ ((ke d).toInt = 0 → ∀ k : Nat, T d k = 0)) ∧ ∀ j : Nat, 1024 * D ≤ (j : Int) → j < 122880 → (ta j).toInt = 0
section ZMV
variable {g sz g' sz' w : Nat → Int32} {W s r x : Int} {V : List Int}
theorem zMv_nd (h : zMv g sz W V) : V.Nodup := by
  unfold List.Nodup
  rw [List.pairwise_iff_getElem]
  intro j k hj hk hjk e
  have l := h.2.1
  have a := h.2.2.2.1 j (by omega)
  have b := h.2.2.2.1 k (by omega)
  rw [List.getElem?_eq_getElem hj] at a
  rw [List.getElem?_eq_getElem hk] at b
  exact h.1.2 j k hjk (by omega) (by rw [← Option.some.inj a, ← Option.some.inj b, e])
theorem zMv_m (h : zMv g sz W V) : x ∈ V ↔ zQ g sz W x := by
  have l := h.2.1
  constructor
  · intro hx
    obtain ⟨j, hj, e⟩ := List.getElem_of_mem hx
    have a := h.2.2.2.1 j (by omega)
    rw [List.getElem?_eq_getElem hj] at a
    exact ⟨j, by omega, by rw [← Option.some.inj a, e]⟩
  · rintro ⟨j, hj, e⟩
    rw [← e]
    exact List.mem_of_getElem? (h.2.2.2.1 j hj)
theorem zMv_f (h : zMv g sz W V) (hf : zFd g sz w s W r) (hv : ∀ k : Nat, (k : Int) < s → zVl (w k).toInt) (hs : s ≤ 12) (h0 : 0 ≤ s) (hx : x = zpk (fun k => (w k).toInt) s.toNat 12) : zIf V x r := by
  by_cases c : r = -1
  · refine Or.inl ⟨c, fun q => ?_⟩
    rw [zMv_m h, hx] at q
    exact zFd_o hf c h.1 hv hs h0 q
  · have q := zFd_x hf c
    refine Or.inr ⟨q.1, ?_⟩
    rw [h.2.2.2.1 r.toNat (by omega), q.2.2, hx]
theorem zMv_n {N S : Int32} {W' : Int} (h : zMv g sz W V) (hW : W < 400) (hx : x ∉ V) (hxe : x = zpk (fun k => (w k).toInt) s.toNat 12) (hx0 : x ≠ 0) (hv : ∀ k : Nat, (k : Int) < s → zVl (w k).toInt) (hs : s ≤ 12) (h0 : 0 ≤ s) (hc : zC g g' w (12 * W) s) (hz : sz' = upd sz N.toNatClampNeg S) (hN : N.toInt = W) (hS : S.toInt = s) (hW' : W' = W + 1) : zMv g' sz' W' (V ++ [x]) := by
  have l := h.2.1
  have ho : ¬ zQ g sz W x := fun q => hx ((zMv_m h).mpr q)
  have hs0 := h.1
  have qN : N.toNatClampNeg = W.toNat := by have q : N.toNatClampNeg = N.toInt.toNat := rfl; omega
  have es : ∀ j : Nat, (j : Int) < W → sz' j = sz j := fun j hj => by rw [hz, pk_un (by omega)]
  have eg : ∀ j : Nat, (j : Int) < W → ∀ k : Nat, k < 12 → g' (12 * j + k) = g (12 * j + k) := fun j hj k hk => hc.1 _ (by omega)
  have ek : ∀ j : Nat, (j : Int) < W → zkw g' sz' j = zkw g sz j := fun j hj => zkw_c (es j hj) (fun k hk => eg j hj k (by have q := (hs0.1 j hj).2.1; omega))
  have esn : (sz' W.toNat).toInt = s := by rw [hz, qN, pk_us]; exact hS
  have egn : ∀ k : Nat, (k : Int) < s → g' (12 * W.toNat + k) = w k := fun k hk => by
    have q := hc.2 k hk (hv k hk)
    rw [show (12 * W).toNat = 12 * W.toNat from by omega] at q
    exact q
  have en : zkw g' sz' W.toNat = x := by
    rw [hxe]
    unfold zkw
    rw [esn]
    refine zpk_c (fun k hk => ?_) 12
    show (g' (12 * W.toNat + k)).toInt = (w k).toInt
    rw [egn k (by omega)]
  subst hW'
  refine ⟨⟨fun j hj => ?_, fun a b hab hb => ?_⟩, by rw [List.length_append, List.length_singleton]; omega, by omega, fun j hj => ?_, fun y hy => ?_⟩
  · by_cases c : (j : Int) < W
    · have q := hs0.1 j c
      rw [es j c]
      exact ⟨q.1, q.2.1, fun k hk => by rw [eg j c k (by omega)]; exact q.2.2 k hk⟩
    · rw [show j = W.toNat from by omega, esn]
      exact ⟨by omega, hs, fun k hk => by rw [egn k hk]; exact hv k hk⟩
  · by_cases c : (b : Int) < W
    · rw [ek a (by omega), ek b c]; exact hs0.2 a b hab c
    · rw [show b = W.toNat from by omega, en, ek a (by omega)]
      exact fun q => ho ⟨a, by omega, q⟩
  · by_cases c : (j : Int) < W
    · rw [List.getElem?_append_left (by omega), ek j c]; exact h.2.2.2.1 j c
    · rw [show j = V.length from by omega, List.getElem?_append_right (Nat.le_refl _), Nat.sub_self, show V.length = W.toNat from by omega, en]; rfl
  · rcases List.mem_append.mp hy with c | c
    · exact h.2.2.2.2 y c
    · rw [List.mem_singleton] at c; rw [c]; exact hx0
end ZMV
theorem zTx {f w : Nat → Int32} {n p q s : Int} (h1 : zTok (f p.toNat).toInt) (hp : 0 ≤ p) (hpn : p < n) (hq : q ≤ n) (hpq : p ≤ q) (h2 : zAt f p q) (h3 : q < n → ¬ zTok (f q.toNat).toInt) (hw : zMw f p q w s) : zwd f n p = zpk (fun k => (w k).toInt) s.toNat 12 ∧ (∀ k : Nat, (k : Int) < s → zVl (w k).toInt) ∧ 1 ≤ s ∧ s ≤ 12 := by
  obtain ⟨m, a1, a2, a3, a4, a5⟩ := hw h2 hp hpq
  have hin : zIn f n p := ⟨hp, hpn, h1⟩
  have hr : zRaw f n p m := ⟨a2, fun k hk => ⟨by omega, by omega, h2 _ (by omega) (by omega)⟩, by
    rcases a3 with c | c
    · exact Or.inl c
    · right
      intro d
      rw [c] at d
      exact h3 d.2.1 d.2.2⟩
  have hv : ∀ k, k < m → zVl (zLt f p k) := fun k hk => zLt_v (hr.2.1 k hk) hp
  have e : zpk (fun k => (w k).toInt) s.toNat 12 = zWrd f p m := by
    unfold zWrd
    rw [show s.toNat = zshm (zLt f p) m from by omega]
    exact zpk_c (fun k hk => a5 k hk) 12
  have hm1 : 1 ≤ m := by
    rcases Nat.eq_zero_or_pos m with c | c
    · rcases hr.2.2 with d | d
      · omega
      · rw [c] at d; exact absurd (show zIn f n (p + ((0 : Nat) : Int)) by rw [Int.ofNat_zero, Int.add_zero]; exact hin) d
    · exact c
  refine ⟨by rw [e]; exact (zwd_e ⟨m, hr, rfl⟩).symm, fun k hk => ?_, ?_, ?_⟩
  · rw [a5 k (by omega)]; exact zsh_v hv k (by omega)
  · have q := zshm_pos (L := zLt f p) hm1; omega
  · have q := zshm_le (L := zLt f p) (m := m); omega
section ZBT
variable {ta ke : Nat → Int32} {T : Nat → Nat → Int} {x w : Int} {t : Nat → Int}
theorem zp_T {d : Int} : ∀ {k : Nat}, (∀ j : Nat, j < k → ((ta (1024 * d + j).toNat).toInt = w + 1 ↔ t j = x)) → zp ta d w k = ((zTm t x k : Int), ((zrL (zPn t x k)).length : Int), zLp t x k) := by
  intro k
  induction k with
  | zero => intro _; rfl
  | succ k ih =>
    intro h
    have i := ih (fun j hj => h j (by omega))
    have hk := h k (by omega)
    have lb := zLp_b (t := t) (w := x) (k := k)
    by_cases c : t k = x
    · rw [zp_y (hk.mpr c), i]
      have e1 : zTm t x (k + 1) = zTm t x k + 1 := if_pos c
      have e2 : zPn t x (k + 1) = zPn t x k ++ [((k : Int) - zLp t x k).toNat] := if_pos c
      have e3 : zLp t x (k + 1) = k := if_pos c
      have g := zga_g (n := ((k : Int) - zLp t x k).toNat) (by omega)
      rw [show ((((k : Int) - zLp t x k).toNat : Nat) : Int) = (k : Int) - zLp t x k from by omega] at g
      rw [e1, e2, e3, zrL_a, List.length_append, ← g]
      have e4 : zrL [((k : Int) - zLp t x k).toNat] = zGa ((k : Int) - zLp t x k).toNat := List.append_nil _
      rw [e4]
      exact Prod.ext (by dsimp only; omega) (Prod.ext (by dsimp only; omega) rfl)
    · rw [zp_n (fun q => c (hk.mp q)), i]
      have e1 : zTm t x (k + 1) = zTm t x k := if_neg c
      have e2 : zPn t x (k + 1) = zPn t x k := if_neg c
      have e3 : zLp t x (k + 1) = zLp t x k := if_neg c
      rw [e1, e2, e3]
theorem zB_T (hx : x ≠ 0) : ∀ {D : Nat}, (∀ d : Nat, d < D → (∀ j : Nat, j < 1024 → ((ta (1024 * (d : Int) + j).toNat).toInt = w + 1 ↔ T d j = x)) ∧ ((ke d).toInt = 0 → ∀ j : Nat, T d j = 0)) → zB ta ke w D = (((zPq T x D).length : Int), zLd T x D) := by
  intro D
  induction D with
  | zero => intro _; rfl
  | succ D ih =>
    intro h
    have i := ih (fun d hd => h d (by omega))
    obtain ⟨h1, h2⟩ := h D (by omega)
    have hp := zp_T (t := T D) (x := x) (d := (D : Int)) (k := 1024) (fun j hj => h1 j hj)
    have lb := zLd_b (T := T) (w := x) (d := D)
    have ec : zcnw ta ke w D = (zTm (T D) x 1024 : Int) := by
      by_cases c : (ke D).toInt = 0
      · rw [zcnw_0 c, (zPn_0 (t := T D) (w := x) (fun k e => hx (by rw [← e]; exact h2 c k))).2.2]; rfl
      · rw [zcnw_p c, hp]
    by_cases c : 0 < zTm (T D) x 1024
    · rw [zB_y (by rw [ec]; omega), i, ec, hp, zPs_y c, zLd_y c]
      have g1 := zga_g (n := ((D : Int) - zLd T x D).toNat) (by omega)
      rw [show ((((D : Int) - zLd T x D).toNat : Nat) : Int) = (D : Int) - zLd T x D from by omega] at g1
      have g2 := zga_g c
      refine Prod.ext ?_ rfl
      dsimp only
      rw [List.length_append, List.length_append, List.length_append, ← g1, ← g2]
      omega
    · rw [zB_n (by rw [ec]; omega), i, zPs_n c, zLd_n c]
theorem zRw_i {V : List Int} {b j k : Nat} {x : Int} (h : zRw ta b t V) (hn : V.Nodup) (hv : V[j]? = some x) (hx : x ≠ 0) (hk : k < 1024) : (ta (b + k)).toInt = (j : Int) + 1 ↔ t k = x := by
  rcases h k hk with ⟨a1, a2⟩ | ⟨q, a1, a2, a3⟩
  · rw [a1, a2]
    exact ⟨fun e => by omega, fun e => absurd e.symm hx⟩
  · rw [a2]
    have lj : j < V.length := by
      rcases Nat.lt_or_ge j V.length with c | c
      · exact c
      · rw [List.getElem?_eq_none c] at hv; exact absurd hv (by simp)
    have lq : q < V.length := by
      rcases Nat.lt_or_ge q V.length with c | c
      · exact c
      · rw [List.getElem?_eq_none c] at a1; exact absurd a1 (by simp)
    rw [List.getElem?_eq_getElem lj] at hv
    rw [List.getElem?_eq_getElem lq] at a1
    have e1 := Option.some.inj hv
    have e2 := Option.some.inj a1
    constructor
    · intro e
      have : q = j := by omega
      subst this
      rw [← e1, ← e2]
    · intro e
      have hp := List.pairwise_iff_getElem.mp hn
      rcases Nat.lt_trichotomy q j with c | c | c
      · exact absurd (by rw [e1, e2, e]) (hp q j lq lj c)
      · omega
      · exact absurd (by rw [e1, e2, e]) (hp j q lj lq c)
theorem zMd_B {g sz : Nat → Int32} {W D : Int} {V : List Int} (h : zMd g sz W ta ke D T V) {j : Nat} (hj : (j : Int) < W) : zB ta ke j D.toNat = (((zBv T V D.toNat j).length : Int), zLd T (zkw g sz j) D.toNat) := by
  obtain ⟨h1, h2, h3, h4, h5⟩ := h
  have hv := h1.2.2.2.1 j hj
  have hx := h1.2.2.2.2 _ (List.mem_of_getElem? hv)
  have eB : zBv T V D.toNat j = zPq T (zkw g sz j) D.toNat := by unfold zBv; rw [hv]; rfl
  rw [eB]
  refine zB_T hx (fun d hd => ?_)
  obtain ⟨q1, q2, q3⟩ := h4 d (by omega)
  refine ⟨fun k hk => ?_, q3⟩
  rw [show (1024 * (d : Int) + (k : Int)).toNat = 1024 * d + k from by omega]
  exact zRw_i q1 (zMv_nd h1) hv hx hk
end ZBT
def zCs (n sum left room : Int) : Prop := 0 ≤ n → ∃ j : Nat, sum = (zrm j : Int) + 16 * j ∧ left = n - zrm j ∧ room = zbc j ∧ (j = 0 ∨ (zrm (j - 1) : Int) < n)
theorem zCs_0 {n sum left room : Int} (h1 : sum = 0) (h2 : left = n) (h3 : room = 32) : zCs n sum left room := fun _ => ⟨0, by rw [h1]; rfl, by rw [h2]; exact (Int.sub_zero n).symm, by rw [h3]; rfl, Or.inl rfl⟩
theorem zCs_s {n sum left room sum' left' room' : Int} (h : zCs n sum left room) (hl : 0 < left) (h1 : sum' = sum + (room + 16)) (h2 : left' = left - room) (h3 : room' = min 256 (2 * room)) : zCs n sum' left' room' := fun h0 => by
  obtain ⟨j, a1, a2, a3, a4⟩ := h h0
  have s := zrm_s j
  have b : (zbc (j + 1) : Int) = min 256 (2 * (zbc j : Int)) := by unfold zbc; (repeat' split) <;> omega
  exact ⟨j + 1, by omega, by omega, by omega, Or.inr (by rw [Nat.add_sub_cancel]; omega)⟩
theorem zCs_e {n sum left room r : Int} (h : zCs n sum left room) (hl : left ≤ 0) (hr : r = sum) : 0 ≤ n → r = (zco n.toNat : Int) := fun h0 => by
  obtain ⟨j, a1, a2, a3, a4⟩ := h h0
  have e : j = znc n.toNat := by
    rcases Nat.lt_trichotomy j (znc n.toNat) with c | c | c
    · have q := znc_p (n := n.toNat) (by
        rcases Nat.eq_zero_or_pos n.toNat with d | d
        · rw [d, znc_0] at c; omega
        · exact d)
      have z := zck_b (n.toNat - 1)
      have := zrm_m (i := j) (j := zck (n.toNat - 1)) (by omega)
      have : n.toNat ≠ 0 := fun d => by rw [d, znc_0] at c; omega
      omega
    · exact c
    · rcases a4 with d | d
      · omega
      · have := zrm_m (i := znc n.toNat) (j := j - 1) (by omega)
        have := znc_b (n := n.toNat)
        omega
  unfold zco
  rw [hr, a1, e]
  omega
def zTz (su : Nat → Int32) (j s : Int) : Prop := (∀ w : Nat, (w : Int) < j → 0 ≤ (su w).toInt) → s = (zsu (fun w => zco (su w).toInt.toNat) j.toNat : Nat)
theorem zTz_0 {su : Nat → Int32} {j s : Int} (h : j = 0) (h2 : s = 0) : zTz su j s := fun _ => by subst h; rw [h2]; rfl
theorem zTz_s {su : Nat → Int32} {j s j' s' c : Int} {i z : Int32} (h : zTz su j s) (hi : i.toInt = j) (h0 : 0 ≤ j) (ez : z = su i.toNatClampNeg) (hc : 0 ≤ z.toInt → c = (zco z.toInt.toNat : Int)) (hs : s' = s + c) (e : j' = j + 1) : zTz su j' s' := fun hp => by
  have ei : i.toNatClampNeg = j.toNat := by have : i.toNatClampNeg = i.toInt.toNat := rfl; omega
  rw [ei] at ez
  have q := h (fun w hw => hp w (by omega))
  have q2 := hp j.toNat (by omega)
  rw [← ez] at q2
  rw [show j'.toNat = j.toNat + 1 from by omega]
  show s' = ((zsu (fun w => zco (su w).toInt.toNat) j.toNat + zco (su j.toNat).toInt.toNat : Nat) : Int)
  rw [← ez, hs, q, hc q2]
  omega
def zTn (g sz : Nat → Int32) (W : Int) (ta ke : Nat → Int32) (D r : Int) : Prop := ∀ (T : Nat → Nat → Int) (V : List Int), zMd g sz W ta ke D T V → r = (zcs (zBv T V D.toNat) : Int)
theorem zTn_e {g sz su ld ta ke : Nat → Int32} {W D j r : Int} (h : zM1 su ld ta ke W D) (ht : zTz su j r) (hj : W ≤ j) (hj2 : j ≤ W) : zTn g sz W ta ke D r := fun T V hh => by
  have l := hh.1.2.1
  have l4 := hh.1.2.2.1
  have e : ∀ w : Nat, (w : Int) < W → (su w).toInt = ((zBv T V D.toNat w).length : Int) := fun w hw => by rw [(h w hw).1, zMd_B hh hw]
  rw [ht (fun w hw => by rw [e w (by omega)]; omega)]
  have a : zsu (fun w => zco (su w).toInt.toNat) j.toNat = zsu (fun w => zco (zBv T V D.toNat w).length) j.toNat := zsu_c (fun w hw => by rw [e w (by omega), Int.toNat_natCast])
  have b := zsu_0 (F := fun w => zco (zBv T V D.toNat w).length) (m := j.toNat) (n := 400) (by omega) (fun q q1 _ => by rw [(zBv_n (T := T) (K := V) (d := D.toNat) (k := q) (by omega)).1]; rfl)
  rw [a, ← b]
  rfl
theorem zRq_run {f : Nat → Int32} {n : Int} {S : Int → Bool} {V : List Int} {a : Nat} : ∀ {b : Nat}, a ≤ b → (∀ j : Nat, a ≤ j → j < b → zIn f n ((j : Int) - 1) ∧ zIn f n j) → zRq f n S V b = zRq f n S V a := by
  intro b
  induction b with
  | zero => intro h _; rw [show a = 0 from by omega]
  | succ b ih =>
    intro h hz
    by_cases c : a = b + 1
    · rw [c]
    · have i := ih (by omega) (fun j h1 h2 => hz j h1 (by omega))
      obtain ⟨q1, q2⟩ := hz b (by omega) (by omega)
      show zRqs f n S b (zRq f n S V b) = _
      rw [← i]
      unfold zRqs
      by_cases d : (zRq f n S V b).2.2.2.2 = false
      · rw [if_pos d]
      · have ne : ¬ (f b).toInt = 10 := fun e => by
          have t := q2.2.2
          rw [Int.toNat_natCast, e] at t
          unfold zTok at t
          omega
        rw [if_neg d, if_neg (fun e => ne e.2), if_neg]
        rw [zsb_0 (Or.inr q1)]
        decide
section ZRW
variable {ta ta' : Nat → Int32} {b : Nat} {t : Nat → Int} {V : List Int} {x p : Int}
theorem zRw_x {N : List Int} (h : zRw ta b t V) : zRw ta b t (V ++ N) := fun k hk => (h k hk).imp id (fun ⟨j, a1, a2, a3⟩ => ⟨j, by
  rw [List.getElem?_append_left]
  · exact a1
  · rcases Nat.lt_or_ge j V.length with c | c
    · exact c
    · rw [List.getElem?_eq_none c] at a1; exact absurd a1 (by simp), a2, a3⟩)
theorem zRw_u {I y : Int32} {j : Nat} (h : zRw ta b t V) (e : ta' = upd ta I.toNatClampNeg y) (h0 : 0 ≤ p) (hI : I.toInt = (b : Int) + p) (hy : y.toInt = (j : Int) + 1) (hv : V[j]? = some x) (hx : x ≠ 0) : zRw ta' b (zuf t p.toNat x) V := fun k hk => by
  have ei : I.toNatClampNeg = b + p.toNat := by have : I.toNatClampNeg = I.toInt.toNat := rfl; omega
  rw [e, ei]
  by_cases c : k = p.toNat
  · rw [c, pk_us, zuf_s]
    exact Or.inr ⟨j, hv, hy, hx⟩
  · rw [pk_un (by omega), zuf_n c]
    exact h k hk
theorem zRw_c (h : zRw ta b t V) (e : ∀ j : Nat, j < b + 1024 → b ≤ j → ta' j = ta j) : zRw ta' b t V := fun k hk => by rw [e (b + k) (by omega) (by omega)]; exact h k hk
end ZRW
theorem zRq_n {f : Nat → Int32} {n : Int} {S : Int → Bool} {V : List Int} (k : Nat) : (zRq f n S V k).2.1 < 512 → (2 * (zRq f n S V k).2.1 ≤ k + 1 ∧ (zinb f n ((k : Int) - 1) = false → 2 * (zRq f n S V k).2.1 ≤ k)) := by
  induction k with
  | zero => intro _; exact ⟨by show (2 * (0 : Int)) ≤ ((0 : Nat) : Int) + 1; omega, fun _ => by show (2 * (0 : Int)) ≤ ((0 : Nat) : Int); omega⟩
  | succ k ih =>
    have e : zRq f n S V (k + 1) = zRqs f n S k (zRq f n S V k) := rfl
    rw [e, show (((k + 1 : Nat) : Int)) - 1 = (k : Int) from by omega]
    unfold zRqs
    by_cases c1 : (zRq f n S V k).2.2.2.2 = false
    · rw [if_pos c1]
      intro h
      have := ih h
      exact ⟨by omega, fun _ => by omega⟩
    · rw [if_neg c1]
      by_cases c2 : (zRq f n S V k).2.1 < 512 ∧ (f k).toInt = 10
      · rw [if_pos c2]
        intro h
        exact absurd (show (512 : Int) < 512 from h) (by decide)
      · rw [if_neg c2]
        by_cases c3 : zsb f n k = true
        · rw [if_pos c3]
          have c3' := c3
          unfold zsb at c3'
          rw [Bool.and_eq_true, Bool.not_eq_true'] at c3'
          by_cases c4 : zkO S (zRq f n S V k).2.2.1 (zwd f n k) = true
          · rw [if_pos c4]
            intro h
            have h : (zRq f n S V k).2.1 + 1 < 512 := h
            have i := ih (by omega)
            have j := i.2 c3'.2
            refine ⟨?_, fun q => ?_⟩
            · show 2 * ((zRq f n S V k).2.1 + 1) ≤ _; omega
            · rw [c3'.1] at q; exact absurd q (by decide)
          · rw [if_neg c4]
            intro h
            have i := ih h
            exact ⟨by show 2 * (zRq f n S V k).2.1 ≤ _; omega, fun _ => by show 2 * (zRq f n S V k).2.1 ≤ _; omega⟩
        · rw [if_neg c3]
          intro h
          have i := ih h
          exact ⟨by omega, fun _ => by omega⟩
def zNh (f : Nat → Int32) (n : Int) (g sz : Nat → Int32) (W : Int) (ta ke : Nat → Int32) (D : Int) (sg ssz : Nat → Int32) (sn : Int) (S : Int → Bool) (T : Nat → Nat → Int) (V : List Int) : Prop := zTy f n ∧ n ≤ 600 ∧ 0 ≤ n ∧ zMs sg ssz sn ∧ (∀ x, S x = true ↔ zQ sg ssz sn x) ∧ zMd g sz W ta ke D T V ∧ D < 120
def zNc (f : Nat → Int32) (n : Int) (S : Int → Bool) (V : List Int) (D : Int) (g3 sz3 : Nat → Int32) (W3 : Int) (ta3 : Nat → Int32) (k place isB kept ti : Int) : Prop := (zRq f n S V k.toNat).2.2.2.2 = true ∧ (zRq f n S V k.toNat).2.1 = place ∧ ((isB = 0 ∧ place < 512) ∨ (isB = 1 ∧ 512 ≤ place)) ∧ kept = ((zRq f n S V k.toNat).2.2.2.1 : Int) ∧ zMv g3 sz3 W3 (zRq f n S V k.toNat).2.2.1 ∧ zRw ta3 (1024 * D.toNat) (zRq f n S V k.toNat).1 (zRq f n S V k.toNat).2.2.1 ∧ zTt (zRq f n S V k.toNat).1 place (zRq f n S V k.toNat).2.2.1 ∧ (zinb f n (k - 1) = true → zinb f n k = false) ∧ (isB = 1 → 0 ≤ ti ∧ ∀ q : Nat, ti ≤ (q : Int) → q < 512 → (zRq f n S V k.toNat).1 q = 0)
def zNe (f : Nat → Int32) (n : Int) (g sz : Nat → Int32) (W : Int) (ta ke : Nat → Int32) (D : Int) (sg ssz : Nat → Int32) (sn : Int) (g3 sz3 : Nat → Int32) (W3 : Int) (ta3 : Nat → Int32) (k place isB crowd kept ti : Int) : Prop := ∀ (S : Int → Bool) (T : Nat → Nat → Int) (V : List Int), zNh f n g sz W ta ke D sg ssz sn S T V → 0 ≤ k ∧ k ≤ n ∧ (∀ j : Nat, (j : Int) < 1024 * D → ta3 j = ta j) ∧ (∀ j : Nat, 1024 * (D + 1) ≤ (j : Int) → ta3 j = ta j) ∧ (crowd = 0 → zNc f n S V D g3 sz3 W3 ta3 k place isB kept ti) ∧ (crowd ≠ 0 → (zRq f n S V n.toNat).2.2.2.2 = false ∧ ∃ N, zMv g3 sz3 W3 (V ++ N))
section ZNE
variable {f g sz ta ke sg ssz g3 sz3 ta3 g4 sz4 ta4 w : Nat → Int32} {n W D sn W3 W4 k place isB crowd kept ti k' place' isB' crowd' kept' ti' s r rs : Int} {T : Nat → Nat → Int} {V : List Int} {S : Int → Bool}
theorem zMd_t (h : zMd g sz W ta ke D T V) : zTv T V D.toNat := fun d hd => by
  obtain ⟨h1, h2, h3, h4, h5⟩ := h
  obtain ⟨q1, q2, q3⟩ := h4 d (by omega)
  refine ⟨fun k => ?_, q2⟩
  rcases Nat.lt_or_ge k 1024 with c | c
  · rcases q1 k c with a | ⟨j, a1, a2, a3⟩
    · exact Or.inl a.2
    · exact Or.inr (List.mem_of_getElem? a1)
  · exact Or.inl (q2 k c)
theorem zNe_0 (hk : k = 0) (hp : place = 0) (hb : isB = 0) (hc : crowd = 0) (hq : kept = 0) : zNe f n g sz W ta ke D sg ssz sn g sz W ta k place isB crowd kept ti := fun S T V hh => by
  obtain ⟨a1, a2, a3, a4, a5, a6, a7⟩ := hh
  subst hk; subst hp
  refine ⟨Int.le_refl _, a3, fun _ _ => rfl, fun _ _ => rfl, fun _ => ?_, fun c => absurd hc c⟩
  have d0 := a6.2.1
  refine ⟨rfl, rfl, Or.inl ⟨hb, by decide⟩, by rw [hq]; rfl, a6.1, fun q hq => Or.inl ⟨a6.2.2.2.2 _ (by omega) (by omega), rfl⟩, ⟨Int.le_refl _, fun _ _ => rfl, fun _ => Or.inl rfl⟩, fun c => ?_, fun c => by omega⟩
  exfalso
  rw [zinb_i] at c
  have := c.1
  omega
theorem zNe_l (h : zNe f n g sz W ta ke D sg ssz sn g3 sz3 W3 ta3 k place isB crowd kept ti) (hk : k < n) (hc : crowd = 0) (hb : isB = 0) (hf : (f k.toNat).toInt = 10) (hk' : k' = k + 1) (hp' : place' = 512) (hb' : isB' = 1) (ht : ti' = place) : zNe f n g sz W ta ke D sg ssz sn g3 sz3 W3 ta3 k' place' isB' crowd kept ti' := fun S T V hh => by
  obtain ⟨b1, b2, b3, b4, b5, b6⟩ := h S T V hh
  obtain ⟨c1, c2, c3, c4, c5, c6, c7, c8, c9⟩ := b5 hc
  have e : zRq f n S V k'.toNat = ((zRq f n S V k.toNat).1, 512, (zRq f n S V k.toNat).2.2.1, (zRq f n S V k.toNat).2.2.2.1, true) := by
    rw [show k'.toNat = k.toNat + 1 from by omega]
    show zRqs f n S k.toNat (zRq f n S V k.toNat) = _
    unfold zRqs
    rw [if_neg (by rw [c1]; decide), if_pos ⟨by rw [c2]; omega, hf⟩]
  refine ⟨by omega, by omega, b3, b4, fun _ => ?_, fun q => absurd hc q⟩
  unfold zNc
  rw [e]
  refine ⟨rfl, hp'.symm, Or.inr ⟨hb', by omega⟩, c4, c5, c6, zTt_m c7 (by omega), fun q => ?_, fun _ => ⟨by have := c7.1; omega, fun q h1 h2 => c7.2.1 q (by omega)⟩⟩
  exfalso
  rw [zinb_i, show k' - 1 = k from by omega] at q
  have t := q.2.2
  rw [hf] at t
  unfold zTok at t
  omega
theorem zNe_o (h : zNe f n g sz W ta ke D sg ssz sn g3 sz3 W3 ta3 k place isB crowd kept ti) (hk : k < n) (hc : crowd = 0) (ht : ¬ zTok (f k.toNat).toInt) (hf : isB ≠ 0 ∨ (f k.toNat).toInt ≠ 10) (hk' : k' = k + 1) : zNe f n g sz W ta ke D sg ssz sn g3 sz3 W3 ta3 k' place isB crowd kept ti := fun S T V hh => by
  obtain ⟨b1, b2, b3, b4, b5, b6⟩ := h S T V hh
  obtain ⟨c1, c2, c3, c4, c5, c6, c7, c8, c9⟩ := b5 hc
  have ni : ¬ zIn f n k := fun q => ht q.2.2
  have e : zRq f n S V k'.toNat = zRq f n S V k.toNat := zRe_e c1 c2 (fun q => by rcases hf with d | d; · omega
                                                                                  · exact d q.2) b1 hk' (zsb_0 (Or.inl ni))
  refine ⟨by omega, by omega, b3, b4, fun _ => ?_, fun q => absurd hc q⟩
  unfold zNc
  rw [e]
  refine ⟨c1, c2, c3, c4, c5, c6, c7, fun q => ?_, c9⟩
  exfalso
  rw [zinb_i, show k' - 1 = k from by omega] at q
  exact ni q
theorem zNe_t {q : Int} (c1 : (zRq f n S V k.toNat).2.2.2.2 = true) (c2 : (zRq f n S V k.toNat).2.1 = place) (c8 : zinb f n (k - 1) = true → zinb f n k = false) (h0 : 0 ≤ k) (hk : k < n) (ht : zTok (f k.toNat).toInt) (ha : zAt f k q) (hkq : k < q) (hq : q ≤ n) : zRq f n S V q.toNat = if zkO S (zRq f n S V k.toNat).2.2.1 (zwd f n k) = true then (zkT S (zRq f n S V k.toNat).1 place (zwd f n k), place + 1, zkV S (zRq f n S V k.toNat).2.2.1 (zwd f n k), (zRq f n S V k.toNat).2.2.2.1 + zkC S (zwd f n k), true) else ((zRq f n S V k.toNat).1, (zRq f n S V k.toNat).2.1, (zRq f n S V k.toNat).2.2.1, (zRq f n S V k.toNat).2.2.2.1, false) := by
  have hin : zIn f n k := ⟨h0, hk, ht⟩
  have hz : zinb f n (k - 1) = false := by
    cases c : zinb f n (k - 1)
    · rfl
    · have := c8 c
      rw [zinb_n] at this
      exact absurd hin this
  have hs : zsb f n k = true := by unfold zsb; rw [zinb_i.mpr hin, hz]; rfl
  rw [zRq_run (a := k.toNat + 1) (b := q.toNat) (by omega) (fun j h1 h2 => ⟨⟨by omega, by omega, ha _ (by omega) (by omega)⟩, ⟨by omega, by omega, ha _ (by omega) (by omega)⟩⟩)]
  have e := zRe_q (f := f) (n := n) (S := S) (V := V) (at_ := k) (at' := k + 1) (place := place) c1 c2 (fun d => by
    have d2 := d.2
    rw [d2] at ht
    unfold zTok at ht
    omega) h0 rfl hs rfl
  rw [show (k + 1).toNat = k.toNat + 1 from by omega] at e
  exact e
theorem zNe_s {q : Int} (h : zNe f n g sz W ta ke D sg ssz sn g3 sz3 W3 ta3 k place isB crowd kept ti) (hk : k < n) (hc : crowd = 0) (ht : zTok (f k.toNat).toInt) (ha : zAt f k q) (hkq : k < q) (hq : q ≤ n) (hq2 : q < n → ¬ zTok (f q.toNat).toInt) (hw : zMw f k q w s) (hs : zFd sg ssz w s sn rs) (hr : rs ≠ -1) (hk' : k' = q) (hp' : place' = place + 1) (hpb : place' < 1024 ∨ True) : zNe f n g sz W ta ke D sg ssz sn g3 sz3 W3 ta3 k' place' isB crowd kept ti := fun S T V hh => by
  obtain ⟨b1, b2, b3, b4, b5, b6⟩ := h S T V hh
  obtain ⟨c1, c2, c3, c4, c5, c6, c7, c8, c9⟩ := b5 hc
  obtain ⟨x1, x2, x3, x4⟩ := zTx ht b1 hk hq (by omega) ha hq2 hw
  have hS : S (zwd f n k) = true := by
    rw [hh.2.2.2.2.1]
    have := zFd_x hs hr
    exact ⟨rs.toNat, by omega, by rw [this.2.2, x1]⟩
  have e := zNe_t (S := S) (V := V) c1 c2 c8 b1 hk ht ha hkq hq
  have e1 : zkV S (zRq f n S V k.toNat).2.2.1 (zwd f n k) = (zRq f n S V k.toNat).2.2.1 := if_pos hS
  have e2 : zkT S (zRq f n S V k.toNat).1 place (zwd f n k) = (zRq f n S V k.toNat).1 := if_pos hS
  have e3 : zkC S (zwd f n k) = 0 := if_pos hS
  have e4 : zkO S (zRq f n S V k.toNat).2.2.1 (zwd f n k) = true := by unfold zkO; rw [hS]; rfl
  rw [if_pos e4, e1, e2, e3] at e
  subst hk'
  have rb := zRq_b (f := f) (n := n) (S := S) (V := V) k.toNat
  refine ⟨by omega, hq, b3, b4, fun _ => ?_, fun q => absurd hc q⟩
  unfold zNc
  rw [e]
  refine ⟨rfl, hp'.symm, ?_, c4, c5, c6, zTt_m c7 (by omega), fun d => ?_, c9⟩
  · rcases c3 with d | d
    · have b9 := zRq_n (f := f) (n := n) (S := S) (V := V) k.toNat (by rw [c2]; exact d.2)
      rw [c2] at b9
      exact Or.inl ⟨d.1, by have := hh.2.1; omega⟩
    · exact Or.inr ⟨d.1, by omega⟩
  · rw [zinb_n]
    exact fun z => hq2 z.2.1 z.2.2
theorem zNe_w {q : Int} {I y : Int32} {j : Nat} (h : zNe f n g sz W ta ke D sg ssz sn g3 sz3 W3 ta3 k place isB crowd kept ti) (hk : k < n) (hc : crowd = 0) (ht : zTok (f k.toNat).toInt) (ha : zAt f k q) (hkq : k < q) (hq : q ≤ n) (hq2 : q < n → ¬ zTok (f q.toNat).toInt) (hw : zMw f k q w s) (hs : zFd sg ssz w s sn rs) (hr : rs = -1) (hf : zFd g3 sz3 w s W3 r)
    (hn : (r ≠ -1 ∧ (j : Int) = r ∧ g4 = g3 ∧ sz4 = sz3 ∧ W4 = W3) ∨ (r = -1 ∧ W3 ≠ 400 ∧ (j : Int) = W3 ∧ W4 = W3 + 1 ∧ zC g3 g4 w (12 * W3) s ∧ ∃ N S' : Int32, sz4 = upd sz3 N.toNatClampNeg S' ∧ N.toInt = W3 ∧ S'.toInt = s))
    (et : ta4 = upd ta3 I.toNatClampNeg y) (hI : I.toInt = 1024 * D + place) (hy : y.toInt = (j : Int) + 1) (hk' : k' = q) (hp' : place' = place + 1) (hkp : kept' = kept + 1) : zNe f n g sz W ta ke D sg ssz sn g4 sz4 W4 ta4 k' place' isB crowd kept' ti := fun S T V hh => by
  obtain ⟨b1, b2, b3, b4, b5, b6⟩ := h S T V hh
  obtain ⟨c1, c2, c3, c4, c5, c6, c7, c8, c9⟩ := b5 hc
  obtain ⟨x1, x2, x3, x4⟩ := zTx ht b1 hk hq (by omega) ha hq2 hw
  have hS : S (zwd f n k) = false := by
    cases c : S (zwd f n k)
    · rfl
    · have := (hh.2.2.2.2.1 _).mp c
      rw [x1] at this
      exact absurd this (zFd_o hs hr hh.2.2.2.1 x2 x4 (by omega))
  have d0 := hh.2.2.2.2.2.1.2.1
  have x0 : zwd f n k ≠ 0 := by have := zwd_p (f := f) (n := n) (p := k) ⟨b1, hk, ht⟩; omega
  have hI' := zMv_f c5 hf x2 x4 (by omega) x1
  have e := zNe_t (S := S) (V := V) c1 c2 c8 b1 hk ht ha hkq hq
  have e2 : zkT S (zRq f n S V k.toNat).1 place (zwd f n k) = zuf (zRq f n S V k.toNat).1 place.toNat (zwd f n k) := by unfold zkT; rw [hS, if_neg (by decide)]
  have e3 : zkC S (zwd f n k) = 1 := by unfold zkC; rw [hS, if_neg (by decide)]
  have rb := zRq_b (f := f) (n := n) (S := S) (V := V) k.toNat
  have pl0 := c7.1
  have key : zkO S (zRq f n S V k.toNat).2.2.1 (zwd f n k) = true ∧ zMv g4 sz4 W4 (zkV S (zRq f n S V k.toNat).2.2.1 (zwd f n k)) ∧ (zkV S (zRq f n S V k.toNat).2.2.1 (zwd f n k))[j]? = some (zwd f n k) ∧ ∃ N, zkV S (zRq f n S V k.toNat).2.2.1 (zwd f n k) = (zRq f n S V k.toNat).2.2.1 ++ N := by
    rcases hn with ⟨n1, n2, n3, n4, n5⟩ | ⟨n1, n2, n3, n4, n5, N, S', n6, n7, n8⟩
    · rcases hI' with ⟨i1, -⟩ | ⟨i1, i2⟩
      · exact absurd i1 n1
      · have hm := List.mem_of_getElem? i2
        have e1 : zkV S (zRq f n S V k.toNat).2.2.1 (zwd f n k) = (zRq f n S V k.toNat).2.2.1 := by unfold zkV; rw [hS, if_neg (by decide), if_pos hm]
        have e4 : zkO S (zRq f n S V k.toNat).2.2.1 (zwd f n k) = true := by unfold zkO; rw [hS, decide_eq_true hm]; rfl
        rw [e1, n3, n4, n5, show j = r.toNat from by omega]
        exact ⟨e4, c5, i2, [], (List.append_nil _).symm⟩
    · rcases hI' with ⟨-, i2⟩ | ⟨i1, -⟩
      · have l := c5.2.1
        have l4 := c5.2.2.1
        have e1 : zkV S (zRq f n S V k.toNat).2.2.1 (zwd f n k) = (zRq f n S V k.toNat).2.2.1 ++ [zwd f n k] := by unfold zkV; rw [hS, if_neg (by decide), if_neg i2, if_pos (by omega)]
        have e4 : zkO S (zRq f n S V k.toNat).2.2.1 (zwd f n k) = true := by unfold zkO; rw [hS, decide_eq_true (show (zRq f n S V k.toNat).2.2.1.length < 400 from by omega), Bool.or_true]
        rw [e1]
        refine ⟨e4, zMv_n c5 (by omega) i2 x1 x0 x2 x4 (by omega) n5 n6 n7 n8 n4, ?_, _, rfl⟩
        rw [show j = (zRq f n S V k.toNat).2.2.1.length from by omega, List.getElem?_append_right (Nat.le_refl _), Nat.sub_self]
        rfl
      · omega
  obtain ⟨k1, k2, k3, N, k4⟩ := key
  have hmem : zwd f n k ∈ zkV S (zRq f n S V k.toNat).2.2.1 (zwd f n k) := List.mem_of_getElem? k3
  rw [if_pos k1, e2, e3] at e
  subst hk'
  have pb : place < 1024 := by have := hh.2.1; omega
  have ei : I.toNatClampNeg = I.toInt.toNat := rfl
  refine ⟨by omega, hq, fun q hq => ?_, fun q hq => ?_, fun _ => ?_, fun q => absurd hc q⟩
  · rw [et, pk_un (by omega)]; exact b3 q hq
  · rw [et, pk_un (by omega)]; exact b4 q hq
  · unfold zNc
    rw [e]
    refine ⟨rfl, hp'.symm, ?_, by rw [hkp, c4]; exact (Int.natCast_add _ 1).symm, k2, ?_, ?_, fun d => ?_, fun d => ?_⟩
    · rcases c3 with d | d
      · have b9 := zRq_n (f := f) (n := n) (S := S) (V := V) k.toNat (by rw [c2]; exact d.2)
        rw [c2] at b9
        exact Or.inl ⟨d.1, by have := hh.2.1; omega⟩
      · exact Or.inr ⟨d.1, by omega⟩
    · refine zRw_u (j := j) ?_ et pl0 (by omega) hy k3 x0
      rw [k4]
      exact zRw_x c6
    · refine zTt_a (V := zkV S (zRq f n S V k.toNat).2.2.1 (zwd f n k)) ⟨pl0, c7.2.1, fun q => (c7.2.2 q).imp id (fun z => by rw [k4]; exact List.mem_append_left _ z)⟩ hmem hp'
    · rw [zinb_n]
      exact fun z => hq2 z.2.1 z.2.2
    · have d1 := c9 d
      refine ⟨d1.1, fun q h1 h2 => ?_⟩
      show zuf _ _ _ q = 0
      rw [zuf_n (by omega)]
      exact d1.2 q h1 h2
theorem zNe_c {q : Int} (h : zNe f n g sz W ta ke D sg ssz sn g3 sz3 W3 ta3 k place isB crowd kept ti) (hk : k < n) (hc : crowd = 0) (ht : zTok (f k.toNat).toInt) (ha : zAt f k q) (hkq : k < q) (hq : q ≤ n) (hq2 : q < n → ¬ zTok (f q.toNat).toInt) (hw : zMw f k q w s) (hs : zFd sg ssz w s sn rs) (hr : rs = -1) (hf : zFd g3 sz3 w s W3 r) (hr2 : r = -1) (hW : W3 = 400) (hk' : k' = q) (hc' : crowd' = 1) : zNe f n g sz W ta ke D sg ssz sn g3 sz3 W3 ta3 k' place' isB' crowd' kept' ti' := fun S T V hh => by
  obtain ⟨b1, b2, b3, b4, b5, b6⟩ := h S T V hh
  obtain ⟨c1, c2, c3, c4, c5, c6, c7, c8, c9⟩ := b5 hc
  obtain ⟨x1, x2, x3, x4⟩ := zTx ht b1 hk hq (by omega) ha hq2 hw
  have hS : S (zwd f n k) = false := by
    cases c : S (zwd f n k)
    · rfl
    · have := (hh.2.2.2.2.1 _).mp c
      rw [x1] at this
      exact absurd this (zFd_o hs hr hh.2.2.2.1 x2 x4 (by omega))
  have e := zNe_t (S := S) (V := V) c1 c2 c8 b1 hk ht ha hkq hq
  have l := c5.2.1
  rcases zMv_f c5 hf x2 x4 (by omega) x1 with ⟨-, i2⟩ | ⟨i1, -⟩
  · have e4 : zkO S (zRq f n S V k.toNat).2.2.1 (zwd f n k) = false := by unfold zkO; rw [hS, decide_eq_false i2, decide_eq_false (show ¬ (zRq f n S V k.toNat).2.2.1.length < 400 from by omega)]; rfl
    rw [if_neg (by rw [e4]; decide)] at e
    obtain ⟨⟨N, v1⟩, -, -⟩ := zRq_V (f := f) (n := n) (S := S) (V := V) (T := T) (D := D.toNat) (zMd_t hh.2.2.2.2.2.1) k.toNat
    refine ⟨by omega, by omega, b3, b4, fun q => by omega, fun _ => ⟨?_, N, by rw [← v1]; exact c5⟩⟩
    rw [zRq_f (k := q.toNat) (m := n.toNat) (by rw [e]) (by omega), e]
  · omega
end ZNE
section ZMR
variable {g sz ta ke g3 sz3 ta3 ke3 ta4 f sg ssz : Nat → Int32} {W D W3 n sn k place isB crowd kept ti : Int} {T : Nat → Nat → Int} {V N : List Int} {S : Int → Bool}
theorem zMv_r (h : zMv g sz W3 (V ++ N)) (hl : (V.length : Int) = W) : zMv g sz W V := by
  obtain ⟨h1, h2, h3, h4, h5⟩ := h
  rw [List.length_append] at h2
  refine ⟨⟨fun j hj => h1.1 j (by omega), fun a b hab hb => h1.2 a b hab (by omega)⟩, hl, by omega, fun j hj => ?_, fun x hx => h5 x (List.mem_append_left _ hx)⟩
  have := h4 j (by omega)
  rw [List.getElem?_append_left (by omega)] at this
  exact this
theorem zMd_n (h : zMd g sz W ta ke D T V) (hD : D < 120) (t1 : ∀ j : Nat, (j : Int) < 1024 * D → ta3 j = ta j) (t2 : ∀ j : Nat, 1024 * (D + 1) ≤ (j : Int) → ta3 j = ta j) {V3 : List Int} {t : Nat → Int} (hV : zMv g3 sz3 W3 V3) (hN : V3 = V ++ N) (hr : zRw ta3 (1024 * D.toNat) t V3) (ht : zTt t place V3) (hp : place ≤ 1024) (k1 : ∀ j : Nat, (j : Int) < D → (ke3 j) = ke j) (k2 : (ke3 D.toNat).toInt ≠ 0) : zMd g3 sz3 W3 ta3 ke3 (D + 1) (zuf T D.toNat t) V3 := by
  obtain ⟨h1, h2, h3, h4, h5⟩ := h
  refine ⟨hV, by omega, by omega, fun d hd => ?_, fun j q1 q2 => by rw [t2 j q1]; exact h5 j (by omega) q2⟩
  by_cases c : d = D.toNat
  · rw [c, zuf_s]
    exact ⟨hr, fun q hq => ht.2.1 q (by omega), fun q => absurd q k2⟩
  · rw [zuf_n c]
    obtain ⟨q1, q2, q3⟩ := h4 d (by omega)
    refine ⟨?_, q2, fun z => q3 (by rw [← k1 d (by omega)]; exact z)⟩
    rw [hN]
    exact zRw_x (zRw_c q1 (fun j j1 j2 => t1 j (by omega)))
theorem zMd_z (h : zMd g sz W ta ke D T V) (hD : D < 120) (t1 : ∀ j : Nat, (j : Int) < 1024 * D → ta4 j = ta j) (t2 : ∀ j : Nat, 1024 * D ≤ (j : Int) → j < 122880 → (ta4 j).toInt = 0) (hV : zMv g3 sz3 W3 (V ++ N)) (k1 : ∀ j : Nat, (j : Int) < D → (ke3 j) = ke j) : zMd g3 sz3 W ta4 ke3 D T V := by
  obtain ⟨h1, h2, h3, h4, h5⟩ := h
  refine ⟨zMv_r hV h1.2.1, h2, h3, fun d hd => ?_, t2⟩
  obtain ⟨q1, q2, q3⟩ := h4 d (by omega)
  exact ⟨zRw_c q1 (fun j j1 j2 => t1 j (by omega)), q2, fun z => q3 (by rw [← k1 d hd]; exact z)⟩
end ZMR
def zUn (of : Nat → Int32) (j s : Int) : Prop := s = (zsu (fun w => if 0 < (of w).toInt then 1 else 0) j.toNat : Nat)
theorem zUn_0 {of : Nat → Int32} {j s : Int} (h : j = 0) (h2 : s = 0) : zUn of j s := by unfold zUn; subst h; rw [h2]; rfl
theorem zUn_s {of : Nat → Int32} {j s j' s' : Int} {i z : Int32} (h : zUn of j s) (hi : i.toInt = j) (h0 : 0 ≤ j) (ez : z = of i.toNatClampNeg) (hs : (0 < z.toInt ∧ s' = s + 1) ∨ (z.toInt ≤ 0 ∧ s' = s)) (e : j' = j + 1) : zUn of j' s' := by
  have ei : i.toNatClampNeg = j.toNat := by have : i.toNatClampNeg = i.toInt.toNat := rfl; omega
  rw [ei] at ez
  unfold zUn at h ⊢
  rw [show j'.toNat = j.toNat + 1 from by omega]
  show s' = ((zsu (fun w => if 0 < (of w).toInt then 1 else 0) j.toNat + (if 0 < (of j.toNat).toInt then 1 else 0) : Nat) : Int)
  rw [← ez]
  rcases hs with ⟨a, b⟩ | ⟨a, b⟩
  · rw [if_pos a]; omega
  · rw [if_neg (by omega)]; omega
def zUf (ta ti bo : Nat → Int32) (W d r : Int) : Prop := ∀ P : Nat → Prop, ∀ F : Nat → Nat, (∀ w : Nat, (w : Int) < W → (zHw ta ti bo d w ↔ P w)) → (∀ w : Nat, (w : Int) < W → (P w → F w = 1) ∧ (¬ P w → F w = 0)) → r = (zsu F W.toNat : Nat)
theorem zUf_e {of ta ti bo : Nat → Int32} {W d j s r : Int} (h : zTc of ta ti bo W d) (hu : zUn of j s) (hj : W ≤ j) (hj2 : j ≤ W) (hr : r = s) : zUf ta ti bo W d r := fun P F h1 h2 => by
  unfold zUn at hu
  rw [hr, hu, show j.toNat = W.toNat from by omega]
  have e : zsu (fun w => if 0 < (of w).toInt then 1 else 0) W.toNat = zsu F W.toNat := zsu_c (fun w hw => by
    have a := h w (by omega)
    have b := h1 w (by omega)
    have c := h2 w (by omega)
    by_cases q : 0 < (of w).toInt
    · rw [if_pos q, c.1 (b.mp (a.mp q))]
    · rw [if_neg q, c.2 (fun z => q (a.mpr (b.mpr z)))])
  rw [e]
theorem zUf_d {ta ti bo : Nat → Int32} {W D r : Int} {t : Nat → Int} {V : List Int} (h : zUf ta ti bo W D r) (hl : (V.length : Int) = W) (hn : V.Nodup) (hV : ∀ x ∈ V, x ≠ 0) (h0 : 0 ≤ D) (hr : zRw ta (1024 * D.toNat) t V) (hti : (ti D.toNat).toInt ≤ 512) (hbo : (bo D.toNat).toInt ≤ 512) (hc : ∀ q : Nat, t q ≠ 0 → (q : Int) < (ti D.toNat).toInt ∨ (512 ≤ q ∧ (q : Int) < 512 + (bo D.toNat).toInt)) : r = (zdc t V : Int) := by
  have e := h (fun w => ∃ q : Nat, q < 1024 ∧ V[w]? = some (t q) ∧ t q ≠ 0) (fun w => if 0 < (zGp t V w).length then 1 else 0) (fun w hw => ?_) (fun w hw => ?_)
  · rw [e, zds, List.take_of_length_le (by omega)]
    rfl
  · have hw' : w < V.length := by omega
    have hg := List.getElem?_eq_getElem hw'
    have hx := hV _ (List.getElem_mem hw')
    constructor
    · intro z
      have : ∃ q : Nat, q < 1024 ∧ (ta (1024 * D.toNat + q)).toInt = (w : Int) + 1 := by
        rcases z with ⟨p, p1, p2, p3⟩ | ⟨p, p1, p2, p3⟩
        · exact ⟨p.toNat, by omega, by have p3' : (ta (1024 * D + p).toNat).toInt = w + 1 := p3; rw [show 1024 * D.toNat + p.toNat = (1024 * D + p).toNat from by omega]; exact p3'⟩
        · exact ⟨p.toNat, by omega, by have p3' : (ta (1024 * D + p).toNat).toInt = w + 1 := p3; rw [show 1024 * D.toNat + p.toNat = (1024 * D + p).toNat from by omega]; exact p3'⟩
      obtain ⟨q, q1, q2⟩ := this
      have q3 := (zRw_i hr hn hg hx q1).mp q2
      exact ⟨q, q1, by rw [hg, q3], by rw [q3]; exact hx⟩
    · rintro ⟨q, q1, q2, q3⟩
      rw [hg] at q2
      have q4 := (zRw_i hr hn hg hx q1).mpr (Option.some.inj q2).symm
      have at_ : zAtw ta D w (q : Int) := by
        show (ta (1024 * D + q).toNat).toInt = w + 1
        rw [show (1024 * D + (q : Int)).toNat = 1024 * D.toNat + q from by omega]; exact q4
      rcases hc q q3 with c | c
      · exact Or.inl ⟨q, by omega, c, at_⟩
      · exact Or.inr ⟨q, by omega, c.2, at_⟩
  · have hw' : w < V.length := by omega
    have hg := List.getElem?_eq_getElem hw'
    rw [zGp_s hg, zPn_l]
    constructor
    · rintro ⟨q, q1, q2, q3⟩
      rw [hg] at q2
      rw [if_pos (zTm_p (k := q) (Option.some.inj q2).symm q1)]
    · intro z
      rw [if_neg]
      intro y
      apply z
      have key : ∀ m : Nat, 0 < zTm t V[w] m → ∃ q : Nat, q < m ∧ t q = V[w] := by
        intro m
        induction m with
        | zero => intro c; exact absurd c (Nat.lt_irrefl _)
        | succ m ih =>
          intro c
          by_cases d : t m = V[w]
          · exact ⟨m, by omega, d⟩
          · have c : 0 < (if t m = V[w] then zTm t V[w] m + 1 else zTm t V[w] m) := c
            rw [if_neg d] at c
            obtain ⟨q, q1, q2⟩ := ih c
            exact ⟨q, by omega, q2⟩
      obtain ⟨q, q1, q2⟩ := key 1024 y
      exact ⟨q, q1, by rw [hg, q2], by rw [q2]; exact hV _ (List.getElem_mem hw')⟩
def zEm (f : Nat → Int32) (n : Int) (g sz : Nat → Int32) (W : Int) (ta ke : Nat → Int32) (D : Int) (sg ssz : Nat → Int32) (sn : Int) (g3 sz3 : Nat → Int32) (W3 : Int) (ta3 ke3 : Nat → Int32) (D3 : Int) (on ln mk un on3 ln3 mk3 un3 : Nat → Int32) (r : Int) : Prop := ∀ (S : Int → Bool) (T : Nat → Nat → Int) (V : List Int), zTy f n → n ≤ 600 → 0 ≤ n → zMs sg ssz sn → (∀ x, S x = true ↔ zQ sg ssz sn x) → zMd g sz W ta ke D T V → (zac f n S T V D ∧ r = D ∧ D3 = D + 1 ∧ zMd g3 sz3 W3 ta3 ke3 (D + 1) (zuf T D.toNat (zRq f n S V n.toNat).1) (zRq f n S V n.toNat).2.2.1 ∧ zUi on on3 D.toNat 1 ∧ zUi ln ln3 D.toNat (zRq f n S V n.toNat).2.2.2.1 ∧ zUi mk mk3 D.toNat 0 ∧ zUi un un3 D.toNat (zdc (zRq f n S V n.toNat).1 (zRq f n S V n.toNat).2.2.1)) ∨ (¬ zac f n S T V D ∧ r = -2 ∧ D3 = D ∧ zMd g3 sz3 W3 ta3 ke3 D T V ∧ on3 = on ∧ ln3 = ln ∧ mk3 = mk ∧ un3 = un)
section ZEM
variable {f g sz ta ke sg ssz g3 sz3 ta3 ta4 ke3 ke4 on ln mk un on3 ln3 mk3 un3 ti3 bo3 : Nat → Int32} {n W D sn W3 k place isB crowd kept ti r tk D3 : Int} {T : Nat → Nat → Int} {V : List Int} {S : Int → Bool}
theorem zEm_d (hD : D = 120) (hr : r = -2) (h3 : D3 = D) : zEm f n g sz W ta ke D sg ssz sn g sz W ta ke D3 on ln mk un on ln mk un r := fun S T V _ _ _ _ _ h => by
  subst h3
  exact Or.inr ⟨fun c => by have := c.1; omega, hr, rfl, h, rfl, rfl, rfl, rfl⟩
theorem zNe_x (h : zNe f n g sz W ta ke D sg ssz sn g3 sz3 W3 ta3 k place isB crowd kept ti) (hx : n ≤ k ∨ crowd ≠ 0) (hh : zNh f n g sz W ta ke D sg ssz sn S T V) : (∀ j : Nat, (j : Int) < 1024 * D → ta3 j = ta j) ∧ (∀ j : Nat, 1024 * (D + 1) ≤ (j : Int) → ta3 j = ta j) ∧ ((crowd ≠ 0 ∧ (zRq f n S V n.toNat).2.2.2.2 = false ∧ ∃ N, zMv g3 sz3 W3 (V ++ N)) ∨ (crowd = 0 ∧ zNc f n S V D g3 sz3 W3 ta3 n place isB kept ti ∧ ∃ N, (zRq f n S V n.toNat).2.2.1 = V ++ N)) := by
  obtain ⟨b1, b2, b3, b4, b5, b6⟩ := h S T V hh
  refine ⟨b3, b4, ?_⟩
  by_cases c : crowd = 0
  · have e : k = n := by omega
    have q := b5 c
    rw [e] at q
    exact Or.inr ⟨c, q, (zRq_V (f := f) (n := n) (S := S) (V := V) (T := T) (D := D.toNat) (zMd_t hh.2.2.2.2.2.1) n.toNat).1⟩
  · exact Or.inl ⟨c, b6 c⟩
theorem zEm_r (h : zNe f n g sz W ta ke D sg ssz sn g3 sz3 W3 ta3 k place isB crowd kept ti) (hD : D < 120) (hx : n ≤ k ∨ crowd ≠ 0) (k1 : ∀ j : Nat, (j : Int) < D → ke3 j = ke j) (k2 : (ke3 D.toNat).toInt ≠ 0) (k3 : ∀ j : Nat, (j : Int) < D → ke4 j = ke j) (ht : crowd ≠ 0 ∨ (zTn g3 sz3 W3 ta3 ke3 (D + 1) tk ∧ 40000 < tk)) (t1 : ∀ j : Nat, ¬ (1024 * D ≤ (j : Int) ∧ (j : Int) < 1024 * D + 1024) → ta4 j = ta3 j) (t2 : ∀ j : Nat, 1024 * D ≤ (j : Int) → (j : Int) < 1024 * D + 1024 → (ta4 j).toInt = 0) (hr : r = -2) (h3 : D3 = D) : zEm f n g sz W ta ke D sg ssz sn g3 sz3 W ta4 ke4 D3 on ln mk un on ln mk un r := fun S T V q1 q2 q3 q4 q5 q6 => by
  subst h3
  have d0 := q6.2.1
  obtain ⟨x1, x2, x3⟩ := zNe_x (S := S) (T := T) (V := V) h hx ⟨q1, q2, q3, q4, q5, q6, hD⟩
  have u1 : ∀ j : Nat, (j : Int) < 1024 * D3 → ta4 j = ta j := fun j hj => by rw [t1 j (by omega)]; exact x1 j hj
  have u2 : ∀ j : Nat, 1024 * D3 ≤ (j : Int) → j < 122880 → (ta4 j).toInt = 0 := fun j j1 j2 => by
    by_cases c : (j : Int) < 1024 * D3 + 1024
    · exact t2 j j1 c
    · rw [t1 j (by omega), x2 j (by omega)]; exact q6.2.2.2.2 j (by omega) j2
  rcases x3 with ⟨y1, y2, N, y3⟩ | ⟨y1, y2, N, y3⟩
  · exact Or.inr ⟨fun c => by have := c.2.1; rw [y2] at this; exact absurd this (by decide), hr, rfl, zMd_z q6 hD u1 u2 y3 k3, rfl, rfl, rfl, rfl⟩
  · obtain ⟨c1, c2, c3, c4, c5, c6, c7, c8, c9⟩ := y2
    rcases ht with z | ⟨z1, z2⟩
    · exact absurd y1 z
    · have rb := zRq_b (f := f) (n := n) (S := S) (V := V) n.toNat
      have md := zMd_n (N := N) q6 hD x1 x2 c5 y3 c6 c7 (by omega) k1 k2
      have e := z1 _ _ md
      rw [show (D3 + 1).toNat = D3.toNat + 1 from by omega] at e
      exact Or.inr ⟨fun c => by have := c.2.2; omega, hr, rfl, zMd_z q6 hD u1 u2 (by rw [← y3]; exact c5) k3, rfl, rfl, rfl, rfl⟩
theorem zEm_a (h : zNe f n g sz W ta ke D sg ssz sn g3 sz3 W3 ta3 k place isB crowd kept ti) (hD : D < 120) (hx : n ≤ k ∨ crowd ≠ 0) (hc : crowd = 0) (k1 : ∀ j : Nat, (j : Int) < D → ke3 j = ke j) (k2 : (ke3 D.toNat).toInt ≠ 0) (ht : zTn g3 sz3 W3 ta3 ke3 D3 tk) (hk : tk ≤ 40000) (o1 : zUi on on3 D.toNat 1) (o2 : zUi ln ln3 D.toNat kept) (o3 : zUi mk mk3 D.toNat 0) {ru : Int} (o4 : zUi un un3 D.toNat ru) (hu : zUf ta3 ti3 bo3 W3 D ru) (b1 : (isB = 1 ∧ (ti3 D.toNat).toInt = ti ∧ (bo3 D.toNat).toInt = place - 512) ∨ (isB ≠ 1 ∧ (ti3 D.toNat).toInt = min place 512)) (b2 : 0 ≤ (bo3 D.toNat).toInt ∧ (bo3 D.toNat).toInt ≤ 512 ∧ (ti3 D.toNat).toInt ≤ 512) (hr : r = D) (h3 : D3 = D + 1) : zEm f n g sz W ta ke D sg ssz sn g3 sz3 W3 ta3 ke3 D3 on ln mk un on3 ln3 mk3 un3 r := fun S T V q1 q2 q3 q4 q5 q6 => by
  rw [h3] at ht
  have d0 := q6.2.1
  obtain ⟨x1, x2, x3⟩ := zNe_x (S := S) (T := T) (V := V) h hx ⟨q1, q2, q3, q4, q5, q6, hD⟩
  rcases x3 with ⟨y1, -⟩ | ⟨-, y2, N, y3⟩
  · exact absurd hc y1
  · obtain ⟨c1, c2, c3, c4, c5, c6, c7, c8, c9⟩ := y2
    have rb := zRq_b (f := f) (n := n) (S := S) (V := V) n.toNat
    have md := zMd_n (N := N) q6 hD x1 x2 c5 y3 c6 c7 (by omega) k1 k2
    have e := ht _ _ md
    rw [show (D + 1).toNat = D.toNat + 1 from by omega] at e
    refine Or.inl ⟨⟨hD, c1, by omega⟩, hr, h3, md, o1, zUi_e o2 c4.symm, o3, zUi_e o4 ?_⟩
    refine (zUf_d hu c5.2.1 (zMv_nd c5) c5.2.2.2.2 d0 c6 b2.2.2 b2.2.1 (fun q hq => ?_)).symm
    rcases b1 with ⟨z1, z2, z3⟩ | ⟨z1, z2⟩
    · have c9' := c9 z1
      by_cases a : (q : Int) < ti
      · exact Or.inl (by omega)
      · by_cases b : q < 512
        · exact absurd (c9'.2 q (by omega) b) hq
        · refine Or.inr ⟨by omega, ?_⟩
          by_cases c : (q : Int) < place
          · omega
          · exact absurd (c7.2.1 q (by omega)) hq
    · have : place < 512 := by omega
      refine Or.inl ?_
      by_cases c : (q : Int) < place
      · omega
      · exact absurd (c7.2.1 q (by omega)) hq
end ZEM
def zEx (crowd : Int) (g sz : Nat → Int32) (W : Int) (ta ke : Nat → Int32) (D : Int) : Prop := crowd ≠ 0 ∨ ∃ tk : Int, zTn g sz W ta ke D tk ∧ 40000 < tk
def zKs (ke ke3 : Nat → Int32) (D : Int) (v : Int) : Prop := (∀ j : Nat, (j : Int) < D → ke3 j = ke j) ∧ (ke3 D.toNat).toInt = v
def zEz (f : Nat → Int32) (n : Int) (g sz : Nat → Int32) (W : Int) (ta ke : Nat → Int32) (D : Int) (sg ssz : Nat → Int32) (sn : Int) (g3 sz3 : Nat → Int32) (W3 : Int) (ta4 : Nat → Int32) (i : Int) : Prop := ∃ (ta3 ke3 : Nat → Int32) (k place isB crowd kept ti : Int), zNe f n g sz W ta ke D sg ssz sn g3 sz3 W3 ta3 k place isB crowd kept ti ∧ (n ≤ k ∨ crowd ≠ 0) ∧ zKs ke ke3 D 1 ∧ zEx crowd g3 sz3 W3 ta3 ke3 (D + 1) ∧ (∀ j : Nat, ¬ (1024 * D ≤ (j : Int) ∧ (j : Int) < 1024 * D + i) → ta4 j = ta3 j) ∧ (∀ j : Nat, 1024 * D ≤ (j : Int) → (j : Int) < 1024 * D + i → (ta4 j).toInt = 0)
section ZEZ
variable {f g sz ta ke sg ssz g3 sz3 ta3 ta4 ta5 ke3 ke4 on ln mk un : Nat → Int32} {n W D sn W3 k place isB crowd kept ti ti' i i' r D3 v : Int}
theorem zKs_i {I x : Int32} (e : ke3 = upd ke I.toNatClampNeg x) (hI : I.toInt = D) (h0 : 0 ≤ D) (hx : x.toInt = v) : zKs ke ke3 D v := by
  have ei : I.toNatClampNeg = D.toNat := by have : I.toNatClampNeg = I.toInt.toNat := rfl; omega
  rw [ei] at e
  exact ⟨fun j hj => by rw [e, pk_un (by omega)], by rw [e, pk_us, hx]⟩
theorem zKs_j {I x : Int32} {u : Int} (h : zKs ke ke3 D u) (e : ke4 = upd ke3 I.toNatClampNeg x) (hI : I.toInt = D) (h0 : 0 ≤ D) (hx : x.toInt = v) : zKs ke ke4 D v := by
  have ei : I.toNatClampNeg = D.toNat := by have : I.toNatClampNeg = I.toInt.toNat := rfl; omega
  rw [ei] at e
  exact ⟨fun j hj => by rw [e, pk_un (by omega)]; exact h.1 j hj, by rw [e, pk_us, hx]⟩
theorem zNe_ti (h : zNe f n g sz W ta ke D sg ssz sn g3 sz3 W3 ta3 k place isB crowd kept ti) (hb : isB ≠ 1) : zNe f n g sz W ta ke D sg ssz sn g3 sz3 W3 ta3 k place isB crowd kept ti' := fun S T V hh => by
  obtain ⟨b1, b2, b3, b4, b5, b6⟩ := h S T V hh
  refine ⟨b1, b2, b3, b4, fun c => ?_, b6⟩
  obtain ⟨c1, c2, c3, c4, c5, c6, c7, c8, c9⟩ := b5 c
  exact ⟨c1, c2, c3, c4, c5, c6, c7, c8, fun z => absurd z hb⟩
theorem zEz_0 (h : zNe f n g sz W ta ke D sg ssz sn g3 sz3 W3 ta3 k place isB crowd kept ti) (hx : n ≤ k ∨ crowd ≠ 0) (hk : zKs ke ke3 D 1) (he : zEx crowd g3 sz3 W3 ta3 ke3 D3) (h3 : D3 = D + 1) (hi : i = 0) : zEz f n g sz W ta ke D sg ssz sn g3 sz3 W3 ta3 i := by
  subst h3
  exact ⟨ta3, ke3, k, place, isB, crowd, kept, ti, h, hx, hk, he, fun _ _ => rfl, fun j j1 j2 => by omega⟩
theorem zEz_s {I x : Int32} (h : zEz f n g sz W ta ke D sg ssz sn g3 sz3 W3 ta4 i) (e : ta5 = upd ta4 I.toNatClampNeg x) (hI : I.toInt = 1024 * D + i) (h0 : 0 ≤ 1024 * D + i) (h1 : 0 ≤ i) (hx : x.toInt = 0) (hi : i' = i + 1) : zEz f n g sz W ta ke D sg ssz sn g3 sz3 W3 ta5 i' := by
  obtain ⟨ta3, ke3, k, place, isB, crowd, kept, ti, a1, a2, a3, a4, a5, a6⟩ := h
  have ei : I.toNatClampNeg = (1024 * D + i).toNat := by have : I.toNatClampNeg = I.toInt.toNat := rfl; omega
  rw [ei] at e
  refine ⟨ta3, ke3, k, place, isB, crowd, kept, ti, a1, a2, a3, a4, fun j hj => ?_, fun j j1 j2 => ?_⟩
  · rw [e, pk_un (by omega)]; exact a5 j (by omega)
  · by_cases c : j = (1024 * D + i).toNat
    · rw [e, c, pk_us, hx]
    · rw [e, pk_un c]; exact a6 j j1 (by omega)
theorem zEm_z (h : zEz f n g sz W ta ke D sg ssz sn g3 sz3 W3 ta4 i) (hi : i = 1024) (hD : D < 120) (hk : zKs ke ke4 D 0) (hr : r = -2) (h3 : D3 = D) : zEm f n g sz W ta ke D sg ssz sn g3 sz3 W ta4 ke4 D3 on ln mk un on ln mk un r := by
  obtain ⟨ta3, ke3, k, place, isB, crowd, kept, ti, a1, a2, a3, a4, a5, a6⟩ := h
  subst hi
  rcases a4 with a4 | ⟨tk, b1, b2⟩
  · exact zEm_r (tk := 0) a1 hD a2 a3.1 (by rw [a3.2]; decide) hk.1 (Or.inl a4) a5 a6 hr h3
  · exact zEm_r a1 hD a2 a3.1 (by rw [a3.2]; decide) hk.1 (Or.inr ⟨b1, b2⟩) a5 a6 hr h3
end ZEZ
def zOc (T : Nat → Nat → Int) (D : Int) (x : Int) : Prop := ∃ d k : Nat, (d : Int) < D ∧ k < 1024 ∧ T d k = x
def zTg (on ta ke : Nat → Int32) (D : Int) (ta3 ke3 : Nat → Int32) (d i : Int) : Prop := (∀ e : Nat, (e : Int) < D → ((e : Int) < d → ((on e).toInt ≠ 0 ∧ ke3 e = ke e ∧ ∀ k : Nat, k < 1024 → ta3 (1024 * e + k) = ta (1024 * e + k)) ∨ ((on e).toInt = 0 ∧ (ke3 e).toInt = 0 ∧ (((ke e).toInt = 0 ∧ ∀ k : Nat, k < 1024 → ta3 (1024 * e + k) = ta (1024 * e + k)) ∨ ∀ k : Nat, k < 1024 → (ta3 (1024 * e + k)).toInt = 0))) ∧ ((e : Int) = d → (0 ≤ i → (on e).toInt = 0 ∧ (ke3 e).toInt = 0 ∧ ∀ k : Nat, k < 1024 → ((k : Int) < i → (ta3 (1024 * e + k)).toInt = 0)) ∧ (i < 0 → ke3 e = ke e ∧ ∀ k : Nat, k < 1024 → ta3 (1024 * e + k) = ta (1024 * e + k))) ∧ (d < (e : Int) → ke3 e = ke e ∧ ∀ k : Nat, k < 1024 → ta3 (1024 * e + k) = ta (1024 * e + k))) ∧ ∀ j : Nat, 1024 * D ≤ (j : Int) → ta3 j = ta j
section ZTG
variable {on ta ke ta3 ke3 ta4 ke4 g sz g3 sz3 : Nat → Int32} {D d d' i i' W W3 : Int} {T : Nat → Nat → Int} {V : List Int}
theorem zTg_0 (hd : d = 0) (hi : i = -1) : zTg on ta ke D ta ke d i := by
  subst hd; subst hi
  exact ⟨fun e he => ⟨fun c => by omega, fun c => ⟨fun q => by omega, fun _ => ⟨rfl, fun _ _ => rfl⟩⟩, fun _ => ⟨rfl, fun _ _ => rfl⟩⟩, fun _ _ => rfl⟩
theorem zTg_n {Q z y : Int32} (h : zTg on ta ke D ta3 ke3 Q.toInt i) (hi : i = -1) (h0 : 0 ≤ Q.toInt) (hz : (on Q.toNatClampNeg).toInt ≠ 0 ∨ ((on Q.toNatClampNeg).toInt = 0 ∧ (ke3 Q.toNatClampNeg).toInt = 0)) (hd : d' = Q.toInt + 1) (hi' : i' = -1) : zTg on ta ke D ta3 ke3 d' i' := by
  refine ⟨fun e he => ?_, h.2⟩
  obtain ⟨a1, a2, a3⟩ := h.1 e he
  refine ⟨fun c => ?_, fun c => ⟨fun q => by omega, fun _ => a3 (by omega)⟩, fun c => a3 (by omega)⟩
  by_cases c2 : (e : Int) < Q.toInt
  · exact a1 c2
  · have eQ : e = Q.toNatClampNeg := by have := zclamp h0; omega
    have b := (a2 (by omega)).2 (by omega)
    rw [eQ] at b ⊢
    rcases hz with z | z
    · exact Or.inl ⟨z, b.1, b.2⟩
    · exact Or.inr ⟨z.1, z.2, Or.inl ⟨by rw [← b.1]; exact z.2, b.2⟩⟩
theorem zTg_k {Q x : Int32} (h : zTg on ta ke D ta3 ke3 Q.toInt i) (h0 : 0 ≤ Q.toInt) (hi : i = -1) (hz : (on Q.toNatClampNeg).toInt = 0) (e : ke4 = upd ke3 Q.toNatClampNeg x) (hx : x.toInt = 0) (hi' : i' = 0) : zTg on ta ke D ta3 ke4 Q.toInt i' := by
  refine ⟨fun q hq => ?_, h.2⟩
  obtain ⟨a1, a2, a3⟩ := h.1 q hq
  have cl := zclamp h0
  refine ⟨fun c => ?_, fun c => ⟨fun _ => ?_, fun c => by omega⟩, fun c => ?_⟩
  · rw [e, pk_un (by omega)]; exact a1 c
  · have eQ : q = Q.toNatClampNeg := by omega
    rw [eQ, e, pk_us]
    exact ⟨hz, hx, fun k _ hk => by omega⟩
  · rw [e, pk_un (by omega)]; exact a3 c
theorem zTg_r {Q I x : Int32} (h : zTg on ta ke D ta3 ke3 Q.toInt i) (h0 : 0 ≤ Q.toInt) (hQ : Q.toInt < D) (hi : 0 ≤ i) (hi2 : i < 1024) (e : ta4 = upd ta3 I.toNatClampNeg x) (hI : I.toInt = 1024 * Q.toInt + i) (hx : x.toInt = 0) (hi' : i' = i + 1) : zTg on ta ke D ta4 ke3 Q.toInt i' := by
  have ei : I.toNatClampNeg = (1024 * Q.toInt + i).toNat := by have : I.toNatClampNeg = I.toInt.toNat := rfl; omega
  rw [ei] at e
  refine ⟨fun q hq => ?_, fun j hj => by rw [e, pk_un (by omega)]; exact h.2 j hj⟩
  obtain ⟨a1, a2, a3⟩ := h.1 q hq
  have same : (q : Int) ≠ Q.toInt → ∀ k : Nat, k < 1024 → ta4 (1024 * q + k) = ta3 (1024 * q + k) := fun hne k hk => by rw [e, pk_un (by omega)]
  refine ⟨fun c => ?_, fun c => ⟨fun _ => ?_, fun c => by omega⟩, fun c => ?_⟩
  · rcases a1 c with ⟨b1, b2, b3⟩ | ⟨b1, b2, b3⟩
    · exact Or.inl ⟨b1, b2, fun k hk => by rw [same (by omega) k hk]; exact b3 k hk⟩
    · refine Or.inr ⟨b1, b2, ?_⟩
      rcases b3 with ⟨b3, b4⟩ | b3
      · exact Or.inl ⟨b3, fun k hk => by rw [same (by omega) k hk]; exact b4 k hk⟩
      · exact Or.inr (fun k hk => by rw [same (by omega) k hk]; exact b3 k hk)
  · obtain ⟨b1, b2, b3⟩ := (a2 c).1 hi
    refine ⟨b1, b2, fun k hk hki => ?_⟩
    by_cases z : 1024 * q + k = (1024 * Q.toInt + i).toNat
    · rw [e, z, pk_us, hx]
    · rw [e, pk_un z]; exact b3 k hk (by omega)
  · exact ⟨(a3 c).1, fun k hk => by rw [same (by omega) k hk]; exact (a3 c).2 k hk⟩
theorem zTg_d (h : zTg on ta ke D ta3 ke3 d i) (hi : 1024 ≤ i) (hd : d' = d + 1) (hi' : i' = -1) : zTg on ta ke D ta3 ke3 d' i' := by
  refine ⟨fun e he => ?_, h.2⟩
  obtain ⟨a1, a2, a3⟩ := h.1 e he
  refine ⟨fun c => ?_, fun c => ⟨fun q => by omega, fun _ => a3 (by omega)⟩, fun c => a3 (by omega)⟩
  by_cases c2 : (e : Int) < d
  · exact a1 c2
  · obtain ⟨b1, b2, b3⟩ := (a2 (by omega)).1 (by omega)
    exact Or.inr ⟨b1, b2, Or.inr (fun k hk => b3 k hk (by omega))⟩
theorem zTg_e (h : zTg on ta ke D ta3 ke3 d i) (hd : D ≤ d) (hm : zMd g sz W ta ke D T V) : zMd g sz W ta3 ke3 D (zTo on T) V := by
  obtain ⟨h1, h2, h3, h4, h5⟩ := hm
  refine ⟨h1, h2, h3, fun e he => ?_, fun j j1 j2 => by rw [h.2 j j1]; exact h5 j j1 j2⟩
  obtain ⟨q1, q2, q3⟩ := h4 e he
  rcases (h.1 e he).1 (by omega) with ⟨b1, b2, b3⟩ | ⟨b1, b2, b3⟩
  · rw [zTo_y b1]
    exact ⟨zRw_c q1 (fun j j1 j2 => by have := b3 (j - 1024 * e) (by omega); rw [show 1024 * e + (j - 1024 * e) = j from by omega] at this; exact this), q2, fun z => q3 (by rw [← b2]; exact z)⟩
  · rw [zTo_n b1]
    refine ⟨fun k hk => Or.inl ⟨?_, rfl⟩, fun _ _ => rfl, fun _ _ => rfl⟩
    rcases b3 with ⟨b3, b4⟩ | b3
    · rw [b4 k hk]
      rcases q1 k hk with c | ⟨j, c1, c2, c3⟩
      · exact c.1
      · exact absurd (q3 b3 k) c3
    · exact b3 k hk
def zHr (he ta : Nat → Int32) (W K : Int) : Prop := ∀ w : Nat, (w : Int) < W → 0 < (he w).toInt → ∃ k : Nat, (k : Int) < K ∧ (ta k).toInt = w + 1
theorem zHr_0 {he ta : Nat → Int32} {W L K : Int} (h : zT0 he L) (e : W ≤ L) : zHr he ta W K := fun w hw q => by have := h w (by omega); omega
theorem zHr_n {he ta : Nat → Int32} {W K K' : Int} (h : zHr he ta W K) (e : K' = K + 1) : zHr he ta W K' := fun w hw q => by
  obtain ⟨k, k1, k2⟩ := h w hw q
  exact ⟨k, by omega, k2⟩
theorem zHr_y {he ta : Nat → Int32} {W K K' v : Int} {I x : Int32} (h : zHr he ta W K) (hK : 0 ≤ K) (hv : (ta K.toNat).toInt = v) (hI : I.toInt = v - 1) (h0 : 0 ≤ I.toInt) (e : K' = K + 1) : zHr (upd he I.toNatClampNeg x) ta W K' := fun w hw q => by
  have ci := zclamp h0
  by_cases c : w = I.toNatClampNeg
  · exact ⟨K.toNat, by omega, by rw [hv]; omega⟩
  · rw [pk_un c] at q
    obtain ⟨k, k1, k2⟩ := h w hw q
    exact ⟨k, by omega, k2⟩
theorem zHr_c {he ta : Nat → Int32} {W K K' : Int} (h : zHr he ta W K) (e : K' = K) : zHr he ta W K' := by rw [e]; exact h
theorem zOc_i (hm : zMd g sz W ta ke D T V) {j : Nat} {x : Int} (hv : V[j]? = some x) : zOc T D x ↔ ∃ k : Nat, (k : Int) < 1024 * D ∧ (ta k).toInt = (j : Int) + 1 := by
  obtain ⟨h1, h2, h3, h4, h5⟩ := hm
  have hx := h1.2.2.2.2 _ (List.mem_of_getElem? hv)
  constructor
  · rintro ⟨d, k, d1, k1, e⟩
    exact ⟨1024 * d + k, by omega, (zRw_i (h4 d d1).1 (zMv_nd h1) hv hx k1).mpr e⟩
  · rintro ⟨k, k1, k2⟩
    have e := (zRw_i (b := 1024 * (k / 1024)) (k := k % 1024) (h4 (k / 1024) (by omega)).1 (zMv_nd h1) hv hx (by omega)).mp (by rw [show 1024 * (k / 1024) + k % 1024 = k from by omega]; exact k2)
    exact ⟨k / 1024, k % 1024, by omega, by omega, e⟩
theorem zOc_h {x : Int} (hx : x ≠ 0) (hz : ∀ d : Nat, (d : Int) < D → ∀ k : Nat, 1024 ≤ k → T d k = 0) (h0 : 0 ≤ D) : zOc T D x ↔ 0 < zHn T x D.toNat := by
  constructor
  · rintro ⟨d, k, d1, k1, e⟩
    exact zHn_p (d := d) (zTm_p e k1) (by omega)
  · intro h
    have key : ∀ m : Nat, 0 < zHn T x m → ∃ d, d < m ∧ 0 < zTm (T d) x 1024 := by
      intro m
      induction m with
      | zero => intro c; exact absurd c (Nat.lt_irrefl _)
      | succ m ih =>
        intro c
        by_cases q : 0 < zTm (T m) x 1024
        · exact ⟨m, by omega, q⟩
        · rw [zHn_n q] at c
          obtain ⟨d, d1, d2⟩ := ih c
          exact ⟨d, by omega, d2⟩
    obtain ⟨d, d1, d2⟩ := key _ h
    have key2 : ∀ m : Nat, 0 < zTm (T d) x m → ∃ k, k < m ∧ T d k = x := by
      intro m
      induction m with
      | zero => intro c; exact absurd c (Nat.lt_irrefl _)
      | succ m ih =>
        intro c
        by_cases q : T d m = x
        · exact ⟨m, by omega, q⟩
        · have c : 0 < (if T d m = x then zTm (T d) x m + 1 else zTm (T d) x m) := c
          rw [if_neg q] at c
          obtain ⟨k, k1, k2⟩ := ih c
          exact ⟨k, by omega, k2⟩
    obtain ⟨k, k1, k2⟩ := key2 _ d2
    exact ⟨d, k, by omega, k1, k2⟩
end ZTG
theorem zmg {V : List Int} {x : Int} : x ∈ V ↔ ∃ j : Nat, V[j]? = some x := ⟨fun h => by
  obtain ⟨j, hj, e⟩ := List.getElem_of_mem h
  exact ⟨j, by rw [List.getElem?_eq_getElem hj, e]⟩, fun ⟨j, h⟩ => List.mem_of_getElem? h⟩
def zDp (g sz : Nat → Int32) (W : Int) (ta ke : Nat → Int32) (D : Int) (g3 sz3 : Nat → Int32) (W3 : Int) (ta3 : Nat → Int32) (w : Int) : Prop := ∀ (T : Nat → Nat → Int) (V : List Int), zMd g sz W ta ke D T V → ∃ V' : List Int, zMd g3 sz3 W3 ta3 ke D T V' ∧ (∀ x, x ∈ V' ↔ (x ∈ V ∧ x ≠ zkw g sz w.toNat)) ∧ ∀ j : Nat, (j : Int) < w → V'[j]? = V[j]?
section ZDP
variable {g sz ta ke g3 sz3 ta3 he he3 on g4 sz4 ta4 ke3 : Nat → Int32} {W D W3 w la r i i' W4 : Int} {T : Nat → Nat → Int} {V : List Int}
theorem zDp_i {P N S : Int32} (hP : P.toInt = w) (h0 : 0 ≤ w) (hw : w < W) (hla : la = W - 1) (hW : W3 = W - 1) (hd : zHd he ta W (1024 * D)) (hh : (he w.toNat).toInt ≤ 0) (hr : zRn ta ta3 w la (1024 * D)) (hc : zC g g3 (fun i => g ((12 * la).toNat + i)) (12 * w) 12) (hz : sz3 = upd sz P.toNatClampNeg S) (hS : S = sz N.toNatClampNeg) (hN : N.toInt = la) : zDp g sz W ta ke D g3 sz3 W3 ta3 w := fun T V hm => by
  obtain ⟨h1, h2, h3, h4, h5⟩ := hm
  have l := h1.2.1
  have l4 := h1.2.2.1
  have hs := h1.1
  have nd := zMv_nd h1
  have eP : P.toNatClampNeg = w.toNat := by have q : P.toNatClampNeg = P.toInt.toNat := rfl; omega
  have eN : N.toNatClampNeg = la.toNat := by have q : N.toNatClampNeg = N.toInt.toNat := rfl; omega
  rw [eP] at hz
  rw [eN] at hS
  have es : ∀ j : Nat, j ≠ w.toNat → sz3 j = sz j := fun j hj => by rw [hz, pk_un hj]
  have esw : sz3 w.toNat = sz la.toNat := by rw [hz, pk_us, hS]
  have eg : ∀ j : Nat, j ≠ w.toNat → ∀ k : Nat, k < 12 → g3 (12 * j + k) = g (12 * j + k) := fun j hj k hk => hc.1 _ (by omega)
  have egw : ∀ k : Nat, (k : Int) < (sz la.toNat).toInt → g3 (12 * w.toNat + k) = g (12 * la.toNat + k) := fun k hk => by
    have a := hs.1 la.toNat (by omega)
    have q := hc.2 k (by omega) (by
      show zVl (g ((12 * la).toNat + k)).toInt
      rw [show (12 * la).toNat = 12 * la.toNat from by omega]; exact a.2.2 k hk)
    rw [show (12 * w).toNat = 12 * w.toNat from by omega] at q
    rw [q]
    show g ((12 * la).toNat + k) = _
    rw [show (12 * la).toNat = 12 * la.toNat from by omega]
  have ek : ∀ j : Nat, (j : Int) < W → j ≠ w.toNat → zkw g3 sz3 j = zkw g sz j := fun j hj hne => zkw_c (es j hne) (fun k hk => eg j hne k (by have q := (hs.1 j hj).2.1; omega))
  have ekw : zkw g3 sz3 w.toNat = zkw g sz la.toNat := zkw_c esw egw
  have hlast : la.toNat < V.length := by omega
  have vl := h1.2.2.2.1 la.toNat (by omega)
  have gv : ∀ j : Nat, j < la.toNat → ((V.set w.toNat (zkw g sz la.toNat)).take la.toNat)[j]? = some (if j = w.toNat then zkw g sz la.toNat else zkw g sz j) := fun j hj => by
    rw [List.getElem?_take, if_pos hj, List.getElem?_set]
    by_cases c : w.toNat = j
    · rw [if_pos c, if_pos (by omega), if_pos c.symm]
    · rw [if_neg c, if_neg (fun e => c e.symm)]
      exact h1.2.2.2.1 j (by omega)
  have gl : ((V.set w.toNat (zkw g sz la.toNat)).take la.toNat).length = la.toNat := by rw [List.length_take, List.length_set]; omega
  have inj : ∀ a b : Nat, (a : Int) < W → (b : Int) < W → zkw g sz a = zkw g sz b → a = b := fun a b ha hb e => by
    rcases Nat.lt_trichotomy a b with c | c | c
    · exact absurd e (hs.2 a b c hb)
    · exact c
    · exact absurd e.symm (hs.2 b a c ha)
  have mem : ∀ x, x ∈ (V.set w.toNat (zkw g sz la.toNat)).take la.toNat ↔ (x ∈ V ∧ x ≠ zkw g sz w.toNat) := fun x => by
    constructor
    · intro hx
      obtain ⟨j, hj, e⟩ := List.getElem_of_mem hx
      rw [gl] at hj
      have q := gv j hj
      rw [List.getElem?_eq_getElem (by rw [gl]; exact hj), e] at q
      have q := Option.some.inj q
      by_cases c : j = w.toNat
      · rw [if_pos c] at q
        rw [q]
        exact ⟨List.mem_of_getElem? vl, fun e2 => by have := inj _ _ (by omega) (by omega) e2; omega⟩
      · rw [if_neg c] at q
        rw [q]
        exact ⟨List.mem_of_getElem? (h1.2.2.2.1 j (by omega)), fun e2 => c (inj _ _ (by omega) (by omega) e2)⟩
    · rintro ⟨hx, hne⟩
      obtain ⟨j, hj, e⟩ := List.getElem_of_mem hx
      have q := h1.2.2.2.1 j (by omega)
      rw [List.getElem?_eq_getElem hj, e] at q
      have q := Option.some.inj q
      have c : j ≠ w.toNat := fun c => hne (by rw [q, c])
      by_cases cl : j = la.toNat
      · have : w.toNat < la.toNat := by omega
        have z := gv w.toNat this
        rw [if_pos rfl] at z
        rw [q, cl]
        exact List.mem_of_getElem? z
      · have z := gv j (by omega)
        rw [if_neg c] at z
        rw [q]
        exact List.mem_of_getElem? z
  have nw : ∀ k : Nat, (k : Int) < 1024 * D → (ta k).toInt ≠ w + 1 := fun k hk e => by
    have := hd w.toNat (by omega) k (by omega) hk (by rw [Int.toNat_natCast, e]; omega)
    omega
  refine ⟨(V.set w.toNat (zkw g sz la.toNat)).take la.toNat, ⟨⟨⟨fun j hj => ?_, fun a b hab hb => ?_⟩, by rw [gl]; omega, by omega, fun j hj => ?_, fun x hx => h1.2.2.2.2 x ((mem x).mp hx).1⟩, h2, h3, fun d hd' => ?_, fun j j1 j2 => by rw [(hr j).2 j1]; exact h5 j j1 j2⟩, mem, fun j hj => ?_⟩
  · by_cases c : j = w.toNat
    · have q := hs.1 la.toNat (by omega)
      rw [c, esw]
      exact ⟨q.1, q.2.1, fun k hk => by rw [egw k hk]; exact q.2.2 k hk⟩
    · have q := hs.1 j (by omega)
      rw [es j c]
      exact ⟨q.1, q.2.1, fun k hk => by rw [eg j c k (by omega)]; exact q.2.2 k hk⟩
  · by_cases ca : a = w.toNat
    · rw [ca, ekw, ek b (by omega) (by omega)]
      exact fun e => by have := inj _ _ (by omega) (by omega) e; omega
    · rw [ek a (by omega) ca]
      by_cases cb : b = w.toNat
      · rw [cb, ekw]; exact fun e => by have := inj _ _ (by omega) (by omega) e; omega
      · rw [ek b (by omega) cb]; exact hs.2 a b hab (by omega)
  · rw [gv j (by omega)]
    by_cases c : j = w.toNat
    · rw [if_pos c, c, ekw]
    · rw [if_neg c, ek j (by omega) c]
  · obtain ⟨q1, q2, q3⟩ := h4 d hd'
    refine ⟨fun k hk => ?_, q2, q3⟩
    have rr := (hr (1024 * d + k)).1 (by omega)
    rcases q1 k hk with ⟨c1, c2⟩ | ⟨j, c1, c2, c3⟩
    · exact Or.inl ⟨by rw [rr.2 (by rw [c1]; omega)]; exact c1, c2⟩
    · have lj : j < V.length := by
        rcases Nat.lt_or_ge j V.length with c | c
        · exact c
        · rw [List.getElem?_eq_none c] at c1; exact absurd c1 (by simp)
      have jw : j ≠ w.toNat := fun c => nw (1024 * d + k) (by omega) (by rw [c2]; omega)
      have vj := h1.2.2.2.1 j (by omega)
      rw [c1] at vj
      have vj := Option.some.inj vj
      by_cases cl : j = la.toNat
      · refine Or.inr ⟨w.toNat, ?_, by rw [rr.1 (by rw [c2]; omega)]; omega, c3⟩
        rw [gv w.toNat (by omega), if_pos rfl, vj, cl]
      · refine Or.inr ⟨j, ?_, by rw [rr.2 (by rw [c2]; omega)]; exact c2, c3⟩
        rw [gv j (by omega), if_neg jw, vj]
  · rw [gv j (by omega), if_neg (by omega)]
    exact (h1.2.2.2.1 j (by omega)).symm
theorem zHr_d {Q x : Int32} {K : Int} (h : zHr he ta W K) (hr : zRn ta ta3 w la K) (h0 : 0 ≤ w) (hw : w < W) (hla : la = W - 1) (hW : W3 = W - 1) (e : he3 = upd he Q.toNatClampNeg x) (hQ : Q.toInt = w) (hx : x = he la.toNat) : zHr he3 ta3 W3 K := fun v hv q => by
  have eQ : Q.toNatClampNeg = w.toNat := by have : Q.toNatClampNeg = Q.toInt.toNat := rfl; omega
  rw [e, eQ] at q
  by_cases c : v = w.toNat
  · rw [c, pk_us, hx] at q
    obtain ⟨k, k1, k2⟩ := h la.toNat (by omega) q
    exact ⟨k, k1, by rw [((hr k).1 k1).1 (by omega)]; omega⟩
  · rw [pk_un c] at q
    obtain ⟨k, k1, k2⟩ := h v (by omega) q
    exact ⟨k, k1, by rw [((hr k).1 k1).2 (by omega)]; exact k2⟩
def zYm (g sz : Nat → Int32) (W : Int) (ta ke on : Nat → Int32) (D : Int) (g3 sz3 : Nat → Int32) (W3 : Int) (ta3 ke3 : Nat → Int32) (i : Int) : Prop := ∀ (T : Nat → Nat → Int) (V : List Int), zMd g sz W ta ke D T V → ∃ V1 : List Int, zMd g3 sz3 W3 ta3 ke3 D (zTo on T) V1 ∧ (∀ x ∈ V1, x ∈ V) ∧ (∀ x ∈ V, x ∉ V1 → ¬ zOc (zTo on T) D x) ∧ ∀ j : Nat, (j : Int) < i → ∀ x, V1[j]? = some x → zOc (zTo on T) D x
theorem zYm_0 {d j : Int} (h : zTg on ta ke D ta3 ke3 d j) (hd : D ≤ d) (hi : i = 0) : zYm g sz W ta ke on D g sz W ta3 ke3 i := fun T V hm => ⟨V, zTg_e h hd hm, fun _ q => q, fun x hx hn => absurd hx hn, fun j hj => by omega⟩
theorem zYm_h {I : Int32} (h : zYm g sz W ta ke on D g3 sz3 W3 ta3 ke3 I.toInt) (hr : zHr he ta3 W3 (1024 * D)) (h0 : 0 ≤ I.toInt) (hI : I.toInt < W3) (hp : 0 < (he I.toNatClampNeg).toInt) (hi : i' = I.toInt + 1) : zYm g sz W ta ke on D g3 sz3 W3 ta3 ke3 i' := fun T V hm => by
  obtain ⟨V1, a1, a2, a3, a4⟩ := h T V hm
  refine ⟨V1, a1, a2, a3, fun j hj x hx => ?_⟩
  by_cases c : (j : Int) < I.toInt
  · exact a4 j c x hx
  · have ej : j = I.toNatClampNeg := by have := zclamp h0; omega
    rw [← ej] at hp
    exact (zOc_i a1 hx).mpr (hr j (by omega) hp)
theorem zYm_d (h : zYm g sz W ta ke on D g3 sz3 W3 ta3 ke3 w) (hd : zHd he ta3 W3 (1024 * D)) (h0 : 0 ≤ w) (hw : w < W3) (hh : (he w.toNat).toInt ≤ 0) (hp : zDp g3 sz3 W3 ta3 ke3 D g4 sz4 W4 ta4 w) : zYm g sz W ta ke on D g4 sz4 W4 ta4 ke3 w := fun T V hm => by
  obtain ⟨V1, a1, a2, a3, a4⟩ := h T V hm
  obtain ⟨V', b1, b2, b3⟩ := hp _ _ a1
  have vw := a1.1.2.2.2.1 w.toNat (by omega)
  have no : ¬ zOc (zTo on T) D (zkw g3 sz3 w.toNat) := fun c => by
    obtain ⟨k, k1, k2⟩ := (zOc_i a1 vw).mp c
    have := hd w.toNat (by omega) k (by omega) k1 (by rw [Int.toNat_natCast]; exact k2)
    omega
  refine ⟨V', b1, fun x hx => a2 x ((b2 x).mp hx).1, fun x hx hn => ?_, fun j hj x hx => a4 j hj x (by rw [← b3 j hj]; exact hx)⟩
  by_cases c : x ∈ V1
  · have : x = zkw g3 sz3 w.toNat := by
      by_cases d : x = zkw g3 sz3 w.toNat
      · exact d
      · exact absurd ((b2 x).mpr ⟨c, d⟩) hn
    rw [this]; exact no
  · exact a3 x hx c
def zYn (g sz : Nat → Int32) (W : Int) (ta ke on : Nat → Int32) (D : Int) (g3 sz3 : Nat → Int32) (W3 : Int) (ta3 ke3 : Nat → Int32) (r : Int) : Prop := ∀ (T : Nat → Nat → Int) (V : List Int), zMd g sz W ta ke D T V → zcs (zBv T V D.toNat) ≤ 40000 → ∃ V1 : List Int, zMd g3 sz3 W3 ta3 ke3 D (zTo on T) V1 ∧ (∀ x, x ∈ V1 ↔ x ∈ V.filter (zkp on T D)) ∧ (zcs (zBv (zTo on T) V1 D.toNat) ≤ 40000 → r = (zcs (zBv T V D.toNat) : Int) - zcs (zBv (zTo on T) V1 D.toNat))
theorem zYn_e {A B R : Int32} (h : zYm g sz W ta ke on D g3 sz3 W3 ta3 ke3 i) (hi : W3 ≤ i) (h1 : zTn g sz W ta ke D A.toInt) (h2 : zTn g3 sz3 W3 ta3 ke3 D B.toInt) (e : R = A - B) : zYn g sz W ta ke on D g3 sz3 W3 ta3 ke3 R.toInt := fun T V hm hc => by
  obtain ⟨V1, a1, a2, a3, a4⟩ := h T V hm
  have q1 := h1 T V hm
  have q2 := h2 _ _ a1
  refine ⟨V1, a1, fun x => ?_, fun hc2 => zsub q1 q2 e (by omega) (by omega)⟩
  rw [List.mem_filter]
  have oc : x ≠ 0 → (zOc (zTo on T) D x ↔ zkp on T D x = true) := fun hx => by
    rw [zOc_h hx (fun d hd k hk => (a1.2.2.2.1 d hd).2.1 k hk) a1.2.1]
    unfold zkp
    rw [decide_eq_true_eq]
  constructor
  · intro hx
    have x0 := a1.1.2.2.2.2 x hx
    obtain ⟨j, hj⟩ := zmg.mp hx
    have lj : j < V1.length := by
      rcases Nat.lt_or_ge j V1.length with c | c
      · exact c
      · rw [List.getElem?_eq_none c] at hj; exact absurd hj (by simp)
    exact ⟨a2 x hx, (oc x0).mp (a4 j (by have := a1.1.2.1; omega) x hj)⟩
  · rintro ⟨hx, hp⟩
    by_cases c : x ∈ V1
    · exact c
    · exact absurd ((oc (hm.1.2.2.2.2 x hx)).mpr hp) (a3 x hx c)
end ZDP
def zAz (su : Nat → Int32) (j s : Int) : Prop := (∀ w : Nat, (w : Int) < j → 0 ≤ (su w).toInt) → s = (zsu (fun w => (su w).toInt.toNat) j.toNat : Nat)
theorem zAz_0 {su : Nat → Int32} {j s : Int} (h : j = 0) (h2 : s = 0) : zAz su j s := fun _ => by subst h; rw [h2]; rfl
theorem zAz_s {su : Nat → Int32} {j s j' s' : Int} {i z : Int32} (h : zAz su j s) (hi : i.toInt = j) (h0 : 0 ≤ j) (ez : z = su i.toNatClampNeg) (hs : s' = s + z.toInt) (e : j' = j + 1) : zAz su j' s' := fun hp => by
  have ei : i.toNatClampNeg = j.toNat := by have : i.toNatClampNeg = i.toInt.toNat := rfl; omega
  rw [ei] at ez
  have q := h (fun w hw => hp w (by omega))
  have q2 := hp j.toNat (by omega)
  rw [← ez] at q2
  rw [show j'.toNat = j.toNat + 1 from by omega]
  show s' = ((zsu (fun w => (su w).toInt.toNat) j.toNat + (su j.toNat).toInt.toNat : Nat) : Int)
  rw [← ez, hs, q]
  omega
def zAn (g sz : Nat → Int32) (W : Int) (ta ke : Nat → Int32) (D r : Int) : Prop := ∀ (T : Nat → Nat → Int) (V : List Int), zMd g sz W ta ke D T V → r = (zsu (fun i => (zBv T V D.toNat i).length) 400 : Nat)
theorem zAn_e {g sz su ld ta ke : Nat → Int32} {W D j r : Int} (h : zM1 su ld ta ke W D) (ht : zAz su j r) (hj : W ≤ j) (hj2 : j ≤ W) : zAn g sz W ta ke D r := fun T V hh => by
  have l := hh.1.2.1
  have l4 := hh.1.2.2.1
  have e : ∀ w : Nat, (w : Int) < W → (su w).toInt = ((zBv T V D.toNat w).length : Int) := fun w hw => by rw [(h w hw).1, zMd_B hh hw]
  rw [ht (fun w hw => by rw [e w (by omega)]; omega)]
  have a : zsu (fun w => (su w).toInt.toNat) j.toNat = zsu (fun w => (zBv T V D.toNat w).length) j.toNat := zsu_c (fun w hw => by rw [e w (by omega), Int.toNat_natCast])
  have b := zsu_0 (F := fun w => (zBv T V D.toNat w).length) (m := j.toNat) (n := 400) (by omega) (fun q q1 _ => by rw [(zBv_n (T := T) (K := V) (d := D.toNat) (k := q) (by omega)).1]; rfl)
  rw [a, ← b]
theorem zAn_c {g sz ta ke : Nat → Int32} {W D r r' : Int} (h : zAn g sz W ta ke D r) (e : r' = r) : zAn g sz W ta ke D r' := by rw [e]; exact h
theorem zTn_c {g sz ta ke : Nat → Int32} {W D r r' : Int} (h : zTn g sz W ta ke D r) (e : r' = r) : zTn g sz W ta ke D r' := by rw [e]; exact h
def zSg (on : Nat → Int32) (j s : Int) : Prop := s = (zsu (fun d => if (on d).toInt ≠ 0 then 1 else 0) j.toNat : Nat)
theorem zSg_0 {on : Nat → Int32} {j s : Int} (h : j = 0) (h2 : s = 0) : zSg on j s := by unfold zSg; subst h; rw [h2]; rfl
theorem zSg_s {on : Nat → Int32} {j s j' s' : Int} {i z : Int32} (h : zSg on j s) (hi : i.toInt = j) (h0 : 0 ≤ j) (ez : z = on i.toNatClampNeg) (hs : (z.toInt ≠ 0 ∧ s' = s + 1) ∨ (z.toInt = 0 ∧ s' = s)) (e : j' = j + 1) : zSg on j' s' := by
  have ei : i.toNatClampNeg = j.toNat := by have : i.toNatClampNeg = i.toInt.toNat := rfl; omega
  rw [ei] at ez
  unfold zSg at h ⊢
  rw [show j'.toNat = j.toNat + 1 from by omega]
  show s' = ((zsu (fun d => if (on d).toInt ≠ 0 then 1 else 0) j.toNat + (if (on j.toNat).toInt ≠ 0 then 1 else 0) : Nat) : Int)
  rw [← ez]
  rcases hs with ⟨a, b⟩ | ⟨a, b⟩
  · rw [if_pos a]; omega
  · rw [if_neg (fun q => q a)]; omega
theorem zSg_e {on : Nat → Int32} {j s j' s' : Int} (h : zSg on j s) (e : j' = j) (e2 : s' = s) : zSg on j' s' := by rw [e, e2]; exact h
def zQc (w d o n t a s p r : Int) : Prop := (w = 0 → r = d) ∧ (w = 1 → r = o) ∧ (w = 2 → r = n) ∧ (w = 3 → r = t) ∧ (w = 4 → r = a) ∧ (w = 5 → r = s) ∧ (w = 6 → r = p) ∧ ((w < 0 ∨ 6 < w) → r = -1)
def zQr (on : Nat → Int32) (D : Int) (g sz : Nat → Int32) (W : Int) (ta ke : Nat → Int32) (s p w r : Int) : Prop := (w = 0 → r = D) ∧ (w = 1 → zSg on D r) ∧ (w = 2 → r = W) ∧ (w = 3 → zTn g sz W ta ke D r) ∧ (w = 4 → zAn g sz W ta ke D r) ∧ (w = 5 → r = s) ∧ (w = 6 → r = p) ∧ ((w < 0 ∨ 6 < w) → r = -1)
def zDc (on ln mk wc : Nat → Int32) (P : Int32) (w r : Int) : Prop := (w = 0 → r = if (on P.toNatClampNeg).toInt ≠ 0 then 1 else 0) ∧ (w = 1 → r = (ln P.toNatClampNeg).toInt) ∧ (w = 2 → r = (mk P.toNatClampNeg).toInt) ∧ (w = 3 → r = (wc P.toNatClampNeg).toInt) ∧ ((w < 0 ∨ 3 < w) → r = -1)
theorem zDc_0 {on ln mk wc : Nat → Int32} {P : Int32} {w r : Int} (hw : w = 0) (h : ((on P.toNatClampNeg).toInt ≠ 0 ∧ r = 1) ∨ ((on P.toNatClampNeg).toInt = 0 ∧ r = 0)) : zDc on ln mk wc P w r := by
  refine ⟨fun _ => ?_, fun q => by omega, fun q => by omega, fun q => by omega, fun q => by omega⟩
  rcases h with ⟨a, b⟩ | ⟨a, b⟩
  · rw [if_pos a, b]
  · rw [if_neg (fun q => q a), b]
theorem zDc_i {on ln mk wc : Nat → Int32} {P : Int32} {w r : Int} (hw : w ≠ 0) (h : (w = 1 ∧ r = (ln P.toNatClampNeg).toInt) ∨ (w = 2 ∧ r = (mk P.toNatClampNeg).toInt) ∨ (w = 3 ∧ r = (wc P.toNatClampNeg).toInt) ∨ ((w < 0 ∨ 3 < w) ∧ r = -1)) : zDc on ln mk wc P w r := by
  refine ⟨fun q => absurd q hw, fun q => ?_, fun q => ?_, fun q => ?_, fun q => ?_⟩ <;> (rcases h with ⟨a, b⟩ | ⟨a, b⟩ | ⟨a, b⟩ | ⟨a, b⟩ <;> first | exact b | (exfalso; omega))
theorem zDc_e {on ln mk wc : Nat → Int32} {P : Int32} {w r r' : Int} (h : zDc on ln mk wc P w r) (e : r' = r) : zDc on ln mk wc P w r' := by rw [e]; exact h
theorem zDc_L {on ln mk wc : Nat → Int32} {P R : Int32} {w : Int} {f f0 : Nat → Int64} {y : Int64} (ef : f = vp_updL f0 (0 : Int32).toNatClampNeg y) (ey : y = R.toInt64) (h : zDc on ln mk wc P w R.toInt) : zDc on ln mk wc P w (f 0).toInt := by
  have e : (f 0).toInt = R.toInt := by
    rw [ef, ey]
    show (if (0 : Nat) = 0 then R.toInt64 else f0 0).toInt = R.toInt
    rw [if_pos rfl, Int32.toInt_toInt64]
  rw [e]; exact h
def zMb (ti bo : Nat → Int32) (D : Int) (T : Nat → Nat → Int) : Prop := ∀ d : Nat, (d : Int) < D → 0 ≤ (ti d).toInt ∧ (ti d).toInt ≤ 512 ∧ 0 ≤ (bo d).toInt ∧ (bo d).toInt ≤ 512 ∧ ∀ q : Nat, T d q ≠ 0 → (q : Int) < (ti d).toInt ∨ (512 ≤ q ∧ (q : Int) < 512 + (bo d).toInt)
theorem zte_y {ta : Nat → Int32} {d w n n' k k' a b : Int} (h : n + a = b + (zp ta d w k.toNat).1) (h0 : 0 ≤ k) (hv : (ta (1024 * d + k).toNat).toInt = w + 1) (e : n' = n + 1) (ek : k' = k + 1) : n' + a = b + (zp ta d w k'.toNat).1 := by
  rw [show k'.toNat = k.toNat + 1 from by omega, zp_y (by rw [show ((k.toNat : Nat) : Int) = k from by omega]; exact hv)]
  show n' + a = b + ((zp ta d w k.toNat).1 + 1)
  omega
theorem zte_n {ta : Nat → Int32} {d w n n' k k' a b : Int} (h : n + a = b + (zp ta d w k.toNat).1) (h0 : 0 ≤ k) (hv : (ta (1024 * d + k).toNat).toInt ≠ w + 1) (e : n' = n) (ek : k' = k + 1) : n' + a = b + (zp ta d w k'.toNat).1 := by
  rw [show k'.toNat = k.toNat + 1 from by omega, zp_n (by rw [show ((k.toNat : Nat) : Int) = k from by omega]; exact hv), e]
  exact h
theorem zte_0 {ta : Nat → Int32} {d w n k : Int} (hn : n = 0) (hk : k = 0) : n + 0 = 0 + (zp ta d w k.toNat).1 := by subst hn; subst hk; rfl
theorem zte_m {ta : Nat → Int32} {d w n k t k2 : Int} (h : n + 0 = 0 + (zp ta d w k.toNat).1) (e : k = t) (e2 : k2 = 512) : n + (zp ta d w 512).1 = (zp ta d w t.toNat).1 + (zp ta d w k2.toNat).1 := by
  subst e; subst e2
  have : (512 : Int).toNat = 512 := rfl
  rw [this]; omega
def zTf (ta ti bo : Nat → Int32) (D : Int32) (w r : Int) : Prop := r + (zp ta D.toInt w 512).1 = (zp ta D.toInt w (ti D.toNatClampNeg).toInt.toNat).1 + (zp ta D.toInt w (512 + (bo D.toNatClampNeg).toInt).toNat).1
theorem zTf_e {ta ti bo : Nat → Int32} {D : Int32} {w r n k : Int} (h : n + (zp ta D.toInt w 512).1 = (zp ta D.toInt w (ti D.toNatClampNeg).toInt.toNat).1 + (zp ta D.toInt w k.toNat).1) (ek : k = 512 + (bo D.toNatClampNeg).toInt) (er : r = n) : zTf ta ti bo D w r := by
  unfold zTf
  rw [er, ← ek]; exact h
theorem zTm_r {t : Nat → Int} {x a b : Int} (hx : x ≠ 0) (a0 : 0 ≤ a) (a5 : a ≤ 512) (b0 : 0 ≤ b) (b5 : b ≤ 512) (hz : ∀ q : Nat, t q ≠ 0 → (q : Int) < a ∨ (512 ≤ q ∧ (q : Int) < 512 + b)) : (zTm t x 1024 : Int) + zTm t x 512 = zTm t x a.toNat + zTm t x (512 + b).toNat := by
  have e1 := (zPn_z (t := t) (w := x) (a := a.toNat) (k := 512) (by omega) (fun j h1 h2 e => by
    rcases hz j (by rw [e]; exact hx) with c | c <;> omega)).2.2
  have e2 := (zPn_z (t := t) (w := x) (a := (512 + b).toNat) (k := 1024) (by omega) (fun j h1 h2 e => by
    rcases hz j (by rw [e]; exact hx) with c | c <;> omega)).2.2
  omega
section ZKR
variable {g sz ta ke ti bo : Nat → Int32} {W D w n n' d d' r : Int} {T : Nat → Nat → Int} {V : List Int} {x : Int}
theorem zTf_T {E : Int32} (hm : zMd g sz W ta ke D T V) (hb : zMb ti bo D T) (hv : V[w.toNat]? = some x) (h0 : 0 ≤ w) (e0 : 0 ≤ E.toInt) (e1 : E.toInt < D) (h : zTf ta ti bo E w r) : r = (zTm (T E.toNatClampNeg) x 1024 : Int) := by
  have cl := zclamp e0
  obtain ⟨h1, h2, h3, h4, h5⟩ := hm
  have hx := h1.2.2.2.2 _ (List.mem_of_getElem? hv)
  obtain ⟨q1, q2, q3⟩ := h4 E.toNatClampNeg (by omega)
  obtain ⟨b1, b2, b3, b4, b5⟩ := hb E.toNatClampNeg (by omega)
  have key : ∀ k : Nat, k ≤ 1024 → (zp ta E.toInt w k).1 = (zTm (T E.toNatClampNeg) x k : Int) := fun k hk => by
    rw [zp_T (t := T E.toNatClampNeg) (x := x) (fun j hj => by
      rw [show (1024 * E.toInt + (j : Int)).toNat = 1024 * E.toNatClampNeg + j from by omega]
      have := zRw_i q1 (zMv_nd h1) hv hx (show j < 1024 from by omega)
      rw [show ((w.toNat : Nat) : Int) = w from by omega] at this
      exact this)]
  unfold zTf at h
  rw [key _ (by omega), key _ (by omega), key _ (by omega)] at h
  have := zTm_r (t := T E.toNatClampNeg) hx b1 b2 b3 b4 b5
  omega
def zKq (g sz : Nat → Int32) (W : Int) (ta ke ti bo : Nat → Int32) (D w d n : Int) : Prop := ∀ (T : Nat → Nat → Int) (V : List Int) (x : Int), zMd g sz W ta ke D T V → zMb ti bo D T → V[w.toNat]? = some x → n = (zHn T x d.toNat : Int)
theorem zKq_0 (hd : d = 0) (hn : n = 0) : zKq g sz W ta ke ti bo D w d n := fun T V x _ _ _ => by subst hd; rw [hn]; rfl
theorem zKq_k {E : Int32} (h : zKq g sz W ta ke ti bo D w E.toInt n) (e0 : 0 ≤ E.toInt) (e1 : E.toInt < D) (hk : (ke E.toNatClampNeg).toInt = 0) (hd : d' = E.toInt + 1) (hn : n' = n) : zKq g sz W ta ke ti bo D w d' n' := fun T V x hm hb hv => by
  have cl := zclamp e0
  have q := h T V x hm hb hv
  have hx := hm.1.2.2.2.2 _ (List.mem_of_getElem? hv)
  have z := (hm.2.2.2.1 E.toNatClampNeg (by omega)).2.2 hk
  have c : ¬ 0 < zTm (T E.toInt.toNat) x 1024 := by
    rw [show E.toInt.toNat = E.toNatClampNeg from rfl, (zPn_0 (t := T E.toNatClampNeg) (w := x) (fun k e => hx (by rw [← e]; exact z k))).2.2]; omega
  rw [show d'.toNat = E.toInt.toNat + 1 from by omega, zHn_n c, hn, q]
theorem zKq_t {E : Int32} {t : Int} (h : zKq g sz W ta ke ti bo D w E.toInt n) (h0 : 0 ≤ w) (e0 : 0 ≤ E.toInt) (e1 : E.toInt < D) (ht : zTf ta ti bo E w t) (hd : d' = E.toInt + 1) (hn : (0 < t ∧ n' = n + 1) ∨ (t ≤ 0 ∧ n' = n)) : zKq g sz W ta ke ti bo D w d' n' := fun T V x hm hb hv => by
  have q := h T V x hm hb hv
  have e := zTf_T hm hb hv h0 e0 e1 ht
  have ee : E.toNatClampNeg = E.toInt.toNat := rfl
  rw [ee] at e
  rw [show d'.toNat = E.toInt.toNat + 1 from by omega]
  by_cases c : 0 < zTm (T E.toInt.toNat) x 1024
  · rw [zHn_y c]; omega
  · rw [zHn_n c]; omega
theorem zKq_e (h : zKq g sz W ta ke ti bo D w d n) (hd : D ≤ d) (hd2 : d ≤ D) (hr : r = n) : zKq g sz W ta ke ti bo D w D r := fun T V x hm hb hv => by
  rw [hr, h T V x hm hb hv, show d = D from by omega]
end ZKR
def zLk (T : Nat → Nat → Int) (V : List Int) (D : Int) (f : Nat → Int32) (n r : Int) : Prop := ∃ x : Int, zFW f n x ∧ (x ∈ V → r = (zHn T x D.toNat : Int)) ∧ (x ∉ V → r = 0)
def zLr (f : Nat → Int32) (n : Int) (g sz : Nat → Int32) (W : Int) (ta ke ti bo : Nat → Int32) (D r : Int) : Prop := ∀ (T : Nat → Nat → Int) (V : List Int), zMd g sz W ta ke D T V → zMb ti bo D T → zLk T V D f n r
def zLc (f : Nat → Int32) (n : Int) (s : Nat → Int64) (i fr : Nat → Int32) (nw : Int) (ro cs nxc fc lc bt : Nat → Int32) (ch ru ab tk : Int) (h l : Nat → Int32) (D r : Int) : Prop := ∀ (T : Nat → Nat → Int) (V : List Int), zKl s i fr nw ro cs nxc fc lc bt ch ru ab tk h l D T V → zLk T V D f n r
theorem zLr_0 {f g sz ta ke ti bo : Nat → Int32} {n W D r : Int} (h : ∀ i : Int, ¬ zIn f n i) (hr : r = 0) : zLr f n g sz W ta ke ti bo D r := fun T V hm _ => ⟨0, Or.inl ⟨rfl, h⟩, fun q => absurd rfl (hm.1.2.2.2.2 0 q), fun _ => hr⟩
theorem zLr_n {f g sz ta ke ti bo wd : Nat → Int32} {n W D r s p : Int} (hw : zTw f n wd s) (hf : zFd g sz wd s W p) (hp : p = -1) (hr : r = 0) : zLr f n g sz W ta ke ti bo D r := fun T V hm _ => by
  rcases zMv_f hm.1 hf hw.2.2.1 hw.2.2.2.2 (by have := hw.2.2.2.1; omega) rfl with ⟨-, q⟩ | ⟨q, -⟩
  · exact ⟨_, hw.1, fun c => absurd c q, fun _ => hr⟩
  · omega
theorem zLr_y {f g sz ta ke ti bo wd : Nat → Int32} {n W D r s p : Int} (hw : zTw f n wd s) (hf : zFd g sz wd s W p) (hp : p ≠ -1) (hk : zKq g sz W ta ke ti bo D p D r) : zLr f n g sz W ta ke ti bo D r := fun T V hm hb => by
  rcases zMv_f hm.1 hf hw.2.2.1 hw.2.2.2.2 (by have := hw.2.2.2.1; omega) rfl with ⟨q, -⟩ | ⟨-, q⟩
  · exact absurd q hp
  · exact ⟨_, hw.1, fun _ => hk T V _ hm hb q, fun c => absurd (List.mem_of_getElem? q) c⟩
theorem zLc_i {f : Nat → Int32} {s : Nat → Int64} {i fr ro cs nxc fc lc bt h l : Nat → Int32} {n nw ch ru ab tk D r x : Int} {I : Int32} (hw : zFW f n x) (hf : ∀ V : List Int, zVo s i fr nw V → zIf V x I.toInt) (h1 : zW (0 ≤ I.toInt → I.toInt ≤ 399 → r = (h I.toNatClampNeg).toInt)) (h0 : I.toInt < 0 → r = 0) : zLc f n s i fr nw ro cs nxc fc lc bt ch ru ab tk h l D r := fun T V hk => by
  rcases hf V hk.1 with ⟨q, q2⟩ | ⟨q, q2⟩
  · exact ⟨x, hw, fun c => absurd c q2, fun _ => h0 (by omega)⟩
  · have lt : I.toInt.toNat < V.length := by
      rcases Nat.lt_or_ge I.toInt.toNat V.length with c | c
      · exact c
      · rw [List.getElem?_eq_none c] at q2; exact absurd q2 (by simp)
    have l1 := hk.1.2.1
    have l2 := hk.1.2.2.1
    refine ⟨x, hw, fun _ => ?_, fun c => absurd (List.mem_of_getElem? q2) c⟩
    rw [h1 q (by omega), show I.toNatClampNeg = I.toInt.toNat from rfl, (hk.2.2.2.2.1 _ (by omega)).1]
    unfold zHv
    rw [q2]
    rfl
def zEn (f : Nat → Int32) (n : Int) (g sz : Nat → Int32) (W : Int) (ta ke : Nat → Int32) (D : Int) (sg ssz : Nat → Int32) (sn : Int) (ti bo ti3 bo3 : Nat → Int32) : Prop := ∀ (S : Int → Bool) (T : Nat → Nat → Int) (V : List Int), zTy f n → n ≤ 600 → 0 ≤ n → zMs sg ssz sn → (∀ x, S x = true ↔ zQ sg ssz sn x) → zMd g sz W ta ke D T V → (∀ d : Nat, (d : Int) < D → ti3 d = ti d ∧ bo3 d = bo d) ∧ (zac f n S T V D → 0 ≤ (ti3 D.toNat).toInt ∧ (ti3 D.toNat).toInt ≤ 512 ∧ 0 ≤ (bo3 D.toNat).toInt ∧ (bo3 D.toNat).toInt ≤ 512 ∧ ∀ q : Nat, (zRq f n S V n.toNat).1 q ≠ 0 → (q : Int) < (ti3 D.toNat).toInt ∨ (512 ≤ q ∧ (q : Int) < 512 + (bo3 D.toNat).toInt))
theorem zEn_r {f g sz ta ke sg ssz g3 sz3 ta3 ke3 on ln mk un on3 ln3 mk3 un3 ti bo ti3 bo3 : Nat → Int32} {n W D sn W3 D3 r : Int} (h : zEm f n g sz W ta ke D sg ssz sn g3 sz3 W3 ta3 ke3 D3 on ln mk un on3 ln3 mk3 un3 r) (hr : r = -2) (e1 : zEq ti ti3 D) (e2 : zEq bo bo3 D) : zEn f n g sz W ta ke D sg ssz sn ti bo ti3 bo3 := fun S T V a1 a2 a3 a4 a5 a6 => by
  refine ⟨fun d hd => ⟨e1 d hd, e2 d hd⟩, fun hz => ?_⟩
  rcases h S T V a1 a2 a3 a4 a5 a6 with ⟨-, q, -⟩ | ⟨q, -⟩
  · have := a6.2.1; omega
  · exact absurd hz q
theorem zEn_a {f g sz ta ke sg ssz g3 sz3 ta3 ti bo ti3 bo3 : Nat → Int32} {n W D sn W3 k place isB crowd kept tt : Int} (h : zNe f n g sz W ta ke D sg ssz sn g3 sz3 W3 ta3 k place isB crowd kept tt) (hD : D < 120) (hx : n ≤ k ∨ crowd ≠ 0) (hc : crowd = 0) (b1 : (isB = 1 ∧ (ti3 D.toNat).toInt = tt ∧ (bo3 D.toNat).toInt = place - 512) ∨ (isB ≠ 1 ∧ (ti3 D.toNat).toInt = min place 512)) (b2 : 0 ≤ (bo3 D.toNat).toInt ∧ (bo3 D.toNat).toInt ≤ 512 ∧ (ti3 D.toNat).toInt ≤ 512) (b3 : 0 ≤ (ti3 D.toNat).toInt) (e1 : zEq ti ti3 D) (e2 : zEq bo bo3 D) : zEn f n g sz W ta ke D sg ssz sn ti bo ti3 bo3 := fun S T V q1 q2 q3 q4 q5 q6 => by
  refine ⟨fun d hd => ⟨e1 d hd, e2 d hd⟩, fun hz => ⟨b3, b2.2.2, b2.1, b2.2.1, fun q hq => ?_⟩⟩
  obtain ⟨x1, x2, x3⟩ := zNe_x (S := S) (T := T) (V := V) h hx ⟨q1, q2, q3, q4, q5, q6, hD⟩
  rcases x3 with ⟨y1, -⟩ | ⟨-, y2, N, y3⟩
  · exact absurd hc y1
  · obtain ⟨c1, c2, c3, c4, c5, c6, c7, c8, c9⟩ := y2
    rcases b1 with ⟨z1, z2, z3⟩ | ⟨z1, z2⟩
    · have c9' := c9 z1
      by_cases a : (q : Int) < tt
      · exact Or.inl (by omega)
      · by_cases b : q < 512
        · exact absurd (c9'.2 q (by omega) b) hq
        · refine Or.inr ⟨by omega, ?_⟩
          by_cases c : (q : Int) < place
          · omega
          · exact absurd (c7.2.1 q (by omega)) hq
    · have : place < 512 := by omega
      refine Or.inl ?_
      by_cases c : (q : Int) < place
      · omega
      · exact absurd (c7.2.1 q (by omega)) hq
section ZOR
variable {L L' : Nat → Int} {m m' k : Nat}
theorem zpk_s (i : Nat) : zpk L m (i + 1) = 37 * zpk L m i + (if i < m then zdt (L i) else 0) := rfl
theorem zdg_b {i : Nat} (h : ∀ k, k < m → zVl (L k)) : 0 ≤ (if i < m then zdt (L i) else 0) ∧ (if i < m then zdt (L i) else 0) ≤ 36 := by
  by_cases c : i < m
  · rw [if_pos c]; have := zdt_v (h i c); omega
  · rw [if_neg c]; omega
theorem zpk_q (hp : ∀ j, j < k → (j < m ↔ j < m') ∧ (j < m → L j = L' j)) : ∀ i : Nat, i ≤ k → zpk L m i = zpk L' m' i := by
  intro i
  induction i with
  | zero => intro _; rfl
  | succ i ih =>
    intro hi
    rw [zpk_s, zpk_s, ih (by omega)]
    have q := hp i (by omega)
    by_cases c : i < m
    · rw [if_pos c, if_pos (q.1.mp c), q.2 c]
    · rw [if_neg c, if_neg (fun d => c (q.1.mpr d))]
theorem zpk_lt (h : ∀ k, k < m → zVl (L k)) (h' : ∀ k, k < m' → zVl (L' k)) (hp : ∀ j, j < k → (j < m ↔ j < m') ∧ (j < m → L j = L' j)) (hd : (if k < m then zdt (L k) else 0) < (if k < m' then zdt (L' k) else 0)) : ∀ i : Nat, k < i → zpk L m i < zpk L' m' i := by
  intro i
  induction i with
  | zero => intro c; omega
  | succ i ih =>
    intro hi
    rw [zpk_s, zpk_s]
    by_cases c : i = k
    · rw [c, zpk_q hp k (Nat.le_refl _)]; omega
    · have q := ih (by omega)
      have d1 := zdg_b (i := i) h
      have d2 := zdg_b (i := i) h'
      omega
theorem zdt_m {a b : Int} (ha : zVl a) (hb : zVl b) : a < b ↔ zdt a < zdt b := by
  unfold zVl at ha hb
  unfold zdt
  by_cases c : 97 ≤ a <;> by_cases d : 97 ≤ b <;> simp only [c, d, if_true, if_false] <;> omega
end ZOR
def zOd (g sz : Nat → Int32) (v w k : Int) : Prop := ∀ j : Nat, (j : Int) < k → (j : Int) < (sz v.toNat).toInt ∧ (j : Int) < (sz w.toNat).toInt ∧ g (12 * v.toNat + j) = g (12 * w.toNat + j)
def zOr (g sz : Nat → Int32) (W v w r : Int) : Prop := zMs g sz W → 0 ≤ v → v < W → 0 ≤ w → w < W → (r < 0 ↔ zkw g sz v.toNat < zkw g sz w.toNat) ∧ (0 < r ↔ zkw g sz w.toNat < zkw g sz v.toNat)
section ZOS
variable {g sz : Nat → Int32} {W v w k k' r : Int}
theorem zOd_0 (h : k ≤ 0) : zOd g sz v w k := fun j hj => by omega
theorem zOd_s {A B y z I J : Int32} (h : zOd g sz v w k) (k0 : 0 ≤ k) (v0 : 0 ≤ v) (w0 : 0 ≤ w) (eA : A = sz v.toNat) (eB : B = sz w.toNat) (hA : k < A.toInt) (hB : k < B.toInt) (ey : y = g I.toNatClampNeg) (ez : z = g J.toNatClampNeg) (hI : I.toInt = 12 * v + k) (hJ : J.toInt = 12 * w + k) (he : y.toInt = z.toInt) (e : k' = k + 1) : zOd g sz v w k' := fun j hj => by
  by_cases c : (j : Int) < k
  · exact h j c
  · have ej : j = k.toNat := by omega
    have eI : I.toNatClampNeg = 12 * v.toNat + j := by have : I.toNatClampNeg = I.toInt.toNat := rfl; omega
    have eJ : J.toNatClampNeg = 12 * w.toNat + j := by have : J.toNatClampNeg = J.toInt.toNat := rfl; omega
    rw [eI] at ey
    rw [eJ] at ez
    exact ⟨by rw [← eA]; omega, by rw [← eB]; omega, zeqi.mpr (by rw [← ey, ← ez]; exact he)⟩
theorem zOr_k (hm : zMs g sz W) (v0 : 0 ≤ v) (hv : v < W) (w0 : 0 ≤ w) (hw : w < W) {k : Nat} (hk : k < 12) (h : zOd g sz v w k) (hd : (if k < (sz v.toNat).toInt.toNat then zdt (g (12 * v.toNat + k)).toInt else 0) < (if k < (sz w.toNat).toInt.toNat then zdt (g (12 * w.toNat + k)).toInt else 0)) : zkw g sz v.toNat < zkw g sz w.toNat := by
  have a := hm.1 v.toNat (by omega)
  have b := hm.1 w.toNat (by omega)
  unfold zkw
  refine zpk_lt (k := k) (fun j hj => a.2.2 j (by omega)) (fun j hj => b.2.2 j (by omega)) (fun j hj => ?_) hd 12 hk
  have q := h j (by omega)
  exact ⟨⟨fun _ => by omega, fun _ => by omega⟩, fun _ => by rw [q.2.2]⟩
theorem zOd_y (h : zOd g sz v w k) : zOd g sz w v k := fun j hj => ⟨(h j hj).2.1, (h j hj).1, (h j hj).2.2.symm⟩
theorem zOr_d {A B y z I J R : Int32} (h : zOd g sz v w k) (k0 : 0 ≤ k) (k2 : k < 12) (eA : A = sz v.toNat) (eB : B = sz w.toNat) (hA : k < A.toInt) (hB : k < B.toInt) (ey : y = g I.toNatClampNeg) (ez : z = g J.toNatClampNeg) (v0 : 0 ≤ v) (w0 : 0 ≤ w) (hI : I.toInt = 12 * v + k) (hJ : J.toInt = 12 * w + k) (hne : y.toInt ≠ z.toInt) (eR : R = y - z) : zOr g sz W v w R.toInt := fun hm _ hv _ hw => by
  have eI : I.toNatClampNeg = 12 * v.toNat + k.toNat := by have : I.toNatClampNeg = I.toInt.toNat := rfl; omega
  have eJ : J.toNatClampNeg = 12 * w.toNat + k.toNat := by have : J.toNatClampNeg = J.toInt.toNat := rfl; omega
  rw [eI] at ey
  rw [eJ] at ez
  have a := (hm.1 v.toNat (by omega)).2.2 k.toNat (by rw [← eA]; omega)
  have b := (hm.1 w.toNat (by omega)).2.2 k.toNat (by rw [← eB]; omega)
  have hk : zOd g sz v w (k.toNat : Int) := by rw [show ((k.toNat : Nat) : Int) = k from by omega]; exact h
  have c1 : k.toNat < (sz v.toNat).toInt.toNat := by rw [← eA]; omega
  have c2 : k.toNat < (sz w.toNat).toInt.toNat := by rw [← eB]; omega
  have a' := a
  have b' := b
  rw [← ey] at a'
  rw [← ez] at b'
  unfold zVl at a' b'
  have hr := zsub (x := y) (y := z) rfl rfl eR (by omega) (by omega)
  have m1 := zdt_m a b
  have m2 := zdt_m b a
  rw [← ey, ← ez] at m1 m2
  have f1 : y.toInt < z.toInt → zkw g sz v.toNat < zkw g sz w.toNat := fun q => zOr_k hm v0 hv w0 hw (k := k.toNat) (by omega) hk (by rw [if_pos c1, if_pos c2, ← ey, ← ez]; exact m1.mp q)
  have f2 : z.toInt < y.toInt → zkw g sz w.toNat < zkw g sz v.toNat := fun q => zOr_k hm w0 hw v0 hv (k := k.toNat) (by omega) (zOd_y hk) (by rw [if_pos c1, if_pos c2, ← ey, ← ez]; exact m2.mp q)
  by_cases c : y.toInt < z.toInt
  · have := f1 c
    exact ⟨⟨fun _ => this, fun _ => by omega⟩, ⟨fun q => by omega, fun q => by omega⟩⟩
  · have := f2 (by omega)
    exact ⟨⟨fun q => by omega, fun q => by omega⟩, ⟨fun _ => this, fun _ => by omega⟩⟩
theorem zOr_e {A B : Int32} (h : zOd g sz v w k) (k0 : 0 ≤ k) (v0 : 0 ≤ v) (w0 : 0 ≤ w) (eA : A = sz v.toNat) (eB : B = sz w.toNat) (hx : A.toInt ≤ k ∨ B.toInt ≤ k) (hr : r = A.toInt - B.toInt) : zOr g sz W v w r := fun hm _ hv _ hw => by
  have a := hm.1 v.toNat (by omega)
  have b := hm.1 w.toNat (by omega)
  rw [← eA] at a
  rw [← eB] at b
  have kk : k ≤ A.toInt ∧ k ≤ B.toInt := by
    by_cases c : k ≤ 0
    · omega
    · have q := h (k - 1).toNat (by omega)
      rw [← eA, ← eB] at q
      omega
  have hk : zOd g sz v w (k.toNat : Int) := by rw [show ((k.toNat : Nat) : Int) = k from by omega]; exact h
  rcases Int.lt_trichotomy A.toInt B.toInt with c | c | c
  · have f := zOr_k hm v0 hv w0 hw (k := k.toNat) (by omega) hk (by
      rw [if_neg (by rw [← eA]; omega), if_pos (by rw [← eB]; omega)]
      have := zdt_v (b.2.2 k.toNat (by omega)); omega)
    exact ⟨⟨fun _ => f, fun _ => by omega⟩, ⟨fun q => by omega, fun q => by omega⟩⟩
  · have e : zkw g sz v.toNat = zkw g sz w.toNat := by
      unfold zkw
      rw [← eA, ← eB, c]
      refine zpk_c (fun j hj => ?_) 12
      show (g (12 * v.toNat + j)).toInt = (g (12 * w.toNat + j)).toInt
      rw [(h j (by omega)).2.2]
    exact ⟨⟨fun q => by omega, fun q => by omega⟩, ⟨fun q => by omega, fun q => by omega⟩⟩
  · have f := zOr_k hm w0 hw v0 hv (k := k.toNat) (by omega) (zOd_y hk) (by
      rw [if_neg (by rw [← eB]; omega), if_pos (by rw [← eA]; omega)]
      have := zdt_v (a.2.2 k.toNat (by omega)); omega)
    exact ⟨⟨fun q => by omega, fun q => by omega⟩, ⟨fun _ => f, fun _ => by omega⟩⟩
end ZOS
def zSt (so g sz : Nat → Int32) (k : Int) : Prop := (∀ a b : Nat, a < b → (b : Int) < k → zkw g sz (so a).toInt.toNat < zkw g sz (so b).toInt.toNat) ∧ (∀ a : Nat, (a : Int) < k → 0 ≤ (so a).toInt ∧ (so a).toInt < k) ∧ ∀ j : Nat, (j : Int) < k → ∃ a : Nat, (a : Int) < k ∧ (so a).toInt = j
def zSn (so g sz : Nat → Int32) (W k i : Int) : Prop := zMs g sz W → 0 ≤ i ∧ i ≤ k ∧ ∃ so0 : Nat → Int32, zSt so0 g sz k ∧ (∀ a : Nat, (a : Int) < i → so a = so0 a) ∧ (∀ a : Nat, i ≤ (a : Int) → (a : Int) < k → (so (a + 1)).toInt = (so0 a).toInt ∧ zkw g sz k.toNat < zkw g sz (so0 a).toInt.toNat)
section ZSO
variable {so so' g sz : Nat → Int32} {W k k' i i' r : Int}
theorem zSt_0 (h : k = 0) : zSt so g sz k := ⟨fun a b _ hb => by omega, fun a ha => by omega, fun j hj => by omega⟩
theorem zSn_0 (h : zMs g sz W → zSt so g sz k) (h0 : 0 ≤ k) (hi : i = k) : zSn so g sz W k i := fun hm => ⟨by omega, by omega, so, h hm, fun _ _ => rfl, fun a h1 h2 => by omega⟩
theorem zSn_s {I J x z : Int32} (h : zSn so g sz W k i) (hkW : k < W) (k0 : 0 ≤ k) (hi : 0 < i) (ez : z = so J.toNatClampNeg) (hJ : J.toInt = i - 1) (ho : zOr g sz W z.toInt k r) (hr : 0 < r) (e : so' = upd so I.toNatClampNeg x) (hI : I.toInt = i) (hx : 0 ≤ z.toInt → z.toInt ≤ 399 → x.toInt = z.toInt) (hW : W ≤ 400) (hi' : i' = i - 1) : zSn so' g sz W k i' := fun hm => by
  obtain ⟨a1, a2, so0, b1, b2, b3⟩ := h hm
  have eJ : J.toNatClampNeg = (i - 1).toNat := by have : J.toNatClampNeg = J.toInt.toNat := rfl; omega
  have eI : I.toNatClampNeg = i.toNat := by have : I.toNatClampNeg = I.toInt.toNat := rfl; omega
  rw [eJ] at ez
  rw [eI] at e
  have c1 := b2 (i - 1).toNat (by omega)
  have c2 := b1.2.1 (i - 1).toNat (by omega)
  rw [c1] at ez
  rw [← ez] at c2
  have o := (ho hm (by omega) (by omega) k0 hkW).2.mp hr
  refine ⟨by omega, by omega, so0, b1, fun a ha => ?_, fun a h1 h2 => ?_⟩
  · rw [e, pk_un (by omega)]; exact b2 a (by omega)
  · by_cases c : (a : Int) = i - 1
    · rw [e, show a + 1 = i.toNat from by omega, pk_us, show a = (i - 1).toNat from by omega, ← ez]
      exact ⟨hx (by omega) (by omega), o⟩
    · rw [e, pk_un (by omega)]
      exact b3 a (by omega) h2
theorem zSt_i {I x : Int32} (h : zSn so g sz W k i) (hkW : k < W) (k0 : 0 ≤ k) (hx : i ≤ 0 ∨ ∃ (J z : Int32) (r : Int), z = so J.toNatClampNeg ∧ J.toInt = i - 1 ∧ zOr g sz W z.toInt k r ∧ r ≤ 0) (e : so' = upd so I.toNatClampNeg x) (hI : I.toInt = i) (hxk : x.toInt = k) (hk' : k' = k + 1) : zMs g sz W → zSt so' g sz k' := fun hm => by
  obtain ⟨a1, a2, so0, b1, b2, b3⟩ := h hm
  have eI : I.toNatClampNeg = i.toNat := by have : I.toNatClampNeg = I.toInt.toNat := rfl; omega
  rw [eI] at e
  have below : ∀ a : Nat, (a : Int) < i → zkw g sz (so0 a).toInt.toNat < zkw g sz k.toNat := fun a ha => by
    rcases hx with c | ⟨J, z, r, z1, z2, z3, z4⟩
    · omega
    · have eJ : J.toNatClampNeg = (i - 1).toNat := by have : J.toNatClampNeg = J.toInt.toNat := rfl; omega
      rw [eJ, b2 (i - 1).toNat (by omega)] at z1
      have c2 := b1.2.1 (i - 1).toNat (by omega)
      rw [← z1] at c2
      have o := z3 hm (by omega) (by omega) k0 hkW
      have ne : zkw g sz z.toInt.toNat ≠ zkw g sz k.toNat := hm.2 _ _ (by omega) (by omega)
      have lt : zkw g sz z.toInt.toNat < zkw g sz k.toNat := by omega
      by_cases d : a = (i - 1).toNat
      · rw [d, ← z1]; exact lt
      · have := b1.1 a (i - 1).toNat (by omega) (by omega)
        rw [← z1] at this
        omega
  have val : ∀ a : Nat, (a : Int) < k + 1 → ((a : Int) < i ∧ so' a = so0 a) ∨ ((a : Int) = i ∧ (so' a).toInt = k) ∨ (i < (a : Int) ∧ ∃ b : Nat, a = b + 1 ∧ i ≤ (b : Int) ∧ (so' a).toInt = (so0 b).toInt ∧ zkw g sz k.toNat < zkw g sz (so0 b).toInt.toNat) := fun a ha => by
    rcases Int.lt_trichotomy (a : Int) i with c | c | c
    · exact Or.inl ⟨c, by rw [e, pk_un (by omega)]; exact b2 a c⟩
    · exact Or.inr (Or.inl ⟨c, by rw [e, show a = i.toNat from by omega, pk_us]; exact hxk⟩)
    · obtain ⟨b, hb⟩ : ∃ b, a = b + 1 := ⟨a - 1, by omega⟩
      have q := b3 b (by omega) (by omega)
      refine Or.inr (Or.inr ⟨c, b, hb, by omega, ?_, q.2⟩)
      rw [e, pk_un (by omega), hb]
      exact q.1
  subst hk'
  refine ⟨fun a b hab hb => ?_, fun a ha => ?_, fun j hj => ?_⟩
  · rcases val a (by omega) with ⟨p1, p2⟩ | ⟨p1, p2⟩ | ⟨p1, c, p2, p3, p4, p5⟩ <;> rcases val b hb with ⟨q1, q2⟩ | ⟨q1, q2⟩ | ⟨q1, d, q2, q3, q4, q5⟩
    · rw [p2, q2]; exact b1.1 a b hab (by omega)
    · rw [p2, q2]; exact below a p1
    · rw [p2, q4]; have := below a p1; omega
    · omega
    · omega
    · rw [p2, q4]; exact q5
    · omega
    · omega
    · rw [p4, q4]; exact b1.1 c d (by omega) (by omega)
  · rcases val a ha with ⟨p1, p2⟩ | ⟨p1, p2⟩ | ⟨p1, c, p2, p3, p4, p5⟩
    · rw [p2]; have := b1.2.1 a (by omega); omega
    · omega
    · rw [p4]; have := b1.2.1 c (by omega); omega
  · by_cases c : (j : Int) = k
    · rcases val i.toNat (by omega) with ⟨p1, -⟩ | ⟨p1, p2⟩ | ⟨p1, -⟩
      · omega
      · exact ⟨i.toNat, by omega, by omega⟩
      · omega
    · obtain ⟨a, q1, q2⟩ := b1.2.2 j (by omega)
      by_cases d : (a : Int) < i
      · refine ⟨a, by omega, ?_⟩
        rw [e, pk_un (by omega), b2 a d]; exact q2
      · refine ⟨a + 1, by omega, ?_⟩
        have q := b3 a (by omega) q1
        rw [e, pk_un (by omega), q.1]; exact q2
end ZSO
def zby (x : Int) (i : Nat) : Int := if i < 12 then (if x / 37 ^ (11 - i) % 37 = 0 then 0 else if 10 < x / 37 ^ (11 - i) % 37 then x / 37 ^ (11 - i) % 37 + 86 else x / 37 ^ (11 - i) % 37 + 47) else 0
theorem zpk_dv {L : Nat → Int} {m : Nat} (h : ∀ k, k < m → zVl (L k)) : ∀ (j i : Nat), zpk L m (i + j) / 37 ^ j = zpk L m i := by
  intro j
  induction j with
  | zero => intro i; rw [Nat.add_zero, Int.pow_zero, Int.ediv_one]
  | succ j ih =>
    intro i
    have q := ih (i + 1)
    rw [show i + 1 + j = i + (j + 1) from by omega] at q
    have e : (37 : Int) ^ (j + 1) = 37 ^ j * 37 := Int.pow_succ 37 j
    have d := zdg_b (i := i) h
    rw [e, ← Int.ediv_ediv_of_nonneg (by exact Int.pow_nonneg (by decide)), q, zpk_s]
    omega
theorem zpk_y {L : Nat → Int} {m i : Nat} (h : ∀ k, k < m → zVl (L k)) (hm : m ≤ 12) : zby (zpk L m 12) i = if i < m then L i else 0 := by
  unfold zby
  by_cases c : i < 12
  · rw [if_pos c]
    have q := zpk_dv h (11 - i) (i + 1)
    rw [show i + 1 + (11 - i) = 12 from by omega] at q
    rw [q, zpk_s]
    have b := zpk_b h i
    by_cases d : i < m
    · have v := h i d
      have dv := zdt_v v
      rw [if_pos d, if_pos d, show (37 * zpk L m i + zdt (L i)) % 37 = zdt (L i) from by omega, if_neg (by omega)]
      unfold zVl at v
      unfold zdt at dv ⊢
      by_cases f : 97 ≤ L i
      · simp only [f, if_true]
        rw [if_pos (by omega)]; omega
      · simp only [f, if_false]
        rw [if_neg (by omega)]; omega
    · rw [if_neg d, if_neg d, show (37 * zpk L m i + 0) % 37 = 0 from by omega, if_pos rfl]
  · rw [if_neg c, if_neg (by omega)]
theorem zSt_c {so g sz : Nat → Int32} {W k k' : Int} (h : zMs g sz W → zSt so g sz k) (e : k' = k) : zMs g sz W → zSt so g sz k' := by rw [e]; exact h
def zBx (w r j : Int) : Prop := 0 ≤ w → r = w / 37 ^ (11 - j).toNat
theorem zBx_0 {w r j : Int} (h : j = 11) (e : r = w) : zBx w r j := fun _ => by subst h; rw [e]; show w = w / 37 ^ 0; rw [Int.pow_zero, Int.ediv_one]
theorem zBx_n {w r j : Int} (h : zBx w r j) (h0 : 0 ≤ w) : 0 ≤ r := by
  rw [h h0]; exact Int.ediv_nonneg h0 (Int.pow_nonneg (by decide))
theorem zBx_s {w : Int} {r y : Int64} {j j' : Int} (h : zBx w r.toInt j) (e : y = r / 37) (h1 : j ≤ 11) (hj : j' = j - 1) : zBx w y.toInt j' := fun h0 => by
  have n := zBx_n h h0
  have q : y.toInt = r.toInt / 37 := by
    rw [e, Int64.toInt_div_of_ne_left _ _ (fun c => by rw [c] at n; exact absurd n (by decide)), Int.tdiv_eq_ediv_of_nonneg n]
    rfl
  rw [q, h h0, show (11 - j').toNat = (11 - j).toNat + 1 from by omega, Int.pow_succ, Int.ediv_ediv_of_nonneg (Int.pow_nonneg (by decide))]
theorem zBx_m {w : Int} {r y : Int64} {j : Int} {z : Int32} (h : zBx w r.toInt j) (e : y = r - r / 37 * 37) (ez : z = y.toInt32) : 0 ≤ w → z.toInt = w / 37 ^ (11 - j).toNat % 37 := fun h0 => by
  have n := zBx_n h h0
  have q : y.toInt = r.toInt % 37 := by
    have d : (r / 37).toInt = r.toInt / 37 := by
      rw [Int64.toInt_div_of_ne_left _ _ (fun c => by rw [c] at n; exact absurd n (by decide)), Int.tdiv_eq_ediv_of_nonneg n]
      rfl
    have up := r.toInt_lt
    have m : (r / 37 * 37).toInt = r.toInt / 37 * 37 := by
      rw [Int64.toInt_mul, d]
      exact zbm64 (by show _ ≤ r.toInt / 37 * 37; omega) (by show r.toInt / 37 * 37 ≤ _; omega)
    rw [e, Int64.toInt_sub, m, zbm64 (by omega) (by omega)]
    omega
  have b : 0 ≤ r.toInt % 37 ∧ r.toInt % 37 < 37 := ⟨Int.emod_nonneg _ (by decide), Int.emod_lt_of_pos _ (by decide)⟩
  rw [ez, Int64.toInt_toInt32, q, ← h h0]
  exact Int.bmod_eq_of_le (by omega) (by omega)
theorem zBx_b {w v j : Int} (h : 0 ≤ w → v = w / 37 ^ (11 - j).toNat % 37) : 0 ≤ w → 0 ≤ v ∧ v < 37 := fun h0 => by
  rw [h h0]; exact ⟨Int.emod_nonneg _ (by decide), Int.emod_lt_of_pos _ (by decide)⟩
def zBz (w i r : Int) : Prop := 0 ≤ w → 0 ≤ i → r = zby w i.toNat
theorem zBz_o {w i r : Int} (h : i < 0 ∨ 12 ≤ i) (hr : r = 0) : zBz w i r := fun _ h0 => by
  unfold zby
  rw [if_neg (by omega), hr]
theorem zBz_i {w i j r v : Int} (h : 0 ≤ w → v = w / 37 ^ (11 - j).toNat % 37) (hi : i < 12) (hj : j = i) (hr : 0 ≤ w → (v = 0 ∧ r = 0) ∨ (10 < v ∧ r = v + 86) ∨ (v ≠ 0 ∧ v ≤ 10 ∧ r = v + 47)) : zBz w i r := fun h0 i0 => by
  have e := h h0
  rw [show (11 - j).toNat = 11 - i.toNat from by omega] at e
  unfold zby
  rw [if_pos (by omega), ← e]
  rcases hr h0 with ⟨a, b⟩ | ⟨a, b⟩ | ⟨a, b, c⟩
  · rw [if_pos a, b]
  · rw [if_neg (by omega), if_pos a, b]
  · rw [if_neg a, if_neg (by omega), c]
def zLe (s : Nat → Int64) (k : Int32) (i r : Int) : Prop := 0 ≤ (s k.toNatClampNeg).toInt → r = zby (s k.toNatClampNeg).toInt i.toNat
def zLf2 (so g sz : Nat → Int32) (W : Int) (k : Int32) (i r : Int) : Prop := zMs g sz W → zSt so g sz W → 0 ≤ k.toInt → k.toInt < W → 0 ≤ i → r = zby (zkw g sz (so k.toNatClampNeg).toInt.toNat) i.toNat
theorem zLf2_i {so g sz : Nat → Int32} {W i r : Int} {k S A y I : Int32} (eS : S = so k.toNatClampNeg) (eA : A = sz S.toNatClampNeg) (h : (i < A.toInt ∧ y = g I.toNatClampNeg ∧ I.toInt = 12 * S.toInt + i ∧ r = y.toInt) ∨ (A.toInt ≤ i ∧ r = 0)) : zLf2 so g sz W k i r := fun hm hs h0 hk i0 => by
  have cl := zclamp h0
  have b := hs.2.1 k.toNatClampNeg (by omega)
  rw [← eS] at b ⊢
  have eS' : S.toNatClampNeg = S.toInt.toNat := rfl
  rw [eS'] at eA
  have a := hm.1 S.toInt.toNat (by omega)
  rw [← eA] at a
  unfold zkw
  rw [← eA, zpk_y (fun j hj => a.2.2 j (by omega)) (by omega)]
  rcases h with ⟨h1, h2, h3, h4⟩ | ⟨h1, h2⟩
  · have eI : I.toNatClampNeg = 12 * S.toInt.toNat + i.toNat := by have : I.toNatClampNeg = I.toInt.toNat := rfl; omega
    rw [if_pos (by omega), h4, h2, eI]
  · rw [if_neg (by omega), h2]
theorem zLe_i {s : Nat → Int64} {k : Int32} {i r w : Int} (hw : w = (s k.toNatClampNeg).toInt) (h : zBz w i r) (hi : 0 ≤ i) : zLe s k i r := fun h0 => by
  rw [hw] at h; exact h h0 hi
theorem zLe_L {s : Nat → Int64} {k R : Int32} {i : Int} {f f0 : Nat → Int64} {y : Int64} (ef : f = vp_updL f0 (0 : Int32).toNatClampNeg y) (ey : y = R.toInt64) (h : zLe s k i R.toInt) : zLe s k i (f 0).toInt := by
  have q : f 0 = R.toInt64 := by rw [ef, ← ey]; rfl
  rw [q, Int32.toInt_toInt64]
  exact h
def zLg (so so' g sz : Nat → Int32) (W fl : Int) (k : Int32) (i r fl' : Int) : Prop := zMs g sz W → (fl ≠ 0 → zSt so g sz W) → ((0 ≤ k.toInt ∧ k.toInt < W ∧ 0 ≤ i → r = zby (zkw g sz (so' k.toNatClampNeg).toInt.toNat) i.toNat) ∧ (fl' ≠ 0 → zSt so' g sz W))
theorem zLg_x {so g sz : Nat → Int32} {W fl i r fl' : Int} {k : Int32} (h : ¬ (0 ≤ k.toInt ∧ k.toInt < W ∧ 0 ≤ i)) (e : fl' = fl) : zLg so so g sz W fl k i r fl' := fun _ hs => ⟨fun q => absurd q h, by rw [e]; exact hs⟩
theorem zLg_1 {so g sz : Nat → Int32} {W fl i r fl' : Int} {k : Int32} (hf : fl ≠ 0) (h : zLf2 so g sz W k i r) (e : fl' = fl) : zLg so so g sz W fl k i r fl' := fun hm hs => ⟨fun q => h hm (hs hf) q.1 q.2.1 q.2.2, by rw [e]; exact hs⟩
theorem zLg_2 {so so' g sz : Nat → Int32} {W fl i r fl' : Int} {k : Int32} (hs : zMs g sz W → zSt so' g sz W) (h : zLf2 so' g sz W k i r) : zLg so so' g sz W fl k i r fl' := fun hm _ => ⟨fun q => h hm (hs hm) q.1 q.2.1 q.2.2, fun _ => hs hm⟩
def zSv (fl' fl : Int) (g' g sz' sz : Nat → Int32) (W' W : Int) : Prop := fl' = 0 ∨ (fl' = fl ∧ g' = g ∧ sz' = sz ∧ W' = W)
theorem zSv_r {fl : Int} {g sz : Nat → Int32} {W : Int} : zSv fl fl g g sz sz W W := Or.inr ⟨rfl, rfl, rfl, rfl⟩
def zxr (c : Int) (b : Nat → Int) (p : Nat → Int) (i : Int) : Nat → Int
  | 0 => i
  | j + 1 => min (p j + (if c = b j then 0 else 1)) (min (p (j + 1)) (zxr c b p i j) + 1)
def zxd (a b : Nat → Int) : Nat → Nat → Int
  | 0 => fun j => (j : Int)
  | i + 1 => zxr (a i) b (zxd a b i) ((i : Int) + 1)
section ZXD
variable {a b a' b' : Nat → Int}
theorem zxd_0 (j : Nat) : zxd a b 0 j = (j : Int) := rfl
theorem zxd_z (i : Nat) : zxd a b i 0 = (i : Int) := by
  cases i with
  | zero => rfl
  | succ i => show ((i : Int) + 1) = ((i + 1 : Nat) : Int); omega
theorem zxd_s (i j : Nat) : zxd a b (i + 1) (j + 1) = min (zxd a b i j + (if a i = b j then 0 else 1)) (min (zxd a b i (j + 1)) (zxd a b (i + 1) j) + 1) := rfl
theorem zxd_b : ∀ i j : Nat, 0 ≤ zxd a b i j ∧ zxd a b i j ≤ (i : Int) + j ∧ (i : Int) ≤ zxd a b i j + j ∧ (j : Int) ≤ zxd a b i j + i := by
  intro i
  induction i with
  | zero => intro j; rw [zxd_0]; omega
  | succ i ih =>
    intro j
    induction j with
    | zero => rw [zxd_z]; omega
    | succ j jh =>
      have q1 := ih j
      have q2 := ih (j + 1)
      rw [zxd_s]
      by_cases c : a i = b j
      · rw [if_pos c]; omega
      · rw [if_neg c]; omega
theorem zxd_mi {m : Nat} {L : Int} : ∀ k i : Nat, (∀ j : Nat, j ≤ m → L < zxd a b i j) → ∀ j : Nat, j ≤ m → L < zxd a b (i + k) j := by
  intro k
  induction k with
  | zero => intro i h; exact h
  | succ k ih =>
    intro i h j
    have q := ih i h
    rw [show i + (k + 1) = i + k + 1 from by omega]
    induction j with
    | zero => intro _; have q0 := q 0 (Nat.zero_le _); rw [zxd_z] at q0 ⊢; omega
    | succ j jh =>
      intro hj
      have q1 := q j (by omega)
      have q2 := q (j + 1) hj
      have q3 := jh (by omega)
      rw [zxd_s]
      by_cases c : a (i + k) = b j
      · rw [if_pos c]; omega
      · rw [if_neg c]; omega
theorem zxd_c {n m : Nat} (h : ∀ i j : Nat, i < n → j < m → (a i = b j ↔ a' i = b' j)) : ∀ i j : Nat, i ≤ n → j ≤ m → zxd a b i j = zxd a' b' i j := by
  intro i
  induction i with
  | zero => intro j _ _; rfl
  | succ i ih =>
    intro j
    induction j with
    | zero => intro _ _; rfl
    | succ j jh =>
      intro hi hj
      have q := h i j (by omega) (by omega)
      rw [zxd_s, zxd_s, ih j (by omega) (by omega), ih (j + 1) (by omega) hj, jh hi (by omega)]
      by_cases c : a i = b j
      · rw [if_pos c, if_pos (q.mp c)]
      · rw [if_neg c, if_neg (fun d => c (q.mpr d))]
def zxC (a b : Nat → Int) (i m : Int) (C : Nat → Int32) : Prop := ∀ k : Nat, (k : Int) ≤ m → (C k).toInt = zxd a b i.toNat k
def zxL (a b : Nat → Int) (i m j sl le : Int) (C : Nat → Int32) : Prop := sl = zxd a b (i - 1).toNat (j - 1).toNat ∧ (∀ k : Nat, (k : Int) < j → (C k).toInt = zxd a b i.toNat k ∧ le ≤ zxd a b i.toNat k) ∧ ∀ k : Nat, j ≤ (k : Int) → (k : Int) ≤ m → (C k).toInt = zxd a b (i - 1).toNat k
def zxJ (C : Nat → Int32) (j : Int) : Prop := ∀ k : Nat, (k : Int) < j → (C k).toInt = (k : Int)
def zxN (a b : Nat → Int) (i m : Int) (C0 C : Nat → Int32) (r : Int) : Prop := zxC a b (i - 1) m C0 → zxC a b i m C ∧ ∀ k : Nat, (k : Int) ≤ m → r ≤ zxd a b i.toNat k
variable {C C' C0 : Nat → Int32} {i i' m j j' sl sl' le le' r : Int}
theorem zxJ_0 (h : j = 0) : zxJ C j := fun k hk => by omega
theorem zxJ_s {J : Int32} (h : zxJ C j) (h0 : 0 ≤ j) (e : C' = upd C J.toNatClampNeg J) (hJ : J.toInt = j) (hj : j' = j + 1) : zxJ C' j' := fun k hk => by
  have eJ : J.toNatClampNeg = j.toNat := by have : J.toNatClampNeg = J.toInt.toNat := rfl; omega
  rw [eJ] at e
  by_cases c : k = j.toNat
  · rw [e, c, pk_us]; omega
  · rw [e, pk_un c]; exact h k (by omega)
theorem zxC_0 (h : zxJ C j) (hm : m < j) (hi : i = 0) : zxC a b i m C := fun k hk => by
  rw [hi, show (0 : Int).toNat = 0 from rfl, zxd_0]
  exact h k (by omega)
theorem zxC_e (h : zxC a b i m C) (e : i' = i) : zxC a b i' m C := by rw [e]; exact h
theorem zxC_b {z M : Int32} (h : zxC a b i m C) (ez : z = C M.toNatClampNeg) (hM : M.toInt = m) (m0 : 0 ≤ m) (m2 : m ≤ 12) (i2 : i ≤ 12) : 0 ≤ z.toInt ∧ z.toInt ≤ 24 := by
  have eM : M.toNatClampNeg = m.toNat := by have : M.toNatClampNeg = M.toInt.toNat := rfl; omega
  have q := h m.toNat (by omega)
  have bb := zxd_b (a := a) (b := b) i.toNat m.toNat
  rw [ez, eM]
  omega
theorem zxL_0 {z X : Int32} (h : zxC a b (i - 1) m C0) (i1 : 1 ≤ i) (m0 : 0 ≤ m) (ez : z = C0 (0 : Int32).toNatClampNeg) (e : C = upd C0 (0 : Int32).toNatClampNeg X) (hX : X.toInt = i) (hj : j = 1) (hle : le ≤ i) : zxL a b i m j z.toInt le C := by
  have e0 : (0 : Int32).toNatClampNeg = 0 := rfl
  rw [e0] at ez e
  refine ⟨?_, fun k hk => ?_, fun k h1 h2 => ?_⟩
  · rw [show (j - 1).toNat = 0 from by omega, ez]; exact h 0 (by omega)
  · have c : k = 0 := by omega
    subst c
    rw [e, pk_us, zxd_z]
    exact ⟨by omega, by omega⟩
  · rw [e, pk_un (by omega)]; exact h k h2
theorem zxL_s {SL D J K za zb z1 z2 z3 z4 z5 z6 z7 : Int32} (h : zxL a b i m j SL.toInt le C) (i1 : 1 ≤ i) (i2 : i ≤ 12) (j1 : 1 ≤ j) (jm : j ≤ m) (m2 : m ≤ 12) (ea : za.toInt = a (i - 1).toNat) (eb : zb.toInt = b (j - 1).toNat) (hd : (za.toInt = zb.toInt ∧ D.toInt = 0) ∨ (za.toInt ≠ zb.toInt ∧ D.toInt = 1)) (e1 : z1 = SL + D) (e2 : z2 = C J.toNatClampNeg) (e3 : z3 = C J.toNatClampNeg) (e4 : z4 = C K.toNatClampNeg) (hJ : J.toInt = j) (hK : K.toInt = j - 1) (m5 : z5.toInt = min z3.toInt z4.toInt) (e6 : z6 = z5 + 1) (m7 : z7.toInt = min z1.toInt z6.toInt) (ef : C' = upd C J.toNatClampNeg z7) (hle : 0 ≤ z7.toInt → le' ≤ le ∧ le' ≤ z7.toInt) (hs : sl' = z2.toInt) (hj : j' = j + 1) : zxL a b i m j' sl' le' C' := by
  obtain ⟨a1, a2, a3⟩ := h
  have eJ : J.toNatClampNeg = (j - 1).toNat + 1 := by have : J.toNatClampNeg = J.toInt.toNat := rfl; omega
  have eK : K.toNatClampNeg = (j - 1).toNat := by have : K.toNatClampNeg = K.toInt.toNat := rfl; omega
  have ei : i.toNat = (i - 1).toNat + 1 := by omega
  rw [eJ] at e2 e3 ef
  rw [eK] at e4
  have s := zxd_s (a := a) (b := b) (i - 1).toNat (j - 1).toNat
  rw [← ei, ← ea, ← eb] at s
  have v2 : z2.toInt = zxd a b (i - 1).toNat ((j - 1).toNat + 1) := by rw [e2]; exact a3 _ (by omega) (by omega)
  have v3 : z3.toInt = zxd a b (i - 1).toNat ((j - 1).toNat + 1) := by rw [e3]; exact a3 _ (by omega) (by omega)
  have v4 : z4.toInt = zxd a b i.toNat (j - 1).toNat := by rw [e4]; exact (a2 _ (by omega)).1
  have b1 := zxd_b (a := a) (b := b) (i - 1).toNat (j - 1).toNat
  have b2 := zxd_b (a := a) (b := b) (i - 1).toNat ((j - 1).toNat + 1)
  have b3 := zxd_b (a := a) (b := b) i.toNat (j - 1).toNat
  have b4 := zxd_b (a := a) (b := b) i.toNat ((j - 1).toNat + 1)
  have c1 : z1.toInt = SL.toInt + D.toInt := zadd rfl rfl e1 (by omega) (by omega)
  have c6 : z6.toInt = z5.toInt + 1 := zadd rfl (by decide) e6 (by omega) (by omega)
  have v7 : z7.toInt = zxd a b i.toNat ((j - 1).toNat + 1) := by
    rw [s]
    rcases hd with ⟨d1, d2⟩ | ⟨d1, d2⟩
    · rw [if_pos d1]; omega
    · rw [if_neg d1]; omega
  have l := hle (by omega)
  refine ⟨?_, fun k hk => ?_, fun k h1 h2 => ?_⟩
  · rw [hs, v2, show (j' - 1).toNat = (j - 1).toNat + 1 from by omega]
  · by_cases c : k = (j - 1).toNat + 1
    · rw [c, ef, pk_us]
      exact ⟨v7, by omega⟩
    · have q := a2 k (by omega)
      rw [ef, pk_un c]
      exact ⟨q.1, by omega⟩
  · rw [ef, pk_un (by omega)]; exact a3 k (by omega) h2
theorem zxN_i (h : zW (zxC a b (i - 1) m C0 → zxL a b i m j sl le C)) (hj : m < j) (hr : r = le) : zxN a b i m C0 C r := fun h0 => by
  obtain ⟨-, q, -⟩ := h h0
  exact ⟨fun k hk => (q k (by omega)).1, fun k hk => by rw [hr]; exact (q k (by omega)).2⟩
theorem zxL_C (h : zxL a b i m j sl le C) (hj : m < j) (hi : i' = i) : zxC a b i' m C := fun k hk => by
  rw [hi]; exact (h.2.1 k (by omega)).1
theorem zxi {A : Nat → Int32} {z I : Int32} {k : Int} (e : z = A I.toNatClampNeg) (h : I.toInt = k) : z.toInt = (A k.toNat).toInt := by
  have q : I.toNatClampNeg = I.toInt.toNat := rfl
  rw [e, q, h]
theorem zxj {g : Nat → Int32} {z I : Int32} {w k : Int} (e : z = g I.toNatClampNeg) (h : I.toInt = 12 * w + k) (w0 : 0 ≤ w) (k0 : 0 ≤ k) : z.toInt = (g (12 * w.toNat + k.toNat)).toInt := by
  have q : I.toNatClampNeg = I.toInt.toNat := rfl
  rw [e, q, h, show (12 * w + k).toNat = 12 * w.toNat + k.toNat from by omega]
theorem zxb {x z : Int32} (e : z = if 0 ≤ x then x else 0 - x) (h1 : -100 ≤ x.toInt) (h2 : x.toInt ≤ 100) : (0 ≤ x.toInt ∧ z.toInt = x.toInt) ∨ (x.toInt < 0 ∧ z.toInt = 0 - x.toInt) := by
  have k0 : (0 : Int32).toInt = 0 := by decide
  by_cases h : (0 : Int32) ≤ x
  · rw [if_pos h] at e
    have q := Int32.le_iff_toInt_le.mp h
    rw [e]
    omega
  · rw [if_neg h] at e
    have q : ¬ 0 ≤ x.toInt := fun c => h (Int32.le_iff_toInt_le.mpr (by rw [k0]; exact c))
    have v := zsub k0 (rfl : x.toInt = x.toInt) e (by omega) (by omega)
    omega
end ZXD
def zxg (w : Int) (k : Nat) : Int := w / 37 ^ (11 - k) % 37
def zxl (w : Int) : Nat → Nat
  | 0 => 0
  | n + 1 => if zxg w n ≠ 0 then n + 1 else zxl w n
def zxh (w L : Int) : Prop := 0 ≤ L ∧ L ≤ 12 ∧ (0 < L → zxg w (L - 1).toNat ≠ 0) ∧ ∀ k : Nat, L ≤ (k : Int) → k < 12 → zxg w k = 0
theorem zxl_e {w L : Int} (h : zxh w L) : zxl w 12 = L.toNat := by
  have key : ∀ n : Nat, n ≤ 12 → L ≤ (n : Int) → zxl w n = L.toNat := by
    intro n
    induction n with
    | zero => intro _ hl; show 0 = L.toNat; omega
    | succ n ih =>
      intro hn hl
      show (if zxg w n ≠ 0 then n + 1 else zxl w n) = L.toNat
      by_cases c : L = (n : Int) + 1
      · have q := h.2.2.1 (by omega)
        rw [show (L - 1).toNat = n from by omega] at q
        rw [if_pos q]; omega
      · have q := h.2.2.2 n (by omega) (by omega)
        rw [if_neg (fun d => d q)]
        exact ih (by omega) (by omega)
  exact key 12 (Nat.le_refl _) (by have := h.2.1; omega)
def zxw (x y : Int) : Int := zxd (zxg x) (zxg y) (zxl x 12) (zxl y 12)
def zxS (w : Int) (f : Nat → Int32) (r : Int) : Prop := 0 ≤ w → zxh w r ∧ ∀ k : Nat, k < 12 → (f k).toInt = zxg w k
def zxK (w : Int) (f : Nat → Int32) (rest i len : Int) : Prop := zBx w rest i ∧ (0 ≤ w → (∀ k : Nat, i < (k : Int) → k < 12 → (f k).toInt = zxg w k) ∧ ((len = 0 ∧ ∀ k : Nat, i < (k : Int) → k < 12 → zxg w k = 0) ∨ (i + 1 < len ∧ len ≤ 12 ∧ zxg w (len - 1).toNat ≠ 0 ∧ ∀ k : Nat, len ≤ (k : Int) → k < 12 → zxg w k = 0)))
section ZXK
variable {w : Int} {f f' : Nat → Int32} {rest i i' len len' r : Int}
theorem zxK_0 (hi : i = 11) (hr : rest = w) (hl : len = 0) : zxK w f rest i len := ⟨zBx_0 hi hr, fun _ => ⟨fun k h1 h2 => by omega, Or.inl ⟨hl, fun k h1 h2 => by omega⟩⟩⟩
theorem zxK_s {R Y Q : Int64} {z22 z23 I : Int32} (h : zxK w f R.toInt i len) (i0 : 0 ≤ i) (i1 : i ≤ 11) (e21 : Y = R - R / 37 * 37) (e22 : z22 = Y.toInt32) (e23 : z23 = z22.toInt8.toInt32) (ef : f' = upd f I.toNatClampNeg (vp_nar .byte z23)) (hI : I.toInt = i) (e29 : Q = R / 37) (hi' : i' = i - 1) (hl : (len ≠ 0 ∧ len' = len) ∨ (len = 0 ∧ (f' I.toNatClampNeg).toInt = 0 ∧ len' = 0) ∨ (len = 0 ∧ (f' I.toNatClampNeg).toInt ≠ 0 ∧ len' = i + 1)) : zxK w f' Q.toInt i' len' := by
  obtain ⟨h1, h2⟩ := h
  refine ⟨zBx_s h1 e29 i1 hi', fun w0 => ?_⟩
  have v := zBx_m h1 e21 e22
  have vb := zBx_b v w0
  have v' : z22.toInt = zxg w i.toNat := by
    unfold zxg
    rw [show 11 - i.toNat = (11 - i).toNat from by omega]; exact v w0
  have v23 : z23.toInt = z22.toInt := zi2b rfl e23 (by omega) (by omega)
  have st : (vp_nar .byte z23).toInt = zxg w i.toNat := by
    rw [vp_nar_byte, zi2b rfl rfl (by omega) (by omega), v23, v']
  have eI : I.toNatClampNeg = i.toNat := by have : I.toNatClampNeg = I.toInt.toNat := rfl; omega
  rw [eI] at ef hl
  have fi : (f' i.toNat).toInt = zxg w i.toNat := by rw [ef, pk_us]; exact st
  rw [fi] at hl
  obtain ⟨q1, q2⟩ := h2 w0
  refine ⟨fun k k1 k2 => ?_, ?_⟩
  · by_cases c : k = i.toNat
    · rw [c]; exact fi
    · rw [ef, pk_un c]; exact q1 k (by omega) k2
  · rcases q2 with ⟨r1, r2⟩ | ⟨r1, r2, r3, r4⟩
    · rcases hl with ⟨l1, l2⟩ | ⟨l1, l2, l3⟩ | ⟨l1, l2, l3⟩
      · exact absurd r1 l1
      · refine Or.inl ⟨l3, fun k k1 k2 => ?_⟩
        by_cases c : k = i.toNat
        · rw [c]; exact l2
        · exact r2 k (by omega) k2
      · refine Or.inr ⟨by omega, by omega, ?_, fun k k1 k2 => r2 k (by omega) k2⟩
        rw [show (len' - 1).toNat = i.toNat from by omega]; exact l2
    · rcases hl with ⟨l1, l2⟩ | ⟨l1, -⟩ | ⟨l1, -⟩
      · rw [l2]; exact Or.inr ⟨by omega, r2, r3, r4⟩
      · exact absurd l1 (by omega)
      · exact absurd l1 (by omega)
theorem zxK_e (h : zxK w f rest i len) (hi : i < 0) (hi2 : -1 ≤ i) (hr : r = len) : zxS w f r := fun w0 => by
  obtain ⟨q1, q2⟩ := h.2 w0
  refine ⟨?_, fun k hk => q1 k (by omega) hk⟩
  rcases q2 with ⟨r1, r2⟩ | ⟨r1, r2, r3, r4⟩
  · exact ⟨by omega, by omega, fun c => by omega, fun k _ k2 => r2 k (by omega) k2⟩
  · rw [hr]
    exact ⟨by omega, r2, fun _ => r3, r4⟩
end ZXK
def zxD (x y l r : Int) : Prop := 0 ≤ x → 0 ≤ y → (zxw x y ≤ l → r = zxw x y) ∧ (l < zxw x y → l < r)
theorem zxS_e {w r r2 : Int} {f : Nat → Int32} (h : zxS w f r) (e : r2 = r) : zxS w f r2 := by rw [e]; exact h
section ZXW
variable {x y n m l r i : Int} {A B C : Nat → Int32}
theorem zxw_e (hx : zxS x A n) (hy : zxS y B m) (x0 : 0 ≤ x) (y0 : 0 ≤ y) : zxw x y = zxd (fun k => (A k).toInt) (fun k => (B k).toInt) n.toNat m.toNat := by
  obtain ⟨p1, p2⟩ := hx x0
  obtain ⟨q1, q2⟩ := hy y0
  have n2 := p1.2.1
  have m2 := q1.2.1
  unfold zxw
  rw [zxl_e p1, zxl_e q1]
  refine zxd_c (n := n.toNat) (m := m.toNat) (fun i j hi hj => ?_) n.toNat m.toNat (Nat.le_refl _) (Nat.le_refl _)
  have e1 := p2 i (by omega)
  have e2 := q2 j (by omega)
  show zxg x i = zxg y j ↔ (A i).toInt = (B j).toInt
  rw [e1, e2]
theorem zxD_1 (hx : zxS x A n) (hy : zxS y B m) (h : l < n - m ∨ l < m - n) (hr : r = l + 1) : zxD x y l r := fun x0 y0 => by
  have e := zxw_e hx hy x0 y0
  have b := zxd_b (a := fun k => (A k).toInt) (b := fun k => (B k).toInt) n.toNat m.toNat
  have n0 := (hx x0).1.1
  have m0 := (hy y0).1.1
  rw [← e] at b
  exact ⟨fun c => by omega, fun _ => by omega⟩
theorem zxD_2 {t : Int} (hx : zxS x A n) (hy : zxS y B m) (h : ∀ k : Nat, (k : Int) ≤ m → t ≤ zxd (fun k => (A k).toInt) (fun k => (B k).toInt) i.toNat k) (ht : l < t) (i0 : 0 ≤ i) (hi : i ≤ n) (hr : r = l + 1) : zxD x y l r := fun x0 y0 => by
  have e := zxw_e hx hy x0 y0
  have m0 := (hy y0).1.1
  have q := zxd_mi (a := fun k => (A k).toInt) (b := fun k => (B k).toInt) (m := m.toNat) (L := l) (n.toNat - i.toNat) i.toNat (fun j hj => by have := h j (by omega); omega) m.toNat (Nat.le_refl _)
  rw [show i.toNat + (n.toNat - i.toNat) = n.toNat from by omega, ← e] at q
  exact ⟨fun c => by omega, fun _ => by omega⟩
theorem zxD_3 {z M : Int32} (hx : zxS x A n) (hy : zxS y B m) (h : zxC (fun k => (A k).toInt) (fun k => (B k).toInt) i m C) (hi : i = n) (ez : z = C M.toNatClampNeg) (hM : M.toInt = m) (hr : r = z.toInt) : zxD x y l r := fun x0 y0 => by
  have e := zxw_e hx hy x0 y0
  have m0 := (hy y0).1.1
  have eM : M.toNatClampNeg = m.toNat := by have : M.toNatClampNeg = M.toInt.toNat := rfl; omega
  have q := h m.toNat (by omega)
  rw [eM] at ez
  rw [hi, ← ez, ← e, ← hr] at q
  exact ⟨fun _ => q, fun c => by omega⟩
end ZXW
def zxF (F : Nat → Int) (b : Prop) (q p : Int) : Prop := (¬ b ∧ q = 3 ∧ ∀ k : Nat, (k : Int) < p → 2 < F k) ∨ (b ∧ 0 ≤ q ∧ q ≤ 2 ∧ (∃ k : Nat, (k : Int) < p ∧ F k = q) ∧ ∀ k : Nat, (k : Int) < p → q ≤ F k)
section ZXF
variable {F : Nat → Int} {b b' : Prop} {q q' p p' v : Int}
theorem zxF_0 (hb : ¬ b) (hq : q = 3) (hp : p = 0) : zxF F b q p := Or.inl ⟨hb, hq, fun k hk => by omega⟩
theorem zxF_k (h : zxF F b q p) (p0 : 0 ≤ p) (hv : (q ≤ 2 ∧ q ≤ F p.toNat) ∨ (2 < q ∧ 2 < F p.toNat)) (hb : b' ↔ b) (hq : q' = q) (hp : p' = p + 1) : zxF F b' q' p' := by
  rcases h with ⟨h1, h2, h3⟩ | ⟨h1, h2, h3, ⟨k, k1, k2⟩, h4⟩
  · refine Or.inl ⟨fun c => h1 (hb.mp c), by omega, fun k hk => ?_⟩
    by_cases c : k = p.toNat
    · rw [c]; omega
    · exact h3 k (by omega)
  · refine Or.inr ⟨hb.mpr h1, by omega, by omega, ⟨k, by omega, by omega⟩, fun k hk => ?_⟩
    by_cases c : k = p.toNat
    · rw [c]; omega
    · have := h4 k (by omega); omega
theorem zxF_u (h : zxF F b q p) (p0 : 0 ≤ p) (v0 : 0 ≤ v) (v2 : v ≤ 2) (vq : v ≤ q) (e : F p.toNat = v) (hb : b') (hq : q' = v) (hp : p' = p + 1) : zxF F b' q' p' := by
  refine Or.inr ⟨hb, by omega, by omega, ⟨p.toNat, by omega, by omega⟩, fun k hk => ?_⟩
  by_cases c : k = p.toNat
  · rw [c]; omega
  · rcases h with ⟨h1, h2, h3⟩ | ⟨h1, h2, h3, -, h4⟩
    · have := h3 k (by omega); omega
    · have := h4 k (by omega); omega
end ZXF
def zxA (x : Int) (V : List Int) (r : Int) : Prop := (r = -1 ∧ (x = 0 ∨ ∀ y ∈ V, 2 < zxw x y)) ∨ (x ≠ 0 ∧ 0 ≤ r ∧ r ≤ 2 ∧ (∃ y ∈ V, zxw x y = r) ∧ ∀ y ∈ V, r ≤ zxw x y)
theorem zxA_u {x : Int} {V V2 : List Int} {r r2 : Int} (h : zxA x V r) (h2 : zxA x V2 r2) (hp : V.Perm V2) : r = r2 := by
  rcases h with ⟨a1, a2⟩ | ⟨a0, a1, a2, ⟨y, y1, y2⟩, a3⟩ <;> rcases h2 with ⟨b1, b2⟩ | ⟨b0, b1, b2, ⟨z, z1, z2⟩, b3⟩
  · omega
  · rcases a2 with c | c
    · exact absurd c b0
    · have := c z (hp.mem_iff.mpr z1); omega
  · rcases b2 with c | c
    · exact absurd c a0
    · have := c y (hp.mem_iff.mp y1); omega
  · have q1 := b3 y (hp.mem_iff.mp y1)
    have q2 := a3 z (hp.mem_iff.mpr z1)
    omega
def zxV (s : Nat → Int64) (n : Int) : Prop := ∀ k : Nat, (k : Int) < n → 0 < (s k).toInt
def zxP (s : Nat → Int64) (n x y q p : Int) : Prop := zxV s n → 0 ≤ x → zxF (fun k => zxw x (s k).toInt) (y ≠ 0) q p ∧ (x = 0 → y = 0)
section ZXP
variable {s : Nat → Int64} {n x y y' q q' p p' r l : Int}
theorem zxP_0 (hy : y = 0) (hq : q = 3) (hp : p = 0) : zxP s n x y q p := fun _ _ => ⟨zxF_0 (fun c => c hy) hq hp, fun _ => hy⟩
theorem zxP_k {P : Int32} {W : Int64} (h : zxP s n x y q P.toInt) (p0 : 0 ≤ P.toInt) (pn : P.toInt < n) (hw : zW (0 ≤ P.toInt → P.toInt < n → W.toInt = (s P.toNatClampNeg).toInt)) (hd : zxD x W.toInt l r) (hl : l = min q 2) (q0 : 0 ≤ q) (q3 : q ≤ 3) (hr : q < r ∨ 2 < r ∨ r = q) (hy : y' = y) (hq : q' = q) (hp : p' = P.toInt + 1) : zxP s n x y' q' p' := fun hv x0 => by
  obtain ⟨h1, h2⟩ := h hv x0
  have eW := hw p0 pn
  have eP : P.toNatClampNeg = P.toInt.toNat := rfl
  rw [eP] at eW
  have w0 := hv P.toInt.toNat (by omega)
  have d := hd x0 (by omega)
  rw [eW] at d
  refine ⟨zxF_k h1 p0 ?_ (by rw [hy]) hq hp, fun c => by rw [hy]; exact h2 c⟩
  show (q ≤ 2 ∧ q ≤ zxw x (s P.toInt.toNat).toInt) ∨ (2 < q ∧ 2 < zxw x (s P.toInt.toNat).toInt)
  have d1 := d.1
  have d2 := d.2
  by_cases c : zxw x (s P.toInt.toNat).toInt ≤ l
  · have e := d1 c; omega
  · have e := d2 (by omega); omega
theorem zxP_u {P : Int32} {W W' : Int64} (h : zxP s n x y q P.toInt) (p0 : 0 ≤ P.toInt) (pn : P.toInt < n) (hw : zW (0 ≤ P.toInt → P.toInt < n → W.toInt = (s P.toNatClampNeg).toInt)) (hw' : zW (0 ≤ P.toInt → P.toInt < n → W'.toInt = (s P.toNatClampNeg).toInt)) (hd : zxD x W.toInt l r) (hl : l = min q 2) (r0 : 0 ≤ r) (r2 : r ≤ 2) (rq : r ≤ q) (hx : x ≠ 0) (hy : y' = W'.toInt) (hq : q' = r) (hp : p' = P.toInt + 1) : zxP s n x y' q' p' := fun hv x0 => by
  obtain ⟨h1, h2⟩ := h hv x0
  have eW := hw p0 pn
  have eW' := hw' p0 pn
  have eP : P.toNatClampNeg = P.toInt.toNat := rfl
  rw [eP] at eW eW'
  have w0 := hv P.toInt.toNat (by omega)
  have d := hd x0 (by omega)
  rw [eW] at d
  have e : zxw x (s P.toInt.toNat).toInt = r := by
    by_cases c : zxw x (s P.toInt.toNat).toInt ≤ l
    · have e := d.1 c; omega
    · have e := d.2 (by omega); omega
  exact ⟨zxF_u (v := r) h1 p0 r0 r2 rq e (by rw [hy]; omega) hq hp, fun c => absurd c hx⟩
def zxAc (f : Nat → Int32) (nt : Int) (s : Nat → Int64) (i fr : Nat → Int32) (n r : Int) : Prop := ∀ V : List Int, zVo s i fr n V → (∀ y ∈ V, 0 < y) → ∃ x : Int, zFW f nt x ∧ zxA x V r
theorem zFW_n {f : Nat → Int32} {nt x : Int} (h : zFW f nt x) : 0 ≤ x := by
  rcases h with ⟨h, -⟩ | ⟨p, m, h1, -, h2, h3⟩
  · omega
  · have := zWrd_pos h2 h1; omega
theorem zxAc_i {f i fr : Nat → Int32} {nt : Int} (hf : zFW f nt x) (h : zxP s n x y q p) (hp : x = 0 ∨ n ≤ p) (pn : p ≤ n) (hr : (y = 0 ∧ r = -1) ∨ (y ≠ 0 ∧ r = q)) : zxAc f nt s i fr n r := fun V hV hp0 => by
  have hv : zxV s n := fun k hk => hp0 _ ((zVo_m hV).mpr ⟨k, hk, rfl⟩)
  obtain ⟨h1, h2⟩ := h hv (zFW_n hf)
  refine ⟨x, hf, ?_⟩
  rcases h1 with ⟨a1, a2, a3⟩ | ⟨a1, a2, a3, ⟨k, k1, k2⟩, a4⟩
  · have r1 : r = -1 := by
      rcases hr with ⟨-, e⟩ | ⟨c, -⟩
      · exact e
      · exact absurd c a1
    refine Or.inl ⟨r1, ?_⟩
    rcases hp with c | c
    · exact Or.inl c
    · refine Or.inr (fun z hz => ?_)
      obtain ⟨j, q1, q2⟩ := (zVo_m hV).mp hz
      rw [← q2]
      exact a3 j (by omega)
  · have x0 : x ≠ 0 := fun c => a1 (h2 c)
    have np : n ≤ p := by
      rcases hp with c | c
      · exact absurd c x0
      · exact c
    have rq : r = q := by
      rcases hr with ⟨c, -⟩ | ⟨-, e⟩
      · exact absurd c a1
      · exact e
    refine Or.inr ⟨x0, by omega, by omega, ⟨(s k).toInt, (zVo_m hV).mpr ⟨k, by omega, rfl⟩, ?_⟩, fun z hz => ?_⟩
    · rw [rq]; exact k2
    · obtain ⟨j, q1, q2⟩ := (zVo_m hV).mp hz
      rw [← q2, rq]
      exact a4 j (by omega)
end ZXP
theorem zdt_j {a b : Int} (ha : zVl a) (hb : zVl b) : zdt a = zdt b ↔ a = b := by
  unfold zVl at ha hb
  unfold zdt
  by_cases c : 97 ≤ a <;> by_cases d : 97 ≤ b <;> simp only [c, d, if_true, if_false] <;> omega
theorem zpk_g {L : Nat → Int} {m i : Nat} (h : ∀ k, k < m → zVl (L k)) (hi : i < 12) : zxg (zpk L m 12) i = if i < m then zdt (L i) else 0 := by
  unfold zxg
  have q := zpk_dv h (11 - i) (i + 1)
  rw [show i + 1 + (11 - i) = 12 from by omega] at q
  rw [q, zpk_s]
  have d := zdg_b (i := i) h
  generalize (if i < m then zdt (L i) else 0) = e at d ⊢
  omega
theorem zxh_p {L : Nat → Int} {m : Nat} (h : ∀ k, k < m → zVl (L k)) (hm : m ≤ 12) : zxh (zpk L m 12) (m : Int) := by
  refine ⟨by omega, by omega, fun c => ?_, fun k k1 k2 => ?_⟩
  · rw [zpk_g h (by omega), if_pos (by omega)]
    have := zdt_v (h ((m : Int) - 1).toNat (by omega))
    omega
  · rw [zpk_g h k2, if_neg (by omega)]
theorem zxw_p {L L' : Nat → Int} {m m' : Nat} (h : ∀ k, k < m → zVl (L k)) (h' : ∀ k, k < m' → zVl (L' k)) (hm : m ≤ 12) (hm' : m' ≤ 12) : zxw (zpk L m 12) (zpk L' m' 12) = zxd L L' m m' := by
  unfold zxw
  rw [zxl_e (zxh_p h hm), zxl_e (zxh_p h' hm'), Int.toNat_natCast, Int.toNat_natCast]
  refine zxd_c (n := m) (m := m') (fun i j hi hj => ?_) m m' (Nat.le_refl _) (Nat.le_refl _)
  rw [zpk_g h (by omega), zpk_g h' (by omega), if_pos hi, if_pos hj]
  exact zdt_j (h i hi) (h' j hj)
def zxq (wd : Nat → Int32) (s : Int) (g sz : Nat → Int32) (j : Nat) : Int := zxd (fun k => (wd k).toInt) (fun k => (g (12 * j + k)).toInt) s.toNat (sz j).toInt.toNat
def zxAr (f : Nat → Int32) (n : Int) (g sz : Nat → Int32) (W r : Int) : Prop := ∀ V : List Int, zMv g sz W V → ∃ x : Int, zFW f n x ∧ zxA x V r
section ZXQ
variable {f wd g sz row : Nat → Int32} {n s i W q p r : Int} {b : Prop}
theorem zxq_n (j : Nat) : 0 ≤ zxq wd s g sz j := (zxd_b _ _).1
theorem zxq_i {P z M : Int32} (h : zxC (fun k => (wd k).toInt) (fun k => (g (12 * P.toInt.toNat + k)).toInt) i (sz P.toNatClampNeg).toInt row) (hi : i = s) (eM : M = sz P.toNatClampNeg) (ez : z = row M.toNatClampNeg) (m0 : 0 ≤ M.toInt) : z.toInt = zxq wd s g sz P.toInt.toNat := by
  have c := zclamp m0
  have q := h M.toNatClampNeg (by rw [← eM]; omega)
  have e1 : M.toNatClampNeg = (sz P.toInt.toNat).toInt.toNat := congrArg Int32.toNatClampNeg eM
  rw [← ez, hi] at q
  rw [q, e1]
  rfl
theorem zxAr_0 (h : ∀ i : Int, ¬ zIn f n i) (hr : r = -1) : zxAr f n g sz W r := fun V _ => ⟨0, Or.inl ⟨rfl, h⟩, Or.inl ⟨hr, Or.inl rfl⟩⟩
theorem zxAr_i (hw : zTw f n wd s) (hF : zxF (zxq wd s g sz) b q p) (p1 : W ≤ p) (p2 : p ≤ W) (hr : (b ∧ r = q) ∨ (¬ b ∧ r = -1)) : zxAr f n g sz W r := fun V hV => by
  obtain ⟨w1, w2, w3, w4, w5⟩ := hw
  obtain ⟨v1, v2, v3, v4, v5⟩ := hV
  have key : ∀ j : Nat, (j : Int) < W → zxw (zpk (fun k => (wd k).toInt) s.toNat 12) (zkw g sz j) = zxq wd s g sz j := fun j hj => by
    have a := v1.1 j hj
    exact zxw_p (L := fun k => (wd k).toInt) (L' := fun k => (g (12 * j + k)).toInt) (m := s.toNat) (m' := (sz j).toInt.toNat) (fun k hk => w3 k (by omega)) (fun k hk => a.2.2 k (by omega)) (by omega) (by omega)
  have inv : ∀ y ∈ V, ∃ j : Nat, (j : Int) < W ∧ zkw g sz j = y := fun y hy => by
    obtain ⟨j, hj, e⟩ := List.getElem_of_mem hy
    have q := v4 j (by omega)
    rw [List.getElem?_eq_getElem hj, e] at q
    exact ⟨j, by omega, (Option.some.inj q).symm⟩
  refine ⟨_, w1, ?_⟩
  rcases hF with ⟨a1, a2, a3⟩ | ⟨a1, a2, a3, ⟨k, k1, k2⟩, a4⟩
  · refine Or.inl ⟨?_, Or.inr (fun y hy => ?_)⟩
    · rcases hr with ⟨c, -⟩ | ⟨-, e⟩
      · exact absurd c a1
      · exact e
    · obtain ⟨j, j1, j2⟩ := inv y hy
      rw [← j2, key j j1]
      exact a3 j (by omega)
  · have rq : r = q := by
      rcases hr with ⟨-, e⟩ | ⟨c, -⟩
      · exact e
      · exact absurd a1 c
    refine Or.inr ⟨by omega, by omega, by omega, ⟨zkw g sz k, List.mem_of_getElem? (v4 k (by omega)), ?_⟩, fun y hy => ?_⟩
    · rw [key k (by omega), rq]; exact k2
    · obtain ⟨j, j1, j2⟩ := inv y hy
      rw [← j2, key j j1, rq]
      exact a4 j (by omega)
end ZXQ
def zf1 (m : Nat) : Int := if 0 < m then 1 else 0
def zf2 (m : Nat) : Int := (m : Int)
theorem zf1_b (m : Nat) : 0 ≤ zf1 m ∧ zf1 m ≤ (m : Int) := by
  unfold zf1
  by_cases h : 0 < m
  · rw [if_pos h]; omega
  · rw [if_neg h]; omega
theorem zf2_b (m : Nat) : 0 ≤ zf2 m ∧ zf2 m ≤ (m : Int) := by
  unfold zf2; omega
theorem zf1_p {m : Nat} (h : 0 < m) : zf1 m = 1 := if_pos h
def zHg (φ : Nat → Int) (T : Nat → Nat → Int) (w : Int) : Nat → Int
  | 0 => 0
  | d + 1 => zHg φ T w d + φ (zTm (T d) w 1024)
section ZHG
variable {φ : Nat → Int} {T : Nat → Nat → Int} {w : Int} {d : Nat}
theorem zHg_s : zHg φ T w (d + 1) = zHg φ T w d + φ (zTm (T d) w 1024) := rfl
theorem zHg_z (hf : ∀ m : Nat, 0 ≤ φ m ∧ φ m ≤ (m : Int)) {D : Nat} (h : d ≤ D) (hz : ∀ e, d ≤ e → e < D → ¬ 0 < zTm (T e) w 1024) : zHg φ T w D = zHg φ T w d := by
  induction D with
  | zero => rw [show d = 0 from by omega]
  | succ D ih =>
    by_cases c : d = D + 1
    · rw [c]
    · have q := hz D (by omega) (by omega)
      have b := hf (zTm (T D) w 1024)
      have i := ih (by omega) (fun e e1 e2 => hz e e1 (by omega))
      rw [zHg_s, i]
      omega
theorem zHg_b (hf : ∀ m : Nat, 0 ≤ φ m ∧ φ m ≤ (m : Int)) : ∀ d : Nat, 0 ≤ zHg φ T w d ∧ zHg φ T w d ≤ 1024 * (d : Int) := by
  intro d
  induction d with
  | zero => exact ⟨Int.le_refl _, Int.le_refl _⟩
  | succ d ih =>
    have b := hf (zTm (T d) w 1024)
    have t := zTm_b (t := T d) (w := w) (k := 1024)
    rw [zHg_s]
    omega
end ZHG
def zQo (φ : Nat → Int) (ro cs nx fc lc bt : Nat → Int32) (ch ru ab tk : Int) (on : Nat → Int32) (D bl ck wh ins nu pl bl3 ck3 wh3 ins3 nu3 pl3 i n : Int) : Prop := ∀ (B : Nat → List Bool) (T : Nat → Nat → Int) (w : Int), zPB ro cs nx fc lc bt ch ru ab tk B → zRr fc nx B bl ck wh ins (zPq T w D.toNat) → nu = -1 → pl = 0 → 0 ≤ D → D ≤ 120 → w ≠ 0 → ∃ d : Nat, i ≤ (d : Int) ∧ d ≤ D.toNat ∧ zRp fc nx B bl3 ck3 wh3 ins3 nu3 pl3 T w D.toNat d ∧ n = zHg φ (zTo on T) w d
def zQf (φ : Nat → Int) (ro cs nx fc lc bt : Nat → Int32) (ch ru ab tk : Int) (on : Nat → Int32) (D bl ck wh ins nu pl r : Int) : Prop := ∀ (B : Nat → List Bool) (T : Nat → Nat → Int) (w : Int), zPB ro cs nx fc lc bt ch ru ab tk B → zRr fc nx B bl ck wh ins (zPq T w D.toNat) → nu = -1 → pl = 0 → 0 ≤ D → D ≤ 120 → w ≠ 0 → r = zHg φ (zTo on T) w D.toNat
section ZQO
variable {φ : Nat → Int} {ro cs nx fc lc bt on : Nat → Int32} {ch ru ab tk D bl ck wh ins nu pl bl3 ck3 wh3 ins3 nu3 pl3 bl4 ck4 wh4 ins4 nu4 pc4 pl4 pa4 i i' n n' r q : Int}
theorem zQo_0 (hi : i = 0) (hn : n = 0) : zQo φ ro cs nx fc lc bt ch ru ab tk on D bl ck wh ins nu pl bl ck wh ins nu pl i n := fun B T w a1 a6 a7 a8 a9 a10 a11 => ⟨0, by omega, Nat.zero_le _, ⟨[], zPq T w D.toNat, fun m hm => absurd hm List.not_mem_nil, by rw [a8]; rfl, a6, rfl, by rw [a7]; rfl, Nat.zero_le _⟩, hn⟩
theorem zQo_s (hf : ∀ m : Nat, 0 ≤ φ m ∧ φ m ≤ (m : Int)) (h : zQo φ ro cs nx fc lc bt ch ru ab tk on D bl ck wh ins nu pl bl3 ck3 wh3 ins3 nu3 pl3 i n) (hn : zNo ro cs nx fc lc bt ch ru ab tk bl3 ck3 wh3 ins3 bl4 ck4 wh4 ins4 pl3 nu3 nu4 pc4 pl4 pa4 r) (hr : r ≠ 0) (ho : ((on nu4.toNat).toInt ≠ 0 ∧ (0 ≤ n → n ≤ 122880 → 0 < pc4 → pc4 ≤ 1024 → n' = n + φ pc4.toNat)) ∨ ((0 ≤ nu4 → nu4 < D → (on nu4.toNat).toInt = 0) ∧ n' = n)) (hi : i' = i + 1) : zQo φ ro cs nx fc lc bt ch ru ab tk on D bl ck wh ins nu pl bl4 ck4 wh4 ins4 nu4 pl4 i' n' := fun B T w a1 a6 a7 a8 a9 a10 a11 => by
  obtain ⟨d, b1, b2, b3, b4⟩ := h B T w a1 a6 a7 a8 a9 a10 a11
  rcases zRp_n a1 (by omega) b3 hn with ⟨c1, -⟩ | ⟨-, d', R', c1, c2, c3, c4, c5, c6, c7, c8, c9, c10⟩
  · exact absurd c1 hr
  · have z1 := zHg_z (φ := φ) (T := zTo on T) (w := w) (d := d) hf (D := d') c1 (fun e e1 e2 => zTo_z a11 (Or.inr (c3 e e1 e2)))
    have bb := zHg_b (φ := φ) (T := zTo on T) (w := w) hf d
    have t := zTm_b (t := T d') (w := w) (k := 1024)
    refine ⟨d' + 1, by omega, by omega, ⟨zPn (T d') w 1024, R', zPn_r (Nat.le_refl _), by rw [zPn_l]; exact c7.symm, c9, c10, by rw [zLd_y c4]; exact c5, by omega⟩, ?_⟩
    rw [zHg_s, z1, ← b4]
    rcases ho with ⟨o1, o2⟩ | ⟨o1, o2⟩
    · rw [show nu4.toNat = d' from by omega] at o1
      rw [zTo_y o1, o2 (by omega) (by omega) (by omega) (by omega), show pc4.toNat = zTm (T d') w 1024 from by omega]
    · have o := o1 (by omega) (by omega)
      rw [show nu4.toNat = d' from by omega] at o
      have z := zTo_z (T := T) (d := d') a11 (Or.inl o)
      have f := hf (zTm (zTo on T d') w 1024)
      omega
theorem zQf_n (hf : ∀ m : Nat, 0 ≤ φ m ∧ φ m ≤ (m : Int)) (h : zQo φ ro cs nx fc lc bt ch ru ab tk on D bl ck wh ins nu pl bl3 ck3 wh3 ins3 nu3 pl3 i n) (hn : zNo ro cs nx fc lc bt ch ru ab tk bl3 ck3 wh3 ins3 bl4 ck4 wh4 ins4 pl3 nu3 nu4 pc4 pl4 pa4 r) (hr : r = 0) (e : q = n) : zQf φ ro cs nx fc lc bt ch ru ab tk on D bl ck wh ins nu pl q := fun B T w a1 a6 a7 a8 a9 a10 a11 => by
  obtain ⟨d, b1, b2, b3, b4⟩ := h B T w a1 a6 a7 a8 a9 a10 a11
  rcases zRp_n a1 (by omega) b3 hn with ⟨-, c1⟩ | ⟨c1, -⟩
  · rw [zHg_z (φ := φ) (T := zTo on T) (w := w) (d := d) hf (D := D.toNat) b2 (fun e e1 e2 => zTo_z a11 (Or.inr (c1 e e1 e2))), e]
    exact b4
  · omega
theorem zQf_i (h : zQo φ ro cs nx fc lc bt ch ru ab tk on D bl ck wh ins nu pl bl3 ck3 wh3 ins3 nu3 pl3 i n) (hi : 120 ≤ i) (e : q = n) : zQf φ ro cs nx fc lc bt ch ru ab tk on D bl ck wh ins nu pl q := fun B T w a1 a6 a7 a8 a9 a10 a11 => by
  obtain ⟨d, b1, b2, b3, b4⟩ := h B T w a1 a6 a7 a8 a9 a10 a11
  rw [show D.toNat = d from by omega, e]
  exact b4
end ZQO
theorem zTm_ex {t : Nat → Int} {x : Int} : ∀ k : Nat, (0 < zTm t x k ↔ ∃ q : Nat, q < k ∧ t q = x) := by
  intro k
  induction k with
  | zero => exact ⟨fun c => absurd c (Nat.lt_irrefl 0), fun ⟨q, q1, _⟩ => absurd q1 (Nat.not_lt_zero _)⟩
  | succ k ih =>
    show (0 < (if t k = x then zTm t x k + 1 else zTm t x k)) ↔ _
    by_cases c : t k = x
    · rw [if_pos c]
      exact ⟨fun _ => ⟨k, Nat.lt_succ_self k, c⟩, fun _ => Nat.succ_pos _⟩
    · rw [if_neg c, ih]
      constructor
      · rintro ⟨q, q1, q2⟩
        exact ⟨q, by omega, q2⟩
      · rintro ⟨q, q1, q2⟩
        have n : q ≠ k := fun e => c (by rw [← e]; exact q2)
        exact ⟨q, by omega, q2⟩
section ZHX
variable {he h0 of on g sz ta ke ti bo : Nat → Int32} {W D L d d' j n n' wi : Int} {T : Nat → Nat → Int} {V : List Int} {w : Nat} {x : Int} {φ : Nat → Int}
theorem zHw_T (hm : zMd g sz W ta ke D T V) (hb : zMb ti bo D T) (hv : V[w]? = some x) (d0 : 0 ≤ d) (d1 : d < D) : zHw ta ti bo d (w : Int) ↔ 0 < zTm (T d.toNat) x 1024 := by
  obtain ⟨h1, h2, h3, h4, h5⟩ := hm
  have hx := h1.2.2.2.2 _ (List.mem_of_getElem? hv)
  obtain ⟨q1, q2, q3⟩ := h4 d.toNat (by omega)
  obtain ⟨b1, b2, b3, b4, b5⟩ := hb d.toNat (by omega)
  have key : ∀ k : Nat, k < 1024 → ((ta (1024 * d + (k : Int)).toNat).toInt = (w : Int) + 1 ↔ T d.toNat k = x) := fun k hk => by
    rw [show (1024 * d + (k : Int)).toNat = 1024 * d.toNat + k from by omega]
    exact zRw_i q1 (zMv_nd h1) hv hx hk
  rw [zTm_ex]
  constructor
  · rintro (⟨p, p1, p2, p3⟩ | ⟨p, p1, p2, p3⟩)
    · exact ⟨p.toNat, by omega, (key p.toNat (by omega)).mp (by rw [show ((p.toNat : Nat) : Int) = p from by omega]; exact p3)⟩
    · exact ⟨p.toNat, by omega, (key p.toNat (by omega)).mp (by rw [show ((p.toNat : Nat) : Int) = p from by omega]; exact p3)⟩
  · rintro ⟨q, r1, r2⟩
    have z := b5 q (by rw [r2]; exact hx)
    have e := (key q r1).mpr r2
    rcases z with c | ⟨c1, c2⟩
    · exact Or.inl ⟨(q : Int), by omega, c, e⟩
    · exact Or.inr ⟨(q : Int), by omega, c2, e⟩
theorem zMd_l (hm : zMd g sz W ta ke D T V) (hv : V[w]? = some x) : (w : Int) < W ∧ x ≠ 0 := by
  have l := hm.1.2.1
  refine ⟨?_, hm.1.2.2.2.2 _ (List.mem_of_getElem? hv)⟩
  rcases Nat.lt_or_ge w V.length with c | c
  · omega
  · rw [List.getElem?_eq_none c] at hv
    exact absurd hv (by simp)
def zHx (he on g sz : Nat → Int32) (W : Int) (ta ke ti bo : Nat → Int32) (D d : Int) : Prop := ∀ (T : Nat → Nat → Int) (V : List Int), zMd g sz W ta ke D T V → zMb ti bo D T → ∀ (w : Nat) (x : Int), V[w]? = some x → (he w).toInt = zHg zf1 (zTo on T) x d.toNat
theorem zHx_0 (h : zT0 he L) (e : W ≤ L) (hd : d = 0) : zHx he on g sz W ta ke ti bo D d := fun T V hm hb w x hv => by
  have l := zMd_l hm hv
  have q := h w (by omega)
  rw [hd, q]
  rfl
theorem zHx_n (h : zHx he on g sz W ta ke ti bo D d) (d0 : 0 ≤ d) (hn : (on d.toNat).toInt = 0) (e : d' = d + 1) : zHx he on g sz W ta ke ti bo D d' := fun T V hm hb w x hv => by
  have l := zMd_l hm hv
  have z := zTo_z (T := T) (d := d.toNat) l.2 (Or.inl hn)
  have f := zf1_b (zTm (zTo on T d.toNat) x 1024)
  rw [show d'.toNat = d.toNat + 1 from by omega, zHg_s, h T V hm hb w x hv]
  omega
theorem zHx_s (h : zHx h0 on g sz W ta ke ti bo D d) (hi : zHi he h0 of W j) (ej : W ≤ j) (ht : zTc of ta ti bo W d) (hon : (on d.toNat).toInt ≠ 0) (d0 : 0 ≤ d) (d1 : d < D) (e : d' = d + 1) : zHx he on g sz W ta ke ti bo D d' := fun T V hm hb w x hv => by
  have l := zMd_l hm hv
  have q := (hi w l.1).1 (by omega)
  have t := ht w l.1
  rw [zHw_T hm hb hv d0 d1] at t
  rw [show d'.toNat = d.toNat + 1 from by omega, zHg_s, ← h T V hm hb w x hv, zTo_y hon]
  rcases q with ⟨q1, q2⟩ | ⟨q1, q2⟩
  · rw [zf1_p (t.mp q1)]; omega
  · have c : ¬ 0 < zTm (T d.toNat) x 1024 := fun c => by have := t.mpr c; omega
    have f := zf1_b (zTm (T d.toNat) x 1024)
    omega
theorem zHx_e (h : zHx he on g sz W ta ke ti bo D d) (e : d' = d) : zHx he on g sz W ta ke ti bo D d' := by rw [e]; exact h
def zKg (φ : Nat → Int) (on g sz : Nat → Int32) (W : Int) (ta ke ti bo : Nat → Int32) (D wi d n : Int) : Prop := ∀ (T : Nat → Nat → Int) (V : List Int) (x : Int), zMd g sz W ta ke D T V → zMb ti bo D T → V[wi.toNat]? = some x → n = zHg φ (zTo on T) x d.toNat
theorem zKg_0 (hd : d = 0) (hn : n = 0) : zKg φ on g sz W ta ke ti bo D wi d n := fun T V x _ _ _ => by subst hd; rw [hn]; rfl
theorem zKg_n {E : Int32} (hf : ∀ m : Nat, 0 ≤ φ m ∧ φ m ≤ (m : Int)) (h : zKg φ on g sz W ta ke ti bo D wi E.toInt n) (e0 : 0 ≤ E.toInt) (ho : (on E.toNatClampNeg).toInt = 0) (hd : d' = E.toInt + 1) (hn : n' = n) : zKg φ on g sz W ta ke ti bo D wi d' n' := fun T V x hm hb hv => by
  have l := zMd_l hm hv
  have eE : E.toNatClampNeg = E.toInt.toNat := rfl
  rw [eE] at ho
  have z := zTo_z (T := T) (d := E.toInt.toNat) l.2 (Or.inl ho)
  have f := hf (zTm (zTo on T E.toInt.toNat) x 1024)
  rw [show d'.toNat = E.toInt.toNat + 1 from by omega, zHg_s, ← h T V x hm hb hv, hn]
  omega
theorem zKg_t {E : Int32} {t : Int} (hf : ∀ m : Nat, 0 ≤ φ m ∧ φ m ≤ (m : Int)) (h : zKg φ on g sz W ta ke ti bo D wi E.toInt n) (w0 : 0 ≤ wi) (e0 : 0 ≤ E.toInt) (e1 : E.toInt < D) (d2 : D ≤ 120) (ho : (on E.toNatClampNeg).toInt ≠ 0) (ht : zTf ta ti bo E wi t) (hd : d' = E.toInt + 1) (hn : 0 ≤ n → n ≤ 122880 → 0 ≤ t → t ≤ 1024 → n' = n + φ t.toNat) : zKg φ on g sz W ta ke ti bo D wi d' n' := fun T V x hm hb hv => by
  have e := zTf_T hm hb hv w0 e0 e1 ht
  have eE : E.toNatClampNeg = E.toInt.toNat := rfl
  rw [eE] at e ho
  have q := h T V x hm hb hv
  have bb := zHg_b (φ := φ) (T := zTo on T) (w := x) hf E.toInt.toNat
  have tb := zTm_b (t := T E.toInt.toNat) (w := x) (k := 1024)
  rw [show d'.toNat = E.toInt.toNat + 1 from by omega, zHg_s, ← q, zTo_y ho, hn (by omega) (by omega) (by omega) (by omega), show t.toNat = zTm (T E.toInt.toNat) x 1024 from by omega]
theorem zKg_e {r : Int} (h : zKg φ on g sz W ta ke ti bo D wi d n) (h1 : D ≤ d) (h2 : d ≤ D) (hr : r = n) : zKg φ on g sz W ta ke ti bo D wi D r := fun T V x hm hb hv => by
  rw [hr, h T V x hm hb hv, show d = D from by omega]
end ZHX
def zxE (F H K : Nat → Int) (y q kp p : Int) : Prop := (y = 0 ∧ q = 3 ∧ ∀ j : Nat, (j : Int) < p → 2 < F j) ∨ (∃ k : Nat, (k : Int) < p ∧ y = K k ∧ F k = q ∧ 0 ≤ q ∧ q ≤ 2 ∧ kp = H k ∧ ∀ j : Nat, (j : Int) < p → q < F j ∨ (F j = q ∧ (H j < kp ∨ (H j = kp ∧ y ≤ K j))))
section ZXE
variable {F H K : Nat → Int} {y y' q q' kp kp' p p' : Int}
theorem zxE_0 (hy : y = 0) (hq : q = 3) (hp : p = 0) : zxE F H K y q kp p := Or.inl ⟨hy, hq, fun j hj => by omega⟩
theorem zxE_k (h : zxE F H K y q kp p) (p0 : 0 ≤ p) (hv : 2 < F p.toNat ∨ q < F p.toNat ∨ (F p.toNat = q ∧ (H p.toNat < kp ∨ (H p.toNat = kp ∧ y ≤ K p.toNat)))) (hy : y' = y) (hq : q' = q) (hk : kp' = kp) (hp : p' = p + 1) : zxE F H K y' q' kp' p' := by
  subst hy; subst hq; subst hk
  rcases h with ⟨h1, h2, h3⟩ | ⟨k, h1, h2, h3, h4, h5, h6, h7⟩
  · refine Or.inl ⟨h1, h2, fun j hj => ?_⟩
    by_cases c : j = p.toNat
    · rw [c]; omega
    · exact h3 j (by omega)
  · refine Or.inr ⟨k, by omega, h2, h3, h4, h5, h6, fun j hj => ?_⟩
    by_cases c : j = p.toNat
    · rw [c]; omega
    · exact h7 j (by omega)
theorem zxE_u (h : zxE F H K y q kp p) (p0 : 0 ≤ p) (v0 : 0 ≤ F p.toNat) (v2 : F p.toNat ≤ 2) (hv : F p.toNat < q ∨ (F p.toNat = q ∧ (kp < H p.toNat ∨ (H p.toNat = kp ∧ K p.toNat ≤ y)))) (hy : y' = K p.toNat) (hq : q' = F p.toNat) (hk : kp' = H p.toNat) (hp : p' = p + 1) : zxE F H K y' q' kp' p' := by
  refine Or.inr ⟨p.toNat, by omega, hy, by omega, by omega, by omega, hk, fun j hj => ?_⟩
  by_cases c : j = p.toNat
  · rw [c]; omega
  · rcases h with ⟨h1, h2, h3⟩ | ⟨k, h1, h2, h3, h4, h5, h6, h7⟩
    · have := h3 j (by omega); omega
    · have := h7 j (by omega); omega
end ZXE
def zxB (x : Int) (V : List Int) (H : Int → Int) (r y : Int) : Prop := (r = -1 ∧ y = 0 ∧ (x = 0 ∨ ∀ z ∈ V, 2 < zxw x z)) ∨ (x ≠ 0 ∧ 0 ≤ r ∧ r ≤ 2 ∧ y ∈ V ∧ zxw x y = r ∧ ∀ z ∈ V, r < zxw x z ∨ (zxw x z = r ∧ (H z < H y ∨ (H z = H y ∧ y ≤ z))))
theorem zxB_u {x : Int} {V V2 : List Int} {H H2 : Int → Int} {r r2 y y2 : Int} (h : zxB x V H r y) (h2 : zxB x V2 H2 r2 y2) (hp : V.Perm V2) (hH : ∀ z ∈ V, H z = H2 z) : r = r2 ∧ y = y2 := by
  rcases h with ⟨a1, a2, a3⟩ | ⟨a1, a2, a3, a4, a5, a6⟩ <;> rcases h2 with ⟨b1, b2, b3⟩ | ⟨b1, b2, b3, b4, b5, b6⟩
  · exact ⟨by omega, by omega⟩
  · rcases a3 with c | c
    · exact absurd c b1
    · have := c y2 (hp.mem_iff.mpr b4); omega
  · rcases b3 with c | c
    · exact absurd c a1
    · have := c y (hp.mem_iff.mp a4); omega
  · have q1 := b6 y (hp.mem_iff.mp a4)
    have q2 := a6 y2 (hp.mem_iff.mpr b4)
    have e1 := hH y a4
    have e2 := hH y2 (hp.mem_iff.mpr b4)
    omega
def zxP2 (s : Nat → Int64) (i fr : Nat → Int32) (n : Int) (ro cs nxc fc lc bt : Nat → Int32) (ch ru ab tk : Int) (h l : Nat → Int32) (D : Int) (on : Nat → Int32) (x y q kp p : Int) : Prop := ∀ (T : Nat → Nat → Int) (V : List Int), zKl s i fr n ro cs nxc fc lc bt ch ru ab tk h l D T V → (∀ z ∈ V, 0 < z) → 0 ≤ x → zxE (fun k => zxw x (s k).toInt) (fun k => zHg zf1 (zTo on T) (s k).toInt D.toNat) (fun k => (s k).toInt) y q kp p ∧ (x = 0 → y = 0)
section ZXP2
variable {s : Nat → Int64} {i fr ro cs nxc fc lc bt h l on : Nat → Int32} {n ch ru ab tk D x y y' q q' kp kp' p p' r lim kept bl ck wh ins nu pl : Int} {T : Nat → Nat → Int} {V : List Int}
theorem zxP2_0 (hy : y = 0) (hq : q = 3) (hp : p = 0) : zxP2 s i fr n ro cs nxc fc lc bt ch ru ab tk h l D on x y q kp p := fun _ _ _ _ _ => ⟨zxE_0 hy hq hp, fun _ => hy⟩
theorem zxH (hk : zKl s i fr n ro cs nxc fc lc bt ch ru ab tk h l D T V) {P I : Int32} (p0 : 0 ≤ P.toInt) (pn : P.toInt < n) (hid : 0 ≤ P.toInt ∧ P.toInt < n → I.toInt = (i P.toNatClampNeg).toInt) (hop : zW (0 ≤ I.toInt → I.toInt ≤ 399 → ∀ B : Nat → List Bool, zPB ro cs nxc fc lc bt ch ru ab tk B → zRr fc nxc B bl ck wh ins (B I.toNatClampNeg))) (hq : zQf zf1 ro cs nxc fc lc bt ch ru ab tk on D bl ck wh ins nu pl kept) (hnu : nu = -1) (hpl : pl = 0) : kept = zHg zf1 (zTo on T) (s P.toInt.toNat).toInt D.toNat := by
  obtain ⟨k1, k2, k3, k4, k5, k6, k7, k8⟩ := hk
  have eP : P.toNatClampNeg = P.toInt.toNat := rfl
  have eI := hid ⟨p0, pn⟩
  rw [eP] at eI
  have v := k1.2.2.2.1 P.toInt.toNat (by omega)
  have lt : (I.toInt.toNat : Int) < n := by
    have l2 := k1.2.1
    rcases Nat.lt_or_ge I.toInt.toNat V.length with c | c
    · omega
    · have v2 := v.2
      rw [← eI, List.getElem?_eq_none c] at v2
      exact absurd v2 (by simp)
  have n4 := k1.2.2.1
  have o := hop (by omega) (by omega) _ k3
  have eB : zBv T V D.toNat I.toNatClampNeg = zPq T (s P.toInt.toNat).toInt D.toNat := by
    have e2 : V[I.toNatClampNeg]? = some (s P.toInt.toNat).toInt := by
      show V[I.toInt.toNat]? = _
      rw [eI]; exact v.2
    unfold zBv
    rw [e2]
    rfl
  rw [eB] at o
  exact hq _ T _ k3 o hnu hpl k6 k7 (k2 _ (List.mem_of_getElem? v.2))
theorem zxP2_k {P : Int32} {W : Int64} (hh : zxP2 s i fr n ro cs nxc fc lc bt ch ru ab tk h l D on x y q kp P.toInt) (p0 : 0 ≤ P.toInt) (pn : P.toInt < n) (hw : zW (0 ≤ P.toInt → P.toInt < n → W.toInt = (s P.toNatClampNeg).toInt)) (hd : zxD x W.toInt lim r) (hl : lim = min q 2) (q0 : 0 ≤ q) (q3 : q ≤ 3) (hr : q < r ∨ 2 < r) (hy : y' = y) (hq : q' = q) (hkp : kp' = kp) (hp : p' = P.toInt + 1) : zxP2 s i fr n ro cs nxc fc lc bt ch ru ab tk h l D on x y' q' kp' p' := fun T V hk hv x0 => by
  obtain ⟨h1, h2⟩ := hh T V hk hv x0
  have eW := hw p0 pn
  have eP : P.toNatClampNeg = P.toInt.toNat := rfl
  rw [eP] at eW
  have w0 := hv _ ((zVo_m hk.1).mpr ⟨P.toInt.toNat, by omega, rfl⟩)
  have d := hd x0 (by omega)
  rw [eW] at d
  refine ⟨zxE_k h1 p0 ?_ hy hq hkp hp, fun c => by rw [hy]; exact h2 c⟩
  show 2 < zxw x (s P.toInt.toNat).toInt ∨ q < zxw x (s P.toInt.toNat).toInt ∨ _
  by_cases c : zxw x (s P.toInt.toNat).toInt ≤ lim
  · have e := d.1 c; omega
  · have e := d.2 (by omega); omega
theorem zxP2_m {P I : Int32} {W : Int64} (hh : zxP2 s i fr n ro cs nxc fc lc bt ch ru ab tk h l D on x y q kp P.toInt) (p0 : 0 ≤ P.toInt) (pn : P.toInt < n) (hw : zW (0 ≤ P.toInt → P.toInt < n → W.toInt = (s P.toNatClampNeg).toInt)) (hd : zxD x W.toInt lim r) (hl : lim = min q 2) (r2 : r ≤ 2) (hr : r = q) (hid : 0 ≤ P.toInt ∧ P.toInt < n → I.toInt = (i P.toNatClampNeg).toInt) (hop : zW (0 ≤ I.toInt → I.toInt ≤ 399 → ∀ B : Nat → List Bool, zPB ro cs nxc fc lc bt ch ru ab tk B → zRr fc nxc B bl ck wh ins (B I.toNatClampNeg))) (hqf : zQf zf1 ro cs nxc fc lc bt ch ru ab tk on D bl ck wh ins nu pl kept) (hnu : nu = -1) (hpl : pl = 0) (hkk : kept ≤ kp) (hy : y' = y) (hq : q' = q) (hkp : kp' = kp) (hp : p' = P.toInt + 1) : zxP2 s i fr n ro cs nxc fc lc bt ch ru ab tk h l D on x y' q' kp' p' := fun T V hk hv x0 => by
  obtain ⟨h1, h2⟩ := hh T V hk hv x0
  have ek := zxH hk p0 pn hid hop hqf hnu hpl
  have eW := hw p0 pn
  have eP : P.toNatClampNeg = P.toInt.toNat := rfl
  rw [eP] at eW
  have w0 := hv _ ((zVo_m hk.1).mpr ⟨P.toInt.toNat, by omega, rfl⟩)
  have d := hd x0 (by omega)
  rw [eW] at d
  have e : zxw x (s P.toInt.toNat).toInt = q := by
    by_cases c : zxw x (s P.toInt.toNat).toInt ≤ lim
    · have e := d.1 c; omega
    · have e := d.2 (by omega); omega
  have srt := hk.1.1
  have yl : y ≤ (s P.toInt.toNat).toInt := by
    rcases h1 with ⟨a1, a2, a3⟩ | ⟨k, a1, a2, a3⟩
    · omega
    · have := srt k P.toInt.toNat (by omega) (by omega)
      rw [a2]
      show (s k).toInt ≤ _
      omega
  refine ⟨zxE_k h1 p0 (Or.inr (Or.inr ⟨e, ?_⟩)) hy hq hkp hp, fun c => by rw [hy]; exact h2 c⟩
  show zHg zf1 (zTo on T) (s P.toInt.toNat).toInt D.toNat < kp ∨ (zHg zf1 (zTo on T) (s P.toInt.toNat).toInt D.toNat = kp ∧ y ≤ (s P.toInt.toNat).toInt)
  omega
theorem zxP2_u {P I : Int32} {W W' : Int64} (hh : zxP2 s i fr n ro cs nxc fc lc bt ch ru ab tk h l D on x y q kp P.toInt) (p0 : 0 ≤ P.toInt) (pn : P.toInt < n) (hw : zW (0 ≤ P.toInt → P.toInt < n → W.toInt = (s P.toNatClampNeg).toInt)) (hw' : zW (0 ≤ P.toInt → P.toInt < n → W'.toInt = (s P.toNatClampNeg).toInt)) (hd : zxD x W.toInt lim r) (hl : lim = min q 2) (r0 : 0 ≤ r) (r2 : r ≤ 2) (rq : r ≤ q) (hx : x ≠ 0) (hid : 0 ≤ P.toInt ∧ P.toInt < n → I.toInt = (i P.toNatClampNeg).toInt) (hop : zW (0 ≤ I.toInt → I.toInt ≤ 399 → ∀ B : Nat → List Bool, zPB ro cs nxc fc lc bt ch ru ab tk B → zRr fc nxc B bl ck wh ins (B I.toNatClampNeg))) (hqf : zQf zf1 ro cs nxc fc lc bt ch ru ab tk on D bl ck wh ins nu pl kept) (hnu : nu = -1) (hpl : pl = 0) (hkk : r < q ∨ kp < kept) (hy : y' = W'.toInt) (hq : q' = r) (hkp : kp' = kept) (hp : p' = P.toInt + 1) : zxP2 s i fr n ro cs nxc fc lc bt ch ru ab tk h l D on x y' q' kp' p' := fun T V hk hv x0 => by
  obtain ⟨h1, h2⟩ := hh T V hk hv x0
  have ek := zxH hk p0 pn hid hop hqf hnu hpl
  have eW := hw p0 pn
  have eW' := hw' p0 pn
  have eP : P.toNatClampNeg = P.toInt.toNat := rfl
  rw [eP] at eW eW'
  have w0 := hv _ ((zVo_m hk.1).mpr ⟨P.toInt.toNat, by omega, rfl⟩)
  have d := hd x0 (by omega)
  rw [eW] at d
  have e : zxw x (s P.toInt.toNat).toInt = r := by
    by_cases c : zxw x (s P.toInt.toNat).toInt ≤ lim
    · have e := d.1 c; omega
    · have e := d.2 (by omega); omega
  refine ⟨zxE_u h1 p0 ?_ ?_ ?_ (hy.trans eW') (hq.trans e.symm) (hkp.trans ek) hp, fun c => absurd c hx⟩
  · show 0 ≤ zxw x (s P.toInt.toNat).toInt; omega
  · show zxw x (s P.toInt.toNat).toInt ≤ 2; omega
  · show zxw x (s P.toInt.toNat).toInt < q ∨ (zxw x (s P.toInt.toNat).toInt = q ∧ (kp < zHg zf1 (zTo on T) (s P.toInt.toNat).toInt D.toNat ∨ _))
    omega
def zxAc2 (f : Nat → Int32) (nt : Int) (s : Nat → Int64) (i fr : Nat → Int32) (n : Int) (ro cs nxc fc lc bt : Nat → Int32) (ch ru ab tk : Int) (h l : Nat → Int32) (D : Int) (on : Nat → Int32) (lw lw' r : Int) : Prop := ∀ (T : Nat → Nat → Int) (V : List Int), zKl s i fr n ro cs nxc fc lc bt ch ru ab tk h l D T V → (∀ z ∈ V, 0 < z) → ∃ x y : Int, zFW f nt x ∧ zxB x V (fun z => zHg zf1 (zTo on T) z D.toNat) r y ∧ ((y = 0 ∧ lw' = lw) ∨ (y ≠ 0 ∧ lw' = y))
theorem zxAc2_i {f : Nat → Int32} {nt lw lw' : Int} (hf : zFW f nt x) (hh : zxP2 s i fr n ro cs nxc fc lc bt ch ru ab tk h l D on x y q kp p) (hp : x = 0 ∨ n ≤ p) (pn : p ≤ n) (hr : (y = 0 ∧ r = -1 ∧ lw' = lw) ∨ (y ≠ 0 ∧ r = q ∧ lw' = y)) : zxAc2 f nt s i fr n ro cs nxc fc lc bt ch ru ab tk h l D on lw lw' r := fun T V hk hv => by
  obtain ⟨h1, h2⟩ := hh T V hk hv (zFW_n hf)
  refine ⟨x, y, hf, ?_, ?_⟩
  · rcases h1 with ⟨a1, a2, a3⟩ | ⟨k, a1, a2, a3, a4, a5, a6, a7⟩
    · refine Or.inl ⟨by omega, a1, ?_⟩
      rcases hp with c | c
      · exact Or.inl c
      · refine Or.inr (fun z hz => ?_)
        obtain ⟨j, q1, q2⟩ := (zVo_m hk.1).mp hz
        rw [← q2]
        exact a3 j (by omega)
    · have ym : y ∈ V := by rw [a2]; exact (zVo_m hk.1).mpr ⟨k, by omega, rfl⟩
      have y0 := hv y ym
      have x0 : x ≠ 0 := fun c => by have := h2 c; omega
      refine Or.inr ⟨x0, by omega, by omega, ym, ?_, fun z hz => ?_⟩
      · rw [a2, show r = q from by omega]; exact a3
      · obtain ⟨j, q1, q2⟩ := (zVo_m hk.1).mp hz
        have w := a7 j (by omega)
        have a6' : kp = zHg zf1 (zTo on T) y D.toNat := by rw [a2]; exact a6
        rw [← q2, show r = q from by omega]
        show q < zxw x (s j).toInt ∨ (zxw x (s j).toInt = q ∧ (zHg zf1 (zTo on T) (s j).toInt D.toNat < zHg zf1 (zTo on T) y D.toNat ∨ (zHg zf1 (zTo on T) (s j).toInt D.toNat = zHg zf1 (zTo on T) y D.toNat ∧ y ≤ (s j).toInt)))
        rw [← a6']
        exact w
  · omega
end ZXP2
def zxM2 (wd : Nat → Int32) (sw : Int) (g sz he : Nat → Int32) (W b q p : Int) : Prop := zMs g sz W → ((b = -1 ∧ q = 3 ∧ ∀ j : Nat, (j : Int) < p → 2 < zxq wd sw g sz j) ∨ (0 ≤ b ∧ b < p ∧ zxq wd sw g sz b.toNat = q ∧ 0 ≤ q ∧ q ≤ 2 ∧ ∀ j : Nat, (j : Int) < p → q < zxq wd sw g sz j ∨ (zxq wd sw g sz j = q ∧ ((he j).toInt < (he b.toNat).toInt ∨ ((he j).toInt = (he b.toNat).toInt ∧ zkw g sz b.toNat ≤ zkw g sz j)))))
section ZXM2
variable {wd g sz he : Nat → Int32} {sw W b b' q q' p' : Int}
theorem zxM2_0 {p : Int} (hb : b = -1) (hq : q = 3) (hp : p = 0) : zxM2 wd sw g sz he W b q p := fun _ => Or.inl ⟨hb, hq, fun j hj => by omega⟩
theorem zxM2_k {P : Int} (h : zxM2 wd sw g sz he W b q P) (p0 : 0 ≤ P) (hv : zMs g sz W → 2 < zxq wd sw g sz P.toNat ∨ q < zxq wd sw g sz P.toNat ∨ (0 ≤ b ∧ zxq wd sw g sz P.toNat = q ∧ ((he P.toNat).toInt < (he b.toNat).toInt ∨ ((he P.toNat).toInt = (he b.toNat).toInt ∧ zkw g sz b.toNat ≤ zkw g sz P.toNat)))) (hb : b' = b) (hq : q' = q) (hp : p' = P + 1) : zxM2 wd sw g sz he W b' q' p' := fun hm => by
  subst hb; subst hq
  have v := hv hm
  rcases h hm with ⟨h1, h2, h3⟩ | ⟨h1, h2, h3, h4, h5, h6⟩
  · refine Or.inl ⟨h1, h2, fun j hj => ?_⟩
    by_cases c : j = P.toNat
    · rw [c]; omega
    · exact h3 j (by omega)
  · refine Or.inr ⟨h1, by omega, h3, h4, h5, fun j hj => ?_⟩
    by_cases c : j = P.toNat
    · rw [c]; omega
    · exact h6 j (by omega)
theorem zxM2_u {P : Int} (h : zxM2 wd sw g sz he W b q P) (p0 : 0 ≤ P) (v0 : 0 ≤ zxq wd sw g sz P.toNat) (v2 : zxq wd sw g sz P.toNat ≤ 2) (hv : zMs g sz W → b = -1 ∨ zxq wd sw g sz P.toNat < q ∨ (zxq wd sw g sz P.toNat = q ∧ ((he b.toNat).toInt < (he P.toNat).toInt ∨ ((he P.toNat).toInt = (he b.toNat).toInt ∧ zkw g sz P.toNat ≤ zkw g sz b.toNat)))) (hb : b' = P) (hq : q' = zxq wd sw g sz P.toNat) (hp : p' = P + 1) : zxM2 wd sw g sz he W b' q' p' := fun hm => by
  rw [hb]
  have v := hv hm
  refine Or.inr ⟨p0, by omega, hq.symm, by omega, by omega, fun j hj => ?_⟩
  by_cases c : j = P.toNat
  · rw [c]; omega
  · rcases h hm with ⟨h1, h2, h3⟩ | ⟨h1, h2, h3, h4, h5, h6⟩
    · have := h3 j (by omega); omega
    · have := h6 j (by omega); omega
def zWl (lk : Nat → Int32) (ls y : Int) : Prop := 1 ≤ ls ∧ ls ≤ 12 ∧ (∀ k : Nat, (k : Int) < ls → zVl (lk k).toInt) ∧ y = zpk (fun k => (lk k).toInt) ls.toNat 12
def zCy (a b : Nat → Int32) (o k : Int) : Prop := ∀ j : Nat, (j : Int) < k → -128 ≤ (b (o.toNat + j)).toInt → (b (o.toNat + j)).toInt ≤ 127 → a j = b (o.toNat + j)
theorem zCy_0 {a b : Nat → Int32} {o k : Int} (h : k ≤ 0) : zCy a b o k := fun j hj => by omega
theorem zCy_s {a a' b : Nat → Int32} {o k k' : Int} {K J z : Int32} (h : zCy a b o k) (k0 : 0 ≤ k) (o0 : 0 ≤ o) (ez : z = b J.toNatClampNeg) (hJ : J.toInt = o + k) (e : a' = upd a K.toNatClampNeg (vp_nar .byte z)) (hK : K.toInt = k) (hk : k' = k + 1) : zCy a' b o k' := fun j hj h1 h2 => by
  have eK : K.toNatClampNeg = k.toNat := by have : K.toNatClampNeg = K.toInt.toNat := rfl; omega
  have eJ : J.toNatClampNeg = o.toNat + k.toNat := by have : J.toNatClampNeg = J.toInt.toNat := rfl; omega
  rw [eK] at e
  rw [eJ] at ez
  by_cases c : j = k.toNat
  · rw [c] at h1 h2 ⊢
    rw [← ez] at h1 h2 ⊢
    rw [e, pk_us]
    exact zeqi.mpr (by rw [vp_nar_byte, zi2b rfl rfl h1 h2])
  · rw [e, pk_un c]; exact h j (by omega) h1 h2
theorem zWl_c {lk wd : Nat → Int32} {ls o m : Int} (h : zCy lk wd o ls) (m1 : ls = m) (hv : ∀ k : Nat, (k : Int) < ls → zVl (wd (o.toNat + k)).toInt) (l1 : 1 ≤ ls) (l2 : ls ≤ 12) : zWl lk ls (zpk (fun k => (wd (o.toNat + k)).toInt) m.toNat 12) := by
  have e : ∀ k : Nat, (k : Int) < ls → lk k = wd (o.toNat + k) := fun k hk => by
    have v := hv k hk
    unfold zVl at v
    exact h k hk (by omega) (by omega)
  refine ⟨l1, l2, fun k hk => by rw [e k hk]; exact hv k hk, ?_⟩
  rw [← m1]
  exact (zpk_q (k := 12) (fun j _ => ⟨Iff.rfl, fun hj => by rw [e j (by omega)]⟩) 12 (Nat.le_refl _)).symm
theorem zCy_t {a b g : Nat → Int32} {o n n' : Int} (h1 : zCy a b 0 n) (h2 : zCy b g o n') (e : n = n') : zCy a g o n := fun j hj q1 q2 => by
  have w := h2 j (by omega) q1 q2
  have z : (0 : Int).toNat + j = j := by omega
  have v := h1 j hj (by rw [z, w]; exact q1) (by rw [z, w]; exact q2)
  rw [v, z, w]
theorem zWl_b {lk : Nat → Int32} {ls : Int} (h : zCy lk g (12 * b) ls) (e : ls = (sz b.toNat).toInt) (b0 : 0 ≤ b) (hm : zMs g sz W) (bW : b < W) (nz : (sz b.toNat).toInt ≠ 0) : zWl lk ls (zkw g sz b.toNat) := by
  have a := hm.1 b.toNat (by omega)
  have eo : (12 * b).toNat = 12 * b.toNat := by omega
  have w := zWl_c (m := (sz b.toNat).toInt) h e (fun k hk => by rw [eo]; exact a.2.2 k (by omega)) (by omega) (by omega)
  rw [eo] at w
  exact w
def zxAr2 (f : Nat → Int32) (n : Int) (g sz : Nat → Int32) (W : Int) (ta ke ti bo : Nat → Int32) (D : Int) (on lk lk' : Nat → Int32) (ls ls' r : Int) : Prop := ∀ (T : Nat → Nat → Int) (V : List Int), zMd g sz W ta ke D T V → zMb ti bo D T → ∃ x y : Int, zFW f n x ∧ zxB x V (fun z => zHg zf1 (zTo on T) z D.toNat) r y ∧ ((y = 0 ∧ lk' = lk ∧ ls' = ls) ∨ (y ≠ 0 ∧ zWl lk' ls' y))
theorem zxAr2_0 {f ta ke ti bo on lk : Nat → Int32} {n D ls r : Int} (h : ∀ i : Int, ¬ zIn f n i) (hr : r = -1) : zxAr2 f n g sz W ta ke ti bo D on lk lk ls ls r := fun T V _ _ => ⟨0, 0, Or.inl ⟨rfl, h⟩, Or.inl ⟨hr, rfl, Or.inl rfl⟩, Or.inl ⟨rfl, rfl, rfl⟩⟩
theorem zxq_w {f : Nat → Int32} {n : Int} {V : List Int} (hw : zTw f n wd sw) (hV : zMv g sz W V) {j : Nat} (hj : (j : Int) < W) : zxw (zpk (fun k => (wd k).toInt) sw.toNat 12) (zkw g sz j) = zxq wd sw g sz j := by
  obtain ⟨w1, w2, w3, w4, w5⟩ := hw
  have a := hV.1.1 j hj
  exact zxw_p (L := fun k => (wd k).toInt) (L' := fun k => (g (12 * j + k)).toInt) (m := sw.toNat) (m' := (sz j).toInt.toNat) (fun k hk => w3 k (by omega)) (fun k hk => a.2.2 k (by omega)) (by omega) (by omega)
theorem zMv_j {V : List Int} (hV : zMv g sz W V) {y : Int} (hy : y ∈ V) : ∃ j : Nat, (j : Int) < W ∧ V[j]? = some y ∧ zkw g sz j = y := by
  obtain ⟨v1, v2, v3, v4, v5⟩ := hV
  obtain ⟨j, hj, e⟩ := List.getElem_of_mem hy
  have q := v4 j (by omega)
  rw [List.getElem?_eq_getElem hj, e] at q
  exact ⟨j, by omega, by rw [List.getElem?_eq_getElem hj, e], (Option.some.inj q).symm⟩
theorem zpk_zero {L : Nat → Int} : zpk L (0 : Int).toNat 12 = 0 := rfl
theorem zxAr2_i {f ta ke ti bo on lk lk' : Nat → Int32} {n D ls ls' r p : Int} (hw : zTw f n wd sw) (hM : zxM2 wd sw g sz he W b q p) (hx : zHx he on g sz W ta ke ti bo D D) (p1 : W ≤ p) (p2 : p ≤ W) (hr : (b = -1 ∧ r = -1 ∧ lk' = lk ∧ ls' = ls) ∨ (b ≠ -1 ∧ r = q ∧ (0 ≤ b → zMs g sz W → b < W → (sz b.toNat).toInt ≠ 0 → zWl lk' ls' (zkw g sz b.toNat)))) : zxAr2 f n g sz W ta ke ti bo D on lk lk' ls ls' r := fun T V hm hb => by
  have hV := hm.1
  have hx0 : zpk (fun k => (wd k).toInt) sw.toNat 12 ≠ 0 := by have := hw.2.1; omega
  rcases hM hV.1 with ⟨a1, a2, a3⟩ | ⟨a1, a2, a3, a4, a5, a6⟩
  · rcases hr with ⟨-, r1, r2, r3⟩ | ⟨c, -⟩
    · refine ⟨_, 0, hw.1, Or.inl ⟨r1, rfl, Or.inr (fun y hy => ?_)⟩, Or.inl ⟨rfl, r2, r3⟩⟩
      obtain ⟨j, j1, -, j2⟩ := zMv_j hV hy
      rw [← j2, zxq_w hw hV j1]
      exact a3 j (by omega)
    · exact absurd a1 c
  · rcases hr with ⟨c, -⟩ | ⟨-, r1, r2⟩
    · omega
    · have bW : ((b.toNat : Nat) : Int) < W := by omega
      have vb := hV.2.2.2.1 b.toNat bW
      have ym := List.mem_of_getElem? vb
      have ynz := hV.2.2.2.2 _ ym
      have hb0 : (he b.toNat).toInt = zHg zf1 (zTo on T) (zkw g sz b.toNat) D.toNat := hx T V hm hb b.toNat _ vb
      have s0 : (sz b.toNat).toInt ≠ 0 := fun c => ynz (by
        unfold zkw
        rw [c]
        exact zpk_zero)
      refine ⟨_, zkw g sz b.toNat, hw.1, Or.inr ⟨hx0, by omega, by omega, ym, ?_, fun y hy => ?_⟩, Or.inr ⟨ynz, r2 a1 hV.1 (by omega) s0⟩⟩
      · rw [zxq_w hw hV bW, r1]; exact a3
      · obtain ⟨j, j1, j3, j2⟩ := zMv_j hV hy
        have w := a6 j (by omega)
        have hj := hx T V hm hb j y j3
        show r < zxw (zpk (fun k => (wd k).toInt) sw.toNat 12) y ∨ (zxw (zpk (fun k => (wd k).toInt) sw.toNat 12) y = r ∧ (zHg zf1 (zTo on T) y D.toNat < zHg zf1 (zTo on T) (zkw g sz b.toNat) D.toNat ∨ (zHg zf1 (zTo on T) y D.toNat = zHg zf1 (zTo on T) (zkw g sz b.toNat) D.toNat ∧ zkw g sz b.toNat ≤ y)))
        rw [← hb0, ← hj, ← j2, zxq_w hw hV j1, r1]
        exact w
end ZXM2
def zrr (os k : Int) : Int := if 0 < k then zdig (16 * os / k) else 0
def zmu (T : Nat → Nat → Int) (on : Nat → Int32) (D : Nat) (os : Int) (a b : Nat) (x : Int) : Int := min (zTm (zTo on T a) x 1024 : Int) (zTm (zTo on T b) x 1024 : Int) * zrr os (zHg zf1 (zTo on T) x D)
def zls (μ : Int → Int) : List Int → Int
  | [] => 0
  | x :: l => μ x + zls μ l
theorem zls_p {μ : Int → Int} {l l' : List Int} (h : l.Perm l') : zls μ l = zls μ l' := by
  induction h with
  | nil => rfl
  | cons x _ ih => show μ x + _ = μ x + _; rw [ih]
  | swap x y l => show μ y + (μ x + _) = μ x + (μ y + _); omega
  | trans _ _ ih1 ih2 => rw [ih1, ih2]
theorem zls_a {μ : Int → Int} {l : List Int} {x : Int} : zls μ (l ++ [x]) = zls μ l + μ x := by
  induction l with
  | nil => show μ x + 0 = 0 + μ x; omega
  | cons y l ih => show μ y + zls μ (l ++ [x]) = μ y + zls μ l + μ x; rw [ih]; omega
def zsn (F : Nat → Int) : Nat → Int
  | 0 => 0
  | k + 1 => zsn F k + F k
theorem zsn_s {F : Nat → Int} (k : Nat) : zsn F (k + 1) = zsn F k + F k := rfl
theorem zsn_l {F : Nat → Int} {μ : Int → Int} {K : Nat → Int} : ∀ n : Nat, (∀ k, k < n → F k = μ (K k)) → zsn F n = zls μ ((List.range n).map K) := by
  intro n
  induction n with
  | zero => intro _; rfl
  | succ n ih =>
    intro h
    rw [zsn_s, ih (fun k hk => h k (by omega)), h n (Nat.lt_succ_self n), List.range_succ, List.map_append]
    exact zls_a.symm
theorem zls_r {V : List Int} {K : Nat → Int} {n : Nat} (hn : V.Nodup) (hi : ∀ a b : Nat, a < b → b < n → K a ≠ K b) (hm : ∀ x, x ∈ V ↔ ∃ k : Nat, k < n ∧ K k = x) {μ : Int → Int} : zls μ V = zls μ ((List.range n).map K) := by
  have inj : ((List.range n).map K).Nodup := by
    unfold List.Nodup
    rw [List.pairwise_iff_getElem]
    intro a b ha hb hab
    rw [List.getElem_map, List.getElem_map, List.getElem_range, List.getElem_range]
    rw [List.length_map, List.length_range] at hb
    exact hi a b hab hb
  refine zls_p ((List.perm_ext_iff_of_nodup hn inj).mpr (fun x => ?_))
  rw [hm x, List.mem_map]
  constructor
  · rintro ⟨k, k1, k2⟩
    exact ⟨k, List.mem_range.mpr k1, k2⟩
  · rintro ⟨k, k1, k2⟩
    exact ⟨k, List.mem_range.mp k1, k2⟩
def zTQ (to ta : Nat → Int32) (W d t k : Int) : Prop := ∀ w : Nat, (w : Int) < W → (to w).toInt + (zp ta d (w : Int) 512).1 = (zp ta d (w : Int) t.toNat).1 + (zp ta d (w : Int) k.toNat).1
def zTX (to ta ti bo : Nat → Int32) (W : Int) (E : Int32) : Prop := ∀ w : Nat, (w : Int) < W → zTf ta ti bo E (w : Int) (to w).toInt
section ZTQ
variable {to ta ti bo : Nat → Int32} {W L d t k k' k2 a : Int}
theorem zTQ_0 (h : zT0 to L) (e : W ≤ L) (ht : t = 512) (hk : k = 0) : zTQ to ta W d t k := fun w hw => by
  subst ht; subst hk
  have z : (zp ta d (w : Int) (0 : Int).toNat).1 = 0 := rfl
  rw [h w (by omega), z, show (512 : Int).toNat = 512 from rfl]
  omega
theorem zTQ_m (h : zTQ to ta W d 512 k) (hk : k = t) (hk2 : k2 = 512) : zTQ to ta W d t k2 := fun w hw => by
  subst hk2
  have q := h w hw
  rw [show (512 : Int).toNat = 512 from rfl] at q ⊢
  rw [← hk]
  omega
theorem zTQ_n (h : zTQ to ta W d t k) (k0 : 0 ≤ k) (hat : (ta (1024 * d + k).toNat).toInt = a) (ha : a ≤ 0) (e : k' = k + 1) : zTQ to ta W d t k' := fun w hw => by
  rw [show k'.toNat = k.toNat + 1 from by omega, zp_n (k := k.toNat) (by rw [show ((k.toNat : Nat) : Int) = k from by omega, hat]; omega)]
  exact h w hw
theorem zTQ_y {I X : Int32} (h : zTQ to ta W d t k) (k0 : 0 ≤ k) (hat : (ta (1024 * d + k).toNat).toInt = a) (hI : I.toInt = a - 1) (ha : 0 < a) (hx : I.toInt < W → X.toInt = (to I.toNatClampNeg).toInt + 1) (e : k' = k + 1) : zTQ (upd to I.toNatClampNeg X) ta W d t k' := fun w hw => by
  have cl := zclamp (x := I) (by omega)
  have q := h w hw
  rw [show k'.toNat = k.toNat + 1 from by omega]
  by_cases c : w = I.toNatClampNeg
  · have x1 := hx (by omega)
    rw [← c] at x1 ⊢
    rw [pk_us, zp_y (k := k.toNat) (by rw [show ((k.toNat : Nat) : Int) = k from by omega, hat]; omega)]
    show X.toInt + _ = _ + ((zp ta d (w : Int) k.toNat).1 + 1)
    omega
  · rw [pk_un c, zp_n (k := k.toNat) (by rw [show ((k.toNat : Nat) : Int) = k from by omega, hat]; omega)]
    exact q
theorem zTQ_e {E : Int32} (h : zTQ to ta W E.toInt t k) (ht : t = (ti E.toNatClampNeg).toInt) (hk : k = 512 + (bo E.toNatClampNeg).toInt) : zTX to ta ti bo W E := fun w hw => by
  unfold zTf
  rw [← ht, ← hk]
  exact h w hw
end ZTQ
def zOn (on : Nat → Int32) (d : Int) : Prop := (on d.toNat).toInt ≠ 0
def zAi (ow of he on g sz : Nat → Int32) (W : Int) (ta ke ti bo : Nat → Int32) (D n : Int) (E : Int32) (w s : Int) : Prop := ∀ (T : Nat → Nat → Int) (V : List Int) (a : Nat), zMd g sz W ta ke D T V → zMb ti bo D T → (∀ (j : Nat) (x : Int), V[j]? = some x → (ow j).toInt = (zTm (T a) x 1024 : Int)) → (∀ (j : Nat) (x : Int), V[j]? = some x → (he j).toInt = zHg zf1 (zTo on T) x D.toNat) → (on a).toInt ≠ 0 → (on E.toNatClampNeg).toInt ≠ 0 → 0 ≤ n → n ≤ 120 → s = zsn (fun j => zmu T on D.toNat n a E.toNatClampNeg (zkw g sz j)) w.toNat ∧ s ≤ 31744 * w ∧ 0 ≤ s
def zah (g sz : Nat → Int32) (x : Int) : Nat → Int
  | 0 => 0
  | v + 1 => zah g sz x v + (if zkw g sz v < x then 1 else 0)
def zAh (g sz : Nat → Int32) (W w v n : Int) : Prop := zMs g sz W → 0 ≤ w → w < W → n = zah g sz (zkw g sz w.toNat) v.toNat
section ZAH
variable {g sz : Nat → Int32} {W w v v' n n' r : Int}
theorem zAh_0 (hv : v = 0) (hn : n = 0) : zAh g sz W w v n := fun _ _ _ => by subst hv; rw [hn]; rfl
theorem zAh_s (h : zAh g sz W w v n) (ho : zOr g sz W v w r) (v0 : 0 ≤ v) (vW : v < W) (hn : (r < 0 ∧ n' = n + 1) ∨ (0 ≤ r ∧ n' = n)) (e : v' = v + 1) : zAh g sz W w v' n' := fun hm w0 wW => by
  have q := h hm w0 wW
  have o := ho hm v0 vW w0 wW
  rw [show v'.toNat = v.toNat + 1 from by omega]
  show n' = zah g sz (zkw g sz w.toNat) v.toNat + (if zkw g sz v.toNat < zkw g sz w.toNat then 1 else 0)
  by_cases c : zkw g sz v.toNat < zkw g sz w.toNat
  · have := o.1.mpr c
    rw [if_pos c]; omega
  · have : ¬ r < 0 := fun d => c (o.1.mp d)
    rw [if_neg c]; omega
theorem zAh_e (h : zAh g sz W w v n) (h1 : W ≤ v) (h2 : v ≤ W) (hr : r = n) : zAh g sz W w W r := fun hm w0 wW => by
  rw [hr, h hm w0 wW, show v = W from by omega]
end ZAH
theorem zCy_e {a b : Nat → Int32} {o k k' : Int} (h : zCy a b o k) (e : k' ≤ k) : zCy a b o k' := fun j hj => h j (by omega)
theorem zfn0 {wd : Nat → Int32} : (fun k : Nat => (wd ((0 : Int).toNat + k)).toInt) = (fun k => (wd k).toInt) := funext fun k => by rw [show (0 : Int).toNat + k = k from by omega]
theorem zWl_0 {lk wd : Nat → Int32} {ls : Int} (h : zCy lk wd 0 ls) (hv : ∀ k : Nat, (k : Int) < ls → zVl (wd k).toInt) (l1 : 1 ≤ ls) (l2 : ls ≤ 12) : zWl lk ls (zpk (fun k => (wd k).toInt) ls.toNat 12) := by
  have w := zWl_c (m := ls) h rfl (fun k hk => by rw [show (0 : Int).toNat + k = k from by omega]; exact hv k hk) l1 l2
  rw [zfn0] at w
  exact w
def zLd2 (f : Nat → Int32) (n : Int) (lk : Nat → Int32) (ls : Int) : Prop := (ls = 0 ∧ ∀ i : Int, ¬ zIn f n i) ∨ ∃ y : Int, zFW f n y ∧ zWl lk ls y
theorem zLd2_0 {f lk : Nat → Int32} {n ls : Int} (h : ∀ i : Int, ¬ zIn f n i) (e : ls = 0) : zLd2 f n lk ls := Or.inl ⟨e, h⟩
theorem zLd2_1 {f lk wd : Nat → Int32} {n ls s : Int} (hw : zTw f n wd s) (hc : zCy lk wd 0 s) (e : ls = s) : zLd2 f n lk ls := by
  subst e
  obtain ⟨w1, w2, w3, w4, w5⟩ := hw
  exact Or.inr ⟨_, w1, zWl_0 hc w3 w4 w5⟩
def zLw (lk : Nat → Int32) (ls : Int) (g sz : Nat → Int32) (W r : Int) : Prop := (ls ≤ 0 → r = -1) ∧ ∀ (V : List Int) (y : Int), zMv g sz W V → zWl lk ls y → zIf V y r
theorem zLw_0 {lk g sz : Nat → Int32} {ls W r : Int} (h : ls ≤ 0) (hr : r = -1) : zLw lk ls g sz W r := ⟨fun _ => hr, fun V y _ hw => by have := hw.1; omega⟩
theorem zLw_1 {lk wd g sz : Nat → Int32} {ls k s W r : Int} (h : 0 < ls) (hc : zCy wd lk 0 k) (hk : ls ≤ k) (es : s = ls) (hf : zFd g sz wd s W r) : zLw lk ls g sz W r := ⟨fun c => by omega, fun V y hV hw => by
  subst es
  obtain ⟨w1, w2, w3, w4⟩ := hw
  have a := zWl_0 (zCy_e hc hk) w3 w1 w2
  exact zMv_f hV hf a.2.2.1 w2 (by omega) (w4.trans a.2.2.2)⟩
def zLo (lw : Int) (lk : Nat → Int32) (ls : Int) : Prop := (lw = -1 ∧ ls = -1) ∨ (lw = 0 ∧ ls = 0) ∨ zWl lk ls lw
theorem zWl_p {lk : Nat → Int32} {ls y : Int} (h : zWl lk ls y) : 0 ≤ y := by
  obtain ⟨h1, h2, h3, h4⟩ := h
  rw [h4]
  exact zpk_b (fun k hk => h3 k (by omega)) 12
def zPv (T : Nat → Nat → Int) (V : List Int) (D : Nat) (on : Nat → Int32) (q x r : Int) : Prop := ((x = -1 ∨ q < 0 ∨ 4 < q) ∧ r = -1) ∨ (x ≠ -1 ∧ 0 ≤ q ∧ q ≤ 4 ∧ x ∉ V ∧ r = 0) ∨ (x ≠ -1 ∧ x ∈ V ∧ ((q = 0 ∧ r = ((zPq T x D).length : Int)) ∨ (q = 1 ∧ r = (znc (zPq T x D).length : Int)) ∨ (q = 2 ∧ r = zHg zf1 (zTo on T) x D) ∨ (q = 3 ∧ r = zHg zf2 (zTo on T) x D) ∨ (q = 4 ∧ r = zls (fun z => if z < x then 1 else 0) V)))
theorem zHg_c {φ : Nat → Int} {T T' : Nat → Nat → Int} {w : Int} : ∀ {d : Nat}, (∀ e, e < d → T e = T' e) → zHg φ T w d = zHg φ T' w d := by
  intro d
  induction d with
  | zero => intro _; rfl
  | succ d ih => intro h; rw [zHg_s, zHg_s, ih (fun e he => h e (by omega)), h d (Nat.lt_succ_self d)]
theorem zPv_u {T : Nat → Nat → Int} {V V2 : List Int} {D : Nat} {on on2 : Nat → Int32} {q x r r2 : Int} (h : zPv T V D on q x r) (h2 : zPv T V2 D on2 q x r2) (hp : V.Perm V2) (ho : ∀ d : Nat, d < D → (on2 d).toInt = (on d).toInt) : r = r2 := by
  have e : ∀ φ : Nat → Int, zHg φ (zTo on2 T) x D = zHg φ (zTo on T) x D := fun φ => zHg_c (fun d hd => by
    unfold zTo
    rw [ho d hd])
  have e1 := e zf1
  have e2 := e zf2
  have e3 := zls_p (μ := fun z => if z < x then 1 else 0) hp
  have m := hp.mem_iff (a := x)
  rcases h with ⟨a1, a2⟩ | ⟨a1, a2, a3, a4, a5⟩ | ⟨a1, a2, a3⟩ <;> rcases h2 with ⟨b1, b2⟩ | ⟨b1, b2, b3, b4, b5⟩ | ⟨b1, b2, b3⟩
  · omega
  · omega
  · omega
  · omega
  · omega
  · exact absurd (m.mpr b2) a4
  · omega
  · exact absurd (m.mp a2) b4
  · omega
def zCj (n many left room : Int) : Prop := 0 ≤ n → ∃ j : Nat, many = (j : Int) ∧ left = n - zrm j ∧ room = zbc j ∧ (j = 0 ∨ (zrm (j - 1) : Int) < n)
theorem zCj_0 {n many left room : Int} (h1 : many = 0) (h2 : left = n) (h3 : room = 32) : zCj n many left room := fun _ => ⟨0, by rw [h1]; rfl, by rw [h2]; exact (Int.sub_zero n).symm, by rw [h3]; rfl, Or.inl rfl⟩
theorem zCj_s {n many left room many' left' room' : Int} (h : zCj n many left room) (hl : 0 < left) (h1 : many' = many + 1) (h2 : left' = left - room) (h3 : room' = min 256 (2 * room)) : zCj n many' left' room' := fun h0 => by
  obtain ⟨j, a1, a2, a3, a4⟩ := h h0
  have s := zrm_s j
  have b : (zbc (j + 1) : Int) = min 256 (2 * (zbc j : Int)) := by unfold zbc; (repeat' split) <;> omega
  exact ⟨j + 1, by omega, by omega, by omega, Or.inr (by rw [Nat.add_sub_cancel]; omega)⟩
theorem zCj_e {n many left room r : Int} (h : zCj n many left room) (hl : left ≤ 0) (hr : r = many) : 0 ≤ n → r = (znc n.toNat : Int) := fun h0 => by
  obtain ⟨j, a1, a2, a3, a4⟩ := h h0
  have s := zCs_e (n := n) (sum := (zrm j : Int) + 16 * j) (left := left) (room := room) (r := (zrm j : Int) + 16 * j) (fun _ => ⟨j, rfl, a2, a3, a4⟩) hl rfl h0
  unfold zco at s
  rcases Nat.lt_trichotomy j (znc n.toNat) with c | c | c
  · have m := zrm_m (i := j) (j := znc n.toNat) (by omega)
    omega
  · omega
  · have m := zrm_m (i := znc n.toNat) (j := j) (by omega)
    omega
section ZLY
variable {g sz ta ke ti bo : Nat → Int32} {W D w d d' L L' l l' n : Int} {T : Nat → Nat → Int} {V : List Int} {x : Int}
theorem zMd_w (hm : zMd g sz W ta ke D T V) (hv : V[w.toNat]? = some x) (w0 : 0 ≤ w) : ∀ e : Nat, (e : Int) < D → (∀ j : Nat, j < 1024 → ((ta (1024 * (e : Int) + j).toNat).toInt = w + 1 ↔ T e j = x)) ∧ ((ke e).toInt = 0 → ∀ j : Nat, T e j = 0) := fun e he => by
  obtain ⟨h1, h2, h3, h4, h5⟩ := hm
  have hx := h1.2.2.2.2 _ (List.mem_of_getElem? hv)
  obtain ⟨q1, q2, q3⟩ := h4 e he
  refine ⟨fun j hj => ?_, q3⟩
  rw [show (1024 * (e : Int) + (j : Int)).toNat = 1024 * e + j from by omega]
  have q := zRw_i q1 (zMv_nd h1) hv hx hj
  rw [show ((w.toNat : Nat) : Int) = w from by omega] at q
  exact q
theorem znw_t {E : Int32} (hm : zMd g sz W ta ke D T V) (hb : zMb ti bo D T) (hv : V[w.toNat]? = some x) (w0 : 0 ≤ w) (e0 : 0 ≤ E.toInt) (e1 : E.toInt < D) (hk : (ke E.toNatClampNeg).toInt ≠ 0) (ht : zTf ta ti bo E w n) : zcnw ta ke w E.toNatClampNeg = n := by
  have cl := zclamp e0
  have e := zTf_T hm hb hv w0 e0 e1 ht
  have q := (zMd_w hm hv w0 E.toNatClampNeg (by omega)).1
  rw [zcnw_p hk, zp_T (t := T E.toNatClampNeg) (x := x) (k := 1024) (fun j hj => q j hj), e]
def zLy (g sz : Nat → Int32) (W : Int) (ta ke ti bo : Nat → Int32) (D w d L l : Int) : Prop := ∀ (T : Nat → Nat → Int) (V : List Int) (x : Int), zMd g sz W ta ke D T V → zMb ti bo D T → V[w.toNat]? = some x → L = (zB ta ke w d.toNat).1 ∧ l = (zB ta ke w d.toNat).2
theorem zLy_0 (hd : d = 0) (hL : L = 0) (hl : l = -1) : zLy g sz W ta ke ti bo D w d L l := fun T V x _ _ _ => by
  subst hd
  exact ⟨hL, hl⟩
theorem zLy_k {E : Int32} (h : zLy g sz W ta ke ti bo D w E.toInt L l) (e0 : 0 ≤ E.toInt) (hk : (ke E.toNatClampNeg).toInt = 0) (hd : d' = E.toInt + 1) (hL : L' = L) (hl : l' = l) : zLy g sz W ta ke ti bo D w d' L' l' := fun T V x hm hb hv => by
  have q := h T V x hm hb hv
  have eE : E.toNatClampNeg = E.toInt.toNat := rfl
  rw [eE] at hk
  rw [show d'.toNat = E.toInt.toNat + 1 from by omega, zB_n (by rw [zcnw_0 hk]; omega), hL, hl]
  exact q
theorem zLy_z {E : Int32} (h : zLy g sz W ta ke ti bo D w E.toInt L l) (w0 : 0 ≤ w) (e0 : 0 ≤ E.toInt) (e1 : E.toInt < D) (hk : (ke E.toNatClampNeg).toInt ≠ 0) (ht : zTf ta ti bo E w n) (hn : n ≤ 0) (hd : d' = E.toInt + 1) (hL : L' = L) (hl : l' = l) : zLy g sz W ta ke ti bo D w d' L' l' := fun T V x hm hb hv => by
  have q := h T V x hm hb hv
  have c := znw_t hm hb hv w0 e0 e1 hk ht
  have eE : E.toNatClampNeg = E.toInt.toNat := rfl
  rw [eE] at c
  rw [show d'.toNat = E.toInt.toNat + 1 from by omega, zB_n (by rw [c]; omega), hL, hl]
  exact q
theorem zLy_s {E : Int32} (h : zLy g sz W ta ke ti bo D w E.toInt L l) (w0 : 0 ≤ w) (e0 : 0 ≤ E.toInt) (e1 : E.toInt < D) (hk : (ke E.toNatClampNeg).toInt ≠ 0) (ht : zTf ta ti bo E w n) (hn : n ≠ 0) (hd : d' = E.toInt + 1) (hL : L' = L + zgam (E.toInt - l) + zgam n + (zp ta E.toInt w 1024).2.1) (hl : l' = E.toInt) : zLy g sz W ta ke ti bo D w d' L' l' := fun T V x hm hb hv => by
  have q := h T V x hm hb hv
  have c := znw_t hm hb hv w0 e0 e1 hk ht
  have cb := zcnw_b (ta := ta) (ke := ke) (w := w) (d := E.toInt.toNat)
  have eE : E.toNatClampNeg = E.toInt.toNat := rfl
  rw [eE] at c
  have ei : ((E.toInt.toNat : Nat) : Int) = E.toInt := by omega
  rw [show d'.toNat = E.toInt.toNat + 1 from by omega, zB_y (by omega), c, ei, ← q.1, ← q.2]
  exact ⟨hL, hl⟩
theorem zLy_e {r : Int} (h : zLy g sz W ta ke ti bo D w d L l) (h1 : D ≤ d) (h2 : d ≤ D) (w0 : 0 ≤ w) (hr : r = L) (hm : zMd g sz W ta ke D T V) (hb : zMb ti bo D T) (hv : V[w.toNat]? = some x) : r = ((zPq T x D.toNat).length : Int) := by
  have q := h T V x hm hb hv
  have hx := hm.1.2.2.2.2 _ (List.mem_of_getElem? hv)
  have e := zB_T (ta := ta) (ke := ke) (w := w) hx (D := D.toNat) (fun e he => zMd_w hm hv w0 e (by have := hm.2.1; omega))
  rw [hr, q.1, show d = D from by omega, e]
end ZLY
def zPr (lk : Nat → Int32) (ls : Int) (g sz : Nat → Int32) (W : Int) (ta ke ti bo : Nat → Int32) (D : Int) (on : Nat → Int32) (q r : Int) : Prop := ∀ (T : Nat → Nat → Int) (V : List Int) (lw : Int), zMd g sz W ta ke D T V → zMb ti bo D T → zLo lw lk ls → zPv T V D.toNat on q lw r
section ZPR
variable {lk g sz ta ke ti bo on : Nat → Int32} {ls W D q r w n : Int}
theorem zPr_n (h : ls = -1 ∨ q < 0 ∨ 4 < q) (hr : r = -1) : zPr lk ls g sz W ta ke ti bo D on q r := fun T V lw hm hb hl => by
  refine Or.inl ⟨?_, hr⟩
  rcases h with c | c
  · rcases hl with ⟨h1, h2⟩ | ⟨h1, h2⟩ | h1
    · exact Or.inl h1
    · omega
    · have := h1.1; omega
  · exact Or.inr c
theorem zPr_0 (h : ls ≠ -1) (q0 : 0 ≤ q) (q4 : q ≤ 4) (hw : zLw lk ls g sz W w) (h1 : w = -1) (hr : r = 0) : zPr lk ls g sz W ta ke ti bo D on q r := fun T V lw hm hb hl => by
  rcases hl with ⟨a1, a2⟩ | ⟨a1, a2⟩ | a1
  · exact absurd a2 h
  · exact Or.inr (Or.inl ⟨by omega, q0, q4, fun c => hm.1.2.2.2.2 _ c a1, hr⟩)
  · have p := zWl_p a1
    refine Or.inr (Or.inl ⟨by omega, q0, q4, ?_, hr⟩)
    rcases hw.2 V lw hm.1 a1 with ⟨-, c⟩ | ⟨c, -⟩
    · exact c
    · omega
theorem zPr_y (hw : zLw lk ls g sz W w) (h1 : w ≠ -1) (hv : ∀ (T : Nat → Nat → Int) (V : List Int) (x : Int), zMd g sz W ta ke D T V → zMb ti bo D T → V[w.toNat]? = some x → (q = 0 ∧ r = ((zPq T x D.toNat).length : Int)) ∨ (q = 1 ∧ r = (znc (zPq T x D.toNat).length : Int)) ∨ (q = 2 ∧ r = zHg zf1 (zTo on T) x D.toNat) ∨ (q = 3 ∧ r = zHg zf2 (zTo on T) x D.toNat) ∨ (q = 4 ∧ r = zls (fun z => if z < x then 1 else 0) V)) : zPr lk ls g sz W ta ke ti bo D on q r := fun T V lw hm hb hl => by
  rcases hl with ⟨a1, a2⟩ | ⟨a1, a2⟩ | a1
  · exact absurd (hw.1 (by omega)) h1
  · exact absurd (hw.1 (by omega)) h1
  · have p := zWl_p a1
    rcases hw.2 V lw hm.1 a1 with ⟨c, -⟩ | ⟨c, d⟩
    · exact absurd c h1
    · exact Or.inr (Or.inr ⟨by omega, List.mem_of_getElem? d, hv T V lw hm hb d⟩)
theorem zAh_V {V : List Int} {x : Int} (hV : zMv g sz W V) (h : zAh g sz W w W r) (w0 : 0 ≤ w) (hv : V[w.toNat]? = some x) : r = zls (fun z => if z < x then 1 else 0) V := by
  obtain ⟨v1, v2, v3, v4, v5⟩ := hV
  have lt : (w.toNat : Int) < W := by
    rcases Nat.lt_or_ge w.toNat V.length with c | c
    · omega
    · rw [List.getElem?_eq_none c] at hv
      exact absurd hv (by simp)
  have ex : zkw g sz w.toNat = x := Option.some.inj ((v4 w.toNat lt).symm.trans hv)
  have q := h v1 w0 (by omega)
  rw [ex] at q
  have a : ∀ n : Nat, zah g sz x n = zsn (fun j => (fun z => if z < x then (1 : Int) else 0) (zkw g sz j)) n := fun n => by
    induction n with
    | zero => rfl
    | succ n ih =>
      rw [zsn_s, ← ih]
      rfl
  rw [q, a, zsn_l (μ := fun z => if z < x then 1 else 0) (K := fun j => zkw g sz j) W.toNat (fun k _ => rfl)]
  refine (zls_r (zMv_nd ⟨v1, v2, v3, v4, v5⟩) (fun a b hab hb => v1.2 a b hab (by omega)) (fun y => ?_)).symm
  constructor
  · intro hy
    obtain ⟨j, j1, -, j2⟩ := zMv_j ⟨v1, v2, v3, v4, v5⟩ hy
    exact ⟨j, by omega, j2⟩
  · rintro ⟨j, j1, j2⟩
    rw [← j2]
    exact List.mem_of_getElem? (v4 j (by omega))
end ZPR
def zPp (s : Nat → Int64) (i fr : Nat → Int32) (n : Int) (ro cs nxc fc lc bt : Nat → Int32) (ch ru ab tk : Int) (h l : Nat → Int32) (D : Int) (on : Nat → Int32) (q lw r : Int) : Prop := ∀ (T : Nat → Nat → Int) (V : List Int), zKl s i fr n ro cs nxc fc lc bt ch ru ab tk h l D T V → zPv T V D.toNat on q lw r
section ZPP
variable {s : Nat → Int64} {i fr ro cs nxc fc lc bt h l on : Nat → Int32} {n ch ru ab tk D q lw r p R bl ck wh ins nu pl : Int} {T : Nat → Nat → Int} {V : List Int} {P I : Int32}
theorem zPp_n (hh : lw = -1 ∨ q < 0 ∨ 4 < q) (hr : r = -1) : zPp s i fr n ro cs nxc fc lc bt ch ru ab tk h l D on q lw r := fun T V _ => Or.inl ⟨hh, hr⟩
theorem zPp_0 (hl : lw ≠ -1) (q0 : 0 ≤ q) (q4 : q ≤ 4) (hf : zRf s n lw p) (hp : p = -1) (hr : r = 0) : zPp s i fr n ro cs nxc fc lc bt ch ru ab tk h l D on q lw r := fun T V hk => by
  refine Or.inr (Or.inl ⟨hl, q0, q4, fun c => ?_, hr⟩)
  obtain ⟨a, a1, a2⟩ := (zVo_m hk.1).mp c
  rcases hf hk.1.1 with ⟨-, b⟩ | ⟨b, -⟩
  · exact b a a1 a2
  · omega
theorem zPi (hk : zKl s i fr n ro cs nxc fc lc bt ch ru ab tk h l D T V) (hf : zRf s n lw P.toInt) (hp : P.toInt ≠ -1) (hid : 0 ≤ P.toInt ∧ P.toInt < n → I.toInt = (i P.toNatClampNeg).toInt) : (0 ≤ P.toInt ∧ P.toInt < n) ∧ (s P.toInt.toNat).toInt = lw ∧ lw ∈ V ∧ (0 ≤ I.toInt ∧ I.toInt ≤ 399) ∧ zBv T V D.toNat I.toNatClampNeg = zPq T lw D.toNat ∧ I.toNatClampNeg < 400 := by
  have k1 := hk.1
  rcases hf k1.1 with ⟨c, -⟩ | ⟨c1, c2, c3⟩
  · exact absurd c hp
  · have eP : P.toNatClampNeg = P.toInt.toNat := rfl
    have eI := hid ⟨c1, c2⟩
    rw [eP] at eI
    have v := k1.2.2.2.1 P.toInt.toNat (by omega)
    have lt : (I.toInt.toNat : Int) < n := by
      have l2 := k1.2.1
      rcases Nat.lt_or_ge I.toInt.toNat V.length with c | c
      · omega
      · have v2 := v.2
        rw [← eI, List.getElem?_eq_none c] at v2
        exact absurd v2 (by simp)
    have n4 := k1.2.2.1
    have e2 : V[I.toNatClampNeg]? = some lw := by
      show V[I.toInt.toNat]? = _
      rw [eI, ← c3]; exact v.2
    have eN : I.toNatClampNeg = I.toInt.toNat := rfl
    refine ⟨⟨c1, c2⟩, c3, List.mem_of_getElem? e2, ⟨by omega, by omega⟩, ?_, by omega⟩
    unfold zBv
    rw [e2]
    rfl
theorem zPp_b (hl : lw ≠ -1) (hf : zRf s n lw P.toInt) (hp : P.toInt ≠ -1) (hid : 0 ≤ P.toInt ∧ P.toInt < n → I.toInt = (i P.toNatClampNeg).toInt) (hb : zW (0 ≤ I.toInt → I.toInt ≤ 399 → r = (bt I.toNatClampNeg).toInt)) (hq : q = 0) : zPp s i fr n ro cs nxc fc lc bt ch ru ab tk h l D on q lw r := fun T V hk => by
  obtain ⟨a1, a2, a3, a4, a5, a6⟩ := zPi hk hf hp hid
  refine Or.inr (Or.inr ⟨hl, a3, Or.inl ⟨hq, ?_⟩⟩)
  rw [hb a4.1 a4.2, hk.2.2.1.1 _ a6, a5]
theorem zPp_c (hl : lw ≠ -1) (hf : zRf s n lw P.toInt) (hp : P.toInt ≠ -1) (hid : 0 ≤ P.toInt ∧ P.toInt < n → I.toInt = (i P.toNatClampNeg).toInt) (hb : zW (0 ≤ I.toInt → I.toInt ≤ 399 → R = (bt I.toNatClampNeg).toInt)) (hc : 0 ≤ R → r = (znc R.toNat : Int)) (hq : q = 1) : zPp s i fr n ro cs nxc fc lc bt ch ru ab tk h l D on q lw r := fun T V hk => by
  obtain ⟨a1, a2, a3, a4, a5, a6⟩ := zPi hk hf hp hid
  refine Or.inr (Or.inr ⟨hl, a3, Or.inr (Or.inl ⟨hq, ?_⟩)⟩)
  have e : R = ((zPq T lw D.toNat).length : Int) := by rw [hb a4.1 a4.2, hk.2.2.1.1 _ a6, a5]
  rw [hc (by omega), e, Int.toNat_natCast]
theorem zPp_t {φ : Nat → Int} (hl : lw ≠ -1) (hf : zRf s n lw P.toInt) (hp : P.toInt ≠ -1) (hid : 0 ≤ P.toInt ∧ P.toInt < n → I.toInt = (i P.toNatClampNeg).toInt) (hop : zW (0 ≤ I.toInt → I.toInt ≤ 399 → ∀ B : Nat → List Bool, zPB ro cs nxc fc lc bt ch ru ab tk B → zRr fc nxc B bl ck wh ins (B I.toNatClampNeg))) (hqf : zQf φ ro cs nxc fc lc bt ch ru ab tk on D bl ck wh ins nu pl r) (hnu : nu = -1) (hpl : pl = 0) (hq : (q = 2 ∧ φ = zf1) ∨ (q = 3 ∧ φ = zf2)) : zPp s i fr n ro cs nxc fc lc bt ch ru ab tk h l D on q lw r := fun T V hk => by
  obtain ⟨a1, a2, a3, a4, a5, a6⟩ := zPi hk hf hp hid
  obtain ⟨k1, k2, k3, k4, k5, k6, k7, k8⟩ := hk
  have o := hop a4.1 a4.2 _ k3
  rw [a5] at o
  have v := hqf _ T _ k3 o hnu hpl k6 k7 (k2 _ a3)
  refine Or.inr (Or.inr ⟨hl, a3, Or.inr (Or.inr ?_)⟩)
  rcases hq with ⟨q1, q2⟩ | ⟨q1, q2⟩
  · subst q2; exact Or.inl ⟨q1, v⟩
  · subst q2; exact Or.inr (Or.inl ⟨q1, v⟩)
theorem zVo_a (hV : zVo s i fr n V) (p0 : 0 ≤ p) (pn : p < n) (e : (s p.toNat).toInt = lw) : p = zls (fun z => if z < lw then 1 else 0) V := by
  have srt := hV.1
  rw [zls_r (K := fun a => (s a).toInt) (n := n.toNat) (zVo_nd hV) (fun a b hab hb => by have := srt a b hab (by omega); omega) (fun x => by
    rw [zVo_m hV]
    constructor
    · rintro ⟨a, a1, a2⟩
      exact ⟨a, by omega, a2⟩
    · rintro ⟨a, a1, a2⟩
      exact ⟨a, by omega, a2⟩), ← zsn_l (F := fun a => if (s a).toInt < lw then 1 else 0) n.toNat (fun k _ => rfl)]
  have key : ∀ m : Nat, (m : Int) ≤ n → zsn (fun a => if (s a).toInt < lw then 1 else 0) m = min (m : Int) p := by
    intro m
    induction m with
    | zero => intro _; show (0 : Int) = min ((0 : Nat) : Int) p; omega
    | succ m ih =>
      intro hm
      rw [zsn_s, ih (by omega)]
      show min (m : Int) p + (if (s m).toInt < lw then 1 else 0) = min ((m + 1 : Nat) : Int) p
      rcases Int.lt_trichotomy (m : Int) p with c | c | c
      · have := srt m p.toNat (by omega) (by omega)
        rw [if_pos (by omega)]; omega
      · rw [show m = p.toNat from by omega, if_neg (by omega)]; omega
      · have := srt p.toNat m (by omega) (by omega)
        rw [if_neg (by omega)]; omega
  rw [key n.toNat (by omega)]
  omega
theorem zPp_k (hl : lw ≠ -1) (hf : zRf s n lw p) (hp : p ≠ -1) (hr : r = p) (hq : q = 4) : zPp s i fr n ro cs nxc fc lc bt ch ru ab tk h l D on q lw r := fun T V hk => by
  rcases hf hk.1.1 with ⟨c, -⟩ | ⟨c1, c2, c3⟩
  · exact absurd c hp
  · refine Or.inr (Or.inr ⟨hl, (zVo_m hk.1).mpr ⟨p.toNat, by omega, c3⟩, Or.inr (Or.inr (Or.inr (Or.inr ⟨hq, ?_⟩)))⟩)
    rw [hr]
    exact zVo_a hk.1 c1 c2 c3
end ZPP
theorem zrr_b {os k : Int} (o0 : 0 ≤ os) (o1 : os ≤ 120) : 0 ≤ zrr os k ∧ zrr os k ≤ 31 := by
  unfold zrr
  by_cases c : 0 < k
  · rw [if_pos c]
    refine ⟨zdig_n _, ?_⟩
    have q := Int.ediv_le_self k (show 0 ≤ 16 * os by omega)
    by_cases d : 0 < 16 * os / k
    · have := zdig_lt (k := 31) d (by omega)
      omega
    · rw [zdig_0 (by omega)]; omega
  · rw [if_neg c]; omega
theorem zmu_b {T : Nat → Nat → Int} {on : Nat → Int32} {D : Nat} {os : Int} {a b : Nat} {x : Int} (o0 : 0 ≤ os) (o1 : os ≤ 120) : 0 ≤ zmu T on D os a b x ∧ zmu T on D os a b x ≤ 31744 := by
  unfold zmu
  have r := zrr_b (k := zHg zf1 (zTo on T) x D) o0 o1
  have t1 := zTm_b (t := zTo on T a) (w := x) (k := 1024)
  have t2 := zTm_b (t := zTo on T b) (w := x) (k := 1024)
  generalize zrr os (zHg zf1 (zTo on T) x D) = R at r ⊢
  have m1 : 0 ≤ min (zTm (zTo on T a) x 1024 : Int) (zTm (zTo on T b) x 1024 : Int) ∧ min (zTm (zTo on T a) x 1024 : Int) (zTm (zTo on T b) x 1024 : Int) ≤ 1024 := by omega
  generalize min (zTm (zTo on T a) x 1024 : Int) (zTm (zTo on T b) x 1024 : Int) = M at m1 ⊢
  exact ⟨Int.mul_nonneg m1.1 r.1, Int.le_trans (Int.mul_le_mul m1.2 r.2 r.1 (by decide)) (by decide)⟩
theorem zmu_z {T : Nat → Nat → Int} {on : Nat → Int32} {D : Nat} {os : Int} {a b : Nat} {x : Int} (h : (zTm (zTo on T a) x 1024 : Int) ≤ 0 ∨ (zTm (zTo on T b) x 1024 : Int) ≤ 0) : zmu T on D os a b x = 0 := by
  unfold zmu
  rw [show min (zTm (zTo on T a) x 1024 : Int) (zTm (zTo on T b) x 1024 : Int) = 0 from by omega, Int.zero_mul]
theorem zRt_1 {A K M Q : Int32} {r : Int} (hk : 0 < K.toInt) (eM : M = 16 * A) (eQ : Q = M / K) (hb : 0 < Q.toInt → r = (zbd Q.toInt.toNat : Int)) : zW (0 ≤ A.toInt → A.toInt ≤ 120 → K.toInt ≤ A.toInt → r = zrr A.toInt K.toInt) := fun a0 a1 ka => by
  have m := zmul (x := 16) (y := A) (show (16 : Int32).toInt = 16 from by decide) rfl eM (by omega) (by omega)
  have q := zdiv (x := M) (y := K) m rfl eQ (by omega) hk
  have p : 1 ≤ 16 * A.toInt / K.toInt := Int.le_ediv_of_mul_le hk (by omega)
  have e := hb (by omega)
  have z1 := zdig_p (x := 16 * A.toInt / K.toInt) (by omega)
  have z2 := zbd_p (n := Q.toInt.toNat) (by omega)
  rw [q] at z2 e
  unfold zrr
  rw [if_pos hk]
  omega
theorem zRt_0 {a k r : Int} (hk : k ≤ 0) (hr : r = 0) : zW (0 ≤ a → a ≤ 120 → k ≤ a → r = zrr a k) := fun _ _ _ => by
  unfold zrr
  rw [if_neg (by omega)]
  exact hr
theorem zHg_os {T : Nat → Nat → Int} {on : Nat → Int32} {w : Int} (hw : w ≠ 0) : ∀ d : Nat, zHg zf1 (zTo on T) w d ≤ ((zsu (fun d => if (on d).toInt ≠ 0 then 1 else 0) d : Nat) : Int) := by
  intro d
  induction d with
  | zero => exact Int.le_refl _
  | succ d ih =>
    rw [zHg_s]
    show _ ≤ ((zsu (fun d => if (on d).toInt ≠ 0 then 1 else 0) d + (if (on d).toInt ≠ 0 then 1 else 0) : Nat) : Int)
    by_cases c : (on d).toInt = 0
    · have z := zTo_z (T := T) (d := d) hw (Or.inl c)
      have f := zf1_b (zTm (zTo on T d) w 1024)
      omega
    · rw [if_pos c]
      have f : zf1 (zTm (zTo on T d) w 1024) ≤ 1 := by
        unfold zf1
        split <;> omega
      omega
def zTgB (tm on : Nat → Int32) (T : Nat → Nat → Int) (w : Int) (d : Nat) : Prop := ∀ e : Nat, e < 120 → (tm e).toInt = if e < d then (zTm (zTo on T e) w 1024 : Int) else 0
def zGo (ro cs nx fc lc bt : Nat → Int32) (ch ru ab tk : Int) (on : Nat → Int32) (D bl ck wh ins nu pl bl3 ck3 wh3 ins3 nu3 pl3 i n : Int) (tm : Nat → Int32) : Prop := ∀ (B : Nat → List Bool) (T : Nat → Nat → Int) (w : Int), zPB ro cs nx fc lc bt ch ru ab tk B → zRr fc nx B bl ck wh ins (zPq T w D.toNat) → nu = -1 → pl = 0 → 0 ≤ D → D ≤ 120 → w ≠ 0 → ∃ d : Nat, i ≤ (d : Int) ∧ d ≤ D.toNat ∧ zRp fc nx B bl3 ck3 wh3 ins3 nu3 pl3 T w D.toNat d ∧ n = zHg zf1 (zTo on T) w d ∧ zTgB tm on T w d
def zGf (ro cs nx fc lc bt : Nat → Int32) (ch ru ab tk : Int) (on : Nat → Int32) (D bl ck wh ins nu pl n : Int) (tm : Nat → Int32) : Prop := ∀ (B : Nat → List Bool) (T : Nat → Nat → Int) (w : Int), zPB ro cs nx fc lc bt ch ru ab tk B → zRr fc nx B bl ck wh ins (zPq T w D.toNat) → nu = -1 → pl = 0 → 0 ≤ D → D ≤ 120 → w ≠ 0 → n = zHg zf1 (zTo on T) w D.toNat ∧ zTgB tm on T w D.toNat
section ZGO
variable {ro cs nx fc lc bt on tm tm' su su0 su' : Nat → Int32} {ch ru ab tk D bl ck wh ins nu pl bl3 ck3 wh3 ins3 nu3 pl3 bl4 ck4 wh4 ins4 nu4 pc4 pl4 pa4 i i' n n' r q os wt o o' : Int}
theorem zGo_0 (hi : i = 0) (hn : n = 0) (ht : ∀ j : Nat, (j : Int) < 120 → tm j = (0 : Int32)) : zGo ro cs nx fc lc bt ch ru ab tk on D bl ck wh ins nu pl bl ck wh ins nu pl i n tm := fun B T w a1 a6 a7 a8 a9 a10 a11 => ⟨0, by omega, Nat.zero_le _, ⟨[], zPq T w D.toNat, fun m hm => absurd hm List.not_mem_nil, by rw [a8]; rfl, a6, rfl, by rw [a7]; rfl, Nat.zero_le _⟩, hn, fun e he => (congrArg Int32.toInt (ht e (by omega))).trans ((show (0 : Int32).toInt = 0 by decide).trans (if_neg (by omega)).symm)⟩
theorem zGo_s {I X : Int32} (h : zGo ro cs nx fc lc bt ch ru ab tk on D bl ck wh ins nu pl bl3 ck3 wh3 ins3 nu3 pl3 i n tm) (hn : zNo ro cs nx fc lc bt ch ru ab tk bl3 ck3 wh3 ins3 bl4 ck4 wh4 ins4 pl3 nu3 nu4 pc4 pl4 pa4 r) (hr : r ≠ 0) (ho : ((on nu4.toNat).toInt ≠ 0 ∧ n' = n + 1 ∧ tm' = upd tm I.toNatClampNeg X ∧ I.toInt = nu4 ∧ X.toInt = pc4) ∨ ((0 ≤ nu4 → nu4 < D → (on nu4.toNat).toInt = 0) ∧ n' = n ∧ tm' = tm)) (hi : i' = i + 1) : zGo ro cs nx fc lc bt ch ru ab tk on D bl ck wh ins nu pl bl4 ck4 wh4 ins4 nu4 pl4 i' n' tm' := fun B T w a1 a6 a7 a8 a9 a10 a11 => by
  obtain ⟨d, b1, b2, b3, b4, b5⟩ := h B T w a1 a6 a7 a8 a9 a10 a11
  rcases zRp_n a1 (by omega) b3 hn with ⟨c1, -⟩ | ⟨-, d', R', c1, c2, c3, c4, c5, c6, c7, c8, c9, c10⟩
  · exact absurd c1 hr
  · have z1 := zHg_z (φ := zf1) (T := zTo on T) (w := w) (d := d) zf1_b (D := d') c1 (fun e e1 e2 => zTo_z a11 (Or.inr (c3 e e1 e2)))
    have en : nu4.toNat = d' := by omega
    have cI : I.toNatClampNeg = I.toInt.toNat := rfl
    rw [en] at ho
    refine ⟨d' + 1, by omega, by omega, ⟨zPn (T d') w 1024, R', zPn_r (Nat.le_refl _), by rw [zPn_l]; exact c7.symm, c9, c10, by rw [zLd_y c4]; exact c5, by omega⟩, ?_, ?_⟩
    · rw [zHg_s, z1, ← b4]
      rcases ho with ⟨o1, o2, -⟩ | ⟨o1, o2, -⟩
      · rw [zTo_y o1, zf1_p c4, o2]
      · have o := o1 (by omega) (by omega)
        have z := zTo_z (T := T) (d := d') a11 (Or.inl o)
        have f := zf1_b (zTm (zTo on T d') w 1024)
        omega
    · intro e he
      have q := b5 e he
      by_cases l : e = d'
      · rw [l] at q ⊢
        rw [if_neg (by omega)] at q
        rw [if_pos (Nat.lt_succ_self _)]
        rcases ho with ⟨o1, -, o3, o4, o5⟩ | ⟨o1, -, o3⟩
        · rw [o3, show I.toNatClampNeg = d' from by omega, pk_us, o5, c6, zTo_y o1]
        · have o := o1 (by omega) (by omega)
          have z := zTo_z (T := T) (d := d') a11 (Or.inl o)
          rw [o3, q]
          omega
      · have e1 : tm' e = tm e := by
          rcases ho with ⟨-, -, o3, o4, -⟩ | ⟨-, -, o3⟩
          · rw [o3, pk_un (by omega)]
          · rw [o3]
        rw [e1, q]
        by_cases x : e < d
        · rw [if_pos x, if_pos (by omega)]
        · rw [if_neg x]
          by_cases y : e < d' + 1
          · rw [if_pos y]
            have z := zTo_z (on := on) (T := T) (d := e) a11 (Or.inr (c3 e (by omega) (by omega)))
            omega
          · rw [if_neg y]
theorem zGf_n (h : zGo ro cs nx fc lc bt ch ru ab tk on D bl ck wh ins nu pl bl3 ck3 wh3 ins3 nu3 pl3 i n tm) (hn : zNo ro cs nx fc lc bt ch ru ab tk bl3 ck3 wh3 ins3 bl4 ck4 wh4 ins4 pl3 nu3 nu4 pc4 pl4 pa4 r) (hr : r = 0) : zGf ro cs nx fc lc bt ch ru ab tk on D bl ck wh ins nu pl n tm := fun B T w a1 a6 a7 a8 a9 a10 a11 => by
  obtain ⟨d, b1, b2, b3, b4, b5⟩ := h B T w a1 a6 a7 a8 a9 a10 a11
  rcases zRp_n a1 (by omega) b3 hn with ⟨-, c1⟩ | ⟨c1, -⟩
  · refine ⟨by rw [zHg_z (φ := zf1) (T := zTo on T) (w := w) (d := d) zf1_b (D := D.toNat) b2 (fun e e1 e2 => zTo_z a11 (Or.inr (c1 e e1 e2)))]; exact b4, fun e he => ?_⟩
    rw [b5 e he]
    by_cases x : e < d
    · rw [if_pos x, if_pos (by omega)]
    · rw [if_neg x]
      by_cases y : e < D.toNat
      · rw [if_pos y]
        have z := zTo_z (on := on) (T := T) (d := e) a11 (Or.inr (c1 e (by omega) y))
        omega
      · rw [if_neg y]
  · omega
theorem zGf_i (h : zGo ro cs nx fc lc bt ch ru ab tk on D bl ck wh ins nu pl bl3 ck3 wh3 ins3 nu3 pl3 i n tm) (hi : 120 ≤ i) : zGf ro cs nx fc lc bt ch ru ab tk on D bl ck wh ins nu pl n tm := fun B T w a1 a6 a7 a8 a9 a10 a11 => by
  obtain ⟨d, b1, b2, b3, b4, b5⟩ := h B T w a1 a6 a7 a8 a9 a10 a11
  rw [show D.toNat = d from by omega]
  exact ⟨b4, b5⟩
def zS2 (su0 su tm : Nat → Int32) (P : Int32) (wt o : Int) : Prop := (∀ e : Nat, e < 120 → 0 ≤ (su0 e).toInt ∧ (su0 e).toInt ≤ 12665856) → (∀ e : Nat, e < 120 → 0 ≤ (tm e).toInt ∧ (tm e).toInt ≤ 1024) → 0 ≤ wt → wt ≤ 31 → ∀ e : Nat, e < 120 → (su e).toInt = (su0 e).toInt + (if (e : Int) < o ∧ e ≠ P.toNatClampNeg then min (tm e).toInt (tm P.toNatClampNeg).toInt * wt else 0)
theorem zS2_0 {P : Int32} (ho : o = 0) : zS2 su su tm P wt o := fun _ _ _ _ e he => by rw [if_neg (show ¬ ((e : Int) < o ∧ e ≠ P.toNatClampNeg) from fun c => by omega), Int.add_zero]
theorem zS2_k {P O : Int32} (h : zS2 su0 su tm P wt O.toInt) (hO : O.toInt = P.toInt) (p0 : 0 ≤ P.toInt) (ho : o' = O.toInt + 1) : zS2 su0 su tm P wt o' := fun h1 h2 h3 h4 e he => by
  rw [h h1 h2 h3 h4 e he]
  have cP : P.toNatClampNeg = P.toInt.toNat := rfl
  by_cases c : (e : Int) < O.toInt ∧ e ≠ P.toNatClampNeg
  · have c' : (e : Int) < o' ∧ e ≠ P.toNatClampNeg := ⟨by omega, c.2⟩
    rw [if_pos c, if_pos c']
  · have c' : ¬ ((e : Int) < o' ∧ e ≠ P.toNatClampNeg) := fun d => c ⟨by omega, d.2⟩
    rw [if_neg c, if_neg c']
theorem zS2_s {P O X M Wt Pp S : Int32} (h : zS2 su0 su tm P Wt.toInt O.toInt) (o0 : 0 ≤ O.toInt) (o1 : O.toInt < 120) (hne : O.toInt ≠ P.toInt) (p0 : 0 ≤ P.toInt) (p1 : P.toInt < 120) (eX : X = su O.toNatClampNeg) (eM : M.toInt = min (tm O.toNatClampNeg).toInt (tm P.toNatClampNeg).toInt) (eP : Pp = M * Wt) (eS : S = X + Pp) (es : su' = upd su O.toNatClampNeg S) (ho : o' = O.toInt + 1) : zS2 su0 su' tm P Wt.toInt o' := fun h1 h2 h3 h4 e he => by
  have cO : O.toNatClampNeg = O.toInt.toNat := rfl
  have cP : P.toNatClampNeg = P.toInt.toNat := rfl
  have q := h h1 h2 h3 h4 e he
  by_cases c : e = O.toNatClampNeg
  · subst c
    have t1 := h2 O.toNatClampNeg he
    have t2 := h2 P.toNatClampNeg (by omega)
    have m0 : 0 ≤ M.toInt ∧ M.toInt ≤ 1024 := by omega
    have p2 := Int.mul_nonneg m0.1 h3
    have p3 := Int.mul_le_mul m0.2 h4 h3 (show (0 : Int) ≤ 1024 by decide)
    have zz := zmul (x := M) (y := Wt) rfl rfl eP (by omega) (by omega)
    have s0 := h1 O.toNatClampNeg he
    rw [if_neg (show ¬ ((O.toNatClampNeg : Int) < O.toInt ∧ O.toNatClampNeg ≠ P.toNatClampNeg) from fun d => by omega), Int.add_zero, ← eX] at q
    have zs := zadd (x := X) (y := Pp) rfl rfl eS (by omega) (by omega)
    have c' : (O.toNatClampNeg : Int) < o' ∧ O.toNatClampNeg ≠ P.toNatClampNeg := ⟨by omega, by omega⟩
    rw [es, pk_us, if_pos c', ← eM]
    omega
  · rw [es, pk_un c, q]
    by_cases d : (e : Int) < O.toInt ∧ e ≠ P.toNatClampNeg
    · have c' : (e : Int) < o' ∧ e ≠ P.toNatClampNeg := ⟨by omega, d.2⟩
      rw [if_pos d, if_pos c']
    · have c' : ¬ ((e : Int) < o' ∧ e ≠ P.toNatClampNeg) := fun f => d ⟨by omega, f.2⟩
      rw [if_neg d, if_neg c']
def zAA (ro cs nx fc lc bt : Nat → Int32) (ch ru ab tk : Int) (on : Nat → Int32) (D bl ck wh ins nu pl os : Int) (P : Int32) (su0 su : Nat → Int32) : Prop := ∀ (B : Nat → List Bool) (T : Nat → Nat → Int) (w : Int), zPB ro cs nx fc lc bt ch ru ab tk B → zRr fc nx B bl ck wh ins (zPq T w D.toNat) → nu = -1 → pl = 0 → 0 ≤ D → D ≤ 120 → w ≠ 0 → 0 ≤ os → os ≤ 120 → os = ((zsu (fun d => if (on d).toInt ≠ 0 then 1 else 0) D.toNat : Nat) : Int) → 0 ≤ P.toInt → P.toInt < D → (∀ e : Nat, e < 120 → 0 ≤ (su0 e).toInt ∧ (su0 e).toInt ≤ 12665856) → ∀ e : Nat, e < 120 → (su e).toInt = (su0 e).toInt + (if e < D.toNat ∧ e ≠ P.toNatClampNeg then zmu T on D.toNat os P.toNatClampNeg e w else 0)
theorem zAA_i {P : Int32} (hg : zGf ro cs nx fc lc bt ch ru ab tk on D bl ck wh ins nu pl n tm) (hw : zW (0 ≤ os → os ≤ 120 → n ≤ os → wt = zrr os n)) (hs : zS2 su0 su tm P wt o) (oD : o ≤ D) (hx : D ≤ o ∨ (tm P.toNatClampNeg).toInt ≤ 0) : zAA ro cs nx fc lc bt ch ru ab tk on D bl ck wh ins nu pl os P su0 su := fun B T w a1 a6 a7 a8 a9 a10 a11 o0 o1 eo p0 p1 hb e he => by
  obtain ⟨g1, g2⟩ := hg B T w a1 a6 a7 a8 a9 a10 a11
  have le := zHg_os (T := T) (on := on) a11 D.toNat
  have ew := hw o0 o1 (by omega)
  have wb := zrr_b (k := n) o0 o1
  rw [← ew] at wb
  have cP : P.toNatClampNeg = P.toInt.toNat := rfl
  have tmb : ∀ e : Nat, e < 120 → 0 ≤ (tm e).toInt ∧ (tm e).toInt ≤ 1024 := fun e he => by
    have z := g2 e he
    have t := zTm_b (t := zTo on T e) (w := w) (k := 1024)
    by_cases c : e < D.toNat
    · rw [if_pos c] at z; omega
    · rw [if_neg c] at z; omega
  have q := hs hb tmb wb.1 wb.2 e he
  have tp := g2 P.toNatClampNeg (by omega)
  rw [if_pos (by omega)] at tp
  rw [q]
  by_cases c : e < D.toNat ∧ e ≠ P.toNatClampNeg
  · rw [if_pos c]
    have te := g2 e he
    rw [if_pos c.1] at te
    by_cases hd : D ≤ o
    · have c' : (e : Int) < o ∧ e ≠ P.toNatClampNeg := ⟨by omega, c.2⟩
      rw [if_pos c', te, tp, Int.min_comm, ew, g1]
      rfl
    · have t0 : (tm P.toNatClampNeg).toInt ≤ 0 := by omega
      have z := tmb P.toNatClampNeg (by omega)
      have ze := tmb e he
      rw [zmu_z (T := T) (on := on) (Or.inl (by omega))]
      by_cases f : (e : Int) < o ∧ e ≠ P.toNatClampNeg
      · rw [if_pos f, show min (tm e).toInt (tm P.toNatClampNeg).toInt = 0 from by omega, Int.zero_mul]
      · rw [if_neg f]
  · have c' : ¬ ((e : Int) < o ∧ e ≠ P.toNatClampNeg) := fun d => c ⟨by omega, d.2⟩
    rw [if_neg c, if_neg c']
end ZGO
def zlj (S : Nat → Int) (b o : Int) : Prop := (b = -1 ∧ ∀ e : Nat, (e : Int) < o → S e ≤ 0) ∨ (0 ≤ b ∧ b < o ∧ 0 < S b.toNat ∧ ∀ e : Nat, (e : Int) < o → S e < S b.toNat ∨ (S e = S b.toNat ∧ b ≤ (e : Int)))
section ZLJ
variable {S S' : Nat → Int} {b b' o o' : Int}
theorem zlj_0 (hb : b = -1) (ho : o = 0) : zlj S b o := Or.inl ⟨hb, fun e he => by omega⟩
theorem zlj_k (h : zlj S b o) (o0 : 0 ≤ o) (hs : (b = -1 ∧ S o.toNat ≤ 0) ∨ (b ≠ -1 ∧ S o.toNat ≤ S b.toNat)) (ho : o' = o + 1) : zlj S b o' := by
  rcases h with ⟨h1, h2⟩ | ⟨h1, h2, h3, h4⟩
  · refine Or.inl ⟨h1, fun e he => ?_⟩
    by_cases c : (e : Int) < o
    · exact h2 e c
    · rw [show e = o.toNat from by omega]; omega
  · refine Or.inr ⟨h1, by omega, h3, fun e he => ?_⟩
    by_cases c : (e : Int) < o
    · exact h4 e c
    · rw [show e = o.toNat from by omega]; omega
theorem zlj_n (h : zlj S b o) (o0 : 0 ≤ o) (hs : (b = -1 ∧ 0 < S o.toNat) ∨ (b ≠ -1 ∧ S b.toNat < S o.toNat)) (hb : b' = o) (ho : o' = o + 1) : zlj S b' o' := by
  subst hb
  rcases h with ⟨h1, h2⟩ | ⟨h1, h2, h3, h4⟩
  · refine Or.inr ⟨o0, by omega, by omega, fun e he => ?_⟩
    by_cases c : (e : Int) < b'
    · have := h2 e c; omega
    · rw [show e = b'.toNat from by omega]; omega
  · refine Or.inr ⟨o0, by omega, by omega, fun e he => ?_⟩
    by_cases c : (e : Int) < b'
    · have := h4 e c; omega
    · rw [show e = b'.toNat from by omega]; omega
theorem zlj_c (h : zlj S b o) (e : ∀ k : Nat, (k : Int) < o → S k = S' k) : zlj S' b o := by
  rcases h with ⟨h1, h2⟩ | ⟨h1, h2, h3, h4⟩
  · exact Or.inl ⟨h1, fun k hk => by rw [← e k hk]; exact h2 k hk⟩
  · have eb := e b.toNat (by omega)
    exact Or.inr ⟨h1, h2, by rw [← eb]; exact h3, fun k hk => by rw [← eb, ← e k hk]; exact h4 k hk⟩
theorem zlj_w (h : zlj S b o) (oo : o ≤ o') (hz : ∀ k : Nat, o ≤ (k : Int) → S k ≤ 0) : zlj S b o' := by
  rcases h with ⟨h1, h2⟩ | ⟨h1, h2, h3, h4⟩
  · refine Or.inl ⟨h1, fun k hk => ?_⟩
    by_cases c : (k : Int) < o
    · exact h2 k c
    · exact hz k (by omega)
  · refine Or.inr ⟨h1, by omega, h3, fun k hk => ?_⟩
    by_cases c : (k : Int) < o
    · exact h4 k c
    · have := hz k (by omega); omega
theorem zlj_u (h : zlj S b o) (h' : zlj S b' o) : b = b' := by
  rcases h with ⟨h1, h2⟩ | ⟨h1, h2, h3, h4⟩ <;> rcases h' with ⟨g1, g2⟩ | ⟨g1, g2, g3, g4⟩
  · omega
  · have := h2 b'.toNat (by omega); omega
  · have := g2 b.toNat (by omega); omega
  · have x := h4 b'.toNat (by omega)
    have y := g4 b.toNat (by omega)
    omega
end ZLJ
def zlJ (su : Nat → Int32) (b o : Int) : Prop := zlj (fun e => (su e).toInt) b o
theorem zlJ_0 {su : Nat → Int32} {b o : Int} (hb : b = -1) (ho : o = 0) : zlJ su b o := zlj_0 hb ho
theorem zlJ_k {su : Nat → Int32} {O B X Y : Int32} {o' : Int} (h : zlJ su B.toInt O.toInt) (o0 : 0 ≤ O.toInt) (eX : X = su O.toNatClampNeg) (hs : (B.toInt = -1 ∧ X.toInt ≤ 0) ∨ (B.toInt ≠ -1 ∧ Y = su B.toNatClampNeg ∧ X.toInt ≤ Y.toInt)) (ho : o' = O.toInt + 1) : zlJ su B.toInt o' := by
  refine zlj_k h o0 ?_ ho
  have x : (su O.toInt.toNat).toInt = X.toInt := congrArg Int32.toInt eX.symm
  show (B.toInt = -1 ∧ (su O.toInt.toNat).toInt ≤ 0) ∨ (B.toInt ≠ -1 ∧ (su O.toInt.toNat).toInt ≤ (su B.toInt.toNat).toInt)
  rcases hs with ⟨a, b⟩ | ⟨a, b, c⟩
  · exact Or.inl ⟨a, by omega⟩
  · have y : (su B.toInt.toNat).toInt = Y.toInt := congrArg Int32.toInt b.symm
    exact Or.inr ⟨a, by omega⟩
theorem zlJ_n {su : Nat → Int32} {O B X Y : Int32} {o' : Int} (h : zlJ su B.toInt O.toInt) (o0 : 0 ≤ O.toInt) (eX : X = su O.toNatClampNeg) (hs : (B.toInt = -1 ∧ 0 < X.toInt) ∨ (B.toInt ≠ -1 ∧ Y = su B.toNatClampNeg ∧ Y.toInt < X.toInt)) (ho : o' = O.toInt + 1) : zlJ su O.toInt o' := by
  refine zlj_n h o0 ?_ rfl ho
  have x : (su O.toInt.toNat).toInt = X.toInt := congrArg Int32.toInt eX.symm
  show (B.toInt = -1 ∧ 0 < (su O.toInt.toNat).toInt) ∨ (B.toInt ≠ -1 ∧ (su B.toInt.toNat).toInt < (su O.toInt.toNat).toInt)
  rcases hs with ⟨a, b⟩ | ⟨a, b, c⟩
  · exact Or.inl ⟨a, by omega⟩
  · have y : (su B.toInt.toNat).toInt = Y.toInt := congrArg Int32.toInt b.symm
    exact Or.inr ⟨a, by omega⟩
def zSkB (T : Nat → Nat → Int) (V : List Int) (on : Nat → Int32) (D : Nat) (os : Int) (a e : Nat) : Int := if e < D ∧ e ≠ a then zls (zmu T on D os a e) V else 0
def zSmB (s : Nat → Int64) (i fr : Nat → Int32) (n : Int) (ro cs nx fc lc bt : Nat → Int32) (ch ru ab tk : Int) (h l : Nat → Int32) (D : Int) (on : Nat → Int32) (os : Int) (P : Int32) (su : Nat → Int32) (p : Int) : Prop := ∀ (T : Nat → Nat → Int) (V : List Int), zKl s i fr n ro cs nx fc lc bt ch ru ab tk h l D T V → 0 ≤ os → os ≤ 120 → os = ((zsu (fun d => if (on d).toInt ≠ 0 then 1 else 0) D.toNat : Nat) : Int) → 0 ≤ P.toInt → P.toInt < D → p ≤ n → ∀ e : Nat, e < 120 → (su e).toInt = zsn (fun j => if e < D.toNat ∧ e ≠ P.toNatClampNeg then zmu T on D.toNat os P.toNatClampNeg e (s j).toInt else 0) p.toNat ∧ 0 ≤ (su e).toInt ∧ (su e).toInt ≤ 31744 * p
section ZSM
variable {s : Nat → Int64} {i fr ro cs nx fc lc bt h l on su su' : Nat → Int32} {n ch ru ab tk D os p p' bl ck wh ins nu pl r o : Int} {P : Int32}
theorem zSmB_0 (hz : ∀ j : Nat, (j : Int) < 120 → su j = (0 : Int32)) (hp : p = 0) : zSmB s i fr n ro cs nx fc lc bt ch ru ab tk h l D on os P su p := fun T V _ _ _ _ _ _ _ e he => by
  subst hp
  have z : (su e).toInt = 0 := (congrArg Int32.toInt (hz e (by omega))).trans (by decide)
  exact ⟨z, by omega, by omega⟩
theorem zSmB_s {Q I : Int32} (hh : zSmB s i fr n ro cs nx fc lc bt ch ru ab tk h l D on os P su Q.toInt) (q0 : 0 ≤ Q.toInt) (hid : 0 ≤ Q.toInt ∧ Q.toInt < n → I.toInt = (i Q.toNatClampNeg).toInt) (hop : zW (0 ≤ I.toInt → I.toInt ≤ 399 → ∀ B : Nat → List Bool, zPB ro cs nx fc lc bt ch ru ab tk B → zRr fc nx B bl ck wh ins (B I.toNatClampNeg))) (hnu : nu = -1) (hpl : pl = 0) (ha : zAA ro cs nx fc lc bt ch ru ab tk on D bl ck wh ins nu pl os P su su') (hp : p' = Q.toInt + 1) : zSmB s i fr n ro cs nx fc lc bt ch ru ab tk h l D on os P su' p' := fun T V hk o0 o1 eo p0 p1 pn e he => by
  obtain ⟨k1, k2, k3, k4, k5, k6, k7, k8⟩ := id hk
  have n4 := k1.2.2.1
  have cQ : Q.toNatClampNeg = Q.toInt.toNat := rfl
  have ei := hid ⟨q0, by omega⟩
  rw [cQ] at ei
  have v := k1.2.2.2.1 Q.toInt.toNat (by omega)
  have lt : (I.toInt.toNat : Int) < n := by
    have l2 := k1.2.1
    rcases Nat.lt_or_ge I.toInt.toNat V.length with c | c
    · omega
    · have v2 := v.2
      rw [← ei, List.getElem?_eq_none c] at v2
      exact absurd v2 (by simp)
  have e2 : V[I.toNatClampNeg]? = some (s Q.toInt.toNat).toInt := by
    show V[I.toInt.toNat]? = _
    rw [ei]; exact v.2
  have eb : zBv T V D.toNat I.toNatClampNeg = zPq T (s Q.toInt.toNat).toInt D.toNat := by
    unfold zBv
    rw [e2]
    rfl
  have op := hop (by omega) (by omega) _ k3
  rw [eb] at op
  have b := fun e he => hh T V hk o0 o1 eo p0 p1 (by omega) e he
  have a := ha _ T _ k3 op hnu hpl k6 k7 (k2 _ (List.mem_of_getElem? e2)) o0 o1 eo p0 p1 (fun e he => by have := b e he; omega) e he
  have q := b e he
  have m := zmu_b (T := T) (on := on) (D := D.toNat) (a := P.toNatClampNeg) (b := e) (x := (s Q.toInt.toNat).toInt) o0 o1
  rw [show p'.toNat = Q.toInt.toNat + 1 from by omega, zsn_s, ← q.1, a]
  refine ⟨rfl, ?_⟩
  by_cases c : e < D.toNat ∧ e ≠ P.toNatClampNeg
  · rw [if_pos c]; omega
  · rw [if_neg c]; omega
theorem zsn_z : ∀ n : Nat, zsn (fun _ => 0) n = 0 := by
  intro n
  induction n with
  | zero => rfl
  | succ n ih => rw [zsn_s, ih]; rfl
theorem zSmB_V {T : Nat → Nat → Int} {V : List Int} (hV : zVo s i fr n V) {e : Nat} : zsn (fun j => if e < D.toNat ∧ e ≠ P.toNatClampNeg then zmu T on D.toNat os P.toNatClampNeg e (s j).toInt else 0) n.toNat = zSkB T V on D.toNat os P.toNatClampNeg e := by
  unfold zSkB
  by_cases c : e < D.toNat ∧ e ≠ P.toNatClampNeg
  · rw [if_pos c, show (fun j => if e < D.toNat ∧ e ≠ P.toNatClampNeg then zmu T on D.toNat os P.toNatClampNeg e (s j).toInt else 0) = (fun j => zmu T on D.toNat os P.toNatClampNeg e (s j).toInt) from funext (fun j => if_pos c), zsn_l (μ := zmu T on D.toNat os P.toNatClampNeg e) (K := fun j => (s j).toInt) n.toNat (fun k _ => rfl)]
    have srt := hV.1
    have l2 := hV.2.1
    exact (zls_r (K := fun a => (s a).toInt) (n := n.toNat) (zVo_nd hV) (fun a b hab hb => by have := srt a b hab (by omega); omega) (fun x => by
      rw [zVo_m hV]
      constructor
      · rintro ⟨a, a1, a2⟩
        exact ⟨a, by omega, a2⟩
      · rintro ⟨a, a1, a2⟩
        exact ⟨a, by omega, a2⟩)).symm
  · rw [if_neg c, show (fun j => if e < D.toNat ∧ e ≠ P.toNatClampNeg then zmu T on D.toNat os P.toNatClampNeg e (s j).toInt else 0) = (fun _ => 0) from funext (fun j => if_neg c)]
    exact zsn_z _
def zMl (s : Nat → Int64) (i fr : Nat → Int32) (n : Int) (ro cs nx fc lc bt : Nat → Int32) (ch ru ab tk : Int) (h l : Nat → Int32) (D : Int) (on : Nat → Int32) (os : Int) (P : Int32) (r : Int) : Prop := ∀ (T : Nat → Nat → Int) (V : List Int), zKl s i fr n ro cs nx fc lc bt ch ru ab tk h l D T V → 0 ≤ os → os ≤ 120 → os = ((zsu (fun d => if (on d).toInt ≠ 0 then 1 else 0) D.toNat : Nat) : Int) → 0 ≤ P.toInt → P.toInt < D → zlj (zSkB T V on D.toNat os P.toNatClampNeg) r 120
theorem zMl_e (h1 : zSmB s i fr n ro cs nx fc lc bt ch ru ab tk h l D on os P su p) (pn : n ≤ p) (pn2 : p ≤ n) (h2 : zlJ su r o) (ho : 120 ≤ o) (ho2 : o ≤ 120) : zMl s i fr n ro cs nx fc lc bt ch ru ab tk h l D on os P r := fun T V hk o0 o1 eo p0 p1 => by
  rw [show o = 120 from by omega] at h2
  refine zlj_c h2 (fun e he => ?_)
  have q := (h1 T V hk o0 o1 eo p0 p1 pn2 e (by omega)).1
  rw [show p = n from by omega, zSmB_V hk.1] at q
  exact q
end ZSM
def zLq4 (T : Nat → Nat → Int) (V : List Int) (on : Nat → Int32) (D os : Int) (P : Int32) (th r : Int) : Prop := (th = 0 ∧ 0 ≤ P.toInt ∧ P.toInt < D ∧ (on P.toNatClampNeg).toInt ≠ 0 ∧ zlj (zSkB T V on D.toNat os P.toNatClampNeg) r 120) ∨ (th = 1 ∧ (P.toInt < 0 ∨ D ≤ P.toInt ∨ (on P.toNatClampNeg).toInt = 0))
def zLC (s : Nat → Int64) (i fr : Nat → Int32) (n : Int) (ro cs nx fc lc bt : Nat → Int32) (ch ru ab tk : Int) (h l : Nat → Int32) (D : Int) (on : Nat → Int32) (os : Int) (P : Int32) (th r : Int) : Prop := ∀ (T : Nat → Nat → Int) (V : List Int), zKl s i fr n ro cs nx fc lc bt ch ru ab tk h l D T V → 0 ≤ os → os ≤ 120 → os = ((zsu (fun d => if (on d).toInt ≠ 0 then 1 else 0) D.toNat : Nat) : Int) → zLq4 T V on D os P th r
section ZLC
variable {s : Nat → Int64} {i fr ro cs nx fc lc bt h l on : Nat → Int32} {n ch ru ab tk D os r a x : Int} {P : Int32}
theorem zLC_i (hi : zIo on D P x) (hx : x ≠ 0) (hm : zMl s i fr n ro cs nx fc lc bt ch ru ab tk h l D on os P r) : zLC s i fr n ro cs nx fc lc bt ch ru ab tk h l D on os P 0 r := fun T V hk o0 o1 eo => by
  have q := hi.2.mp (by have := hi.1; omega)
  exact Or.inl ⟨rfl, q.1, q.2.1, q.2.2, hm T V hk o0 o1 eo q.1 q.2.1⟩
theorem zLC_x (hi : zIo on D P x) (hx : x = 0) : zLC s i fr n ro cs nx fc lc bt ch ru ab tk h l D on os P 1 r := fun T V hk o0 o1 eo => by
  refine Or.inr ⟨rfl, ?_⟩
  by_cases c : 0 ≤ P.toInt ∧ P.toInt < D
  · exact Or.inr (Or.inr (zIo_0 hi hx c.1 c.2))
  · omega
theorem zLC_X {r' : Int} (ha : a = 1) (hh : zLC s i fr n ro cs nx fc lc bt ch ru ab tk h l D on os P 1 r) : zLC s i fr n ro cs nx fc lc bt ch ru ab tk h l D on os P a r' := fun T V hk o0 o1 eo => by
  subst ha
  rcases hh T V hk o0 o1 eo with ⟨c, -⟩ | c
  · exact absurd c (by decide)
  · exact Or.inr c
theorem zLC_L {R : Int32} {f f0 : Nat → Int64} {y : Int64} (ha : a = 0) (ef : f = vp_updL f0 (0 : Int32).toNatClampNeg y) (ey : y = R.toInt64) (hh : zLC s i fr n ro cs nx fc lc bt ch ru ab tk h l D on os P 0 R.toInt) : zLC s i fr n ro cs nx fc lc bt ch ru ab tk h l D on os P a (f 0).toInt := by
  subst ha
  have e : f 0 = R.toInt64 := by rw [ef, ← ey]; rfl
  rw [e, Int32.toInt_toInt64]
  exact hh
end ZLC
section ZAI
variable {ow of he on g sz ta ke ti bo : Nat → Int32} {W D n s s' w' r x : Int} {E P : Int32}
theorem zAi_0 {w : Int} (hw : w = 0) (hs : s = 0) : zAi ow of he on g sz W ta ke ti bo D n E w s := fun T V a _ _ _ _ _ _ _ _ => by
  subst hw; subst hs
  exact ⟨rfl, by decide, by decide⟩
theorem zAi_x {I : Int32} {T : Nat → Nat → Int} {V : List Int} {a : Nat} (hm : zMd g sz W ta ke D T V) (hb : zMb ti bo D T) (how : ∀ (j : Nat) (x : Int), V[j]? = some x → (ow j).toInt = (zTm (T a) x 1024 : Int)) (hx : zTX of ta ti bo W E) (oa : (on a).toInt ≠ 0) (oe : (on E.toNatClampNeg).toInt ≠ 0) (i0 : 0 ≤ I.toInt) (iW : I.toInt < W) (e0 : 0 ≤ E.toInt) (e1 : E.toInt < D) : V[I.toInt.toNat]? = some (zkw g sz I.toInt.toNat) ∧ (ow I.toNatClampNeg).toInt = (zTm (zTo on T a) (zkw g sz I.toInt.toNat) 1024 : Int) ∧ (of I.toNatClampNeg).toInt = (zTm (zTo on T E.toNatClampNeg) (zkw g sz I.toInt.toNat) 1024 : Int) := by
  have hv := hm.1.2.2.2.1 I.toInt.toNat (by omega)
  have cI : I.toNatClampNeg = I.toInt.toNat := rfl
  have ef := zTf_T hm hb (w := ((I.toInt.toNat : Nat) : Int)) (by rw [Int.toNat_natCast]; exact hv) (by omega) e0 e1 (hx I.toInt.toNat (by omega))
  refine ⟨hv, ?_, ?_⟩
  · rw [cI, how _ _ hv, zTo_y oa]
  · rw [cI, ef, zTo_y oe]
theorem zAi_n {I : Int32} (h : zAi ow of he on g sz W ta ke ti bo D n E I.toInt s) (hx : zTX of ta ti bo W E) (i0 : 0 ≤ I.toInt) (iW : I.toInt < W) (e0 : 0 ≤ E.toInt) (e1 : E.toInt < D) (hz : (ow I.toNatClampNeg).toInt ≤ 0 ∨ (of I.toNatClampNeg).toInt ≤ 0) (hs : s' = s) (hw : w' = I.toInt + 1) : zAi ow of he on g sz W ta ke ti bo D n E w' s' := fun T V a hm hb how hhe oa oe n0 n1 => by
  obtain ⟨q1, q2, q3⟩ := h T V a hm hb how hhe oa oe n0 n1
  obtain ⟨hv, x1, x2⟩ := zAi_x hm hb how hx oa oe i0 iW e0 e1
  have z : zmu T on D.toNat n a E.toNatClampNeg (zkw g sz I.toInt.toNat) = 0 := zmu_z (by omega)
  rw [show w'.toNat = I.toInt.toNat + 1 from by omega, zsn_s, ← q1]
  exact ⟨by rw [hs]; show s = s + zmu T on D.toNat n a E.toNatClampNeg (zkw g sz I.toInt.toNat); rw [z, Int.add_zero], by omega, by omega⟩
theorem zAi_s {I S S' M R Q : Int32} (h : zAi ow of he on g sz W ta ke ti bo D n E I.toInt S.toInt) (hx : zTX of ta ti bo W E) (i0 : 0 ≤ I.toInt) (iW : I.toInt < W) (W4 : W ≤ 400) (e0 : 0 ≤ E.toInt) (e1 : E.toInt < D) (hM : M.toInt = min (ow I.toNatClampNeg).toInt (of I.toNatClampNeg).toInt) (hH : 0 < (he I.toNatClampNeg).toInt) (hR : R.toInt = zdig (16 * n / (he I.toNatClampNeg).toInt)) (eQ : Q = M * R) (eS : S' = S + Q) (hw : w' = I.toInt + 1) : zAi ow of he on g sz W ta ke ti bo D n E w' S'.toInt := fun T V a hm hb how hhe oa oe n0 n1 => by
  obtain ⟨q1, q2, q3⟩ := h T V a hm hb how hhe oa oe n0 n1
  obtain ⟨hv, x1, x2⟩ := zAi_x hm hb how hx oa oe i0 iW e0 e1
  have eh : (he I.toNatClampNeg).toInt = zHg zf1 (zTo on T) (zkw g sz I.toInt.toNat) D.toNat := hhe _ _ hv
  have er : R.toInt = zrr n (zHg zf1 (zTo on T) (zkw g sz I.toInt.toNat) D.toNat) := by
    rw [hR, ← eh]
    unfold zrr
    rw [if_pos hH]
  have rb := zrr_b (k := zHg zf1 (zTo on T) (zkw g sz I.toInt.toNat) D.toNat) n0 n1
  rw [← er] at rb
  have t1 := zTm_b (t := zTo on T a) (w := zkw g sz I.toInt.toNat) (k := 1024)
  have t2 := zTm_b (t := zTo on T E.toNatClampNeg) (w := zkw g sz I.toInt.toNat) (k := 1024)
  rw [x1, x2] at hM
  have em : zmu T on D.toNat n a E.toNatClampNeg (zkw g sz I.toInt.toNat) = M.toInt * R.toInt := by rw [hM, er]; rfl
  have m0 : 0 ≤ M.toInt ∧ M.toInt ≤ 1024 := by omega
  have p2 := Int.mul_nonneg m0.1 rb.1
  have p3 := Int.mul_le_mul m0.2 rb.2 rb.1 (show (0 : Int) ≤ 1024 by decide)
  have zz := zmul (x := M) (y := R) rfl rfl eQ (by omega) (by omega)
  have zs := zadd (x := S) (y := Q) rfl rfl eS (by omega) (by omega)
  rw [show w'.toNat = I.toInt.toNat + 1 from by omega, zsn_s, ← q1]
  exact ⟨by show S'.toInt = S.toInt + zmu T on D.toNat n a E.toNatClampNeg (zkw g sz I.toInt.toNat); rw [em]; omega, by omega, by omega⟩
def zAl (ow he on g sz : Nat → Int32) (W : Int) (ta ke ti bo : Nat → Int32) (D n : Int) (E : Int32) (r : Int) : Prop := ∀ (T : Nat → Nat → Int) (V : List Int) (a : Nat), zMd g sz W ta ke D T V → zMb ti bo D T → (∀ (j : Nat) (x : Int), V[j]? = some x → (ow j).toInt = (zTm (T a) x 1024 : Int)) → (∀ (j : Nat) (x : Int), V[j]? = some x → (he j).toInt = zHg zf1 (zTo on T) x D.toNat) → (on a).toInt ≠ 0 → (on E.toNatClampNeg).toInt ≠ 0 → 0 ≤ n → n ≤ 120 → r = zls (zmu T on D.toNat n a E.toNatClampNeg) V
theorem zAl_e {w : Int} (h : zAi ow of he on g sz W ta ke ti bo D n E w s) (h1 : W ≤ w) (h2 : w ≤ W) (hr : r = s) : zAl ow he on g sz W ta ke ti bo D n E r := fun T V a hm hb how hhe oa oe n0 n1 => by
  obtain ⟨q1, q2, q3⟩ := h T V a hm hb how hhe oa oe n0 n1
  obtain ⟨v1, v2, v3, v4, v5⟩ := id hm.1
  rw [hr, q1, show w = W from by omega, zsn_l (μ := zmu T on D.toNat n a E.toNatClampNeg) (K := fun j => zkw g sz j) W.toNat (fun k _ => rfl)]
  refine (zls_r (zMv_nd hm.1) (fun a b hab hb => v1.2 a b hab (by omega)) (fun y => ?_)).symm
  constructor
  · intro hy
    obtain ⟨j, j1, -, j2⟩ := zMv_j hm.1 hy
    exact ⟨j, by omega, j2⟩
  · rintro ⟨j, j1, j2⟩
    rw [← j2]
    exact List.mem_of_getElem? (v4 j (by omega))
theorem zls_0 {μ : Int → Int} : ∀ {V : List Int}, (∀ x ∈ V, μ x = 0) → zls μ V = 0 := by
  intro V
  induction V with
  | nil => intro _; rfl
  | cons x V ih =>
    intro h
    show μ x + zls μ V = 0
    rw [h x (List.mem_cons_self ..), ih (fun y hy => h y (List.mem_cons_of_mem _ hy))]
    rfl
def zLi (ow he on g sz : Nat → Int32) (W : Int) (ta ke ti bo : Nat → Int32) (D n : Int) (P : Int32) (b m d : Int) : Prop := ∀ (T : Nat → Nat → Int) (V : List Int), zMd g sz W ta ke D T V → zMb ti bo D T → (on P.toNatClampNeg).toInt ≠ 0 → zlj (zSkB T V on D.toNat n P.toNatClampNeg) b d ∧ ((b = -1 ∧ m = 0) ∨ (b ≠ -1 ∧ m = zSkB T V on D.toNat n P.toNatClampNeg b.toNat))
variable {b b' m m' d d' : Int}
theorem zLi_0 (hb : b = -1) (hm : m = 0) (hd : d = 0) : zLi ow he on g sz W ta ke ti bo D n P b m d := fun T V _ _ _ => ⟨zlj_0 hb hd, Or.inl ⟨hb, hm⟩⟩
theorem zLi_z (h : zLi ow he on g sz W ta ke ti bo D n P b m E.toInt) (e0 : 0 ≤ E.toInt) (p0 : 0 ≤ P.toInt) (hz : E.toInt = P.toInt ∨ (on E.toNatClampNeg).toInt = 0) (hb : b' = b) (hm : m' = m) (hd : d' = E.toInt + 1) : zLi ow he on g sz W ta ke ti bo D n P b' m' d' := fun T V hM hB op => by
  subst hb; subst hm
  obtain ⟨q1, q2⟩ := h T V hM hB op
  have cE : E.toNatClampNeg = E.toInt.toNat := rfl
  have cP : P.toNatClampNeg = P.toInt.toNat := rfl
  have z : zSkB T V on D.toNat n P.toNatClampNeg E.toInt.toNat = 0 := by
    unfold zSkB
    by_cases c : E.toInt.toNat < D.toNat ∧ E.toInt.toNat ≠ P.toNatClampNeg
    · rw [if_pos c]
      have oz : (on E.toInt.toNat).toInt = 0 := by
        rcases hz with y | y
        · exfalso; omega
        · exact y
      exact zls_0 (fun x hx => by
        have t := zTo_z (on := on) (T := T) (d := E.toInt.toNat) (w := x) (hM.1.2.2.2.2 x hx) (Or.inl oz)
        exact zmu_z (Or.inr (by omega)))
    · rw [if_neg c]
  refine ⟨zlj_k q1 e0 ?_ hd, q2⟩
  rcases q1 with ⟨a1, a2⟩ | ⟨a1, a2, a3, a4⟩
  · exact Or.inl ⟨a1, by omega⟩
  · exact Or.inr ⟨by omega, by omega⟩
theorem zLi_a (hx : zTX ow ta ti bo W P) (hh : zHx he on g sz W ta ke ti bo D D) (ha : zAl ow he on g sz W ta ke ti bo D n E r) (e0 : 0 ≤ E.toInt) (e1 : E.toInt < D) (ne : E.toInt ≠ P.toInt) (p0 : 0 ≤ P.toInt) (p1 : P.toInt < D) (oe : (on E.toNatClampNeg).toInt ≠ 0) (n0 : 0 ≤ n) (n1 : n ≤ 120) {T : Nat → Nat → Int} {V : List Int} (hM : zMd g sz W ta ke D T V) (hB : zMb ti bo D T) (op : (on P.toNatClampNeg).toInt ≠ 0) : zSkB T V on D.toNat n P.toNatClampNeg E.toInt.toNat = r := by
  have cP : P.toNatClampNeg = P.toInt.toNat := rfl
  have c' : E.toInt.toNat < D.toNat ∧ E.toInt.toNat ≠ P.toNatClampNeg := ⟨by omega, by omega⟩
  unfold zSkB
  rw [if_pos c']
  refine (ha T V P.toNatClampNeg hM hB (fun j x hv => ?_) (fun j x hv => ?_) op oe n0 n1).symm
  · have l := zMd_l hM hv
    exact zTf_T hM hB (w := ((j : Nat) : Int)) (by rw [Int.toNat_natCast]; exact hv) (by omega) p0 p1 (hx j l.1)
  · exact hh T V hM hB j x hv
theorem zLi_k (h : zLi ow he on g sz W ta ke ti bo D n P b m E.toInt) (hx : zTX ow ta ti bo W P) (hh : zHx he on g sz W ta ke ti bo D D) (ha : zAl ow he on g sz W ta ke ti bo D n E r) (e0 : 0 ≤ E.toInt) (e1 : E.toInt < D) (ne : E.toInt ≠ P.toInt) (p0 : 0 ≤ P.toInt) (p1 : P.toInt < D) (oe : (on E.toNatClampNeg).toInt ≠ 0) (n0 : 0 ≤ n) (n1 : n ≤ 120) (hr : r ≤ m) (hb : b' = b) (hm : m' = m) (hd : d' = E.toInt + 1) : zLi ow he on g sz W ta ke ti bo D n P b' m' d' := fun T V hM hB op => by
  subst hb; subst hm
  obtain ⟨q1, q2⟩ := h T V hM hB op
  have z := zLi_a hx hh ha e0 e1 ne p0 p1 oe n0 n1 hM hB op
  refine ⟨zlj_k q1 e0 ?_ hd, q2⟩
  rcases q2 with ⟨a1, a2⟩ | ⟨a1, a2⟩
  · exact Or.inl ⟨a1, by omega⟩
  · exact Or.inr ⟨a1, by omega⟩
theorem zLi_n (h : zLi ow he on g sz W ta ke ti bo D n P b m E.toInt) (hx : zTX ow ta ti bo W P) (hh : zHx he on g sz W ta ke ti bo D D) (ha : zAl ow he on g sz W ta ke ti bo D n E r) (e0 : 0 ≤ E.toInt) (e1 : E.toInt < D) (ne : E.toInt ≠ P.toInt) (p0 : 0 ≤ P.toInt) (p1 : P.toInt < D) (oe : (on E.toNatClampNeg).toInt ≠ 0) (n0 : 0 ≤ n) (n1 : n ≤ 120) (hr : m < r) (hb : b' = E.toInt) (hm : m' = r) (hd : d' = E.toInt + 1) : zLi ow he on g sz W ta ke ti bo D n P b' m' d' := fun T V hM hB op => by
  obtain ⟨q1, q2⟩ := h T V hM hB op
  have z := zLi_a hx hh ha e0 e1 ne p0 p1 oe n0 n1 hM hB op
  refine ⟨zlj_n q1 e0 ?_ hb hd, Or.inr ⟨by omega, by rw [hm, hb]; exact z.symm⟩⟩
  rcases q2 with ⟨a1, a2⟩ | ⟨a1, a2⟩
  · exact Or.inl ⟨a1, by omega⟩
  · exact Or.inr ⟨a1, by omega⟩
def zLR (g sz : Nat → Int32) (W : Int) (ta ke ti bo : Nat → Int32) (D : Int) (on : Nat → Int32) (P : Int32) (th r : Int) : Prop := ∀ (T : Nat → Nat → Int) (V : List Int) (os : Int), zMd g sz W ta ke D T V → zMb ti bo D T → os = ((zsu (fun d => if (on d).toInt ≠ 0 then 1 else 0) D.toNat : Nat) : Int) → zLq4 T V on D os P th r
theorem zLR_x {th : Int} (hi : zIo on D P x) (hx : x = 0) (ht : th = 1) : zLR g sz W ta ke ti bo D on P th r := fun T V os _ _ _ => by
  refine Or.inr ⟨ht, ?_⟩
  by_cases c : 0 ≤ P.toInt ∧ P.toInt < D
  · exact Or.inr (Or.inr (zIo_0 hi hx c.1 c.2))
  · omega
theorem zLR_i {th : Int} (hi : zIo on D P x) (hx : x ≠ 0) (hs : zSg on D n) (h : zLi ow he on g sz W ta ke ti bo D n P b m d) (h1 : D ≤ d) (h2 : d ≤ D) (ht : th = 0) (hr : r = b) : zLR g sz W ta ke ti bo D on P th r := fun T V os hM hB eo => by
  have q := hi.2.mp (by have := hi.1; omega)
  have en : n = os := by unfold zSg at hs; rw [hs, eo]
  have l := (h T V hM hB q.2.2).1
  rw [show d = D from by omega, en] at l
  refine Or.inl ⟨ht, q.1, q.2.1, q.2.2, ?_⟩
  rw [hr]
  exact zlj_w l hM.2.2.1 (fun k hk => by
    have d0 := hM.2.1
    have c' : ¬ (k < D.toNat ∧ k ≠ P.toNatClampNeg) := fun c => by omega
    unfold zSkB
    rw [if_neg c']
    exact Int.le_refl _)
end ZAI
