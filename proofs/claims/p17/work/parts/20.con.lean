section ZOR
variable {L L' : Nat → Int} {m m' k : Nat}
theorem zpk_s (i : Nat) : zpk L m (i + 1) = 37 * zpk L m i + (if i < m then zdt (L i) else 0) := rfl
theorem zdg_b {i : Nat} (h : ∀ k, k < m → zVl (L k)) : 0 ≤ (if i < m then zdt (L i) else 0) ∧ (if i < m then zdt (L i) else 0) ≤ 36 := by
  by_cases c : i < m
  · rw [if_pos c]; have := zdt_v (h i c); omega
  · rw [if_neg c]; omega
theorem zpk_q (hp : ∀ j, j < k → (j < m ↔ j < m') ∧ (j < m → L j = L' j)) : ∀ i : Nat, i ≤ k → zpk L m i = zpk L' m' i := by
  intro i
  induction i with
  | zero => intro _; rfl
  | succ i ih =>
    intro hi
    rw [zpk_s, zpk_s, ih (by omega)]
    have q := hp i (by omega)
    by_cases c : i < m
    · rw [if_pos c, if_pos (q.1.mp c), q.2 c]
    · rw [if_neg c, if_neg (fun d => c (q.1.mpr d))]
end ZOR
theorem zpk_dv {L : Nat → Int} {m : Nat} (h : ∀ k, k < m → zVl (L k)) : ∀ (j i : Nat), zpk L m (i + j) / 37 ^ j = zpk L m i := by
  intro j
  induction j with
  | zero => intro i; rw [Nat.add_zero, Int.pow_zero, Int.ediv_one]
  | succ j ih =>
    intro i
    have q := ih (i + 1)
    rw [show i + 1 + j = i + (j + 1) from by omega] at q
    have e : (37 : Int) ^ (j + 1) = 37 ^ j * 37 := Int.pow_succ 37 j
    have d := zdg_b (i := i) h
    rw [e, ← Int.ediv_ediv_of_nonneg (by exact Int.pow_nonneg (by decide)), q, zpk_s]
    omega
def zrg {α : Type} (F : Nat → (Nat → α → Prop) → α → Prop) : Nat → Nat → α → Prop
  | 0 => fun _ _ => False
  | k + 1 => fun a => if a = k then F k (zrg F k) else zrg F k a
theorem zrg_h {α : Type} {F : Nat → (Nat → α → Prop) → α → Prop} : ∀ {k a : Nat}, k ≤ a → zrg F k a = fun _ => False := by
  intro k
  induction k with
  | zero => intro a _; rfl
  | succ k ih =>
    intro a h
    show (if a = k then F k (zrg F k) else zrg F k a) = _
    rw [if_neg (by omega)]
    exact ih (by omega)
theorem zrg_s {α : Type} {F : Nat → (Nat → α → Prop) → α → Prop} : ∀ {N k a : Nat}, a < k → k ≤ N → zrg F N a = zrg F k a := by
  intro N
  induction N with
  | zero => intro k a h1 h2; omega
  | succ N ih =>
    intro k a h1 h2
    by_cases c : k = N + 1
    · rw [c]
    · show (if a = N then F N (zrg F N) else zrg F N a) = _
      rw [if_neg (by omega)]
      exact ih h1 (by omega)
theorem zrg_x {α : Type} (F : Nat → (Nat → α → Prop) → α → Prop) (N : Nat) : ∃ G : Nat → α → Prop, ∀ a : Nat, a < N → G a = F a (fun b => if b < a then G b else fun _ => False) := by
  refine ⟨zrg F N, fun a ha => ?_⟩
  rw [zrg_s (k := a + 1) (by omega) (by omega)]
  show (if a = a then F a (zrg F a) else zrg F a a) = _
  rw [if_pos rfl]
  have e : zrg F a = fun b => if b < a then zrg F N b else fun _ => False := by
    funext b
    by_cases c : b < a
    · rw [if_pos c]
      exact (zrg_s c (by omega)).symm
    · rw [if_neg c, zrg_h (by omega)]
  rw [← e]
section ZSV
variable {wh lf rt nm lfr lto : Nat → Int32} {N tt bd mk : Int}
def zNwf (wh lf rt : Nat → Int32) (N : Int) : Prop := ∀ a : Nat, (a : Int) < N → ((wh a).toInt = 6 ∨ (wh a).toInt = 7 ∨ (wh a).toInt = 10 → (lf a).toInt.toNat < a) ∧ ((wh a).toInt = 5 ∨ (wh a).toInt = 8 ∨ (wh a).toInt = 9 ∨ (wh a).toInt = 11 → (lf a).toInt.toNat < a ∧ (rt a).toInt.toNat < a)
theorem zS_x (hw : zNwf wh lf rt N) (M : Nat → Int → Prop) : ∃ S : Nat → Nat → Prop, ∀ p : Nat, zSae wh lf nm (M p) (p : Int) N (S p) := by
  obtain ⟨G, hG⟩ := zrg_x (α := Nat) (fun a r p => ((wh a).toInt = 6 ∧ (p : Int) < 512 ∧ r (lf a).toInt.toNat p) ∨ ((wh a).toInt = 7 ∧ 512 ≤ (p : Int) ∧ r (lf a).toInt.toNat p) ∨ (((wh a).toInt = 1 ∨ (wh a).toInt = 2 ∨ (wh a).toInt = 3) ∧ M p (nm a).toInt)) N.toNat
  refine ⟨fun p a => G a p, fun p a ha => ?_⟩
  have h := congrFun (hG a (by omega)) p
  have w := hw a ha
  refine ⟨fun c => ?_, fun c => ?_, fun c => ?_⟩
  · show G a p ↔ _
    rw [h]
    show (_ ∧ _ ∧ (if (lf a).toInt.toNat < a then G (lf a).toInt.toNat else fun _ => False) p) ∨ _ ∨ _ ↔ _
    rw [if_pos (w.1 (by omega))]
    exact ⟨fun q => by rcases q with q | q | q; exact q.2; omega; omega, fun q => Or.inl ⟨c, q⟩⟩
  · show G a p ↔ _
    rw [h]
    show _ ∨ (_ ∧ _ ∧ (if (lf a).toInt.toNat < a then G (lf a).toInt.toNat else fun _ => False) p) ∨ _ ↔ _
    rw [if_pos (w.1 (by omega))]
    exact ⟨fun q => by rcases q with q | q | q; omega; exact q.2; omega, fun q => Or.inr (Or.inl ⟨c, q⟩)⟩
  · show G a p ↔ _
    rw [h]
    exact ⟨fun q => by rcases q with q | q | q; omega; omega; exact q.2, fun q => Or.inr (Or.inr ⟨c, q⟩)⟩
theorem zV_x (hw : zNwf wh lf rt N) (S : Nat → Nat → Prop) : ∃ V : Nat → Prop, zVe wh lf rt nm lfr lto S tt bd mk N V := by
  obtain ⟨G, hG⟩ := zrg_x (α := Unit) (fun a r u => ((wh a).toInt = 4 ∧ (lfr (nm a).toInt.toNat).toInt ≤ mk ∧ mk ≤ (lto (nm a).toInt.toNat).toInt) ∨ ((wh a).toInt = 5 ∧ (zNev S (lf a).toInt.toNat (rt a).toInt.toNat (nm a).toInt 0 tt ∨ zNev S (lf a).toInt.toNat (rt a).toInt.toNat (nm a).toInt 512 (512 + bd))) ∨ ((wh a).toInt = 8 ∧ r (lf a).toInt.toNat u ∧ r (rt a).toInt.toNat u) ∨ ((wh a).toInt = 9 ∧ (r (lf a).toInt.toNat u ∨ r (rt a).toInt.toNat u)) ∨ ((wh a).toInt = 10 ∧ ¬ r (lf a).toInt.toNat u) ∨ ((wh a).toInt = 11 ∧ r (lf a).toInt.toNat u ∧ ¬ r (rt a).toInt.toNat u) ∨ (((wh a).toInt = 1 ∨ (wh a).toInt = 2 ∨ (wh a).toInt = 3 ∨ (wh a).toInt = 6 ∨ (wh a).toInt = 7) ∧ zHpv S tt bd a)) N.toNat
  refine ⟨fun a => G a (), fun a ha => ?_⟩
  have h := congrFun (hG a (by omega)) ()
  have w := hw a ha
  have r1 : (lf a).toInt.toNat < a → (if (lf a).toInt.toNat < a then G (lf a).toInt.toNat else fun _ => False) () = G (lf a).toInt.toNat () := fun c => by rw [if_pos c]
  have r2 : (rt a).toInt.toNat < a → (if (rt a).toInt.toNat < a then G (rt a).toInt.toNat else fun _ => False) () = G (rt a).toInt.toNat () := fun c => by rw [if_pos c]
  refine ⟨fun c => ?_, fun c => ?_, fun c => ?_, fun c => ?_, fun c => ?_, fun c => ?_, fun c => ?_⟩
  · show G a () ↔ _
    rw [h]
    exact ⟨fun q => by rcases q with q | q | q | q | q | q | q; exact q.2; omega; omega; omega; omega; omega; omega, fun q => Or.inl ⟨c, q⟩⟩
  · show G a () ↔ _
    rw [h]
    exact ⟨fun q => by rcases q with q | q | q | q | q | q | q; omega; exact q.2; omega; omega; omega; omega; omega, fun q => Or.inr (Or.inl ⟨c, q⟩)⟩
  · show G a () ↔ G (lf a).toInt.toNat () ∧ G (rt a).toInt.toNat ()
    have w2 := w.2 (by omega)
    rw [h, ← r1 w2.1, ← r2 w2.2]
    exact ⟨fun q => by rcases q with q | q | q | q | q | q | q; omega; omega; exact q.2; omega; omega; omega; omega, fun q => Or.inr (Or.inr (Or.inl ⟨c, q⟩))⟩
  · show G a () ↔ G (lf a).toInt.toNat () ∨ G (rt a).toInt.toNat ()
    have w2 := w.2 (by omega)
    rw [h, ← r1 w2.1, ← r2 w2.2]
    exact ⟨fun q => by rcases q with q | q | q | q | q | q | q; omega; omega; omega; exact q.2; omega; omega; omega, fun q => Or.inr (Or.inr (Or.inr (Or.inl ⟨c, q⟩)))⟩
  · show G a () ↔ ¬ G (lf a).toInt.toNat ()
    have w2 := w.1 (by omega)
    rw [h, ← r1 w2]
    exact ⟨fun q => by rcases q with q | q | q | q | q | q | q; omega; omega; omega; omega; exact q.2; omega; omega, fun q => Or.inr (Or.inr (Or.inr (Or.inr (Or.inl ⟨c, q⟩))))⟩
  · show G a () ↔ G (lf a).toInt.toNat () ∧ ¬ G (rt a).toInt.toNat ()
    have w2 := w.2 (by omega)
    rw [h, ← r1 w2.1, ← r2 w2.2]
    exact ⟨fun q => by rcases q with q | q | q | q | q | q | q; omega; omega; omega; omega; omega; exact q.2; omega, fun q => Or.inr (Or.inr (Or.inr (Or.inr (Or.inr (Or.inl ⟨c, q⟩)))))⟩
  · show G a () ↔ zHpv S tt bd a
    rw [h]
    exact ⟨fun q => by rcases q with q | q | q | q | q | q | q; omega; omega; omega; omega; omega; omega; exact q.2, fun q => Or.inr (Or.inr (Or.inr (Or.inr (Or.inr (Or.inr ⟨c, q⟩)))))⟩
end ZSV
section ZEV
variable {K : List Int} {q : zQs} {s : zqMs} {n m : Int}
theorem zCm_w (h : zCm s n K) (hw : zWl K) : zNwf (s.1 1) (s.1 2) (s.1 3) n := fun a ha => by
  have hn := h.1
  obtain ⟨a0, a1, a2, a3, a4, a5⟩ := h.2.2 a (by omega)
  obtain ⟨w1, w2, w3, _⟩ := hw a (by omega)
  rw [a1]
  refine ⟨fun c => ?_, fun c => ?_⟩
  · have := w2 c
    rw [a3 c]
    omega
  · have := w3 c
    have e := a4 c
    rw [e.1, e.2]
    omega
theorem zNev_e {S : Nat → Nat → Prop} {a b : Nat} {x tt bd : Int} (t5 : tt ≤ 512) : (zNev S a b x 0 tt ∨ zNev S a b x 512 (512 + bd)) ↔ ∃ p q : Nat, ((p : Int) < tt ∨ (512 ≤ p ∧ (p : Int) < 512 + bd)) ∧ ((q : Int) < tt ∨ (512 ≤ q ∧ (q : Int) < 512 + bd)) ∧ S p a ∧ S q b ∧ znr x p q := by
  unfold zNev znr
  constructor
  · rintro (⟨p, q, h1, h2, h3, h4, h5, h6, h7, h8⟩ | ⟨p, q, h1, h2, h3, h4, h5, h6, h7, h8⟩)
    · exact ⟨p, q, Or.inl h2, Or.inl h4, h5, h6, ⟨fun _ => by omega, fun _ => by omega⟩, by omega, by omega⟩
    · exact ⟨p, q, Or.inr ⟨by omega, h2⟩, Or.inr ⟨by omega, h4⟩, h5, h6, ⟨fun _ => by omega, fun _ => by omega⟩, by omega, by omega⟩
  · rintro ⟨p, q, h1, h2, h3, h4, ⟨h5, h6⟩, h7, h8⟩
    rcases h1 with h1 | h1
    · have h9 := h5 (by omega)
      exact Or.inl ⟨p, q, by omega, h1, by omega, by omega, h3, h4, by omega, by omega⟩
    · have h9 : ¬ q < 512 := fun c => by have := h6 c; omega
      exact Or.inr ⟨p, q, by omega, h1.2, by omega, by omega, h3, h4, by omega, by omega⟩
def zPrd (tt bd : Int) (p : Nat) : Prop := (p : Int) < tt ∨ (512 ≤ p ∧ (p : Int) < 512 + bd)
def zLft (K : List Int) (C : Int → Nat → Prop) (lvF : Int → Prop) (M : Nat → Int → Prop) (Pr : Nat → Prop) (lfr lto : Nat → Int32) (mk : Int) : Prop := ∀ e ∈ K, (e / 1000 % 1000 = 4 → (lvF (e % 1000) ↔ (lfr (e % 1000).toNat).toInt ≤ mk ∧ mk ≤ (lto (e % 1000).toNat).toInt)) ∧ (1 ≤ e / 1000 % 1000 → e / 1000 % 1000 ≤ 3 → (∀ p, C (e % 1000) p ↔ Pr p ∧ zsid (e / 1000000000 % 4) p ∧ M p (e % 1000)) ∧ (lvF (e % 1000) ↔ ∃ p, C (e % 1000) p))
theorem zgd_m {i : Nat} (h : i < K.length) : K.getD i 0 ∈ K := by
  have e : K.getD i 0 = K[i] := by simp [h]
  rw [e]
  exact List.getElem_mem h
theorem zEnv_x {cd : Nat → Int32} {lvF : Int → Prop} {nvF : Int → Int → Prop} {C : Int → Nat → Prop} {M : Nat → Int → Prop} {S : Nat → Nat → Prop} {V : Nat → Prop} {tt bd mk : Int} (h : zCm s n K) (hw : zWl K) (hc : zCd cd (K.length : Int) K) (hnv : ∀ l x : Int, nvF l x ↔ ∃ p q, C (l - 1) p ∧ C l q ∧ znr x p q) (hS : ∀ p : Nat, zPrd tt bd p → zSae (s.1 1) (s.1 2) (s.1 4) (M p) (p : Int) n (S p)) (hV : zVe (s.1 1) (s.1 2) (s.1 3) (s.1 4) (s.1 6) (s.1 8) S tt bd mk n V) (t5 : tt ≤ 512) (hl : zLft K C lvF M (zPrd tt bd) (s.1 6) (s.1 8) mk) : zEnv K cd lvF nvF (zPrd tt bd) S V C := by
  refine ⟨hc, hnv, fun i hi => ?_⟩
  have hn := h.1
  obtain ⟨a0, a1, a2, a3, a4, a5⟩ := h.2.2 i hi
  obtain ⟨w1, w2, w3, _⟩ := hw i hi
  have v := hV i (by omega)
  have sp := fun (p : Nat) (hp : zPrd tt bd p) => hS p hp i (by omega)
  obtain ⟨l1, l2⟩ := hl _ (zgd_m hi)
  generalize K.getD i 0 = e at a0 a1 a2 a3 a4 a5 w1 w2 w3 l1 l2 ⊢
  rw [a1, a2] at v
  rw [a1, a2] at sp
  refine ⟨fun c => ?_, fun c1 c2 => ?_, fun c => ?_, fun c => ?_, fun c => ?_, fun c => ?_, fun c => ?_, fun c => ?_, fun c => ?_⟩
  · exact (v.1 c).trans (l1 c).symm
  · obtain ⟨m1, m2⟩ := l2 c1 c2
    refine ⟨fun p => ?_, v.2.2.2.2.2.2 (by omega), m2⟩
    rw [m1 p]
    constructor
    · rintro ⟨b1, b2, b3⟩; exact ⟨b1, b2, ((sp p b1).2.2 (by omega)).mpr b3⟩
    · rintro ⟨b1, b2, b3⟩; exact ⟨b1, b2, ((sp p b1).2.2 (by omega)).mp b3⟩
  · refine ⟨fun p hp => ?_, v.2.2.2.2.2.2 (by omega)⟩
    have g := (sp p hp).1 c
    rw [a3 (by omega), show ((i : Int) - 1).toNat = i - 1 from by omega] at g
    exact g.trans ⟨fun b => ⟨by omega, b.2⟩, fun b => ⟨by omega, b.2⟩⟩
  · refine ⟨fun p hp => ?_, v.2.2.2.2.2.2 (by omega)⟩
    have g := (sp p hp).2.1 c
    rw [a3 (by omega), show ((i : Int) - 1).toNat = i - 1 from by omega] at g
    exact g.trans ⟨fun b => ⟨by omega, b.2⟩, fun b => ⟨by omega, b.2⟩⟩
  · have g := v.2.2.2.2.1 c
    rw [a3 (by omega), show ((i : Int) - 1).toNat = i - 1 from by omega] at g
    exact g
  · have g := v.2.1 c
    rw [(a4 (by omega)).1, (a4 (by omega)).2, show ((i : Int) - 1).toNat = i - 1 from by omega, zNev_e t5] at g
    exact g
  · have g := v.2.2.1 c
    rw [(a4 (by omega)).1, (a4 (by omega)).2, show ((i : Int) - 1).toNat = i - 1 from by omega] at g
    exact g
  · have g := v.2.2.2.1 c
    rw [(a4 (by omega)).1, (a4 (by omega)).2, show ((i : Int) - 1).toNat = i - 1 from by omega] at g
    exact g
  · have g := v.2.2.2.2.2.1 c
    rw [(a4 (by omega)).1, (a4 (by omega)).2, show ((i : Int) - 1).toNat = i - 1 from by omega] at g
    exact g
end ZEV
def zIsS (sg ssz w : Nat → Int32) (s sn r : Int) : Prop := ∃ p : Int, zFd sg ssz w s sn p ∧ (r = 1 ↔ p ≠ -1)
def zMea (sg ssz : Nat → Int32) (sn : Int) (g sz : Nat → Int32) (W : Int) (wd ws me : Nat → Int32) (w : Nat) : Prop := ∃ (w0 w1 : Nat → Int32) (p : Int), zC w0 w1 (fun i => wd (12 * w + i)) 0 (ws w).toInt ∧ zFd sg ssz w1 (ws w).toInt sn p ∧ ((p ≠ -1 ∧ (me w).toInt = -1) ∨ (p = -1 ∧ ∃ r : Int, zFd g sz w1 (ws w).toInt W r ∧ (me w).toInt = r + 1))
def zMeI (sg ssz : Nat → Int32) (sn : Int) (g sz : Nat → Int32) (W : Int) (wd ws me : Nat → Int32) (k : Int) : Prop := ∀ w : Nat, (w : Int) < k → zMea sg ssz sn g sz W wd ws me w
def zBgb (g sz wd ws : Nat → Int32) (w v : Nat) : Prop := (ws v).toInt ≤ (sz w).toInt ∧ ∀ k : Nat, (k : Int) < (ws v).toInt → g (12 * w + k) = wd (12 * v + k)
def zBgk (g wd : Nat → Int32) (w v k : Int) : Prop := ∀ j : Nat, (j : Int) < k → g (12 * w.toNat + j) = wd (12 * v.toNat + j)
def zIbI (g sz : Nat → Int32) (W : Int) (wd ws lw lfr ib : Nat → Int32) (l j : Int) : Prop := (∀ a : Nat, (a : Int) < l → (lw a).toInt = 2 → ∀ w : Nat, (w : Int) < W → ((ib (400 * a + w)).toInt ≠ 0 ↔ zBgb g sz wd ws w (lfr a).toInt.toNat)) ∧ ∀ w : Nat, (w : Int) < j → ((ib (400 * l.toNat + w)).toInt ≠ 0 ↔ zBgb g sz wd ws w (lfr l.toNat).toInt.toNat)
section ZPP
variable {sg ssz g sz wd ws me me' lw lfr ib ib' f f' : Nat → Int32} {sn W k j l l' w v a r : Int}
theorem zC_w {i z x : Int32} (h : zC f f' (fun i => wd (12 * w.toNat + i)) 0 i.toInt) (e : z = wd x.toNatClampNeg) (hx : x.toInt = 12 * w + i.toInt) (w0 : 0 ≤ w) (hi : 0 ≤ i.toInt) (hj : j = i.toInt + 1) : zC f (upd f' i.toNatClampNeg (vp_nar .byte z)) (fun i => wd (12 * w.toNat + i)) 0 j := by
  refine zC_s h ?_ (by omega) (by decide) hi hj
  show z = wd (12 * w.toNat + i.toNatClampNeg)
  rw [e]
  congr 1
  have q1 : x.toNatClampNeg = x.toInt.toNat := rfl
  have q2 : i.toNatClampNeg = i.toInt.toNat := rfl
  omega
theorem zC_c {s : Int} (h : zC f f' (fun i => wd (12 * w.toNat + i)) 0 k) (h1 : s ≤ k) (h2 : k ≤ s) : zC f f' (fun i => wd (12 * w.toNat + i)) 0 s := by rw [show s = k from by omega]; exact h
theorem zMeI_0 (h : k ≤ 0) : zMeI sg ssz sn g sz W wd ws me k := fun w hw => by omega
theorem zMeI_s {K v : Int32} {w0 w1 : Nat → Int32} {q : Int} (h : zMeI sg ssz sn g sz W wd ws me K.toInt) (k0 : 0 ≤ K.toInt) (hc : zC w0 w1 (fun i => wd (12 * K.toInt.toNat + i)) 0 q) (hq : q = (ws K.toNatClampNeg).toInt) (hs : zIsS sg ssz w1 q sn r) (hv : (r ≠ 0 ∧ r = 1 ∧ v.toInt = -1) ∨ (r = 0 ∧ ∃ t : Int, zFd g sz w1 q W t ∧ v.toInt = t + 1)) (em : me' = upd me K.toNatClampNeg v) (hk : k = K.toInt + 1) : zMeI sg ssz sn g sz W wd ws me' k := fun w hw => by
  have qK : K.toNatClampNeg = K.toInt.toNat := rfl
  by_cases c : (w : Int) < K.toInt
  · obtain ⟨w0, w1, p, a1, a2, a3⟩ := h w c
    refine ⟨w0, w1, p, a1, a2, ?_⟩
    rw [em, pk_un (by omega)]
    exact a3
  · have ew : w = K.toNatClampNeg := by omega
    subst ew
    rw [← qK] at hc
    rw [hq] at hc hs hv
    obtain ⟨p, p1, p2⟩ := hs
    refine ⟨w0, w1, p, hc, p1, ?_⟩
    rw [em, pk_us]
    rcases hv with ⟨_, v1, v2⟩ | ⟨v1, t, v2, v3⟩
    · exact Or.inl ⟨p2.mp v1, v2⟩
    · refine Or.inr ⟨?_, t, v2, v3⟩
      rcases Classical.em (p = -1) with c | c
      · exact c
      · have := p2.mpr c; omega
theorem zBgk_0 (h : k ≤ 0) : zBgk g wd w v k := fun j hj => by omega
theorem zBgk_s {K x y A B : Int32} (h : zBgk g wd w v K.toInt) (ea : A = g x.toNatClampNeg) (eb : B = wd y.toNatClampNeg) (hx : x.toInt = 12 * w + K.toInt) (hy : y.toInt = 12 * v + K.toInt) (w0 : 0 ≤ w) (v0 : 0 ≤ v) (k0 : 0 ≤ K.toInt) (he : A.toInt = B.toInt) (hk : k = K.toInt + 1) : zBgk g wd w v k := fun j hj => by
  by_cases c : (j : Int) < K.toInt
  · exact h j c
  · have q1 : x.toNatClampNeg = x.toInt.toNat := rfl
    have q2 : y.toNatClampNeg = y.toInt.toNat := rfl
    rw [show 12 * w.toNat + j = x.toNatClampNeg from by omega, show 12 * v.toNat + j = y.toNatClampNeg from by omega, ← ea, ← eb]
    exact zeqi.mpr he
theorem zBgb_n1 {X Y A B : Int32} (ea : A = sz X.toNatClampNeg) (eb : B = ws Y.toNatClampNeg) (h : A.toInt < B.toInt) : ¬ zBgb g sz wd ws X.toNatClampNeg Y.toNatClampNeg := fun q => by
  have := q.1
  rw [← ea, ← eb] at this
  omega
theorem zBgb_n2 {X Y K x y A B Z : Int32} (ez : Z = ws Y.toNatClampNeg) (hk : K.toInt < Z.toInt) (ea : A = g x.toNatClampNeg) (eb : B = wd y.toNatClampNeg) (hx : x.toInt = 12 * X.toInt + K.toInt) (hy : y.toInt = 12 * Y.toInt + K.toInt) (x0 : 0 ≤ X.toInt) (y0 : 0 ≤ Y.toInt) (k0 : 0 ≤ K.toInt) (he : A.toInt ≠ B.toInt) : ¬ zBgb g sz wd ws X.toNatClampNeg Y.toNatClampNeg := fun q => by
  have q1 : x.toNatClampNeg = x.toInt.toNat := rfl
  have q2 : y.toNatClampNeg = y.toInt.toNat := rfl
  have q3 : X.toNatClampNeg = X.toInt.toNat := rfl
  have q4 : Y.toNatClampNeg = Y.toInt.toNat := rfl
  have w := q.2 K.toInt.toNat (by rw [← ez]; omega)
  rw [show 12 * X.toNatClampNeg + K.toInt.toNat = x.toNatClampNeg from by omega, show 12 * Y.toNatClampNeg + K.toInt.toNat = y.toNatClampNeg from by omega, ← ea, ← eb] at w
  exact he (by rw [w])
theorem zBgb_y {X Y A B Z : Int32} (h : zBgk g wd X.toInt Y.toInt k) (ea : A = sz X.toNatClampNeg) (eb : B = ws Y.toNatClampNeg) (h1 : B.toInt ≤ A.toInt) (ez : Z = ws Y.toNatClampNeg) (hk : Z.toInt ≤ k) : zBgb g sz wd ws X.toNatClampNeg Y.toNatClampNeg := by
  refine ⟨by rw [← ea, ← eb]; exact h1, fun j hj => ?_⟩
  rw [← ez] at hj
  exact h j (by omega)
theorem zIbI_0 (h : l ≤ 0) (hj : j ≤ 0) : zIbI g sz W wd ws lw lfr ib l j := ⟨fun a ha => by omega, fun w hw => by omega⟩
theorem zIbI_b {Z L : Int32} (h : zIbI g sz W wd ws lw lfr ib L.toInt r) (l0 : 0 ≤ L.toInt) (ez : Z = lw L.toNatClampNeg) (hz : Z.toInt ≠ 2) (hl : l = L.toInt + 1) (hj : j ≤ 0) : zIbI g sz W wd ws lw lfr ib l j := by
  refine ⟨fun a ha hw => ?_, fun w hw => by omega⟩
  by_cases c : (a : Int) < L.toInt
  · exact h.1 a c hw
  · have q : L.toNatClampNeg = L.toInt.toNat := rfl
    rw [show a = L.toNatClampNeg from by omega, ← ez] at hw
    exact absurd hw hz
theorem zIbI_c {L : Int32} (h : zIbI g sz W wd ws lw lfr ib L.toInt r) (l0 : 0 ≤ L.toInt) (hr : W ≤ r) (hl : l = L.toInt + 1) (hj : j ≤ 0) : zIbI g sz W wd ws lw lfr ib l j := by
  refine ⟨fun a ha hw w hw2 => ?_, fun w hw => by omega⟩
  by_cases c : (a : Int) < L.toInt
  · exact h.1 a c hw w hw2
  · rw [show a = L.toInt.toNat from by omega]
    exact h.2 w (by omega)
theorem zIbI_d (h : zIbI g sz W wd ws lw lfr ib l r) (hj : j ≤ 0) : zIbI g sz W wd ws lw lfr ib l j := ⟨h.1, fun w hw => by omega⟩
theorem zIbI_s {L J X V R : Int32} (h : zIbI g sz W wd ws lw lfr ib L.toInt J.toInt) (l0 : 0 ≤ L.toInt) (j0 : 0 ≤ J.toInt) (j4 : J.toInt < 400) (W4 : W ≤ 400) (hX : X.toInt = 400 * L.toInt + J.toInt) (eV : V = lfr L.toNatClampNeg) (v0 : 0 ≤ V.toInt) (hr : R.toInt = 1 ↔ zBgb g sz wd ws J.toNatClampNeg V.toNatClampNeg) (r0 : 0 ≤ R.toInt) (r1 : R.toInt ≤ 1) (ei : ib' = upd ib X.toNatClampNeg (vp_nar .boolean R)) (hj : j = J.toInt + 1) : zIbI g sz W wd ws lw lfr ib' L.toInt j := by
  have qX : X.toNatClampNeg = X.toInt.toNat := rfl
  have qJ : J.toNatClampNeg = J.toInt.toNat := rfl
  have qV : V.toNatClampNeg = V.toInt.toNat := rfl
  have qL : L.toNatClampNeg = L.toInt.toNat := rfl
  refine ⟨fun a ha hw w hw2 => ?_, fun w hw => ?_⟩
  · rw [ei, pk_un (by omega)]
    exact h.1 a ha hw w hw2
  · by_cases c : (w : Int) < J.toInt
    · rw [ei, pk_un (by omega)]
      exact h.2 w c
    · rw [ei, show 400 * L.toInt.toNat + w = X.toNatClampNeg from by omega, pk_us, znar r0 r1, ← qL, ← eV, ← qV, show w = J.toNatClampNeg from by omega, ← hr]
      omega
theorem zMeI_e (h : zMeI sg ssz sn g sz W wd ws me k) (hk : l ≤ k) : zMeI sg ssz sn g sz W wd ws me l := fun w hw => h w (by omega)
theorem zIbI_e (h : zIbI g sz W wd ws lw lfr ib k j) (hk : l ≤ k) : ∀ a : Nat, (a : Int) < l → (lw a).toInt = 2 → ∀ w : Nat, (w : Int) < W → ((ib (400 * a + w)).toInt ≠ 0 ↔ zBgb g sz wd ws w (lfr a).toInt.toNat) := fun a ha => h.1 a (by omega)
end ZPP
def zIbE (g sz : Nat → Int32) (W : Int) (wd ws lw lfr ib : Nat → Int32) (l : Int) : Prop := ∀ a : Nat, (a : Int) < l → (lw a).toInt = 2 → ∀ w : Nat, (w : Int) < W → ((ib (400 * a + w)).toInt ≠ 0 ↔ zBgb g sz wd ws w (lfr a).toInt.toNat)
theorem zIbE_i {g sz wd ws lw lfr ib : Nat → Int32} {W k j l : Int} (h : zIbI g sz W wd ws lw lfr ib k j) (hk : l ≤ k) : zIbE g sz W wd ws lw lfr ib l := zIbI_e h hk
theorem zFrI_r {A5 A43 A44 A45 A61 A62 wh lf nm rt lto on tt bd mk hits : Nat → Int32} {N D fd k x : Int} {R : Int32} (g : zFrI A5 A43 A44 A45 A61 A62 wh lf nm rt lto N on tt bd mk D R.toNatClampNeg hits fd k) (h1 : k ≤ D) (h2 : D ≤ k) (e : R.toInt = x - 1) : zFrI A5 A43 A44 A45 A61 A62 wh lf nm rt lto N on tt bd mk D (x - 1).toNat hits fd D := zFrI_c (zFrI_e g h1 h2) (by rw [← e]; rfl)
def zMnt (sg ssz : Nat → Int32) (sn : Int) (V : List Int) (x m : Int) : Prop := (zQ sg ssz sn x ∧ m = -1) ∨ (¬ zQ sg ssz sn x ∧ ((x ∉ V ∧ m = 0) ∨ ∃ j : Nat, V[j]? = some x ∧ m = (j : Int) + 1))
def zDcs (s : Nat → Int64) (n : Int) (ss : Nat → Int64) (ns : Int) (sg ssz : Nat → Int32) (sn : Int) (g sz : Nat → Int32) (W : Int) (V : List Int) : Prop := zSrt s n ∧ zSrt ss ns ∧ (∀ y : Int, zHas ss ns y ↔ zQ sg ssz sn y) ∧ zMs sg ssz sn ∧ zMv g sz W V ∧ ∀ x : Int, x ∈ V ↔ zHas s n x
section ZLF
variable {s ss : Nat → Int64} {sg ssz g sz wd ws me ta f lw lfr lmn ib : Nat → Int32} {n ns sn W x r m a nt d p fr : Int} {V : List Int} {t : Nat → Int} {b : Nat}
theorem zMea_v {w : Nat} (h : zMea sg ssz sn g sz W wd ws me w) (hv : ∀ k : Nat, (k : Int) < (ws w).toInt → zVl (wd (12 * w + k)).toInt) (h0 : 0 ≤ (ws w).toInt) (h1 : (ws w).toInt ≤ 12) (hs : zMs sg ssz sn) (hm : zMv g sz W V) : zMnt sg ssz sn V (zkw wd ws w) (me w).toInt := by
  obtain ⟨w0, w1, q, c1, c2, c3⟩ := h
  have e1 : ∀ k : Nat, (k : Int) < (ws w).toInt → w1 k = wd (12 * w + k) := fun k hk => by
    have e := c1.2 k hk (hv k hk)
    rw [show (0 : Int).toNat + k = k from by simp] at e
    exact e
  have ev : ∀ k : Nat, (k : Int) < (ws w).toInt → zVl (w1 k).toInt := fun k hk => by rw [e1 k hk]; exact hv k hk
  have ex : zkw wd ws w = zpk (fun k => (w1 k).toInt) (ws w).toInt.toNat 12 := zpk_c (fun k hk => by
    have e := e1 k (by omega)
    show (wd (12 * w + k)).toInt = (w1 k).toInt
    rw [e]) 12
  rcases c3 with ⟨p1, p2⟩ | ⟨p1, q2, p2, p3⟩
  · have y := zFd_x c2 p1
    exact Or.inl ⟨⟨q.toNat, by omega, by rw [ex]; exact y.2.2⟩, p2⟩
  · have y := zFd_o c2 p1 hs ev h1 h0
    rw [← ex] at y
    refine Or.inr ⟨y, ?_⟩
    rcases zMv_f hm p2 ev h1 h0 ex with ⟨u1, u2⟩ | ⟨u1, u2⟩
    · exact Or.inl ⟨u2, by omega⟩
    · exact Or.inr ⟨q2.toNat, u2, by omega⟩
theorem zWdl_v (h : zWdl f nt a wd ws fr) (ha : 0 ≤ a) : ∃ m : Nat, zRaw f nt a m ∧ zkw wd ws fr.toNat = zWrd f a m ∧ (∀ k : Nat, (k : Int) < (ws fr.toNat).toInt → zVl (wd (12 * fr.toNat + k)).toInt) ∧ 0 ≤ (ws fr.toNat).toInt ∧ (ws fr.toNat).toInt ≤ 12 := by
  obtain ⟨m, m1, m2, m3⟩ := h
  have hv : ∀ k, k < m → zVl (zLt f a k) := fun k hk => zLt_v (m1.2.1 k hk) ha
  have q := zshm_le (L := zLt f a) (m := m)
  have q2 := m1.1
  refine ⟨m, m1, ?_, fun k hk => by rw [m3 k (by omega)]; exact zsh_v hv k (by omega), by omega, by omega⟩
  unfold zkw zWrd
  rw [m2, show ((zshm (zLt f a) m : Nat) : Int).toNat = zshm (zLt f a) m from by omega]
  exact zpk_c (fun k hk => m3 k hk) 12
theorem zWrd_a (D : zDcs s n ss ns sg ssz sn g sz W V) (hr : zWnt s n ss ns x r) (hm : zMnt sg ssz sn V x m) : (r = -2 ↔ m = -1) ∧ (0 ≤ r ∨ r = -2 ∨ r = -3) ∧ (m = 0 ∨ m = -1 ∨ 1 ≤ m) ∧ (0 ≤ r → r < n) ∧ (zRw ta b t V → ∀ p : Nat, p < 1024 → ((0 ≤ r ∧ r < n ∧ t p = (s r.toNat).toInt) ↔ (0 < (ta (b + p)).toInt ∧ (ta (b + p)).toInt = m))) := by
  obtain ⟨d1, d2, d3, d4, d5, d6⟩ := D
  rcases hr d1 d2 with ⟨r1, r2⟩ | ⟨r1, r2⟩
  · rcases hm with ⟨m1, m2⟩ | ⟨m1, m2⟩
    · exact ⟨⟨fun _ => m2, fun _ => r2⟩, by omega, by omega, by omega, fun _ p _ => ⟨fun c => by omega, fun c => by omega⟩⟩
    · exact absurd ((d3 x).mp r1) m1
  · rcases hm with ⟨m1, m2⟩ | ⟨m1, m2⟩
    · exact absurd ((d3 x).mpr m1) r1
    · rcases r2 with ⟨r2, r3⟩ | ⟨r2, r3, r4⟩
      · rcases m2 with ⟨m2, m3⟩ | ⟨j, m2, m3⟩
        · exact ⟨⟨fun _ => by omega, fun _ => by omega⟩, by omega, by omega, by omega, fun _ p _ => ⟨fun c => by omega, fun c => by omega⟩⟩
        · exact absurd ((d6 x).mp (List.mem_of_getElem? m2)) r2
      · rcases m2 with ⟨m2, m3⟩ | ⟨j, m2, m3⟩
        · exact absurd ((d6 x).mpr ⟨r.toNat, by omega, r4⟩) m2
        · refine ⟨⟨fun _ => by omega, fun _ => by omega⟩, by omega, by omega, fun _ => r3, fun hw p hp => ?_⟩
          have i := zRw_i hw (zMv_nd d5) m2 (d5.2.2.2.2 x (List.mem_of_getElem? m2)) hp
          rw [r4]
          constructor
          · rintro ⟨c1, c2, c3⟩
            have c4 := i.mpr c3
            exact ⟨by omega, by omega⟩
          · rintro ⟨c1, c2⟩
            exact ⟨r2, r3, i.mp (by omega)⟩
theorem zpfx {L L' : Nat → Int} {M m : Nat} (h : ∀ k, k < M → zVl (L k)) (h' : ∀ k, k < m → zVl (L' k)) (hM : M ≤ 12) (hm : m ≤ 12) : (zpk L' m 12 ≤ zpk L M 12 ∧ zpk L M 12 < zpk L' m 12 + 37 ^ (12 - m)) ↔ (m ≤ M ∧ ∀ k, k < m → L k = L' k) := by
  have e1 : zpk L M 12 / 37 ^ (12 - m) = zpk L M m := by
    have q := zpk_dv h (12 - m) m
    rw [show m + (12 - m) = 12 from by omega] at q
    exact q
  have e2 : zpk L' m 12 = zpk L' m m * 37 ^ (12 - m) := by
    have z := zpk_z (L := L') (m := m) (12 - m)
    rw [show m + (12 - m) = 12 from by omega] at z
    exact z
  have pos : (0 : Int) < 37 ^ (12 - m) := by have := (zp37 (12 - m) (by omega)).1; omega
  generalize (37 : Int) ^ (12 - m) = P at e1 e2 pos ⊢
  have key : (zpk L' m 12 ≤ zpk L M 12 ∧ zpk L M 12 < zpk L' m 12 + P) ↔ zpk L M m = zpk L' m m := by
    rw [← e1, e2]
    generalize zpk L M 12 = y
    generalize zpk L' m m = A
    have l1 : A ≤ y / P ↔ A * P ≤ y := Int.le_ediv_iff_mul_le pos
    have l2 : y / P < A + 1 ↔ y < (A + 1) * P := Int.ediv_lt_iff_lt_mul pos
    rw [Int.add_mul, Int.one_mul] at l2
    constructor
    · rintro ⟨c1, c2⟩
      have := l1.mpr c1
      have := l2.mpr c2
      omega
    · intro c
      exact ⟨l1.mp (by omega), l2.mp (by omega)⟩
  rw [key]
  constructor
  · intro e
    have i := zpk_i h h' m e
    have hle : m ≤ M := by
      rcases Nat.lt_or_ge M m with c | c
      · have := (i M c).1
        omega
      · exact c
    exact ⟨hle, fun k hk => (i k hk).2 (by omega)⟩
  · rintro ⟨c1, c2⟩
    exact zpk_q (k := m) (fun j hj => ⟨⟨fun _ => hj, fun _ => by omega⟩, fun _ => c2 j hj⟩) m (Nat.le_refl m)
theorem zbeg {v : Nat} {mm lo hi : Int} {ld : Int} {k0 : Nat} (D : zDcs s n ss ns sg ssz sn g sz W V) (hl : zRk s n (zpk (zLt f a) k0 12) lo lo) (hh : zRk s n (zpk (zLt f a) k0 12 + 37 ^ (12 - k0)) hi hi) (hk : zRaw f nt a k0) (ha : 0 ≤ a) (hw : zWdq f nt a wd ws (v : Int)) (hi2 : ∀ w : Nat, (w : Int) < W → ((ib (mm.toNat + w)).toInt ≠ 0 ↔ zBgb g sz wd ws w v)) (m0 : 0 ≤ mm) (hrw : zRw ta b t V) {q : Nat} (hq : q < 1024) : (∃ r : Nat, lo ≤ (r : Int) ∧ (r : Int) < hi ∧ (r : Int) < n ∧ t q = (s r).toInt) ↔ (0 < (ta (b + q)).toInt ∧ (ib (mm + (ta (b + q)).toInt - 1).toNat).toInt ≠ 0) := by
  obtain ⟨d1, d2, d3, d4, d5, d6⟩ := D
  have hl := hl d1
  have hh := hh d1
  obtain ⟨k1, w1, w2, w3⟩ := hw
  have ek := zRaw_u hk w1
  subst ek
  have hv : ∀ k, k < k0 → zVl (zLt f a k) := fun k hk' => zLt_v (hk.2.1 k hk') ha
  have inV : (∃ r : Nat, lo ≤ (r : Int) ∧ (r : Int) < hi ∧ (r : Int) < n ∧ t q = (s r).toInt) ↔ (t q ∈ V ∧ zpk (zLt f a) k0 12 ≤ t q ∧ t q < zpk (zLt f a) k0 12 + 37 ^ (12 - k0)) := by
    constructor
    · rintro ⟨r, r1, r2, r3, r4⟩
      refine ⟨(d6 _).mpr ⟨r, r3, r4.symm⟩, ?_, ?_⟩
      · rw [r4]; exact hl.2 r r1 r3
      · rw [r4]; exact hh.1 r r2
    · rintro ⟨c1, c2, c3⟩
      obtain ⟨r, r3, r4⟩ := (d6 _).mp c1
      refine ⟨r, ?_, ?_, r3, r4.symm⟩
      · rcases Int.lt_or_le (r : Int) lo with c | c
        · have := hl.1 r c; omega
        · exact c
      · rcases Int.lt_or_le (r : Int) hi with c | c
        · exact c
        · have := hh.2 r c r3; omega
  rw [inV]
  rcases hrw q hq with ⟨z1, z2⟩ | ⟨j, z1, z2, z3⟩
  · constructor
    · rintro ⟨c1, -⟩
      exact absurd z2 (d5.2.2.2.2 _ c1)
    · rintro ⟨c1, -⟩
      omega
  · have hj : (j : Int) < W := by
      have l := d5.2.1
      have := (List.getElem?_eq_some_iff.mp z1).1
      omega
    have ev : zkw g sz j = t q := by
      have e := d5.2.2.2.1 j hj
      rw [z1] at e
      exact (Option.some.inj e).symm
    have z1' : V[j]? = some (zkw g sz j) := by rw [ev]; exact z1
    have ms := d5.1.1 j hj
    rw [z2, show (mm + ((j : Int) + 1) - 1).toNat = mm.toNat + j from by omega, hi2 j hj]
    have pf := zpfx (L := fun k => (g (12 * j + k)).toInt) (L' := zLt f a) (M := (sz j).toInt.toNat) (m := k0) (fun k hk' => ms.2.2 k (by omega)) hv (by omega) hk.1
    rw [← ev]
    unfold zkw
    constructor
    · rintro ⟨-, c⟩
      obtain ⟨p1, p2⟩ := pf.mp c
      have w2' : (ws v).toInt = (k0 : Int) := w2
      refine ⟨by omega, by omega, fun k hk' => ?_⟩
      have hk2 : k < k0 := by omega
      apply zeqi.mpr
      have y : (wd (12 * v + k)).toInt = zLt f a k := w3 k hk2
      rw [y]
      exact p2 k hk2
    · rintro ⟨-, c1, c2⟩
      have w2' : (ws v).toInt = (k0 : Int) := w2
      refine ⟨List.mem_of_getElem? z1', pf.mpr ⟨by omega, fun k hk' => ?_⟩⟩
      have y : (wd (12 * v + k)).toInt = zLt f a k := w3 k hk'
      have c := c2 k (by omega)
      rw [← y, ← c]
end ZLF
theorem zphr_i {ta me : Nat → Int32} {b fr p un : Int} {m : Int} : ∀ (i : Nat) (k s : Int), m - k = (i : Int) → (s = 0 ∨ s = 1) → (zphr ta me b fr p un i k s = 1 ↔ ((s = 1 ∨ ∃ y : Int, k ≤ y ∧ y < m ∧ (me (fr + y).toNat).toInt ≠ -1) ∧ ∀ y : Int, k ≤ y → y < m → (me (fr + y).toNat).toInt ≠ -1 → (me (fr + y).toNat).toInt ≠ 0 ∧ p + y < un ∧ (ta (b + p + y).toNat).toInt = (me (fr + y).toNat).toInt)) := by
  intro i
  induction i with
  | zero =>
    intro k s hk hs
    show s = 1 ↔ _
    exact ⟨fun c => ⟨Or.inl c, fun y y1 y2 => by omega⟩, fun c => by rcases c.1 with c | ⟨y, y1, y2, _⟩; exact c; omega⟩
  | succ i ih =>
    intro k s hk hs
    have ei : i + 1 = (m - k).toNat := by omega
    have ei2 : (m - (k + 1)).toNat = i := by omega
    by_cases hm : (me (fr + k).toNat).toInt = -1
    · rw [ei, zphr_a (by omega) hm, ei2, ih (k + 1) s (by omega) hs]
      constructor
      · rintro ⟨c1, c2⟩
        refine ⟨c1.imp id (fun ⟨y, y1, y2, y3⟩ => ⟨y, by omega, y2, y3⟩), fun y y1 y2 y3 => ?_⟩
        by_cases e : y = k
        · rw [e] at y3; exact absurd hm y3
        · exact c2 y (by omega) y2 y3
      · rintro ⟨c1, c2⟩
        refine ⟨c1.imp id (fun ⟨y, y1, y2, y3⟩ => ⟨y, ?_, y2, y3⟩), fun y y1 y2 y3 => c2 y (by omega) y2 y3⟩
        rcases Int.lt_or_le k y with c | c
        · omega
        · rw [show y = k from by omega] at y3; exact absurd hm y3
    · by_cases hc : (me (fr + k).toNat).toInt = 0 ∨ un ≤ p + k ∨ (ta (b + p + k).toNat).toInt ≠ (me (fr + k).toNat).toInt
      · rw [ei, zphr_b (by omega) hm hc]
        refine ⟨fun c => by omega, fun ⟨_, c⟩ => ?_⟩
        have q := c k (by omega) (by omega) hm
        rcases hc with hc | hc | hc
        · exact absurd hc q.1
        · omega
        · exact absurd q.2.2 hc
      · rw [ei, zphr_c (by omega) hm hc, ei2, ih (k + 1) 1 (by omega) (Or.inr rfl)]
        constructor
        · rintro ⟨_, c2⟩
          refine ⟨Or.inr ⟨k, by omega, by omega, hm⟩, fun y y1 y2 y3 => ?_⟩
          by_cases e : y = k
          · rw [e]
            refine ⟨fun c => hc (Or.inl c), ?_, ?_⟩
            · rcases Int.lt_or_le (p + k) un with c | c
              · exact c
              · exact absurd (Or.inr (Or.inl c)) hc
            · exact Decidable.byContradiction (fun c => hc (Or.inr (Or.inr c)))
          · exact c2 y (by omega) y2 y3
        · rintro ⟨_, c2⟩
          exact ⟨Or.inl rfl, fun y y1 y2 y3 => c2 y (by omega) y2 y3⟩
theorem zts_x {f : Nat → Int32} {p : Int} : ∀ (N : Nat) (i : Int), 0 ≤ i → i < zqts f p N → ∃ k : Nat, k < N ∧ zqts f p k = i ∧ zqts f p (k + 1) = i + 1 := by
  intro N
  induction N with
  | zero => intro i h0 h1; have : zqts f p 0 = 0 := rfl; omega
  | succ N ih =>
    intro i h0 h1
    by_cases c : i < zqts f p N
    · obtain ⟨k, k1, k2, k3⟩ := ih i h0 c
      exact ⟨k, by omega, k2, k3⟩
    · have e : zqts f p (N + 1) = zqts f p N + _ := rfl
      refine ⟨N, by omega, ?_, ?_⟩
      · split at e <;> omega
      · split at e <;> omega
section ZPL
variable {s ss : Nat → Int64} {sg ssz g sz wd ws me ta f lw lfr lmn lto ib ph kd lo hi sd : Nat → Int32} {n ns sn W x r m a nt d fr pw mn l h tt bd mk : Int} {V : List Int} {t : Nat → Int} {b : Nat}
theorem zphl {q : Nat} (D : zDcs s n ss ns sg ssz sn g sz W V) (hrw : zRw ta b t V) (h1 : ∀ p : Nat, t p ≠ 0 → p < 1024) (hper : ∀ i : Int, 0 ≤ i → i < mn → ∃ x : Int, zWnt s n ss ns x (zPw ph pw (l + i)) ∧ zMnt sg ssz sn V x (me (fr + i).toNat).toInt) (m0 : 0 ≤ mn) (hh : h = l + mn) : zLph s n ph pw t l h q ↔ zphr ta me (b : Int) fr (q : Int) (zun (q : Int)) mn.toNat 0 0 = 1 := by
  rw [zphr_i (m := mn) mn.toNat 0 0 (by omega) (Or.inl rfl)]
  have hD := D
  obtain ⟨d1, d2, d3, d4, d5, d6⟩ := D
  have hun : (q < 512 ∧ zun (q : Int) = 512) ∨ (512 ≤ q ∧ zun (q : Int) = 1024) := by
    rcases Nat.lt_or_ge q 512 with c | c
    · exact Or.inl ⟨c, zun_a (by omega)⟩
    · exact Or.inr ⟨c, zun_b (by omega)⟩
  have one : ∀ i : Int, 0 ≤ i → i < mn → (zPw ph pw (l + i) = -2 ↔ (me (fr + i).toNat).toInt = -1) ∧ ((0 ≤ zPw ph pw (l + i) ∧ zPw ph pw (l + i) < n ∧ (q < 512 → (q : Int) + i < 512) ∧ t (q + i.toNat) = (s (zPw ph pw (l + i)).toNat).toInt) ↔ ((me (fr + i).toNat).toInt ≠ -1 ∧ (me (fr + i).toNat).toInt ≠ 0 ∧ (q : Int) + i < zun (q : Int) ∧ (ta ((b : Int) + (q : Int) + i).toNat).toInt = (me (fr + i).toNat).toInt)) := fun i i0 i1 => by
    obtain ⟨x, x1, x2⟩ := hper i i0 i1
    obtain ⟨w1, w2, w3, w4, w5⟩ := zWrd_a (ta := ta) (b := b) (t := t) hD x1 x2
    refine ⟨w1, ?_⟩
    have w6 := w5 hrw (q + i.toNat)
    rw [show ((b : Int) + (q : Int) + i).toNat = b + (q + i.toNat) from by omega]
    constructor
    · rintro ⟨c1, c2, c3, c4⟩
      have hne : t (q + i.toNat) ≠ 0 := by
        rw [c4]
        exact d5.2.2.2.2 _ ((d6 _).mpr ⟨_, by omega, rfl⟩)
      have hlt := h1 _ hne
      have e := (w6 hlt).mp ⟨c1, c2, c4⟩
      refine ⟨by omega, by omega, ?_, e.2⟩
      rcases hun with ⟨u1, u2⟩ | ⟨u1, u2⟩
      · have := c3 u1; omega
      · omega
    · rintro ⟨c1, c2, c3, c4⟩
      have hlt : q + i.toNat < 1024 := by rcases hun with ⟨u1, u2⟩ | ⟨u1, u2⟩ <;> omega
      have e := (w6 hlt).mpr ⟨by omega, c4⟩
      refine ⟨e.1, e.2.1, fun u => ?_, e.2.2⟩
      rcases hun with ⟨u1, u2⟩ | ⟨u1, u2⟩ <;> omega
  unfold zLph
  constructor
  · rintro ⟨⟨y, y1, y2, y3⟩, c⟩
    refine ⟨Or.inr ⟨y - l, by omega, by omega, fun q0 => y3 ?_⟩, fun i i0 i1 i2 => ?_⟩
    · have o := (one (y - l) (by omega) (by omega)).1
      rw [show l + (y - l) = y from by omega] at o
      exact o.mpr q0
    · have o := one i i0 i1
      have k := c (l + i) (by omega) (by omega) (fun q0 => i2 (o.1.mp q0))
      rw [show l + i - l = i from by omega] at k
      exact (o.2.mp k).2
  · rintro ⟨c0, c⟩
    refine ⟨?_, fun y y1 y2 y3 => ?_⟩
    · rcases c0 with c0 | ⟨i, i0, i1, i2⟩
      · exact absurd c0 (by decide)
      · exact ⟨l + i, by omega, by omega, fun q0 => i2 ((one i i0 i1).1.mp q0)⟩
    · have o := one (y - l) (by omega) (by omega)
      rw [show l + (y - l) = y from by omega] at o
      have i2 : (me (fr + (y - l)).toNat).toInt ≠ -1 := fun q0 => y3 (o.1.mpr q0)
      exact o.2.mpr ⟨i2, c (y - l) (by omega) (by omega) i2⟩
theorem zts_t {k : Nat} {p : Int} (h : zqts f p (k + 1) = zqts f p k + 1) (hp : 0 ≤ p - 1) (hq : ¬ zTok (f (p - 1).toNat).toInt) (hn : p + k < nt) : zStt f nt (p + k) := by
  have e : zqts f p (k + 1) = zqts f p k + (if ((48 ≤ (f (p + k).toNat).toInt ∧ (f (p + k).toNat).toInt ≤ 57) ∨ (97 ≤ (f (p + k).toNat).toInt ∧ (f (p + k).toNat).toInt ≤ 122) ∨ (65 ≤ (f (p + k).toNat).toInt ∧ (f (p + k).toNat).toInt ≤ 90)) ∧ (k = 0 ∨ ¬ ((48 ≤ (f (p + k - 1).toNat).toInt ∧ (f (p + k - 1).toNat).toInt ≤ 57) ∨ (97 ≤ (f (p + k - 1).toNat).toInt ∧ (f (p + k - 1).toNat).toInt ≤ 122) ∨ (65 ≤ (f (p + k - 1).toNat).toInt ∧ (f (p + k - 1).toNat).toInt ≤ 90))) then 1 else 0) := rfl
  split at e
  · rename_i c
    refine ⟨⟨by omega, hn, c.1⟩, fun o => ?_⟩
    have o3 := o.2.2
    rcases c.2 with c2 | c2
    · rw [c2, show p + ((0 : Nat) : Int) - 1 = p - 1 from by omega] at o3
      exact hq o3
    · exact c2 o3
  · omega
theorem zphm {k : Int} (D : zDcs s n ss ns sg ssz sn g sz W V) (hc : zZc f nt s n ss ns 3 a l h ph) (hm : zWmq f nt 3 a wd ws fr mn k) (hme : ∀ w : Nat, fr ≤ (w : Int) → (w : Int) < fr + mn → zMea sg ssz sn g sz W wd ws me w) (a0 : 0 ≤ a) (f0 : 0 ≤ fr) (l0 : 0 ≤ l) (hp : h ≤ pw) : 0 ≤ mn ∧ h = l + mn ∧ ∀ i : Int, 0 ≤ i → i < mn → ∃ x : Int, zWnt s n ss ns x (zPw ph pw (l + i)) ∧ zMnt sg ssz sn V x (me (fr + i).toNat).toInt := by
  obtain ⟨q34, c, c1, c2, c3⟩ := hc.2.2.1 rfl
  obtain ⟨c', e1, e2, e3⟩ := hm.2.2.1 rfl
  have ec := zQc_u (by omega) c1 e1
  subst ec
  have hz := zts_p (f := f) (p := a + 1) (k := (c - (a + 1)).toNat)
  refine ⟨by omega, by omega, fun i i0 i1 => ?_⟩
  obtain ⟨k, k1, k2, k3⟩ := zts_x (c - (a + 1)).toNat i i0 (by rw [← e2]; exact i1)
  have hq : ¬ zTok (f (a + 1 - 1).toNat).toInt := by
    rw [show a + 1 - 1 = a from by omega, q34.2]
    unfold zTok
    omega
  have hcn := c1.2.1
  have st := zts_t (f := f) (nt := nt) (p := a + 1) (k := k) (by rw [k3, k2]) (by omega) hq (by omega)
  have u1 := c3 (a + 1 + k) (by omega) (by omega) st
  have u2 := e3 (a + 1 + k) (by omega) (by omega) st
  rw [show (a + 1 + (k : Int) - (a + 1)).toNat = k from by omega, k2] at u1 u2
  obtain ⟨m, m1, m2⟩ := u1
  obtain ⟨m', n1, n2, n3, n4, n5⟩ := zWdl_v u2 (by omega)
  have em := zRaw_u m1 n1
  subst em
  refine ⟨zWrd f (a + 1 + k) m, ?_, ?_⟩
  · show zWnt s n ss ns (zWrd f (a + 1 + k) m) (zPw ph pw (l + i))
    unfold zPw
    rw [if_pos ⟨by omega, by omega⟩]
    exact m2
  · rw [← n2]
    exact zMea_v (hme _ (by omega) (by omega)) n3 n4 n5 D.2.2.2.1 D.2.2.2.2.1
def zLfE (s : Nat → Int64) (n : Int) (kd lo hi ph sd : Nat → Int32) (pw : Int) (t : Nat → Int) : Int → Nat → Prop := fun x p => p < 832 ∧ zLcc s n kd lo hi ph sd pw t x.toNat p
theorem zand3 {y : Int32} (h0 : 0 ≤ y.toInt) (h3 : y.toInt ≤ 3) : ((y &&& 1).toInt ≠ 0 ↔ y.toInt = 1 ∨ y.toInt = 3) ∧ ((y &&& 2).toInt ≠ 0 ↔ y.toInt = 2 ∨ y.toInt = 3) := by
  have a1 := zan1 (x := y) (y := y &&& 1) rfl h0 h3
  have a2 := zan2 (x := y) (y := y &&& 2) rfl h0 h3
  omega
end ZPL
section ZLG
variable {s ss : Nat → Int64} {sg ssz g sz wd ws me ta f cd cd2 wh lf rt nm lw lfr lmn lto ib ph kd lo hi sd ct : Nat → Int32} {n ns sn W nt pw lv len len2 leaves wants tt bd mk : Int} {V K : List Int} {t : Nat → Int} {d : Nat}
theorem zMkv_u {a v w v' w' : Int} (ha : 0 ≤ a) (h : zMkv f nt a v w) (h' : zMkv f nt a v' w') : v = v' ∧ w = w' := by
  obtain ⟨p, q, p2, q2, a1, a2, a3, a4⟩ := h
  obtain ⟨p', q', p2', q2', b1, b2, b3, b4⟩ := h'
  have e1 := zBl_u (by omega) a1 b1
  subst e1
  have hp := a1.1
  have e2 := zIni_u (by omega) a2 b2
  have e3 := Option.some.inj e2
  have e4 : v = v' := congrArg Prod.fst e3
  have e5 : q = q' := congrArg Prod.snd e3
  subst e5
  have hq := zIni_p (by omega) a2
  have e6 := zBl_u (by omega) a3 b3
  subst e6
  have hp2 := a3.1
  have e7 := Option.some.inj (zIni_u (by omega) a4 b4)
  exact ⟨e4, congrArg Prod.fst e7⟩
theorem zPrd_b {p : Nat} (h : zPrd tt bd p) (t5 : tt ≤ 512) (b5 : bd ≤ 512) : p < 1024 := by rcases h with h | h <;> omega
theorem zcor_p {x q : Nat} (D : zDcs s n ss ns sg ssz sn g sz W V) (hz : ∀ p : Nat, t p ≠ 0 → zPrd tt bd p) (h8 : ∀ p : Nat, t p ≠ 0 → p < 832) (t5 : tt ≤ 512) (h : ((kd x).toInt = 3 ∧ zLph s n ph pw t (lo x).toInt (hi x).toInt q) ∨ ((kd x).toInt ≠ 3 ∧ (kd x).toInt ≠ 4 ∧ ∃ r : Nat, (lo x).toInt ≤ (r : Int) ∧ (r : Int) < (hi x).toInt ∧ (r : Int) < n ∧ t q = (s r).toInt)) : q < 832 ∧ zPrd tt bd q := by
  obtain ⟨d1, d2, d3, d4, d5, d6⟩ := D
  have nz : ∀ r : Nat, (r : Int) < n → (s r).toInt ≠ 0 := fun r hr => d5.2.2.2.2 _ ((d6 _).mpr ⟨r, hr, rfl⟩)
  rcases h with ⟨_, ⟨y, y1, y2, y3⟩, c⟩ | ⟨_, _, r, r1, r2, r3, r4⟩
  · obtain ⟨c1, c2, c3, c4⟩ := c y y1 y2 y3
    have hne : t (q + (y - (lo x).toInt).toNat) ≠ 0 := by rw [c4]; exact nz _ (by omega)
    have h1 := h8 _ hne
    refine ⟨by omega, ?_⟩
    rcases hz _ hne with z | z
    · exact Or.inl (by omega)
    · rcases Nat.lt_or_ge q 512 with c | c
      · have := c3 c; omega
      · exact Or.inr ⟨c, by omega⟩
  · have hne : t q ≠ 0 := by rw [r4]; exact nz r r3
    exact ⟨h8 q hne, hz q hne⟩
theorem zcor_m {x : Nat} {a k : Int} {q : Nat} (D : zDcs s n ss ns sg ssz sn g sz W V) (hrw : zRw ta (1024 * d) t V) (h1 : ∀ p : Nat, t p ≠ 0 → p < 1024) (k1 : 1 ≤ k) (k3 : k ≤ 3) (a0 : 0 ≤ a) (hkd : (kd x).toInt = k) (hlw : (lw x).toInt = k) (hpw : k = 3 → 0 ≤ (lo x).toInt ∧ (hi x).toInt ≤ pw) (hc : zZc f nt s n ss ns k a (lo x).toInt (hi x).toInt ph) (f0 : 0 ≤ (lfr x).toInt) (f1 : (lfr x).toInt + (lmn x).toInt ≤ wants) (hm : zWmq f nt k a wd ws (lfr x).toInt (lmn x).toInt (lto x).toInt) (hMe : zMeI sg ssz sn g sz W wd ws me wants) (hIb : k = 2 → ∀ w : Nat, (w : Int) < W → ((ib (400 * x + w)).toInt ≠ 0 ↔ zBgb g sz wd ws w (lfr x).toInt.toNat)) (hq : q < 1024) : (((kd x).toInt = 3 ∧ zLph s n ph pw t (lo x).toInt (hi x).toInt q) ∨ ((kd x).toInt ≠ 3 ∧ (kd x).toInt ≠ 4 ∧ ∃ r : Nat, (lo x).toInt ≤ (r : Int) ∧ (r : Int) < (hi x).toInt ∧ (r : Int) < n ∧ t q = (s r).toInt)) ↔ zMt ta lw lfr lmn me ib (x : Int) (d : Int) (q : Int) = 1 := by
  have ix : (1024 * (d : Int) + (q : Int)).toNat = 1024 * d + q := by omega
  have xn : ((x : Nat) : Int).toNat = x := by omega
  have i10 : ∀ P : Prop, [Decidable P] → ((if P then (1 : Int) else 0) = 1 ↔ P) := fun P _ => by
    by_cases c : P
    · rw [if_pos c]; exact ⟨fun _ => c, fun _ => rfl⟩
    · rw [if_neg c]; exact ⟨fun e => absurd e (by decide), fun e => absurd e c⟩
  have hk : k = 1 ∨ k = 2 ∨ k = 3 := by omega
  rcases hk with c | c | c
  · obtain ⟨⟨m, m1, m2⟩, hh⟩ := hc.1 c
    obtain ⟨e1, e2⟩ := hm.1 c
    obtain ⟨m', n1, n2, n3, n4, n5⟩ := zWdl_v e2 a0
    have em := zRaw_u m1 n1
    subst em
    have v := zMea_v (hMe (lfr x).toInt.toNat (by omega)) n3 n4 n5 D.2.2.2.1 D.2.2.2.2.1
    rw [n2] at v
    have w := (zWrd_a (ta := ta) (b := 1024 * d) (t := t) D m2 v).2.2.2.2 hrw q hq
    unfold zMt
    rw [xn, if_pos (by omega), ix, i10, ← w]
    constructor
    · rintro (h | ⟨_, _, r, r1, r2, r3, r4⟩)
      · omega
      · have er : (lo x).toInt.toNat = r := by omega
        exact ⟨by omega, by omega, by rw [er]; exact r4⟩
    · rintro ⟨z1, z2, z3⟩
      exact Or.inr ⟨by omega, by omega, (lo x).toInt.toNat, by omega, by omega, by omega, z3⟩
  · obtain ⟨m, m1, m2, m3⟩ := hc.2.1 c
    obtain ⟨e1, e2⟩ := hm.2.1 c
    have fv : (((lfr x).toInt.toNat : Nat) : Int) = (lfr x).toInt := by omega
    rw [← fv] at e2
    have w := zbeg (mm := 400 * (x : Int)) (ib := ib) (ld := 0) D m2 m3 m1 a0 e2 (fun w hw => by rw [show (400 * (x : Int)).toNat + w = 400 * x + w from by omega]; exact hIb c w hw) (by omega) hrw hq
    unfold zMt
    rw [xn, if_neg (by omega), if_pos (by omega), ix, i10, ← w]
    constructor
    · rintro (h | ⟨_, _, h⟩)
      · omega
      · exact h
    · exact fun h => Or.inr ⟨by omega, by omega, h⟩
  · subst c
    obtain ⟨l0, l1⟩ := hpw rfl
    obtain ⟨z1, z2, z3⟩ := zphm (me := me) (pw := pw) D hc hm (fun w w1 w2 => hMe w (by omega)) a0 f0 l0 l1
    have w := zphl (q := q) D hrw h1 z3 z1 z2
    unfold zMt
    rw [xn, if_neg (by omega), if_neg (by omega), if_pos (by omega), show (1024 * (d : Int)) = ((1024 * d : Nat) : Int) from by omega, ← w]
    constructor
    · rintro (h | ⟨h, _⟩)
      · exact h.2
      · omega
    · exact fun h => Or.inl ⟨by omega, h⟩
theorem zLft_i (hCe : zCe (zqa cd kd lo hi sd ph ct, lv, pw, zZc f nt s n ss ns) len K) (hCm : zCm (zma cd2 wh lf rt nm lw lfr lmn lto wd ws, leaves, wants, zWmq f nt) len2 K) (hW : zWl K) (D : zDcs s n ss ns sg ssz sn g sz W V) (hrw : zRw ta (1024 * d) t V) (hMe : zMeI sg ssz sn g sz W wd ws me wants) (hIb : zIbE g sz W wd ws lw lfr ib leaves) (hz : ∀ p : Nat, t p ≠ 0 → zPrd tt bd p) (h8 : ∀ p : Nat, t p ≠ 0 → p < 832) (t5 : tt ≤ 512) (b5 : bd ≤ 512) : zLft K (zLfE s n kd lo hi ph sd pw t) (zLvc s n kd lo hi ph sd pw t mk) (fun p => zMq ta lw lfr lmn me ib (d : Int) (p : Int)) (zPrd tt bd) lfr lto mk := fun e he => by
  obtain ⟨e0, ok⟩ := hCe.2.2.1 e he
  obtain ⟨i, hi', ei⟩ := List.mem_iff_getElem.mp he
  have ei2 : K.getD i 0 = e := by rw [← ei]; simp [hi']
  have nd := hCm.2.2 i hi'
  have wf := hW i hi'
  rw [ei2] at nd wf
  have a0 : 0 ≤ e / 1000000 % 1000 := by omega
  have x0 : (((e % 1000).toNat : Nat) : Int) = e % 1000 := by omega
  have h1 : ∀ p : Nat, t p ≠ 0 → p < 1024 := fun p hp => zPrd_b (hz p hp) t5 b5
  refine ⟨fun c => ?_, fun c1 c2 => ?_⟩
  · obtain ⟨_, u2, _, _, u5⟩ := ok (by omega) (by omega)
    obtain ⟨v1, v2, v3, v4⟩ := nd.2.2.2.2.2 (by omega)
    have z1 : zMkv f nt (e / 1000000 % 1000) (lo (e % 1000).toNat).toInt (hi (e % 1000).toNat).toInt := (u5 ph (fun _ _ _ _ => rfl)).2.2.2 c
    have z2 : zMkv f nt (e / 1000000 % 1000) (lfr (e % 1000).toNat).toInt (lto (e % 1000).toNat).toInt := (v4 wd ws (fun _ _ _ _ => ⟨rfl, fun _ _ => rfl⟩)).2.2.2 c
    have q := zMkv_u a0 z1 z2
    have kk : (kd (e % 1000).toNat).toInt = 4 := by have u2' : (kd (e % 1000).toNat).toInt = e / 1000 % 1000 := u2; omega
    rw [← q.1, ← q.2]
    unfold zLvc
    constructor
    · rintro (h | h)
      · exact h.2
      · exact absurd kk h.1
    · exact fun h => Or.inl ⟨kk, h⟩
  · obtain ⟨u1, u2, u3, u4, u5⟩ := ok c1 (by omega)
    obtain ⟨v1, v2, v3, v4⟩ := nd.2.2.2.2.2 (by omega)
    have u2' : (kd (e % 1000).toNat).toInt = e / 1000 % 1000 := u2
    have u3' : (sd (e % 1000).toNat).toInt = e / 1000000000 % 4 := u3.1
    have u4' : e / 1000 % 1000 = 3 → 0 ≤ (lo (e % 1000).toNat).toInt ∧ (hi (e % 1000).toNat).toInt ≤ pw := u4
    have z1 : zZc f nt s n ss ns (e / 1000 % 1000) (e / 1000000 % 1000) (lo (e % 1000).toNat).toInt (hi (e % 1000).toNat).toInt ph := u5 ph (fun _ _ _ _ => rfl)
    have v1' : e % 1000 < leaves := v1
    have v2' : (lw (e % 1000).toNat).toInt = e / 1000 % 1000 := v2
    have v3' : 0 ≤ (lfr (e % 1000).toNat).toInt ∧ (lfr (e % 1000).toNat).toInt + (lmn (e % 1000).toNat).toInt ≤ wants := v3 (by omega)
    have z2 : zWmq f nt (e / 1000 % 1000) (e / 1000000 % 1000) wd ws (lfr (e % 1000).toNat).toInt (lmn (e % 1000).toNat).toInt (lto (e % 1000).toNat).toInt := v4 wd ws (fun _ _ _ _ => ⟨rfl, fun _ _ => rfl⟩)
    have w4 := wf.2.2.2 c2
    have sid := zand3 (y := sd (e % 1000).toNat) (by omega) (by omega)
    have cor := fun (q : Nat) (hq : q < 1024) => zcor_m (x := (e % 1000).toNat) (me := me) (ib := ib) (ta := ta) (d := d) (q := q) D hrw h1 c1 c2 a0 u2' v2' u4' z1 v3'.1 v3'.2 z2 hMe (fun k2 => hIb (e % 1000).toNat (by omega) (by omega)) hq
    refine ⟨fun p => ?_, ?_⟩
    · unfold zLfE zLcc zMq zsid
      rw [← u3']
      constructor
      · rintro ⟨p8, b1, b2, b3⟩
        have pr := zcor_p D hz h8 t5 b3
        have mt := (cor p (by omega)).mp b3
        rw [x0] at mt
        exact ⟨pr.2, ⟨fun c => sid.1.mp (b1 c), fun c => sid.2.mp (b2 c)⟩, mt⟩
      · rintro ⟨p1, ⟨b1, b2⟩, mt⟩
        have p4 := zPrd_b p1 t5 b5
        rw [← x0] at mt
        have b3 := (cor p p4).mpr mt
        have pr := zcor_p D hz h8 t5 b3
        exact ⟨pr.1, fun c => sid.1.mpr (b1 c), fun c => sid.2.mpr (b2 c), b3⟩
    · unfold zLvc zLfE
      constructor
      · rintro (h | ⟨_, q, q1, q2⟩)
        · omega
        · exact ⟨q, q1, q2⟩
      · rintro ⟨q, q1, q2⟩
        exact Or.inr ⟨by omega, q, q1, q2⟩
end ZLG
def zHtq (nums : Nat → Int32) (fd : Int) (hits : Nat → Int32) (fd2 : Int) : Prop := fd = fd2 ∧ ∀ j : Nat, (j : Int) < fd → (nums j).toInt = (hits j).toInt
section ZHT
variable {s ss : Nat → Int64} {sg ssz g sz wd ws me ta f cd cd2 wh lf rt nm lw lfr lmn lto ib ph kd lo hi sd ct : Nat → Int32} {n ns sn W nt pw lv lvx len cn leaves wants tt bd mk : Int} {V K : List Int} {t : Nat → Int} {d : Nat}
theorem zBth_i {q : zQs} {sM : zqMs} (tb : zqTy f nt) (hn : nt ≤ 600) (hc : zyT f nt len q) (hm : zxR f nt cn sM) : (len = 0 ∧ cn = 0 ∧ q.2.1 ≤ 0) ∨ ∃ K lvx, zSem [] K 0 lvx ∧ zCe q len K ∧ zCm sM cn K := by
  obtain ⟨K, k1, k2⟩ := hc tb
  obtain ⟨K', l1, l2⟩ := hm tb
  have e := zPar_u k1 l1
  subst e
  rcases zPar_z hn k1 with c | ⟨lvx, c⟩
  · subst c
    refine Or.inl ⟨k2.1, l2.1, ?_⟩
    rcases Int.lt_or_le 0 q.2.1 with c | c
    · obtain ⟨e, e1, _⟩ := k2.2.2.2 0 (by omega)
      cases e1
    · exact c
  · exact Or.inr ⟨K, lvx, c, k2, l2⟩
theorem zDocV {S : Nat → Nat → Prop} {V' : Nat → Prop} (hs : zSem [] K 0 lvx) (hCe : zCe (zqa cd kd lo hi sd ph ct, lv, pw, zZc f nt s n ss ns) len K) (hCm : zCm (zma cd2 wh lf rt nm lw lfr lmn lto wd ws, leaves, wants, zWmq f nt) cn K) (D : zDcs s n ss ns sg ssz sn g sz W V) (hrw : zRw ta (1024 * d) t V) (hMe : zMeI sg ssz sn g sz W wd ws me wants) (hIb : zIbE g sz W wd ws lw lfr ib leaves) (hz : ∀ p : Nat, t p ≠ 0 → zPrd tt bd p) (h8 : ∀ p : Nat, t p ≠ 0 → p < 832) (t5 : tt ≤ 512) (b5 : bd ≤ 512) (hS : ∀ p : Nat, zPrd tt bd p → zSae wh lf nm (zMq ta lw lfr lmn me ib (d : Int) (p : Int)) (p : Int) cn (S p)) (hV : zVe wh lf rt nm lfr lto S tt bd mk cn V') : (zMtc s n kd lo hi ph sd pw cd len t mk ↔ V' (cn - 1).toNat) ∧ ∀ i : Nat, i < K.length → zQp K cd (zLvc s n kd lo hi ph sd pw t mk) (zNv s n kd lo hi ph sd pw t) i := by
  have hW := hs.1.2.2.1 zWl_0
  have hl := zLft_i (mk := mk) hCe hCm hW D hrw hMe hIb hz h8 t5 b5
  have hc : zCd cd (K.length : Int) K := by
    have h1 := hCe.2.1
    rw [hCe.1] at h1
    exact h1
  have hnv : ∀ l x : Int, zNv s n kd lo hi ph sd pw t l x ↔ ∃ p q, zLfE s n kd lo hi ph sd pw t (l - 1) p ∧ zLfE s n kd lo hi ph sd pw t l q ∧ znr x p q := fun l x => by
    unfold zNv zLfE
    exact ⟨fun ⟨p, q, h1, h2, h3, h4, h5⟩ => ⟨p, q, ⟨h1, h3⟩, ⟨h2, h4⟩, h5⟩, fun ⟨p, q, ⟨h1, h3⟩, ⟨h2, h4⟩, h5⟩ => ⟨p, q, h1, h2, h3, h4, h5⟩⟩
  have hE := zEnv_x (s := (zma cd2 wh lf rt nm lw lfr lmn lto wd ws, leaves, wants, zWmq f nt)) (M := fun p => zMq ta lw lfr lmn me ib (d : Int) (p : Int)) (mk := mk) hCm hW hc hnv hS hV t5 hl
  obtain ⟨⟨a1, a2⟩, a3⟩ := zPar_v hs hE
  refine ⟨?_, a3⟩
  have e1 := hCe.1
  have e2 := hCm.1
  unfold zMtc
  rw [show len.toNat = K.length from by omega, show (cn - 1).toNat = K.length - 1 from by omega]
  exact ⟨fun h => a2.mp h.2, fun h => ⟨a1, a2.mpr h⟩⟩
theorem zQcd_i (hs : zSem [] K 0 lvx) (hCe : zCe (zqa cd kd lo hi sd ph ct, lv, pw, zZc f nt s n ss ns) len K) (hCm : zCm (zma cd2 wh lf rt nm lw lfr lmn lto wd ws, leaves, wants, zWmq f nt) cn K) (D : zDcs s n ss ns sg ssz sn g sz W V) (hMe : zMeI sg ssz sn g sz W wd ws me wants) (hIb : zIbE g sz W wd ws lw lfr ib leaves) (l4 : lv ≤ 40) : zQcd cd len kd lv := by
  have hW := hs.1.2.2.1 zWl_0
  have hN := zCm_w hCm hW
  obtain ⟨S, hS⟩ := zS_x (nm := nm) hN (fun p => zMq (fun _ => 0) lw lfr lmn me ib 0 (p : Int))
  obtain ⟨V', hV⟩ := zV_x (nm := nm) (lfr := lfr) (lto := lto) (tt := 0) (bd := 0) (mk := 0) hN S
  have q := (zDocV (t := fun _ => 0) (ta := fun _ => 0) (d := 0) (tt := 0) (bd := 0) (mk := 0) (S := S) (V' := V') hs hCe hCm D (fun k _ => Or.inl ⟨rfl, rfl⟩) hMe hIb (fun p hp => absurd rfl hp) (fun p hp => absurd rfl hp) (by decide) (by decide) (fun p _ => hS p) hV).2
  refine ⟨l4, fun i hil => ?_⟩
  have e1 := hCe.1
  have hi2 : i < K.length := by omega
  have c := hCe.2.1.2 i hi2
  have c' : (cd i).toInt = K.getD i 0 % 1000000 := c
  have wf := hW i hi2
  have qi := q i hi2
  have hm := zgd_m hi2
  generalize K.getD i 0 = e at c' wf hm
  rw [c', show e % 1000000 / 1000 = e / 1000 % 1000 from by omega, show e % 1000000 % 1000 = e % 1000 from by omega]
  refine ⟨fun k => ?_, fun k => ?_⟩
  · have w1 := wf.1
    have ok := (hCe.2.2.1 e hm).2 w1 k
    have ok1 : e % 1000 < lv := ok.1
    exact ⟨by omega, ok1⟩
  · have qk : K.getD i 0 / 1000 % 1000 = 5 := by
      have c2 : K.getD i 0 % 1000000 = (cd i).toInt := c.symm
      omega
    obtain ⟨b1, ⟨e1', m1, m2, m3, m4⟩, ⟨e2', p1, p2, p3, p4⟩⟩ := qi qk
    have ez : (zwk cd (zLvc s n kd lo hi ph sd pw (fun _ => 0) 0) (zNv s n kd lo hi ph sd pw (fun _ => 0)) i).2.2 = zlf cd i := congrArg Prod.snd (zwk_e (cd := cd) (lv := zLvc s n kd lo hi ph sd pw (fun _ => 0) 0) (nv := zNv s n kd lo hi ph sd pw (fun _ => 0)) (lv' := fun _ => True) (nv' := fun _ _ => True) i)
    rw [ez] at b1 m4 p4
    have o1 := (hCe.2.2.1 e1' m1).2 m2 (by omega)
    have o2 := (hCe.2.2.1 e2' p1).2 p2 (by omega)
    have o11 : e1' % 1000 < lv := o1.1
    have o12 : (kd (e1' % 1000).toNat).toInt = e1' / 1000 % 1000 := o1.2.1
    have o22 : (kd (e2' % 1000).toNat).toInt = e2' / 1000 % 1000 := o2.2.1
    rw [m4] at o11 o12
    rw [p4] at o22
    exact ⟨b1, o11, by omega, by omega⟩
theorem zQw_i (hs : zSem [] K 0 lvx) (hCe : zCe (zqa cd kd lo hi sd ph ct, lv, pw, zZc f nt s n ss ns) len K) (hCm : zCm (zma cd2 wh lf rt nm lw lfr lmn lto wd ws, leaves, wants, zWmq f nt) cn K) (D : zDcs s n ss ns sg ssz sn g sz W V) (hMe : zMeI sg ssz sn g sz W wd ws me wants) (p1 : pw ≤ 160) : zQw n kd lo hi ph pw lv := fun a ha hk => by
  obtain ⟨e, e1, e2, e3, e4⟩ := hCe.2.2.2 a ha
  obtain ⟨u1, u2, u3, u4, u5⟩ := (hCe.2.2.1 e e1).2 e2 e3
  obtain ⟨i, hi', ei⟩ := List.mem_iff_getElem.mp e1
  have ei2 : K.getD i 0 = e := by rw [← ei]; simp [hi']
  have nd := hCm.2.2 i hi'
  rw [ei2] at nd
  obtain ⟨v1, v2, v3, v4⟩ := nd.2.2.2.2.2 e3
  have ea : (e % 1000).toNat = a := by omega
  rw [ea] at u2 u4 u5 v3 v4
  have u2' : (kd a).toInt = e / 1000 % 1000 := u2
  have k3 : e / 1000 % 1000 = 3 := by omega
  have u4' : 0 ≤ (lo a).toInt ∧ (hi a).toInt ≤ pw := u4 k3
  have z1 : zZc f nt s n ss ns (e / 1000 % 1000) (e / 1000000 % 1000) (lo a).toInt (hi a).toInt ph := u5 ph (fun _ _ _ _ => rfl)
  have v3' : 0 ≤ (lfr a).toInt ∧ (lfr a).toInt + (lmn a).toInt ≤ wants := v3 (by omega)
  have z2 : zWmq f nt (e / 1000 % 1000) (e / 1000000 % 1000) wd ws (lfr a).toInt (lmn a).toInt (lto a).toInt := v4 wd ws (fun _ _ _ _ => ⟨rfl, fun _ _ => rfl⟩)
  rw [k3] at z1 z2
  obtain ⟨y1, y2, y3⟩ := zphm (me := me) (pw := pw) D z1 z2 (fun w w1 w2 => hMe w (by omega)) (by omega) v3'.1 u4'.1 u4'.2
  refine ⟨u4'.1, by omega, fun y b1 b2 => ?_⟩
  obtain ⟨x, x1, _⟩ := y3 (y - (lo a).toInt) (by omega) (by omega)
  rw [show (lo a).toInt + (y - (lo a).toInt) = y from by omega] at x1
  rcases x1 D.1 D.2.1 with c | ⟨_, c | c⟩
  · exact Or.inl c.2
  · exact Or.inr (Or.inl c.2)
  · exact Or.inr (Or.inr ⟨c.1, c.2.1⟩)
theorem zPst_o {rf : Nat → Option Nat} {rk wn : Nat → Int32} {op : Int} {Q : Int → Prop} (h : zPst rf n rk wn op Q) : zPgO rf rk wn op := by
  obtain ⟨h1, h2, h3, h4, h5, h6⟩ := h
  have q := zct_l (f := wn) 400
  exact ⟨h1, by omega, by omega, fun w hw hne => (h5 w hw).mp hne⟩
end ZHT
def zNm (f : Nat → Int32) (fd p : Int) : Int := if 0 ≤ p ∧ p < fd then (f p.toNat).toInt else -1
theorem zNm_y {f : Nat → Int32} {fd : Int} {P Z : Int32} (h0 : 0 ≤ P.toInt) (h1 : P.toInt < fd) (e : Z = f P.toNatClampNeg) : Z.toInt = zNm f fd P.toInt := by
  unfold zNm
  rw [if_pos ⟨h0, h1⟩, e]
  rfl
theorem zNm_n {f : Nat → Int32} {fd p r : Int} (h : p < 0 ∨ fd ≤ p) (hr : r = -1) : r = zNm f fd p := by
  unfold zNm
  rw [if_neg (by omega)]
  exact hr
theorem zNm_L {nums : Nat → Int32} {fd p : Int} {f f0 : Nat → Int64} {y : Int64} {R : Int32} (ef : f = vp_updL f0 (0 : Int32).toNatClampNeg y) (ey : y = R.toInt64) (h : R.toInt = zNm nums fd p) : (f 0).toInt = zNm nums fd p := by
  have q : f 0 = R.toInt64 := by rw [ef, ← ey]; rfl
  rw [q, Int32.toInt_toInt64]
  exact h
theorem zfl_s {f : Nat → Int32} {s0 : Int32} {i j : Nat} {I : Int32} (hf : ∀ j : Nat, j < i → f j = s0) (hj : j < i + 1) (hI : I.toNatClampNeg = i) : upd f I.toNatClampNeg s0 j = s0 := by
  by_cases c : j = i
  · rw [hI, c, pk_us]
  · rw [hI, pk_un c]
    exact hf j (by omega)
