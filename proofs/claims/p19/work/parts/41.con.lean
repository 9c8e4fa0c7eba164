theorem zix {f : Nat → Int32} {i : Int32} {m : Int} (h : i.toInt = m) : f i.toNatClampNeg = f m.toNat := by subst h; rfl
theorem zTr_0 {wh lf rt nm : Nat → Int32} {nodes lv : Int} (h : nodes ≤ 0) : zTr wh lf rt nm nodes lv := fun i hi => by omega
theorem zLf_0 {wh fr mn : Nat → Int32} {lv : Int} (h : lv ≤ 0) : zLf wh fr mn lv := fun i hi => by omega
def zun (p : Int) : Int := if p < 512 then 512 else 1024
theorem zun_a {p : Int} (h : p < 512) : zun p = 512 := if_pos h
theorem zun_b {p : Int} (h : 512 ≤ p) : zun p = 1024 := if_neg (by omega)
def zphr (ta me : Nat → Int32) (b fr p un : Int) : Nat → Int → Int → Int
  | 0, _, s => s
  | n + 1, k, s => if (me (fr + k).toNat).toInt = -1 then zphr ta me b fr p un n (k + 1) s else if (me (fr + k).toNat).toInt = 0 ∨ un ≤ p + k ∨ (ta (b + p + k).toNat).toInt ≠ (me (fr + k).toNat).toInt then 0 else zphr ta me b fr p un n (k + 1) 1
section ZP
variable {ta me : Nat → Int32} {b fr p un m k s : Int}
theorem zphr_a (h : k < m) (hm : (me (fr + k).toNat).toInt = -1) : zphr ta me b fr p un (m - k).toNat k s = zphr ta me b fr p un (m - (k + 1)).toNat (k + 1) s := by
  rw [show (m - k).toNat = (m - (k + 1)).toNat + 1 by omega]
  exact if_pos hm
theorem zphr_b (h : k < m) (hm : ¬ (me (fr + k).toNat).toInt = -1) (hc : (me (fr + k).toNat).toInt = 0 ∨ un ≤ p + k ∨ (ta (b + p + k).toNat).toInt ≠ (me (fr + k).toNat).toInt) : zphr ta me b fr p un (m - k).toNat k s = 0 := by
  rw [show (m - k).toNat = (m - (k + 1)).toNat + 1 by omega]
  exact (if_neg hm).trans (if_pos hc)
theorem zphr_c (h : k < m) (hm : ¬ (me (fr + k).toNat).toInt = -1) (hc : ¬ ((me (fr + k).toNat).toInt = 0 ∨ un ≤ p + k ∨ (ta (b + p + k).toNat).toInt ≠ (me (fr + k).toNat).toInt)) : zphr ta me b fr p un (m - k).toNat k s = zphr ta me b fr p un (m - (k + 1)).toNat (k + 1) 1 := by
  rw [show (m - k).toNat = (m - (k + 1)).toNat + 1 by omega]
  exact (if_neg hm).trans (if_neg hc)
theorem zphr_z (h : m ≤ k) : zphr ta me b fr p un (m - k).toNat k s = s := by
  rw [show (m - k).toNat = 0 by omega]
  rfl
end ZP
def zMt (ta wh fr mn me ib : Nat → Int32) (l d p : Int) : Int :=
  if (wh l.toNat).toInt = 1 then (if 0 < (ta (1024 * d + p).toNat).toInt ∧ (ta (1024 * d + p).toNat).toInt = (me (fr l.toNat).toInt.toNat).toInt then 1 else 0)
  else if (wh l.toNat).toInt = 2 then (if 0 < (ta (1024 * d + p).toNat).toInt ∧ (ib (400 * l + (ta (1024 * d + p).toNat).toInt - 1).toNat).toInt ≠ 0 then 1 else 0)
  else if (wh l.toNat).toInt = 3 then zphr ta me (1024 * d) (fr l.toNat).toInt p (zun p) (mn l.toNat).toInt.toNat 0 0
  else 0
section ZM
variable {ta wh fr mn me ib : Nat → Int32} {l d p w v : Int}
theorem zMt_1 (e : (wh l.toNat).toInt = 1) (hw : (ta (1024 * d + p).toNat).toInt = w) (hv : (me (fr l.toNat).toInt.toNat).toInt = v) (c : 0 < w ∧ w = v) : zMt ta wh fr mn me ib l d p = 1 := (if_pos e).trans (if_pos (by rw [hw, hv]; exact c))
theorem zMt_1n (e : (wh l.toNat).toInt = 1) (hw : (ta (1024 * d + p).toNat).toInt = w) (hv : (me (fr l.toNat).toInt.toNat).toInt = v) (c : ¬ (0 < w ∧ w = v)) : zMt ta wh fr mn me ib l d p = 0 := (if_pos e).trans (if_neg (by rw [hw, hv]; exact c))
theorem zMt_0n (e : (wh l.toNat).toInt = 1 ∨ (wh l.toNat).toInt = 2) (hw : (ta (1024 * d + p).toNat).toInt = w) (c : ¬ 0 < w) : zMt ta wh fr mn me ib l d p = 0 := by
  rcases e with e | e
  · exact (if_pos e).trans (if_neg (fun q => c (by rw [← hw]; exact q.1)))
  · exact (if_neg (by omega)).trans ((if_pos e).trans (if_neg (fun q => c (by rw [← hw]; exact q.1))))
theorem zMt_2 (e : (wh l.toNat).toInt = 2) (hw : (ta (1024 * d + p).toNat).toInt = w) (hv : (ib (400 * l + w - 1).toNat).toInt = v) (c : 0 < w ∧ v ≠ 0) : zMt ta wh fr mn me ib l d p = 1 := (if_neg (by omega)).trans ((if_pos e).trans (if_pos (by rw [hw, hv]; exact c)))
theorem zMt_2n (e : (wh l.toNat).toInt = 2) (hw : (ta (1024 * d + p).toNat).toInt = w) (hv : (ib (400 * l + w - 1).toNat).toInt = v) (c : ¬ (0 < w ∧ v ≠ 0)) : zMt ta wh fr mn me ib l d p = 0 := (if_neg (by omega)).trans ((if_pos e).trans (if_neg (by rw [hw, hv]; exact c)))
theorem zMt_3 (e : (wh l.toNat).toInt = 3) : zMt ta wh fr mn me ib l d p = zphr ta me (1024 * d) (fr l.toNat).toInt p (zun p) (mn l.toNat).toInt.toNat 0 0 := (if_neg (by omega)).trans ((if_neg (by omega)).trans (if_pos e))
theorem zMt_4 (e1 : (wh l.toNat).toInt ≠ 1) (e2 : (wh l.toNat).toInt ≠ 2) (e3 : (wh l.toNat).toInt ≠ 3) : zMt ta wh fr mn me ib l d p = 0 := (if_neg e1).trans ((if_neg e2).trans (if_neg e3))
end ZM
def zIl (lo : Nat → Int32) (l p : Int) : Prop := (lo l.toNat).toInt = 0 ∨ (p < 512 ∧ (lo l.toNat).toInt = 1) ∨ (512 ≤ p ∧ (lo l.toNat).toInt = 2)
def zHt (ta wh fr mn me ib lo : Nat → Int32) (l d p : Int) : Prop := zIl lo l p ∧ zMt ta wh fr mn me ib l d p = 1
def zSm (F : Int → Prop) (a b : Int) : Prop := ∃ p : Int, a ≤ p ∧ p < b ∧ F p
def zWd (ta wh fr mn me ib lo ti bo : Nat → Int32) (l d : Int) : Prop := zSm (zHt ta wh fr mn me ib lo l d) 0 (ti d.toNat).toInt ∨ zSm (zHt ta wh fr mn me ib lo l d) 512 (512 + (bo d.toNat).toInt)
section ZW
variable {F : Int → Prop} {X : Prop} {a b p p' f f' T : Int}
theorem zSm_n (h : ¬ F p) : zSm F a (p + 1) ↔ zSm F a p := ⟨fun ⟨q, h1, h2, h3⟩ => ⟨q, h1, (by have : q ≠ p := fun e => h (e ▸ h3); omega), h3⟩, fun ⟨q, h1, h2, h3⟩ => ⟨q, h1, by omega, h3⟩⟩
theorem zWi_0 (h : f ≤ 0) (hb : b ≤ a) : 0 < f ↔ zSm F a b := ⟨fun q => by omega, fun ⟨q, h1, h2, _⟩ => by omega⟩
theorem zWi_y (hF : F p) (ha : a ≤ p) (h : 0 < f') (e : p' = p + 1) : 0 < f' ↔ zSm F a p' := ⟨fun _ => ⟨p, ha, by omega, hF⟩, fun _ => h⟩
theorem zWi_n (hI : 0 < f ↔ zSm F a p) (hF : ¬ F p) (e : f' = f) (ep : p' = p + 1) : 0 < f' ↔ zSm F a p' := by
  subst e; subst ep
  exact hI.trans (zSm_n hF).symm
theorem zWj_0 (hI : 0 < f ↔ zSm F 0 p) (e : p = T) (hb : b ≤ a) : 0 < f ↔ (zSm F 0 T ∨ zSm F a b) := by
  subst e
  exact hI.trans ⟨Or.inl, fun q => q.elim id (fun ⟨r, h1, h2, _⟩ => by omega)⟩
theorem zWj_y (hF : F p) (ha : a ≤ p) (h : 0 < f') (e : p' = p + 1) : 0 < f' ↔ (X ∨ zSm F a p') := ⟨fun _ => Or.inr ⟨p, ha, by omega, hF⟩, fun _ => h⟩
theorem zWj_n (hI : 0 < f ↔ (X ∨ zSm F a p)) (hF : ¬ F p) (e : f' = f) (ep : p' = p + 1) : 0 < f' ↔ (X ∨ zSm F a p') := by
  subst e; subst ep
  exact hI.trans (or_congr Iff.rfl (zSm_n hF).symm)
theorem zWj_z (hI : 0 < f ↔ (X ∨ zSm F a p)) (e : p = T) : 0 < f ↔ (X ∨ zSm F a T) := by subst e; exact hI
end ZW
/-- every leaf below L whose weight somewhere is positive is counted -/
def zMa (ma co on ta wh fr mn me ib lo ti bo : Nat → Int32) (docs L : Int) : Prop := ∀ l d : Int, 0 ≤ l → l < L → 0 ≤ d → d < docs → (co l.toNat).toInt ≠ 0 → (on d.toNat).toInt ≠ 0 → zWd ta wh fr mn me ib lo ti bo l d → 1 ≤ (ma l.toNat).toInt
/-- of one leaf: the documents below D -/
def zMo (co on ta wh fr mn me ib lo ti bo : Nat → Int32) (l D n : Int) : Prop := (co l.toNat).toInt ≠ 0 → ∀ d : Int, 0 ≤ d → d < D → (on d.toNat).toInt ≠ 0 → zWd ta wh fr mn me ib lo ti bo l d → 1 ≤ n
section ZMA
variable {ma ma' co on ta wh fr mn me ib lo ti bo : Nat → Int32} {docs L L' l D D' n n' : Int}
theorem zMa_0 (h : L ≤ 0) : zMa ma co on ta wh fr mn me ib lo ti bo docs L := fun l d h1 h2 => by omega
theorem zMo_0 (h : D ≤ 0) : zMo co on ta wh fr mn me ib lo ti bo l D n := fun _ d h1 h2 => by omega
theorem zMo_y (h : 1 ≤ n') : zMo co on ta wh fr mn me ib lo ti bo l D n' := fun _ _ _ _ _ _ => h
theorem zMo_n (h : zMo co on ta wh fr mn me ib lo ti bo l D n) (hd : (on D.toNat).toInt = 0 ∨ ¬ zWd ta wh fr mn me ib lo ti bo l D) (e : n' = n) (e' : D' = D + 1) : zMo co on ta wh fr mn me ib lo ti bo l D' n' := fun hc d h1 h2 h3 h4 => by
  subst e; subst e'
  by_cases c : d = D
  · subst c; rcases hd with hd | hd
    · exact absurd hd h3
    · exact absurd h4 hd
  · exact h hc d h1 (by omega) h3 h4
theorem zMo_c (h : zMo co on ta wh fr mn me ib lo ti bo l D n) (e : docs ≤ D) : zMo co on ta wh fr mn me ib lo ti bo l docs n := fun hc d h1 h2 => h hc d h1 (by omega)
theorem zMa_c (h : zMa ma co on ta wh fr mn me ib lo ti bo docs L) (e : L' ≤ L) : zMa ma co on ta wh fr mn me ib lo ti bo docs L' := fun l d h1 h2 => h l d h1 (by omega)
theorem zMa_s (h : zMa ma co on ta wh fr mn me ib lo ti bo docs L) (ho : (co L.toNat).toInt = 0 ∨ zMo co on ta wh fr mn me ib lo ti bo L docs (ma' L.toNat).toInt) (hk : ∀ j : Nat, (j : Int) < L → ma' j = ma j) (e : L' = L + 1) : zMa ma' co on ta wh fr mn me ib lo ti bo docs L' := fun l d h1 h2 h3 h4 h5 h6 h7 => by
  subst e
  by_cases c : l = L
  · subst c; rcases ho with ho | ho
    · exact absurd ho h5
    · exact ho h5 d h3 h4 h6 h7
  · rw [hk l.toNat (by omega)]
    exact h l d h1 (by omega) h3 h4 h5 h6 h7
end ZMA
section ZThrow2
variable {p : Program} {l : Launch} {e : Env} {R : Room} {s : State} {m : MethodId} {args : Array Value} {below : List Frame} {meth : Method} {c : Code} {H : Heap} {locs : List Loc} {cells slots : Nat} {Q : State → Prop} {ls : Array Slot} {rest : List Value}

theorem z_athrowC {cc : ByteArray} {pc : Nat} {q : Addr} (hexec : p.tables.exec = Jvm.exec) (hb : c.code = cc) (hd : decode cc pc = .ok (.athrow, 1)) (kk : vx_W p l e R s m args below meth c H locs cells slots Q (F0 m pc ls rest) q) : W p l e R s m args below meth c H locs cells slots Q (F0 m pc ls (.ref q :: rest)) := by
  intro T hT X
  obtain ⟨t, h1, h2⟩ := kk T hT X
  refine ⟨t, ?_, h2⟩
  have hstack : (F0 m pc ls (.ref q :: rest)).stack = .ref q :: rest := rfl
  have hdg : decode c.code (F0 m pc ls (.ref q :: rest)).pc = .ok (.athrow, 1) := by rw [hb]; exact hd
  have hh : At T (F0 m pc ls (.ref q :: rest)).method c below := X.here
  jvm_step hh [hexec, hdg, Op.athrow.wp_sem, hstack]
  exact h1
end ZThrow2
