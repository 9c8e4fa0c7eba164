theorem zmemL {S pl : va_W} (hn : S.Nodup) (h : ∀ e ∈ S, e ∈ pl) : ∃ p : va_W, pl.Perm (S ++ p) := by
  induction S with
  | nil => exact ⟨pl, List.Perm.refl _⟩
  | cons x S ih =>
    obtain ⟨h1, h2⟩ := List.nodup_cons.mp hn
    obtain ⟨p0, e0⟩ := ih h2 (fun e he => h e (List.mem_cons_of_mem _ he))
    have h3 : x ∈ p0 := by
      rcases List.mem_append.mp (e0.mem_iff.mp (h x List.mem_cons_self)) with h4 | h4
      · exact absurd h4 h1
      · exact h4
    obtain ⟨p1, e1⟩ := zmem1 h3
    refine ⟨p1, e0.trans ?_⟩
    exact (List.Perm.append_left S e1).trans List.perm_middle
def zSe (kk : ClassId) (a : Nat) (b : Nat → Nat) (v : Nat → Int32) (f : Nat → Nat → Int32) : va_W := [(a, .inr (6, mX6 (b 0) (b 1) (b 2) (b 3) (b 4) (b 5) (b 6) (b 7) v)), (b 0, zi kk 1250 (f 0)), (b 1, zi kk 833 (f 1)), (b 2, zi kk 833 (f 2)), (b 3, zi kk 400 (f 3)), (b 4, zi kk 400 (f 4)), (b 5, zi kk 400 (f 5)), (b 6, zi kk 400 (f 6)), (b 7, zi kk 400 (f 7))]
def zSr (v : Nat → Int32) (f : Nat → Nat → Int32) : Prop := zR rg_Postings v ∧ zA 0 1250 (f 1) ∧ zA 0 832 (f 4)
/-- the second row of postings: there is none, or it lies in the pool -/
def zSp (kk : ClassId) (sp : Value) (pl : va_W) : Prop := sp = .null ∨ ∃ (a : Nat) (b : Nat → Nat) (v : Nat → Int32) (f : Nat → Nat → Int32), sp = .ref a ∧ (zSe kk a b v f).Nodup ∧ (∀ e ∈ zSe kk a b v f, e ∈ pl) ∧ zSr v f
section ZSp
variable {kk : ClassId} {sp : Value} {pl pl1 p S S' : va_W} {hp a : Nat} {b : Nat → Nat} {v : Nat → Int32} {f : Nat → Nat → Int32} {rf : Nat → Option Nat}
theorem zSe_oe : ∀ e ∈ zSe kk a b v f, zOe e := fun e he => by
  unfold zSe at he
  simp only [List.mem_cons, List.not_mem_nil, or_false] at he
  rcases he with rfl | rfl | rfl | rfl | rfl | rfl | rfl | rfl | rfl
  · exact ⟨by decide, by decide⟩
  · exact (show (1250 : Nat) ≠ 26 from by decide)
  · exact (show (833 : Nat) ≠ 26 from by decide)
  · exact (show (833 : Nat) ≠ 26 from by decide)
  · exact (show (400 : Nat) ≠ 26 from by decide)
  · exact (show (400 : Nat) ≠ 26 from by decide)
  · exact (show (400 : Nat) ≠ 26 from by decide)
  · exact (show (400 : Nat) ≠ 26 from by decide)
  · exact (show (400 : Nat) ≠ 26 from by decide)
theorem zSp_ot (h : zSp kk sp pl) (ho : zOt pl pl1) : zSp kk sp pl1 := by
  rcases h with h | ⟨a, b, v, f, h1, h2, h3, h4⟩
  · exact Or.inl h
  · exact Or.inr ⟨a, b, v, f, h1, h2, fun e he => ho e (h3 e he) (zSe_oe e he), h4⟩
theorem zSp_out (hn : (zSe kk a b v f).Nodup) (h : ∀ e ∈ zSe kk a b v f, e ∈ pl) : ∃ p : va_W, pl.Perm (zSe kk a b v f ++ p) := zmemL hn h
theorem zSp_in {A : Nat → Prop} {X : va_W} (hD : va_D A (X ++ (zSe kk a b v f ++ p))) (hr : zSr v f) : zSp kk (.ref a) (zSe kk a b v f ++ p) := by
  refine Or.inr ⟨a, b, v, f, rfl, ?_, fun e he => List.mem_append_left _ he, hr⟩
  have h1 := (zD_iff.mp hD).1
  rw [List.map_append, List.nodup_append, List.map_append, List.nodup_append] at h1
  have h2 : ((zSe kk a b v f).map Prod.fst).Nodup := h1.2.1.1
  exact List.Pairwise.of_map Prod.fst (fun x y hxy e => hxy (congrArg Prod.fst e)) h2
theorem zRd_S (h : zRd hp rf pl) (e : pl.Perm (S ++ p)) (hS : ∀ x ∈ S, zOe x) : zRd hp rf (S' ++ p) := zRd_mono h (fun a v hv => by
  rcases List.mem_append.mp (e.mem_iff.mp hv) with h1 | h1
  · exact absurd rfl (hS _ h1).1
  · exact List.mem_append_right _ h1)
theorem zRd_app (h : zRd hp rf pl) : zRd hp rf (S' ++ pl) := zRd_mono h (fun a v hv => List.mem_append_right _ hv)
theorem zPs_S (h : zPs kk rf pl) (e : pl.Perm (S ++ p)) (hS : ∀ x ∈ S, zOe x) : zPs kk rf (S' ++ p) := by
  obtain ⟨ar, h1, h2, h3⟩ := h
  refine ⟨ar, fun i hi a ha => ?_, h2, h3⟩
  obtain ⟨g1, f, g2⟩ := h1 i hi a ha
  constructor
  · rcases List.mem_append.mp (e.mem_iff.mp g1) with q | q
    · exact absurd rfl (hS _ q).2
    · exact List.mem_append_right _ q
  · rcases List.mem_append.mp (e.mem_iff.mp g2) with q | q
    · exact absurd rfl (hS _ q)
    · exact ⟨f, List.mem_append_right _ q⟩
theorem zPs_app (h : zPs kk rf pl) : zPs kk rf (S' ++ pl) := by
  obtain ⟨ar, h1, h2, h3⟩ := h
  refine ⟨ar, fun i hi a ha => ?_, h2, h3⟩
  obtain ⟨g1, f, g2⟩ := h1 i hi a ha
  exact ⟨List.mem_append_right _ g1, f, List.mem_append_right _ g2⟩
end ZSp
