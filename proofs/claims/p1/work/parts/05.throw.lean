theorem zgSW {own : String} {idx : Nat} {y : MethodName} {c : ByteArray} {n : Nat} {r : Option FieldType} {hh : List (Nat × Nat × Nat × Nat)} (h1 : Cond.methodLink own idx y ∈ zG) (h2 : Cond.static y ∈ zG) (h3 : Cond.initialized y.cls ∈ zG) (h5 : Cond.codeWith y c n r hh ∈ zG) : GoodIn zG (va_wsS own idx y (.codeWith y c n r hh :: zG)) := zg3 h1 h2 h3 (fun w hw => by
  have h2 : w ∈ zG := by
    rcases List.mem_cons.mp hw with rfl | h3
    · exact h5
    · exact h3
  exact ⟨h2, good_of_word (zG_good h2)⟩)
theorem zgVW {own C : String} {idx : Nat} {y : MethodName} {c : ByteArray} {n : Nat} {r : Option FieldType} {hh : List (Nat × Nat × Nat × Nat)} (h1 : Cond.methodLink own idx y ∈ zG) (h2 : Cond.instanceMethod y ∈ zG) (h3 : Cond.selects C y y ∈ zG) (h4 : Cond.initialized C ∈ zG) (h5 : Cond.codeWith y c n r hh ∈ zG) : GoodIn zG (wsV own idx C y (.codeWith y c n r hh :: zG)) := zg4 h1 h2 h3 h4 (fun w hw => by
  have h2 : w ∈ zG := by
    rcases List.mem_cons.mp hw with rfl | h3
    · exact h5
    · exact h3
  exact ⟨h2, good_of_word (zG_good h2)⟩)
theorem zmet_of {l : Launch} {y : MethodName} {ws : List Cond} {rm : Room} {Pc : Array Value → State → Prop} {Qc : Array Value → State → Outcome → State → Prop} {mc ms : Nat} {free : Addr → Prop} (h : vx_Met l y ws rm Pc Qc (fun _ _ _ => False) mc ms free) : Met l y ws rm Pc Qc mc ms free := by
  intro p e ha hc hk s m args below hf happ hP hk2
  obtain ⟨k, o, h1, h2, h3, hQ⟩ := h p e ha hc hk s m args below hf happ hP hk2
  refine ⟨k, o, h1, h2, h3, ?_⟩
  rcases hQ with hQ | ⟨q, -, E, ce, L, hx, -⟩
  · exact hQ
  · exact hx.elim
theorem zthrown {D : va_G} {cl : List vw_C} {tys : List (ClassId × FieldType)} {ws : va_W} {s : State} {H : Heap} {ci q0 a : Nat} {q : vw_C} {fs : List Value} (hK : va_K D cl tys s) (hP : va_P D cl ws H) (hc : cl[ci]? = some q) (he : ws[q0]? = some (a, .inr (ci, fs))) : ∃ ce : Cell, H[a]? = some ce ∧ ce.vm = .none ∧ s.vm.findClass q.1 = some ce.cls := by
  obtain ⟨cell, h1, h2, h3⟩ := va_recv hK hP hc he
  obtain ⟨r, h4, cell2, h5, h6, h7, h8⟩ := hP q0 _ he
  cases Option.some.inj (h1.symm.trans h5)
  exact ⟨cell, h1, h7, h3⟩
section ZThrow
variable {p : Program} {l : Launch} {e : Env} {R : Room} {s : State} {m : MethodId} {args : Array Value} {below : List Frame} {meth : Method} {c : Code} {H : Heap} {locs : List Loc} {cells slots : Nat} {Q : State → Prop}
variable {mc ms : Nat} {free : Addr → Prop} {ls : Array Slot} {rest : List Value} {Qc : Array Value → State → Outcome → State → Prop} {XC : String → State → State → Prop}
/-- 'athrow' of an object that stands already; no row of this method takes it -/
theorem z_athrow {cc : ByteArray} {pc : Nat} {E : String} {ce : Cell} {q : Addr} (hexec : p.tables.exec = Jvm.exec) (hb : c.code = cc) (hout : ∀ x ∈ c.exceptionTable.toList, covers x pc = false) (hlocks : meth.locks = false) (hcell : H[q]? = some ce) (hv : ce.vm = .none) (hcl : s.vm.findClass E = some ce.cls)
    (hd : decode cc pc = .ok (.athrow, 1)) (hx : ∀ t : State, t.heap = H → s.vm.Alike t.vm → XC E s t) (hf : ∀ z ∈ locs, free z.base) (hc : cells ≤ mc) (hs : slots ≤ ms) :
    W p l e R s m args below meth c H locs cells slots (vx_MQ below Qc XC args s mc ms free) (F0 m pc ls (.ref q :: rest)) := by
  intro T hT X
  obtain ⟨st1, hrun, hend, hW, hsm⟩ := X.athrowLeaves hexec (g := F0 m pc ls (.ref q :: rest)) rfl rfl rfl hout rfl (by rw [hb]; exact hd) hlocks
  have hcell9 : (T.setFrames (.throwing q :: below)).heap[q]? = some ce := by
    show T.heap[q]? = some ce
    rw [hT]
    exact hcell
  exact ⟨_, st1, .threw q, hrun, hend, Or.inr ⟨q, rfl, E, ce, locs, hx _ hT hW.alike, hcell9, hv, hcl, hW, hsm.mono hc hs, hf⟩⟩
/-- the first row of the table takes the thrown object: the walk goes on at its handler -/
theorem z_catch {own name E : String} {ce : Cell} {q : Addr} {pc : Nat} {x : ExceptionTableEntry} {suf : List ExceptionTableEntry} (hown : s.vm.findClass own = some m.cls) (htab : c.exceptionTable.toList = x :: suf) (hx : covers x pc = true) (h0 : x.catchType ≠ 0)
    (hlink : (Cond.classLink own x.catchType name).before args s = true) (hcast : (Cond.castable E name).before args s = true) (hcell : H[q]? = some ce) (hv : ce.vm = .none) (hcl : s.vm.findClass E = some ce.cls)
    (kk : W p l e R s m args below meth c H locs cells slots Q (F0 m x.handlerPc ls [.ref q])) : vx_W p l e R s m args below meth c H locs cells slots Q (F0 m pc ls rest) q := by
  intro T hT X
  have hpl : e.platform.magicAccessors = ({} : Platform).magicAccessors := by rw [X.admits.platform]
  obtain ⟨cE, cN, hE, hN, hfit⟩ := Cond.castable_spec hcast
  cases Option.some.inj (hE.symm.trans hcl)
  obtain ⟨cL, hL, hlk⟩ := Cond.classLink_spec hown hlink e.platform hpl
  cases Option.some.inj (hN.symm.trans hL)
  obtain ⟨dk, _, _, kt, hd, _, _, _, _, hkt, _, hopen⟩ := hlk.here
  obtain ⟨kE, hkE, -⟩ := Vm.findClass_spec hcl
  have hlT := X.warmed.classLinks hlk
  obtain ⟨kE1, hkE1, -⟩ := X.warmed.alike.2.2 _ _ hkE
  obtain ⟨kt1, hkt1, -⟩ := X.warmed.alike.2.2 _ _ hkt
  have hfitT : T.vm.assignable ce.cls cN = true := by rw [X.warmed.alike.assignable]; exact hfit
  have hal : T.vm.Alike (T.vm.noted m.cls x.catchType (.cls cN)) := (Vm.Alike.refl T.vm).noted _ _ _
  have hW' : s.WarmedH (T.vm.noted m.cls x.catchType (.cls cN)) := X.warmed.noted hd hopen (State.rightAt_cls hlk)
  obtain ⟨t, a1, b1⟩ := kk (T.setVm (T.vm.noted m.cls x.catchType (.cls cN))) hT (X.noted hW')
  refine ⟨t, ?_, b1⟩
  have hh : At T (F0 m pc ls rest).method c below := X.here
  obtain ⟨hgo, hw⟩ := hh.throwing q
  refine Steps.head hgo hw ?_
  rw [stepThread_throwing (frames_entered hh.top _)]
  obtain ⟨g₀, hg⟩ := Option.isSome_iff_exists.mp hh.top
  obtain ⟨r, hr⟩ := State.topJava?_eq_some.mp hg
  obtain ⟨S, hSd⟩ : ∃ S : State, S = (T.setTop (F0 m pc ls rest)).pushFrame (.throwing q) := ⟨_, rfl⟩
  have hSv : S.vm = T.vm := by rw [hSd]; rfl
  have hSh : S.heap = T.heap := by rw [hSd]; rfl
  have hfind : ∀ (Q : Handler → Pre) (E : CtlPost) (d : Bool) (acts : List Action), wp (findHandler (F0 m pc ls rest) q) Q E e d acts S ↔ Q (.found x.handlerPc) d acts (S.setVm (S.vm.noted m.cls x.catchType (.cls cN))) := by
    intro Q E d acts
    rw [Jvm.W.findHandler_eq (meth := meth) (code := c) (by rw [hSv]; exact X.method') X.code, htab]
    have hcov := hx
    simp only [covers] at hcov
    obtain ⟨ha, ht⟩ := (resolveClass_links e.toSetting (show S.vm.ClassLinks e.platform (F0 m pc ls rest).method.cls x.catchType cN from by rw [hSv]; exact hlT)).op (op := VmOp.resolveClass (F0 m pc ls rest).method.cls x.catchType) rfl
    obtain ⟨kE2, hkE2, -⟩ := hal.2.2 _ _ hkE1
    obtain ⟨kt2, hkt2, -⟩ := hal.2.2 _ _ hkt1
    have hfit2 : (T.vm.noted m.cls x.catchType (.cls cN)).assignable ce.cls cN = true := by rw [hal.assignable]; exact hfitT
    rw [← hSv] at hkE2 hkt2 hfit2
    have hce2 : S.heap[q]? = some ce := by rw [hSh, hT]; exact hcell
    have hns : ∀ k, ce.vm ≠ .statics k := by intro k h9; rw [hv] at h9; cases h9
    simp [findHandler.go, hcov, h0, ha, ht, hce2, hns, hkE2, hkt2, hfit2, VmOp.dirties, VmOp.acts]
  have hstep : (stepThrowing e S q (.java (F0 m pc ls rest) :: T.frames.tail)).Is ((S.setVm (S.vm.noted m.cls x.catchType (.cls cN))).setFrames (.java (F0 m x.handlerPc ls [.ref q]) :: T.frames.tail)) [] := by
    simp only [stepThrowing, searchFrame, vmDo]
    generalize hres : Sem.go _ e false [] S = res
    obtain ⟨as, rfl, ha⟩ := Sem.eq_ok_of hres (a := Handler.found x.handlerPc) (s' := S.setVm (S.vm.noted m.cls x.catchType (.cls cN))) (acts' := []) (by simp [hfind _ _ _ _])
    exact ⟨rfl, ha⟩
  rw [← hSd, hstep.1, hSv, hSd]
  have hr' : (T.setVm (T.vm.noted m.cls x.catchType (.cls cN))).frames = .java g₀ :: r := hr
  rw [State.setTop_of_frames _ hr'] at a1
  have hflat : ∀ (u : State) (v : Vm) (F G : List Frame), ((u.setFrames F).setVm v).setFrames G = (u.setVm v).setFrames G := fun u v F G => by
    have h1 : (u.setFrames F).setVm v = (u.setVm v).setFrames F := rfl
    rw [h1, State.setFrames_setFrames]
  rw [hr, List.tail_cons, State.pushFrame, hflat, State.setTop_of_frames _ hr, hflat]
  exact a1
end ZThrow
theorem zkeepP {D : va_G} {cl : List vw_C} {ws : va_W} {H H1 : Heap} (h : va_P D cl ws H) (hk : ∀ q : Nat, q < H.size → H1[q]? = H[q]?) : va_P D cl ws H1 := h.kept (fun k q hq => hk _ (h k q hq).lt)
theorem zkeepF {A : Nat → Prop} {s t : State} {H : Heap} {locs : List Loc} (h : va_S A s.heap H locs) (h1 : H.size ≤ t.heap.size) (hk : ∀ q : Nat, q < H.size → t.heap[q]? = H[q]?) : va_F A s t := ⟨Nat.le_trans h.1 h1, fun q h2 h3 => by rw [hk q (Nat.lt_of_lt_of_le h2 h.1)]; exact h.2.1 q h2 h3⟩
theorem zloop {G : Array Slot → Prop} (P : Nat → Array Slot → Prop) (N : Nat) (hend : ∀ ls, P N ls → G ls) (hstep : ∀ i ls, i < N → P i ls → (∀ ls', P (i + 1) ls' → G ls') → G ls) : ∀ ls, P 0 ls → G ls := by
  have key : ∀ (n i : Nat) (ls : Array Slot), i + n = N → P i ls → G ls := by
    intro n
    induction n with
    | zero => intro i ls h hp; exact hend ls (by rw [← h]; exact hp)
    | succ n ih => intro i ls h hp; exact hstep i ls (by omega) hp (fun ls' hp' => ih (i + 1) ls' (by omega) hp')
  exact fun ls hp => key N 0 ls (Nat.zero_add N) hp
