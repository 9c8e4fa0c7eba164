theorem zgSW {own : String} {idx : Nat} {y : MethodName} {c : ByteArray} {n : Nat} {r : Option FieldType} {hh : List (Nat × Nat × Nat × Nat)} (h1 : Cond.methodLink own idx y ∈ zG) (h2 : Cond.static y ∈ zG) (h3 : Cond.initialized y.cls ∈ zG) (h5 : Cond.codeWith y c n r hh ∈ zG) : GoodIn zG (va_wsS own idx y (.codeWith y c n r hh :: zG)) := zg3 h1 h2 h3 (fun w hw => by
  have h2 : w ∈ zG := by
    rcases List.mem_cons.mp hw with rfl | h3
    · exact h5
    · exact h3
  exact ⟨h2, good_of_word (zG_good h2)⟩)
theorem zgVW {own C : String} {idx : Nat} {y : MethodName} {c : ByteArray} {n : Nat} {r : Option FieldType} {hh : List (Nat × Nat × Nat × Nat)} (h1 : Cond.methodLink own idx y ∈ zG) (h2 : Cond.instanceMethod y ∈ zG) (h3 : Cond.selects C y y ∈ zG) (h4 : Cond.initialized C ∈ zG) (h5 : Cond.codeWith y c n r hh ∈ zG) : GoodIn zG (wsV own idx C y (.codeWith y c n r hh :: zG)) := zg4 h1 h2 h3 h4 (fun w hw => by
  have h2 : w ∈ zG := by
    rcases List.mem_cons.mp hw with rfl | h3
    · exact h5
    · exact h3
  exact ⟨h2, good_of_word (zG_good h2)⟩)
theorem zmet_of {l : Launch} {y : MethodName} {ws : List Cond} {rm : Room} {Pc : Array Value → State → Prop} {Qc : Array Value → State → Outcome → State → Prop} {mc ms : Nat} {free : Addr → Prop} (h : vx_Met l y ws rm Pc Qc (fun _ _ _ => False) mc ms free) : Met l y ws rm Pc Qc mc ms free := by
  intro p e ha hc hk s m args below hf happ hP hk2
  obtain ⟨k, o, h1, h2, h3, hQ⟩ := h p e ha hc hk s m args below hf happ hP hk2
  refine ⟨k, o, h1, h2, h3, ?_⟩
  rcases hQ with hQ | ⟨q, -, E, ce, L, hx, -⟩
  · exact hQ
  · exact hx.elim
theorem zthrown {D : va_G} {cl : List vw_C} {tys : List (ClassId × FieldType)} {ws : va_W} {s : State} {H : Heap} {ci q0 a : Nat} {q : vw_C} {fs : List Value} (hK : va_K D cl tys s) (hP : va_P D cl ws H) (hc : cl[ci]? = some q) (he : ws[q0]? = some (a, .inr (ci, fs))) : ∃ ce : Cell, H[a]? = some ce ∧ ce.vm = .none ∧ s.vm.findClass q.1 = some ce.cls := by
  obtain ⟨cell, h1, h2, h3⟩ := va_recv hK hP hc he
  obtain ⟨r, h4, cell2, h5, h6, h7, h8⟩ := hP q0 _ he
  cases Option.some.inj (h1.symm.trans h5)
  exact ⟨cell, h1, h7, h3⟩
section ZThrow
variable {p : Program} {l : Launch} {e : Env} {R : Room} {s : State} {m : MethodId} {args : Array Value} {below : List Frame} {meth : Method} {c : Code} {H : Heap} {locs : List Loc} {cells slots : Nat} {Q : State → Prop}
variable {mc ms : Nat} {free : Addr → Prop} {ls : Array Slot} {rest : List Value} {Qc : Array Value → State → Outcome → State → Prop} {XC : String → State → State → Prop}
/-- 'athrow' of an object that stands already; no row of this method takes it -/
theorem z_athrow {cc : ByteArray} {pc : Nat} {E : String} {ce : Cell} {q : Addr} (hexec : p.tables.exec = Jvm.exec) (hb : c.code = cc) (hout : ∀ x ∈ c.exceptionTable.toList, covers x pc = false) (hlocks : meth.locks = false) (hcell : H[q]? = some ce) (hv : ce.vm = .none) (hcl : s.vm.findClass E = some ce.cls)
    (hd : decode cc pc = .ok (.athrow, 1)) (hx : ∀ t : State, t.heap = H → s.vm.Alike t.vm → XC E s t) (hf : ∀ z ∈ locs, free z.base) (hc : cells ≤ mc) (hs : slots ≤ ms) :
    W p l e R s m args below meth c H locs cells slots (vx_MQ below Qc XC args s mc ms free) (F0 m pc ls (.ref q :: rest)) := by
  intro T hT X
  obtain ⟨st1, hrun, hend, hW, hsm⟩ := X.athrowLeaves hexec (g := F0 m pc ls (.ref q :: rest)) rfl rfl rfl hout rfl (by rw [hb]; exact hd) hlocks
  have hcell9 : (T.setFrames (.throwing q :: below)).heap[q]? = some ce := by
    show T.heap[q]? = some ce
    rw [hT]
    exact hcell
  exact ⟨_, st1, .threw q, hrun, hend, Or.inr ⟨q, rfl, E, ce, locs, hx _ hT hW.alike, hcell9, hv, hcl, hW, hsm.mono hc hs, hf⟩⟩
/-- the first row of the table takes the thrown object: the walk goes on at its handler -/
theorem z_catch {own name E : String} {ce : Cell} {q : Addr} {pc : Nat} {x : ExceptionTableEntry} {suf : List ExceptionTableEntry} (hown : s.vm.findClass own = some m.cls) (htab : c.exceptionTable.toList = x :: suf) (hx : covers x pc = true) (h0 : x.catchType ≠ 0)
    (hlink : (Cond.classLink own x.catchType name).before args s = true) (hcast : (Cond.castable E name).before args s = true) (hcell : H[q]? = some ce) (hv : ce.vm = .none) (hcl : s.vm.findClass E = some ce.cls)
    (kk : W p l e R s m args below meth c H locs cells slots Q (F0 m x.handlerPc ls [.ref q])) : vx_W p l e R s m args below meth c H locs cells slots Q (F0 m pc ls rest) q := by
  intro T hT X
  have hpl : e.platform.magicAccessors = ({} : Platform).magicAccessors := by rw [X.admits.platform]
  obtain ⟨cE, cN, hE, hN, hfit⟩ := Cond.castable_spec hcast
  cases Option.some.inj (hE.symm.trans hcl)
  obtain ⟨cL, hL, hlk⟩ := Cond.classLink_spec hown hlink e.platform hpl
  cases Option.some.inj (hN.symm.trans hL)
  obtain ⟨dk, _, _, kt, hd, _, _, _, _, hkt, _, hopen⟩ := hlk.here
  obtain ⟨kE, hkE, -⟩ := Vm.findClass_spec hcl
  have hlT := X.warmed.classLinks hlk
  obtain ⟨kE1, hkE1, -⟩ := X.warmed.alike.2.2 _ _ hkE
  obtain ⟨kt1, hkt1, -⟩ := X.warmed.alike.2.2 _ _ hkt
  have hfitT : T.vm.assignable ce.cls cN = true := by rw [X.warmed.alike.assignable]; exact hfit
  have hal : T.vm.Alike (T.vm.noted m.cls x.catchType (.cls cN)) := (Vm.Alike.refl T.vm).noted _ _ _
  have hW' : s.WarmedH (T.vm.noted m.cls x.catchType (.cls cN)) := X.warmed.noted hd hopen (State.rightAt_cls hlk)
  obtain ⟨t, a1, b1⟩ := kk (T.setVm (T.vm.noted m.cls x.catchType (.cls cN))) hT (X.noted hW')
  refine ⟨t, ?_, b1⟩
  have hh : At T (F0 m pc ls rest).method c below := X.here
  obtain ⟨hgo, hw⟩ := hh.throwing q
  refine Steps.head hgo hw ?_
  rw [stepThread_throwing (frames_entered hh.top _)]
  obtain ⟨g₀, hg⟩ := Option.isSome_iff_exists.mp hh.top
  obtain ⟨r, hr⟩ := State.topJava?_eq_some.mp hg
  obtain ⟨S, hSd⟩ : ∃ S : State, S = (T.setTop (F0 m pc ls rest)).pushFrame (.throwing q) := ⟨_, rfl⟩
  have hSv : S.vm = T.vm := by rw [hSd]; rfl
  have hSh : S.heap = T.heap := by rw [hSd]; rfl
  have hfind : ∀ (Q : Handler → Pre) (E : CtlPost) (d : Bool) (acts : List Action), wp (findHandler (F0 m pc ls rest) q) Q E e d acts S ↔ Q (.found x.handlerPc) d acts (S.setVm (S.vm.noted m.cls x.catchType (.cls cN))) := by
    intro Q E d acts
    rw [Jvm.W.findHandler_eq (meth := meth) (code := c) (by rw [hSv]; exact X.method') X.code, htab]
    have hcov := hx
    simp only [covers] at hcov
    obtain ⟨ha, ht⟩ := (resolveClass_links e.toSetting (show S.vm.ClassLinks e.platform (F0 m pc ls rest).method.cls x.catchType cN from by rw [hSv]; exact hlT)).op (op := VmOp.resolveClass (F0 m pc ls rest).method.cls x.catchType) rfl
    obtain ⟨kE2, hkE2, -⟩ := hal.2.2 _ _ hkE1
    obtain ⟨kt2, hkt2, -⟩ := hal.2.2 _ _ hkt1
    have hfit2 : (T.vm.noted m.cls x.catchType (.cls cN)).assignable ce.cls cN = true := by rw [hal.assignable]; exact hfitT
    rw [← hSv] at hkE2 hkt2 hfit2
    have hce2 : S.heap[q]? = some ce := by rw [hSh, hT]; exact hcell
    have hns : ∀ k, ce.vm ≠ .statics k := by intro k h9; rw [hv] at h9; cases h9
    simp [findHandler.go, hcov, h0, ha, ht, hce2, hns, hkE2, hkt2, hfit2, VmOp.dirties, VmOp.acts]
  have hstep : (stepThrowing e S q (.java (F0 m pc ls rest) :: T.frames.tail)).Is ((S.setVm (S.vm.noted m.cls x.catchType (.cls cN))).setFrames (.java (F0 m x.handlerPc ls [.ref q]) :: T.frames.tail)) [] := by
    simp only [stepThrowing, searchFrame, vmDo]
    generalize hres : Sem.go _ e false [] S = res
    obtain ⟨as, rfl, ha⟩ := Sem.eq_ok_of hres (a := Handler.found x.handlerPc) (s' := S.setVm (S.vm.noted m.cls x.catchType (.cls cN))) (acts' := []) (by simp [hfind _ _ _ _])
    exact ⟨rfl, ha⟩
  rw [← hSd, hstep.1, hSv, hSd]
  have hr' : (T.setVm (T.vm.noted m.cls x.catchType (.cls cN))).frames = .java g₀ :: r := hr
  rw [State.setTop_of_frames _ hr'] at a1
  have hflat : ∀ (u : State) (v : Vm) (F G : List Frame), ((u.setFrames F).setVm v).setFrames G = (u.setVm v).setFrames G := fun u v F G => by
    have h1 : (u.setFrames F).setVm v = (u.setVm v).setFrames F := rfl
    rw [h1, State.setFrames_setFrames]
  rw [hr, List.tail_cons, State.pushFrame, hflat, State.setTop_of_frames _ hr, hflat]
  exact a1
end ZThrow
theorem zkeepP {D : va_G} {cl : List vw_C} {ws : va_W} {H H1 : Heap} (h : va_P D cl ws H) (hk : ∀ q : Nat, q < H.size → H1[q]? = H[q]?) : va_P D cl ws H1 := h.kept (fun k q hq => hk _ (h k q hq).lt)
theorem zkeepF {A : Nat → Prop} {s t : State} {H : Heap} {locs : List Loc} (h : va_S A s.heap H locs) (h1 : H.size ≤ t.heap.size) (hk : ∀ q : Nat, q < H.size → t.heap[q]? = H[q]?) : va_F A s t := ⟨Nat.le_trans h.1 h1, fun q h2 h3 => by rw [hk q (Nat.lt_of_lt_of_le h2 h.1)]; exact h.2.1 q h2 h3⟩
theorem zin_lit {i : Int32} {n : Nat} (h : 0 ≤ i.toInt ∧ i.toInt < n) : vp_in i n := vp_in_iff.mpr h
theorem zeqi {x y : Int32} : x = y ↔ x.toInt = y.toInt := ⟨fun h => by rw [h], fun h => Int32.toInt_inj.mp h⟩
theorem zlo (x : Int32) : -2147483648 ≤ x.toInt := Int32.le_toInt x
theorem zhi (x : Int32) : x.toInt ≤ 2147483647 := Int.le_of_lt_add_one (Int32.toInt_lt x)
theorem zbm {a : Int} (h1 : -2147483648 ≤ a) (h2 : a ≤ 2147483647) : a.bmod (2 ^ 32) = a := Int.bmod_eq_of_le (by omega) (by omega)
section ZA
variable {x y z : Int32} {m n : Int}
theorem zadd (hx : x.toInt = m) (hy : y.toInt = n) (e : z = x + y) (h1 : -2147483648 ≤ m + n) (h2 : m + n ≤ 2147483647) : z.toInt = m + n := by rw [e, Int32.toInt_add, hx, hy, zbm h1 h2]
theorem zsub (hx : x.toInt = m) (hy : y.toInt = n) (e : z = x - y) (h1 : -2147483648 ≤ m - n) (h2 : m - n ≤ 2147483647) : z.toInt = m - n := by rw [e, Int32.toInt_sub, hx, hy, zbm h1 h2]
theorem zmul (hx : x.toInt = m) (hy : y.toInt = n) (e : z = x * y) (h1 : -2147483648 ≤ m * n) (h2 : m * n ≤ 2147483647) : z.toInt = m * n := by rw [e, Int32.toInt_mul, hx, hy, zbm h1 h2]
theorem zmulN {M N : Int} (hx : x.toInt = m) (hy : y.toInt = n) (e : z = x * y) (h1 : 0 ≤ m ∧ m ≤ M) (h2 : 0 ≤ n ∧ n ≤ N) (h3 : M * N ≤ 2147483647) : 0 ≤ z.toInt ∧ z.toInt ≤ M * N := by
  have h4 : 0 ≤ m * n := Int.mul_nonneg h1.1 h2.1
  have h5 : m * n ≤ M * N := Int.mul_le_mul h1.2 h2.2 h2.1 (Int.le_trans h1.1 h1.2)
  rw [zmul hx hy e (by omega) (by omega)]
  exact ⟨h4, h5⟩
theorem zneg (hx : x.toInt = m) (e : z = -x) (h : -2147483648 < m) : z.toInt = -m := by
  have := zhi x
  rw [e, Int32.toInt_neg, hx, zbm (by omega) (by omega)]
theorem zdiv (hx : x.toInt = m) (hy : y.toInt = n) (e : z = x / y) (h0 : 0 ≤ m) (hn : 0 < n) : z.toInt = m / n := by
  have h1 := zhi x
  have h2 : m / n ≤ m := Int.ediv_le_self _ h0
  have h3 : 0 ≤ m / n := Int.ediv_nonneg h0 (by omega)
  rw [e, Int32.toInt_div, hx, hy, Int.tdiv_eq_ediv_of_nonneg h0, zbm (by omega) (by omega)]
theorem zdivV (hx : x.toInt = m) (hy : y.toInt = n) (e : z = x / y) (h0 : 0 ≤ m) (hn : 0 < n) : 0 ≤ z.toInt ∧ z.toInt ≤ m := by
  rw [zdiv hx hy e h0 hn]
  exact ⟨Int.ediv_nonneg h0 (by omega), Int.ediv_le_self _ h0⟩
theorem zquo (hx : x.toInt = m) (hy : y.toInt = n) (hn : 0 < n) : (x / y).toInt = m.tdiv n := by
  have h1 := zhi x
  have h2 := zlo x
  have h3 : (m.tdiv n).natAbs ≤ m.natAbs := by
    rw [Int.natAbs_tdiv]
    exact Nat.div_le_self _ _
  rw [Int32.toInt_div, hx, hy]
  rcases Int.le_total 0 m with h | h
  · exact zbm (by omega) (by omega)
  · have h4 : m.tdiv n ≤ 0 := by
      have h5 : 0 ≤ (-m).tdiv n := Int.tdiv_nonneg (by omega) (by omega)
      rw [Int.neg_tdiv] at h5
      omega
    exact zbm (by omega) (by omega)
theorem zremT (hx : x.toInt = m) (hy : y.toInt = n) (e : z = x - x / y * y) (hn : 0 < n) : z.toInt = m.tmod n := by
  have h1 := zhi x
  have h2 := zlo x
  have hq := zquo hx hy hn
  have h3 := Int.tmod_add_mul_tdiv m n
  have h4 : (m.tmod n).natAbs ≤ m.natAbs := by
    rw [Int.natAbs_tmod]
    exact Nat.mod_le _ _
  have h5 : (n * m.tdiv n).natAbs ≤ m.natAbs := by
    rw [Int.natAbs_mul, Int.natAbs_tdiv]
    have := Nat.div_mul_le_self m.natAbs n.natAbs
    rwa [Nat.mul_comm] at this
  have h6 : (x / y * y).toInt = m.tdiv n * n := by
    refine zmul hq hy rfl ?_ ?_ <;> rw [Int.mul_comm] <;> omega
  have h7 : m - m.tdiv n * n = m.tmod n := by rw [Int.mul_comm]; omega
  rw [zsub hx h6 e (by rw [h7]; omega) (by rw [h7]; omega), h7]
theorem zrem (hx : x.toInt = m) (hy : y.toInt = n) (e : z = x - x / y * y) (h0 : 0 ≤ m) (hn : 0 < n) : z.toInt = m % n := by
  rw [zremT hx hy e hn, Int.tmod_eq_emod_of_nonneg h0]
theorem zremS (hx : x.toInt = m) (hy : y.toInt = n) (e : z = x - x / y * y) (hn : 0 < n) : -n < z.toInt ∧ z.toInt < n := by
  rw [zremT hx hy e hn]
  exact ⟨Int.lt_tmod_of_pos m hn, Int.tmod_lt_of_pos m hn⟩
theorem zT_lt (hx : x.toInt = m) (hy : y.toInt = n) (h : x < y) : m < n := by rw [← hx, ← hy]; exact Int32.lt_iff_toInt_lt.mp h
theorem zF_lt (hx : x.toInt = m) (hy : y.toInt = n) (h : ¬ x < y) : n ≤ m := by rw [← hx, ← hy]; exact Int.not_lt.mp (fun q => h (Int32.lt_iff_toInt_lt.mpr q))
theorem zT_ge (hx : x.toInt = m) (hy : y.toInt = n) (h : y ≤ x) : n ≤ m := by rw [← hx, ← hy]; exact Int32.le_iff_toInt_le.mp h
theorem zF_ge (hx : x.toInt = m) (hy : y.toInt = n) (h : ¬ y ≤ x) : m < n := by rw [← hx, ← hy]; exact Int.not_le.mp (fun q => h (Int32.le_iff_toInt_le.mpr q))
theorem zT_gt (hx : x.toInt = m) (hy : y.toInt = n) (h : y < x) : n < m := zT_lt hy hx h
theorem zF_gt (hx : x.toInt = m) (hy : y.toInt = n) (h : ¬ y < x) : m ≤ n := zF_lt hy hx h
theorem zT_le (hx : x.toInt = m) (hy : y.toInt = n) (h : x ≤ y) : m ≤ n := zT_ge hy hx h
theorem zF_le (hx : x.toInt = m) (hy : y.toInt = n) (h : ¬ x ≤ y) : n < m := zF_ge hy hx h
theorem zT_eq (hx : x.toInt = m) (hy : y.toInt = n) (h : x = y) : m = n := by rw [← hx, ← hy, h]
theorem zF_eq (hx : x.toInt = m) (hy : y.toInt = n) (h : ¬ x = y) : m ≠ n := by rw [← hx, ← hy]; exact fun q => h (Int32.toInt_inj.mp q)
theorem zT_ne (hx : x.toInt = m) (hy : y.toInt = n) (h : ¬ x = y) : m ≠ n := zF_eq hx hy h
theorem zF_ne (hx : x.toInt = m) (hy : y.toInt = n) (h : x = y) : m = n := zT_eq hx hy h
theorem zne0 (h : x.toInt ≠ 0) : ¬ x = 0 := fun q => h (by rw [q]; decide)
theorem znn (h : 0 ≤ x.toInt) : ¬ x < 0 := fun q => by have := zT_lt rfl (show (0 : Int32).toInt = 0 from by decide) q; omega
theorem zmax (hx : x.toInt = m) (hy : y.toInt = n) (e : z = if x < y then y else x) : z.toInt = max m n := by
  by_cases h : x < y
  · rw [if_pos h] at e
    have := zT_lt hx hy h
    rw [e, hy]
    omega
  · rw [if_neg h] at e
    have := zF_lt hx hy h
    rw [e, hx]
    omega
theorem zmin (hx : x.toInt = m) (hy : y.toInt = n) (e : z = if y < x then y else x) : z.toInt = min m n := by
  by_cases h : y < x
  · rw [if_pos h] at e
    have := zT_lt hy hx h
    rw [e, hy]
    omega
  · rw [if_neg h] at e
    have := zF_lt hy hx h
    rw [e, hx]
    omega
theorem znat (h : 0 ≤ x.toInt) : (x.toBitVec.toNat : Int) = x.toInt := by
  have := Int32.cast_toNatClampNeg x (Int32.le_iff_toInt_le.mpr (by rw [show (0 : Int32).toInt = 0 from by decide]; exact h))
  rw [Int32.toNat_toBitVec_of_le (Int32.le_iff_toInt_le.mpr (by rw [show (0 : Int32).toInt = 0 from by decide]; exact h))]
  exact this
theorem zofnat {k : Nat} (h : x.toBitVec.toNat = k) (hk : k < 2 ^ 31) : x.toInt = (k : Int) := by
  have h1 : x.toInt = x.toBitVec.toInt := rfl
  rw [h1, BitVec.toInt_eq_toNat_of_lt (by rw [h]; omega), h]
theorem zand (hy : y.toInt = n) (e : z = x &&& y) (h : 0 ≤ n) : 0 ≤ z.toInt ∧ z.toInt ≤ n := by
  have h1 := znat (x := y) (by rw [hy]; exact h)
  have h2 : z.toBitVec.toNat = x.toBitVec.toNat &&& y.toBitVec.toNat := by rw [e]; rfl
  have h3 : z.toBitVec.toNat ≤ y.toBitVec.toNat := by rw [h2]; exact Nat.and_le_right
  have h4 := zhi y
  have h5 := zofnat (x := z) rfl (by omega)
  omega
theorem zandL (hx : x.toInt = n) (e : z = x &&& y) (h : 0 ≤ n) : 0 ≤ z.toInt ∧ z.toInt ≤ n := by
  have h1 := znat (x := x) (by rw [hx]; exact h)
  have h2 : z.toBitVec.toNat = x.toBitVec.toNat &&& y.toBitVec.toNat := by rw [e]; rfl
  have h3 : z.toBitVec.toNat ≤ x.toBitVec.toNat := by rw [h2]; exact Nat.and_le_left
  have h4 := zhi x
  have h5 := zofnat (x := z) rfl (by omega)
  omega
theorem zcl {X : Int32} {N : Nat} (hx : x.toInt = m) (hX : X.toInt = n) (h1 : 0 ≤ m) (h2 : 0 ≤ n) (h3 : m + n ≤ N) : x.toNatClampNeg + X.toNatClampNeg ≤ N := by
  have e1 : x.toNatClampNeg = m.toNat := by rw [← hx]; rfl
  have e2 : X.toNatClampNeg = n.toNat := by rw [← hX]; rfl
  omega
theorem zi2b (hx : x.toInt = m) (e : z = x.toInt8.toInt32) (h1 : -128 ≤ m) (h2 : m ≤ 127) : z.toInt = m := by
  rw [e, Int8.toInt_toInt32, Int32.toInt_toInt8, hx]
  exact Int.bmod_eq_of_le (by omega) (by omega)
theorem zi2bB (e : z = x.toInt8.toInt32) : -128 ≤ z.toInt ∧ z.toInt ≤ 127 := by
  rw [e, Int8.toInt_toInt32]
  exact ⟨Int8.le_toInt _, Int.le_of_lt_add_one (Int8.toInt_lt _)⟩
theorem zi2s (hx : x.toInt = m) (e : z = x.toInt16.toInt32) (h1 : -32768 ≤ m) (h2 : m ≤ 32767) : z.toInt = m := by
  rw [e, Int16.toInt_toInt32, Int32.toInt_toInt16, hx]
  exact Int.bmod_eq_of_le (by omega) (by omega)
theorem zi2sB (e : z = x.toInt16.toInt32) : -32768 ≤ z.toInt ∧ z.toInt ≤ 32767 := by
  rw [e, Int16.toInt_toInt32]
  exact ⟨Int16.le_toInt _, Int.le_of_lt_add_one (Int16.toInt_lt _)⟩
theorem zi2cB (e : z = (x.toUInt32 % 65536).toInt32) : 0 ≤ z.toInt ∧ z.toInt ≤ 65535 := by
  have h1 : z.toBitVec.toNat = x.toUInt32.toNat % 65536 := by rw [e]; rfl
  have h2 := zofnat h1 (by omega)
  omega
theorem zi2c (hx : x.toInt = m) (e : z = (x.toUInt32 % 65536).toInt32) (h1 : 0 ≤ m) (h2 : m ≤ 65535) : z.toInt = m := by
  have h3 : z.toBitVec.toNat = x.toBitVec.toNat % 65536 := by rw [e]; rfl
  have h4 := znat (x := x) (by rw [hx]; exact h1)
  have h5 := zofnat h3 (by omega)
  omega
theorem zbn (h : 0 ≤ x.toInt ∧ x.toInt ≤ 1) : narrow .boolean (.int x) = .int x := by
  rcases (show x.toInt = 0 ∨ x.toInt = 1 by omega) with h1 | h1
  · rw [show x = 0 from zeqi.mpr (h1.trans (by decide))]; rfl
  · rw [show x = 1 from zeqi.mpr (h1.trans (by decide))]; rfl
theorem zbf (h : 0 ≤ x.toInt ∧ x.toInt ≤ 1) : fits .boolean (.int x) = true := by
  rcases (show x.toInt = 0 ∨ x.toInt = 1 by omega) with h1 | h1
  · rw [show x = 0 from zeqi.mpr (h1.trans (by decide))]; rfl
  · rw [show x = 1 from zeqi.mpr (h1.trans (by decide))]; rfl
theorem zn_char (h : 0 ≤ x.toInt ∧ x.toInt ≤ 65535) : narrow .char (.int x) = .int x := by
  have h1 : (x.toUInt32 % 65536).toInt32 = x := zeqi.mpr (zi2c rfl rfl h.1 h.2)
  have h2 := pk_nc x
  rwa [h1] at h2
theorem zn_byte (h : -128 ≤ x.toInt ∧ x.toInt ≤ 127) : narrow .byte (.int x) = .int x := by
  have h1 : x.toInt8.toInt32 = x := zeqi.mpr (zi2b rfl rfl h.1 h.2)
  have h2 := pk_nb x
  rwa [h1] at h2
end ZA
theorem zlookup {d v : Int} : ∀ {ps : List (Int × Int)}, (∀ q ∈ ps, q.1 ≠ v) → Op.lookupswitch.offset ps d v = d := by
  intro ps
  induction ps with
  | nil => intro _; rfl
  | cons q ps ih =>
    intro h
    have h1 : ¬ q.1 = v := h q List.mem_cons_self
    have h2 := ih (fun r hr => h r (List.mem_cons_of_mem _ hr))
    unfold Op.lookupswitch.offset
    simp only [beq_iff_eq, h1, if_false]
    exact h2
def zR (g : Nat → Int × Int) (v : Nat → Int32) : Prop := ∀ k, (g k).1 ≤ (v k).toInt ∧ (v k).toInt ≤ (g k).2
theorem zR_upd {g : Nat → Int × Int} {v : Nat → Int32} (h : zR g v) (k : Nat) {x : Int32} (h1 : (g k).1 ≤ x.toInt) (h2 : x.toInt ≤ (g k).2) : zR g (upd v k x) := fun j => by
  unfold upd
  by_cases q : j = k
  · rw [if_pos q, q]; exact ⟨h1, h2⟩
  · rw [if_neg q]; exact h j
theorem zR_up2 {g : Nat → Int × Int} {v : Nat → Int32} (h : zR g v) (k : Nat) {x : Int32} (h1 : (g k).1 ≤ x.toInt ∧ x.toInt ≤ (g k).2) : zR g (upd v k x) := zR_upd h k h1.1 h1.2
theorem zR_updF {g : Nat → Int × Int} {v : Nat → Int32} (h : zR g v) (k : Nat) {x : Int32} (e : g k = (-2147483648, 2147483647)) : zR g (upd v k x) := zR_upd h k (by rw [e]; exact zlo x) (by rw [e]; exact zhi x)
def zA (lo hi : Int) (f : Nat → Int32) : Prop := ∀ k, lo ≤ (f k).toInt ∧ (f k).toInt ≤ hi
theorem zA_upd {lo hi : Int} {f : Nat → Int32} (h : zA lo hi f) {k : Nat} {x : Int32} (h1 : lo ≤ x.toInt) (h2 : x.toInt ≤ hi) : zA lo hi (upd f k x) := fun j => by
  unfold upd
  by_cases q : j = k
  · rw [if_pos q]; exact ⟨h1, h2⟩
  · rw [if_neg q]; exact h j
theorem zA_updS {lo hi : Int} {f : Nat → Int32} (h : zA lo hi f) {k : Nat} {x : Int32} (h1 : lo ≤ x.toInt) (h2 : x.toInt ≤ hi) (a : -32768 ≤ lo := by decide) (b : hi ≤ 32767 := by decide) : zA lo hi (upd f k (vp_nar .short x)) := by
  refine zA_upd h ?_ ?_ <;> rw [vp_nar_short, zi2s rfl rfl (by omega) (by omega)] <;> assumption
theorem zA_cpy {lo hi : Int} {f g : Nat → Int32} {a b n : Nat} (h1 : zA lo hi f) (h2 : zA lo hi g) : zA lo hi (va_cpy f g a b n) := fun j => by
  unfold va_cpy
  split
  · exact h1 _
  · exact h2 _
theorem zA_0 {lo hi : Int} (h1 : lo ≤ 0) (h2 : 0 ≤ hi) : zA lo hi (fun _ => 0) := fun _ => by rw [show (0 : Int32).toInt = 0 from by decide]; exact ⟨h1, h2⟩
def zCk (b c : Int) : Prop := (c = 0 ∧ 0 ≤ b ∧ b < 32) ∨ (c = 1 ∧ 32 ≤ b ∧ b < 96) ∨ (c = 2 ∧ 96 ≤ b ∧ b < 224) ∨ (3 ≤ c ∧ 224 + 256 * (c - 3) ≤ b ∧ b < 224 + 256 * (c - 3) + 256)
def zRo (c r : Int) : Prop := (c = 0 ∧ r = 0) ∨ (c = 1 ∧ r = 32) ∨ (c = 2 ∧ r = 96) ∨ (c = 3 ∧ r = 224) ∨ (3 < c ∧ r = 224 + 256 * (c - 3))
def zBs (c s : Int) : Prop := (c = 0 ∧ s = 32) ∨ (c = 1 ∧ s = 64) ∨ (c = 2 ∧ s = 128) ∨ (3 ≤ c ∧ s = 256)
def zCh (b c r s : Int) : Prop := zCk b c ∧ zRo c r ∧ zBs c s
def zPhi (cs lc bt : Nat → Int32) (ru ch : Int) : Prop := ∀ id, id < 400 → ∃ c r s : Int, zCh (bt id).toInt c r s ∧ (((bt id).toInt = r ∧ r ≤ 32 * ru) ∨ (r < (bt id).toInt ∧ r + s ≤ 32 * ru ∧ 32 * (cs (lc id).toNatClampNeg).toInt + s ≤ 32 * ru ∧ (lc id).toInt < ch))
theorem zCh_in {b c r s : Int} (h : zCh b c r s) : 0 ≤ b ∧ r ≤ b ∧ b < r + s ∧ 32 ≤ s ∧ s ≤ 256 ∧ 0 ≤ c ∧ (b ≤ 40000 → c ≤ 200) := by
  obtain ⟨h1, h2, h3⟩ := h
  unfold zCk at h1
  unfold zRo at h2
  unfold zBs at h3
  omega
theorem zCk_u {b c c' r s : Int} (h1 : zCk b c') (h2 : zCh b c r s) : c' = c := by
  have h3 := h2.1
  unfold zCk at h1 h3
  omega
theorem zRo_u {b c r r' s : Int} (h1 : zRo c r') (h2 : zCh b c r s) : r' = r := by
  have h3 := h2.2.1
  unfold zRo at h1 h3
  omega
theorem zBs_u {b c r s s' : Int} (h1 : zBs c s') (h2 : zCh b c r s) : s' = s := by
  have h3 := h2.2.2
  unfold zBs at h1 h3
  omega
/-- one bit more in the chunk that is there: in it still, or at its end -/
theorem zCh_next {b c r s : Int} (h : zCh b c r s) : (b + 1 < r + s ∧ zCh (b + 1) c r s) ∨ (b + 1 = r + s ∧ ∃ c' s', zCh (b + 1) c' (r + s) s') := by
  obtain ⟨h1, h2, h3⟩ := h
  by_cases hb : b + 1 < r + s
  · refine Or.inl ⟨hb, ?_, h2, h3⟩
    unfold zCk at h1 ⊢
    unfold zRo at h2
    unfold zBs at h3
    omega
  · refine Or.inr ⟨?_, c + 1, (if c = 0 then 64 else if c = 1 then 128 else 256), ?_, ?_, ?_⟩
    · unfold zCk at h1
      unfold zRo at h2
      unfold zBs at h3
      omega
    · unfold zCk at h1 ⊢
      unfold zRo at h2
      unfold zBs at h3
      omega
    · unfold zCk at h1
      unfold zRo at h2 ⊢
      unfold zBs at h3
      omega
    · unfold zCk at h1
      unfold zRo at h2
      unfold zBs at h3 ⊢
      split
      · omega
      · split <;> omega
theorem zPhi_eq {cs lc bt cs' lc' : Nat → Int32} {ru ch ru' ch' : Int} (h : zPhi cs lc bt ru ch) (e1 : cs' = cs) (e2 : lc' = lc) (e3 : ru' = ru) (e4 : ch' = ch) : zPhi cs' lc' bt ru' ch' := by
  subst e1; subst e2; subst e3; subst e4; exact h
theorem zPhi_A {cs lc bt : Nat → Int32} {ru ch : Int} {id : Nat} {z : Int32} {c r s : Int} (h : zPhi cs lc bt ru ch) (hch : zCh (bt id).toInt c r s) (hin : r < (bt id).toInt) (h1 : r + s ≤ 32 * ru) (h2 : 32 * (cs (lc id).toNatClampNeg).toInt + s ≤ 32 * ru) (h3 : (lc id).toInt < ch) (hz : z.toInt = (bt id).toInt + 1) : zPhi cs lc (upd bt id z) ru ch := by
  intro j hj
  by_cases e : j = id
  · subst e
    have eu : upd bt j z j = z := pk_us
    rw [eu, hz]
    rcases zCh_next hch with ⟨g1, g2⟩ | ⟨g1, c', s', g2⟩
    · exact ⟨c, r, s, g2, Or.inr ⟨by omega, h1, h2, h3⟩⟩
    · exact ⟨c', r + s, s', g2, Or.inl ⟨g1, by omega⟩⟩
  · have eu : upd bt id z j = bt j := pk_un e
    rw [eu]
    exact h j hj
theorem zPhi_B {cs lc bt : Nat → Int32} {ru ch ru' ch' : Int} {id : Nat} {z x y : Int32} {c r s : Int} (h : zPhi cs lc bt ru ch) (hch : zCh (bt id).toInt c r s) (hin : (bt id).toInt = r) (hr : r ≤ 32 * ru) (hx : x.toInt = ch) (hx0 : 0 ≤ ch) (hy : y.toInt = ru) (hru : 32 * ru' = 32 * ru + s) (hc : ch' = ch + 1) (hl : ∀ j, 0 ≤ (lc j).toInt) (hz : z.toInt = (bt id).toInt + 1) : zPhi (upd cs x.toNatClampNeg y) (upd lc id x) (upd bt id z) ru' ch' := by
  have hs := zCh_in hch
  intro j hj
  by_cases e : j = id
  · subst e
    have eu : upd bt j z j = z := pk_us
    have el : upd lc j x j = x := pk_us
    have ec : upd cs x.toNatClampNeg y x.toNatClampNeg = y := pk_us
    rw [eu, el, ec, hz, hy, hx]
    rcases zCh_next hch with ⟨g1, g2⟩ | ⟨g1, c', s', g2⟩
    · exact ⟨c, r, s, g2, Or.inr ⟨by omega, by omega, by omega, by omega⟩⟩
    · exact ⟨c', r + s, s', g2, Or.inl ⟨g1, by omega⟩⟩
  · have eu : upd bt id z j = bt j := pk_un e
    have el : upd lc id x j = lc j := pk_un e
    rw [eu, el]
    obtain ⟨c1, r1, s1, g1, g2⟩ := h j hj
    refine ⟨c1, r1, s1, g1, ?_⟩
    rcases g2 with ⟨g3, g4⟩ | ⟨g3, g4, g5, g6⟩
    · exact Or.inl ⟨g3, by omega⟩
    · have g7 := hl j
      have ne : (lc j).toNatClampNeg ≠ x.toNatClampNeg := by
        intro q
        have q1 : (lc j).toNatClampNeg = (lc j).toInt.toNat := rfl
        have q2 : x.toNatClampNeg = x.toInt.toNat := rfl
        omega
      have ec : upd cs x.toNatClampNeg y (lc j).toNatClampNeg = cs (lc j).toNatClampNeg := pk_un ne
      rw [ec]
      exact Or.inr ⟨g3, by omega, by omega, by omega⟩
theorem zPhi_0 {cs lc bt : Nat → Int32} {ru ch : Int} (h : ∀ j, j < 400 → bt j = 0) (hr : 0 ≤ ru) : zPhi cs lc bt ru ch := by
  intro j hj
  rw [h j hj, show (0 : Int32).toInt = 0 from by decide]
  exact ⟨0, 0, 32, ⟨Or.inl ⟨rfl, by decide, by decide⟩, Or.inl ⟨rfl, rfl⟩, Or.inl ⟨rfl, rfl⟩⟩, Or.inl ⟨rfl, by omega⟩⟩
theorem zPhi_c {cs lc bt cs' lc' bt' : Nat → Int32} {ru ch : Int} (h : zPhi cs lc bt ru ch) (hl : zA 0 832 lc) (e1 : ∀ j, j < 833 → cs' j = cs j) (e2 : ∀ j, j < 400 → lc' j = lc j) (e3 : ∀ j, j < 400 → bt' j = bt j) : zPhi cs' lc' bt' ru ch := by
  intro j hj
  have h1 := hl j
  have q1 : (lc j).toNatClampNeg = (lc j).toInt.toNat := rfl
  rw [e2 j hj, e3 j hj, e1 _ (by omega)]
  exact h j hj
theorem zcpy_at {f g : Nat → Int32} {n j : Nat} (h : j < n) : va_cpy f g 0 0 n j = f j := by
  unfold va_cpy
  rw [if_pos ⟨Nat.zero_le _, by omega⟩]
  simp
theorem zfill {f : Nat → Int32} {x i : Int32} {k : Int} (h : ∀ j : Nat, (j : Int) < i.toInt → f j = x) (h0 : 0 ≤ i.toInt) (hk : k = i.toInt + 1) : ∀ j : Nat, (j : Int) < k → upd f i.toNatClampNeg x j = x := by
  intro j hj
  by_cases e : j = i.toNatClampNeg
  · subst e; exact pk_us
  · have q : i.toNatClampNeg = i.toInt.toNat := rfl
    rw [pk_un e]
    exact h j (by omega)
theorem zshl32 {w z : Int32} (e : z = 32 <<< (w &&& 31)) (h0 : 0 ≤ w.toInt) (h1 : w.toInt ≤ 3) : (w.toInt = 0 ∧ z.toInt = 32) ∨ (w.toInt = 1 ∧ z.toInt = 64) ∨ (w.toInt = 2 ∧ z.toInt = 128) ∨ (w.toInt = 3 ∧ z.toInt = 256) := by
  rcases (show w.toInt = 0 ∨ w.toInt = 1 ∨ w.toInt = 2 ∨ w.toInt = 3 by omega) with h | h | h | h
  · have : w = 0 := zeqi.mpr (h.trans (by decide)); subst this; subst e; decide
  · have : w = 1 := zeqi.mpr (h.trans (by decide)); subst this; subst e; decide
  · have : w = 2 := zeqi.mpr (h.trans (by decide)); subst this; subst e; decide
  · have : w = 3 := zeqi.mpr (h.trans (by decide)); subst this; subst e; decide
theorem zntz {x a b z y : Int32} (ea : a = x ^^^ (-1)) (eb : b = x - 1) (ez : z = a &&& b) (ey : y = z &&& 32) (hz : z.toInt ≤ 0) : x.toInt ≠ 0 → y.toInt = 0 := by
  intro hx
  have h0 : 0 ≤ z.toInt := by
    rcases Int.lt_or_le x.toInt 0 with h | h
    · have h1 : 0 ≤ a.toInt := by
        have e1 : a.toBitVec = ~~~ x.toBitVec := by
          rw [ea]
          show x.toBitVec ^^^ (-1 : Int32).toBitVec = _
          rw [show (-1 : Int32).toBitVec = BitVec.allOnes 32 from by decide]
          exact BitVec.xor_allOnes
        have e2 : x.toBitVec.msb = true := by rw [BitVec.msb_eq_toInt]; exact decide_eq_true h
        have e3 : a.toBitVec.msb = false := by rw [e1, BitVec.msb_not, e2]; rfl
        rw [BitVec.msb_eq_toInt] at e3
        exact Int.not_lt.mp (of_decide_eq_false e3)
      exact (zandL (x := a) (y := b) rfl ez h1).1
    · have h9 := zhi x
      have h1 : b.toInt = x.toInt - 1 := zsub rfl (show (1 : Int32).toInt = 1 from by decide) eb (by omega) (by omega)
      exact (zand (x := a) (y := b) rfl ez (by omega)).1
  have h1 : z = 0 := zeqi.mpr ((show z.toInt = 0 by omega).trans (by decide))
  rw [ey, h1]
  decide
def zCn (own : Nat → Nat) (nx : Nat → Int32) (id : Nat) (f l n kept : Int) : Prop := 0 ≤ n ∧ n ≤ kept ∧ ∃ path : Nat → Nat, (∀ i : Nat, (i : Int) < n → (path i : Int) < kept ∧ own (path i) = id ∧ ((i : Int) + 1 < n → (nx (path i)).toInt = (path (i + 1) : Int))) ∧ (∀ i j : Nat, i < j → (j : Int) < n → path i < path j) ∧ (0 < n → f = (path 0 : Int) ∧ l = (path (n.toNat - 1) : Int))
def zChn (fi nx la tm : Nat → Int32) (kept : Int) : Prop := ∃ own : Nat → Nat, ∀ id, id < 400 → zCn own nx id (fi id).toInt (la id).toInt (tm id).toInt kept
theorem zChn_b {fi nx la tm : Nat → Int32} {kept : Int} {id : Nat} (h : zChn fi nx la tm kept) (hid : id < 400) : 0 ≤ (tm id).toInt ∧ (tm id).toInt ≤ kept := by
  obtain ⟨own, h1⟩ := h
  exact ⟨(h1 id hid).1, (h1 id hid).2.1⟩
theorem zChn_0 {fi nx la tm : Nat → Int32} {kept : Int} (h : ∀ j, j < 400 → tm j = 0) (hk : 0 ≤ kept) : zChn fi nx la tm kept := by
  refine ⟨fun _ => 0, fun id hid => ?_⟩
  rw [h id hid, show (0 : Int32).toInt = 0 from by decide]
  exact ⟨by omega, hk, fun _ => 0, fun i hi => by omega, fun i j _ hj => by omega, fun q => by omega⟩
theorem zclamp {x : Int32} (h : 0 ≤ x.toInt) : (x.toNatClampNeg : Int) = x.toInt := by
  have q : x.toNatClampNeg = x.toInt.toNat := rfl
  omega
theorem zChn_new {fi nx la tm : Nat → Int32} {kept : Int} {id : Nat} {kv m1 z : Int32} (h : zChn fi nx la tm kept) (hid : id < 400) (hk : kv.toInt = kept) (h0 : 0 ≤ kept) (hn : (tm id).toInt = 0) (hz : z.toInt = 1) : zChn (upd fi id kv) (upd nx kv.toNatClampNeg m1) (upd la id kv) (upd tm id z) (kept + 1) := by
  obtain ⟨own, h1⟩ := h
  have ek := zclamp (x := kv) (by omega)
  refine ⟨fun j => if j = kv.toNatClampNeg then id else own j, fun j hj => ?_⟩
  by_cases e : j = id
  · subst e
    have e1 : upd fi j kv j = kv := pk_us
    have e2 : upd la j kv j = kv := pk_us
    have e3 : upd tm j z j = z := pk_us
    rw [e1, e2, e3, hz, hk]
    refine ⟨by omega, by omega, fun _ => kv.toNatClampNeg, fun i hi => ⟨by dsimp only; omega, if_pos rfl, fun q => by omega⟩, fun i k q q2 => by omega, fun _ => ⟨by dsimp only; omega, by dsimp only; omega⟩⟩
  · have e1 : upd fi id kv j = fi j := pk_un e
    have e2 : upd la id kv j = la j := pk_un e
    have e3 : upd tm id z j = tm j := pk_un e
    rw [e1, e2, e3]
    obtain ⟨a1, a2, path, a3, a4, a5⟩ := h1 j hj
    refine ⟨a1, by omega, path, fun i hi => ?_, a4, a5⟩
    obtain ⟨b1, b2, b3⟩ := a3 i hi
    have ne : path i ≠ kv.toNatClampNeg := by omega
    refine ⟨by omega, by dsimp only; rw [if_neg ne]; exact b2, fun q => ?_⟩
    rw [pk_un ne]
    exact b3 q
theorem zChn_old {fi nx la tm : Nat → Int32} {kept : Int} {id : Nat} {kv m1 z : Int32} (h : zChn fi nx la tm kept) (hid : id < 400) (hk : kv.toInt = kept) (h0 : 0 ≤ kept) (hn : 0 < (tm id).toInt) (hz : z.toInt = (tm id).toInt + 1) : zChn fi (upd (upd nx kv.toNatClampNeg m1) (la id).toNatClampNeg kv) (upd la id kv) (upd tm id z) (kept + 1) := by
  obtain ⟨own, h1⟩ := h
  have ek := zclamp (x := kv) (by omega)
  obtain ⟨a1, a2, path, a3, a4, a5⟩ := h1 id hid
  obtain ⟨f1, l1⟩ := a5 hn
  have hl := zclamp (x := la id) (by omega)
  have hlast := a3 ((tm id).toInt.toNat - 1) (by omega)
  refine ⟨fun j => if j = kv.toNatClampNeg then id else own j, fun j hj => ?_⟩
  by_cases e : j = id
  · subst e
    have e2 : upd la j kv j = kv := pk_us
    have e3 : upd tm j z j = z := pk_us
    rw [e2, e3, hz, hk]
    refine ⟨by omega, by omega, fun i => if i = (tm j).toInt.toNat then kv.toNatClampNeg else path i, fun i hi => ?_, fun i k q q2 => ?_, fun _ => ⟨?_, ?_⟩⟩
    · by_cases c : i = (tm j).toInt.toNat
      · dsimp only
        rw [if_pos c]
        exact ⟨by omega, if_pos rfl, fun q => by omega⟩
      · dsimp only
        rw [if_neg c]
        obtain ⟨b1, b2, b3⟩ := a3 i (by omega)
        have ne : path i ≠ kv.toNatClampNeg := by omega
        refine ⟨by omega, by rw [if_neg ne]; exact b2, fun q => ?_⟩
        by_cases c2 : i + 1 = (tm j).toInt.toNat
        · have e4 : path i = (la j).toNatClampNeg := by
            have e5 : i = (tm j).toInt.toNat - 1 := by omega
            subst e5
            omega
          rw [if_pos c2, e4]
          have e6 : upd (upd nx kv.toNatClampNeg m1) (la j).toNatClampNeg kv (la j).toNatClampNeg = kv := pk_us
          rw [e6]
          omega
        · have lt := a4 i ((tm j).toInt.toNat - 1) (by omega) (by omega)
          have ne2 : path i ≠ (la j).toNatClampNeg := by omega
          rw [if_neg c2, pk_un ne2, pk_un ne]
          exact b3 (by omega)
    · have c1 : i ≠ (tm j).toInt.toNat := by omega
      dsimp only
      rw [if_neg c1]
      by_cases c : k = (tm j).toInt.toNat
      · rw [if_pos c]
        have := (a3 i (by omega)).1
        omega
      · rw [if_neg c]
        exact a4 i k q (by omega)
    · dsimp only
      rw [if_neg (show (0 : Nat) ≠ (tm j).toInt.toNat by omega)]
      exact f1
    · dsimp only
      rw [if_pos (show ((tm j).toInt + 1).toNat - 1 = (tm j).toInt.toNat by omega)]
      omega
  · have e2 : upd la id kv j = la j := pk_un e
    have e3 : upd tm id z j = tm j := pk_un e
    rw [e2, e3]
    obtain ⟨c1, c2, path2, c3, c4, c5⟩ := h1 j hj
    refine ⟨c1, by omega, path2, fun i hi => ?_, c4, c5⟩
    obtain ⟨b1, b2, b3⟩ := c3 i hi
    have ne : path2 i ≠ kv.toNatClampNeg := by omega
    have ne2 : path2 i ≠ (la id).toNatClampNeg := by
      intro q
      have e4 : (la id).toNatClampNeg = path ((tm id).toInt.toNat - 1) := by omega
      rw [q, e4] at b2
      exact e (b2.symm.trans hlast.2.1)
    refine ⟨by omega, by dsimp only; rw [if_neg ne]; exact b2, fun q => ?_⟩
    rw [pk_un ne2, pk_un ne]
    exact b3 q
theorem zpath_step {own : Nat → Nat} {nx : Nat → Int32} {id : Nat} {path : Nat → Nat} {n kept : Int} {i t t' i' : Int32} (h : ∀ k : Nat, (k : Int) < n → (path k : Int) < kept ∧ own (path k) = id ∧ ((k : Int) + 1 < n → (nx (path k)).toInt = (path (k + 1) : Int))) (ht : t.toInt = (path i.toInt.toNat : Int)) (hi0 : 0 ≤ i.toInt) (e : t' = nx t.toNatClampNeg) (hi' : i'.toInt = i.toInt + 1) : i'.toInt < n → t'.toInt = (path i'.toInt.toNat : Int) := by
  intro hlt
  have h1 := (h i.toInt.toNat (by omega)).2.2 (by omega)
  have et := zclamp (x := t) (by omega)
  have e1 : t.toNatClampNeg = path i.toInt.toNat := by omega
  have e2 : i'.toInt.toNat = i.toInt.toNat + 1 := by omega
  rw [e, e1, h1, e2]
def zTok (b : Int) : Prop := (48 ≤ b ∧ b ≤ 57) ∨ (97 ≤ b ∧ b ≤ 122) ∨ (65 ≤ b ∧ b ≤ 90)
theorem zrun {f : Nat → Int32} {x k : Int32} (hk : ¬ zTok (f k.toNatClampNeg).toInt) (hle : x.toInt ≤ k.toInt) : zTok (f x.toNatClampNeg).toInt → x.toInt < k.toInt := by
  intro h
  rcases Int.lt_or_eq_of_le hle with q | q
  · exact q
  · rw [zeqi.mpr q] at h
    exact absurd h hk
def zdg (k v : Int) : Prop := 0 ≤ k ∧ 0 ≤ v ∧ v < 10 ^ k.toNat
theorem zdg_0 {k v : Int} (h : k = 0) (h2 : v = 0) : zdg k v := by subst h; subst h2; exact ⟨by decide, by decide, by decide⟩
theorem zdg_step {k v k' v' a : Int} (h : zdg k v) (hk : k' = k + 1) (ha : 48 ≤ a) (hb : a ≤ 57) (hv : v' = 10 * v + a - 48) : zdg k' v' := by
  obtain ⟨h1, h2, h3⟩ := h
  refine ⟨by omega, by omega, ?_⟩
  have e : k'.toNat = k.toNat + 1 := by omega
  rw [e, Int.pow_succ]
  omega
theorem zdg_le {k v : Int} (n : Nat) (h : zdg k v) (hk : k ≤ n) : v < 10 ^ n := by
  obtain ⟨h1, h2, h3⟩ := h
  have e : k.toNat ≤ n := by omega
  have h4 : (10 : Nat) ^ k.toNat ≤ 10 ^ n := Nat.pow_le_pow_right (by decide) e
  have h5 : ((10 : Nat) ^ k.toNat : Int) ≤ ((10 : Nat) ^ n : Int) := by exact_mod_cast h4
  exact Int.lt_of_lt_of_le h3 h5
theorem zdg_8 {k v : Int} (h : zdg k v) (hk : k ≤ 8) : 0 ≤ v ∧ v ≤ 99999999 := ⟨h.2.1, by have := zdg_le 8 h (by omega); omega⟩
theorem zdg_3 {k v : Int} (h : zdg k v) : k ≤ 3 → v ≤ 999 := fun hk => by have := zdg_le 3 h (by omega); omega
section ZC
variable {p : Program} {l : Launch} {e : Env} {R : Room} {s : State} {m : MethodId} {args : Array Value} {below : List Frame} {meth : Method} {c : Code} {Q : State → Prop}
/-- a place where roads meet: its goal is proved once -/
theorem zcutW (P : Heap → List Loc → Array Slot → (Nat → Int32) → (Nat → Int64) → (Nat → Nat → Int32) → (Nat → Nat → Int64) → Prop) (g : Array Slot → (Nat → Int32) → (Nat → Int64) → JFrame) (k n : Nat) {H0 : Heap} {locs0 : List Loc} {k0 n0 : Nat} {g0 : JFrame}
    (hM : ∀ H locs ls u w a b, P H locs ls u w a b → W p l e R s m args below meth c H locs k n Q (g ls u w))
    (hr : (∀ H locs ls u w a b, P H locs ls u w a b → W p l e R s m args below meth c H locs k n Q (g ls u w)) → W p l e R s m args below meth c H0 locs0 k0 n0 Q g0) : W p l e R s m args below meth c H0 locs0 k0 n0 Q g0 := hr hM
/-- the same for a loop's head: a measure falls -/
theorem zcutL (μ : (Nat → Int32) → Nat) (P : Heap → List Loc → Array Slot → (Nat → Int32) → (Nat → Int64) → (Nat → Nat → Int32) → (Nat → Nat → Int64) → Prop) (g : Array Slot → (Nat → Int32) → (Nat → Int64) → JFrame) (k n : Nat) {H0 : Heap} {locs0 : List Loc} {k0 n0 : Nat} {g0 : JFrame}
    (hM : ∀ H locs ls u w a b, P H locs ls u w a b → (∀ H' locs' ls' u' w' a' b', P H' locs' ls' u' w' a' b' → μ u' < μ u → W p l e R s m args below meth c H' locs' k n Q (g ls' u' w')) → W p l e R s m args below meth c H locs k n Q (g ls u w))
    (hr : (∀ H locs ls u w a b, P H locs ls u w a b → W p l e R s m args below meth c H locs k n Q (g ls u w)) → W p l e R s m args below meth c H0 locs0 k0 n0 Q g0) : W p l e R s m args below meth c H0 locs0 k0 n0 Q g0 := by
  refine hr ?_
  have key : ∀ (N : Nat) H locs ls u w a b, μ u < N → P H locs ls u w a b → W p l e R s m args below meth c H locs k n Q (g ls u w) := by
    intro N
    induction N with
    | zero => intro H locs ls u w a b h; omega
    | succ N ih => intro H locs ls u w a b h hp; exact hM H locs ls u w a b hp (fun H' locs' ls' u' w' a' b' hp' hm => ih H' locs' ls' u' w' a' b' (by omega) hp')
  exact fun H locs ls u w a b hp => key (μ u + 1) H locs ls u w a b (Nat.lt_succ_self _) hp
end ZC
theorem ztab19 (x : Int32) : (x.toInt < 0 ∨ 19 < x.toInt) ∨ x = 0 ∨ x = 1 ∨ x = 2 ∨ x = 3 ∨ x = 4 ∨ x = 5 ∨ x = 6 ∨ x = 7 ∨ x = 8 ∨ x = 9 ∨ x = 10 ∨ x = 11 ∨ x = 12 ∨ x = 13 ∨ x = 14 ∨ x = 15 ∨ x = 16 ∨ x = 17 ∨ x = 18 ∨ x = 19 := by
  by_cases h : x.toInt < 0 ∨ 19 < x.toInt
  · exact Or.inl h
  · right
    simp only [zeqi, show ((0 : Int32).toInt = 0) from by decide, show ((1 : Int32).toInt = 1) from by decide, show ((2 : Int32).toInt = 2) from by decide, show ((3 : Int32).toInt = 3) from by decide, show ((4 : Int32).toInt = 4) from by decide, show ((5 : Int32).toInt = 5) from by decide, show ((6 : Int32).toInt = 6) from by decide, show ((7 : Int32).toInt = 7) from by decide, show ((8 : Int32).toInt = 8) from by decide, show ((9 : Int32).toInt = 9) from by decide, show ((10 : Int32).toInt = 10) from by decide, show ((11 : Int32).toInt = 11) from by decide, show ((12 : Int32).toInt = 12) from by decide, show ((13 : Int32).toInt = 13) from by decide, show ((14 : Int32).toInt = 14) from by decide, show ((15 : Int32).toInt = 15) from by decide, show ((16 : Int32).toInt = 16) from by decide, show ((17 : Int32).toInt = 17) from by decide, show ((18 : Int32).toInt = 18) from by decide, show ((19 : Int32).toInt = 19) from by decide]
    omega
