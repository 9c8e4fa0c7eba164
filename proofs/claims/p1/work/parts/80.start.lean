theorem zcmp (x : Int32) : x < 0 ∨ 0 < x ∨ x = 0 := by
  simp only [Int32.lt_iff_toInt_lt, zeqi, zlit]
  omega
theorem zknown {args : Array Value} {s : State} (hts : ∀ w ∈ lw_tbl, w.before args s = true) : ∃ (dC : Nat → ClassId) (dI : Nat → Nat → Nat), ∀ (k : Nat) (q : vw_C), vwCl[k]? = some q → u_Kn s q.1 q.2.1 q.2.2 (dC k) (dI k) := by
  obtain ⟨c0, i0, hk0⟩ := u_known (C := RX0) (T := TX0) (N := 6) (n := 6) hts (fun w h => zG_in (zuX0 w h)) (hts (.instantiable RX0 6) (by decide +kernel))
  obtain ⟨c1, i1, hk1⟩ := u_known (C := RX1) (T := TX1) (N := 17) (n := 17) hts (fun w h => zG_in (zuX1 w h)) (hts (.instantiable RX1 17) (by decide +kernel))
  obtain ⟨c2, i2, hk2⟩ := u_known (C := RX2) (T := TX2) (N := 11) (n := 11) hts (fun w h => zG_in (zuX2 w h)) (hts (.instantiable RX2 11) (by decide +kernel))
  obtain ⟨c3, i3, hk3⟩ := u_known (C := RX3) (T := TX3) (N := 10) (n := 10) hts (fun w h => zG_in (zuX3 w h)) (hts (.instantiable RX3 10) (by decide +kernel))
  obtain ⟨c4, i4, hk4⟩ := u_known (C := RX4) (T := TX4) (N := 12) (n := 12) hts (fun w h => zG_in (zuX4 w h)) (hts (.instantiable RX4 12) (by decide +kernel))
  obtain ⟨c5, i5, hk5⟩ := u_known (C := RX5) (T := TX5) (N := 1) (n := 1) hts (fun w h => zG_in (zuX5 w h)) (hts (.instantiable RX5 1) (by decide +kernel))
  obtain ⟨c6, i6, hk6⟩ := u_known (C := RX6) (T := TX6) (N := 12) (n := 12) hts (fun w h => zG_in (zuX6 w h)) (hts (.instantiable RX6 12) (by decide +kernel))
  obtain ⟨c7, i7, hk7⟩ := u_known (C := RX7) (T := TX7) (N := 12) (n := 12) hts (fun w h => zG_in (zuX7 w h)) (hts (.instantiable RX7 12) (by decide +kernel))
  obtain ⟨c8, i8, hk8⟩ := u_known (C := RX8) (T := TX8) (N := 9) (n := 9) hts (fun w h => zG_in (zuX8 w h)) (hts (.instantiable RX8 9) (by decide +kernel))
  obtain ⟨c9, i9, hk9⟩ := u_known (C := RX9) (T := TX9) (N := 4) (n := 4) hts (fun w h => zG_in (zuX9 w h)) (hts (.instantiable RX9 4) (by decide +kernel))
  obtain ⟨c10, i10, hk10⟩ := u_known (C := RX10) (T := TX10) (N := 8) (n := 8) hts (fun w h => zG_in (zuX10 w h)) (hts (.instantiable RX10 8) (by decide +kernel))
  obtain ⟨c11, i11, hk11⟩ := u_known (C := RX11) (T := TX11) (N := 12) (n := 12) hts (fun w h => zG_in (zuX11 w h)) (hts (.instantiable RX11 12) (by decide +kernel))
  obtain ⟨c12, i12, hk12⟩ := u_known (C := RX12) (T := TX12) (N := 6) (n := 6) hts (fun w h => zG_in (zuX12 w h)) (hts (.instantiable RX12 6) (by decide +kernel))
  obtain ⟨c13, i13, hk13⟩ := u_known (C := RX13) (T := TX13) (N := 75) (n := 75) hts (fun w h => zG_in (zuX13 w h)) (hts (.instantiable RX13 75) (by decide +kernel))
  refine ⟨fun k => [c0, c1, c2, c3, c4, c5, c6, c7, c8, c9, c10, c11, c12, c13].getD k c0, fun k => [i0, i1, i2, i3, i4, i5, i6, i7, i8, i9, i10, i11, i12, i13].getD k i0, ?_⟩
  intro k q hq
  match k, hq with
  | 0, hq => cases hq; exact hk0
  | 1, hq => cases hq; exact hk1
  | 2, hq => cases hq; exact hk2
  | 3, hq => cases hq; exact hk3
  | 4, hq => cases hq; exact hk4
  | 5, hq => cases hq; exact hk5
  | 6, hq => cases hq; exact hk6
  | 7, hq => cases hq; exact hk7
  | 8, hq => cases hq; exact hk8
  | 9, hq => cases hq; exact hk9
  | 10, hq => cases hq; exact hk10
  | 11, hq => cases hq; exact hk11
  | 12, hq => cases hq; exact hk12
  | 13, hq => cases hq; exact hk13
  | k + 14, hq => simp [vwCl] at hq
theorem zenv_start {args : Array Value} {s : State} (hts : ∀ w ∈ lw_tbl, w.before args s = true) (hgv : (Jvm.Cond.and given_1 narrow_1).before args s = true) : zenv s := by
  have hs := flat_of_before _ hgv
  exact ⟨va_Nw.of rfl (hts (.methodLinkNest RX11 11 yX9_init "GammaShelf") (by decide +kernel)),
    va_Nw.of rfl (hts (.methodLinkNest RX11 30 yX0_init "GammaShelf") (by decide +kernel)),
    va_Nw.of rfl (hts (.methodLinkNest RX11 37 yX6_init "GammaShelf") (by decide +kernel)),
    va_Nw.of rfl (hts (.methodLinkNest RX11 62 yX7_init "GammaShelf") (by decide +kernel)),
    va_Nw.of rfl (hts (.methodLinkNest RX1 17 yX5_init "GammaShelf") (by decide +kernel)),
    by obtain ⟨b9, _, _, _, h9, -⟩ := Cond.exactly_spec (hs (.exactly (.string RX11 184) "java/lang/String") (by decide +kernel)); exact ⟨b9, vk_R.of (hts (.stringRef RX11 184 "no such document") (by decide +kernel)) h9⟩,
    by obtain ⟨b9, _, _, _, h9, -⟩ := Cond.exactly_spec (hs (.exactly (.string RX11 220) "java/lang/String") (by decide +kernel)); exact ⟨b9, vk_R.of (hts (.stringRef RX11 220 "no such bit") (by decide +kernel)) h9⟩,
    by obtain ⟨b9, _, _, _, h9, -⟩ := Cond.exactly_spec (hs (.exactly (.string RX11 232) "java/lang/String") (by decide +kernel)); exact ⟨b9, vk_R.of (hts (.stringRef RX11 232 "no such letter") (by decide +kernel)) h9⟩,
    by obtain ⟨b9, _, _, _, h9, -⟩ := Cond.exactly_spec (hs (.exactly (.string RX11 251) "java/lang/String") (by decide +kernel)); exact ⟨b9, vk_R.of (hts (.stringRef RX11 251 "a hit below 0") (by decide +kernel)) h9⟩,
    by obtain ⟨b9, _, _, _, h9, -⟩ := Cond.exactly_spec (hs (.exactly (.string RX11 256) "java/lang/String") (by decide +kernel)); exact ⟨b9, vk_R.of (hts (.stringRef RX11 256 "no such rank") (by decide +kernel)) h9⟩,
    by obtain ⟨b9, _, _, _, h9, -⟩ := Cond.exactly_spec (hs (.exactly (.string RX11 267) "java/lang/String") (by decide +kernel)); exact ⟨b9, vk_R.of (hts (.stringRef RX11 267 "a step below 0") (by decide +kernel)) h9⟩,
    by obtain ⟨b9, _, _, _, h9, -⟩ := Cond.exactly_spec (hs (.exactly (.string RX11 284) "java/lang/String") (by decide +kernel)); exact ⟨b9, vk_R.of (hts (.stringRef RX11 284 "no such document on the shelf") (by decide +kernel)) h9⟩,
    fun w hw => va_Nw.of (zkind_tab (zNG_kind w hw)) (hts w (zAT_lw w (List.mem_filter.mp hw).1)),
    va_Nw.of rfl (hts (.castable RX12 RX12) (by decide +kernel)),
    va_AO.of (hts (.arrayOver (.object RX5)) (by decide +kernel)),
    va_AO.of (hts (.arrayOver (.object RX8)) (by decide +kernel))⟩
theorem zst_start {args : Array Value} {s : State} (hts : ∀ w ∈ lw_tbl, w.before args s = true) (hgv : (Jvm.Cond.and given_1 narrow_1).before args s = true) : zst (fun q : Nat => s.heap.size ≤ q) s s.heap := by
  have hs := flat_of_before _ hgv
  exact ⟨vx_Zqof (hts (.laysStatic Bundle.tN "UNASSIGNED_STACK" Bundle.steD) (by decide +kernel)) (hts (.initialized Bundle.tN) (by decide +kernel)) (hs (.isRef (.static Bundle.tN "UNASSIGNED_STACK" Bundle.steD)) (by decide +kernel)) (fun a h => Nat.not_le.mpr h),
    vx_Zqof (hts (.laysStatic Bundle.tN "SUPPRESSED_SENTINEL" Bundle.listD) (by decide +kernel)) (hts (.initialized Bundle.tN) (by decide +kernel)) (hs (.isRef (.static Bundle.tN "SUPPRESSED_SENTINEL" Bundle.listD)) (by decide +kernel)) (fun a h => Nat.not_le.mpr h)⟩
def R_law : String := "GammaShelfLaw"
def lw_P (b : Addr) (xs : List Int32) (args : Array Value) (s : State) : Prop := args = #[.ref b] ∧ s.IntsAt b xs ∧ xs.length ≤ 6 ∧ (Jvm.Cond.and given_1 narrow_1).before args s = true
def lw_Q (_ : Array Value) (s : State) (o : Outcome) (t : State) : Prop := o = .returned (some (.int 1)) ∧ Framed s o t [] 600002 7302232
def lw_Z (below : List Frame) (a : Array Value) (s : State) : State → Prop := fun t => ∃ o, t.status = .running ∧ Ended t below o ∧ lw_Q a s o t
/-- the law's own end, with 1 on the stack, nothing written that was there before, its room as the claim has it -/
theorem lw_ret {p : Program} {l : Launch} {e : Env} {s : State} {m : MethodId} {below : List Frame} {meth : Method} {c : Code} {b : Nat} (hx : p.tables.exec = Jvm.exec) (hb : c.code = code) (hr : meth.sig.returnType = ret) (hlocks : meth.locks = false) {pc : Nat} {H : Heap} {ls : Array Slot} (hdg : decode code pc = .ok (.ireturn, 1)) : W p l e room_1 s m #[Value.ref b] below meth c H [] 600002 7302232 (lw_Z below #[Value.ref b] s) (F0 m pc ls [.int 1]) := by
  intro T hT X
  obtain ⟨fs, hret, hrun, hended, hW, hframe⟩ := X.leave (v := some (.int 1)) (hlocks := hlocks) (fun h => by rw [hr] at h; cases h)
  have hmeth' : T.vm.method? m = some meth := X.method'
  refine ⟨T.setFrames fs, ?_, .returned (some (.int 1)), hrun, hended, rfl, ⟨_, rfl⟩, hW, hframe⟩
  jvm_step X.here [X.here.top, hx, hb, hdg, hmeth', hr, ret, narrow_b1]
  (try refine ⟨rfl, ?_⟩); (try refine ⟨rfl, ?_⟩)
  first | (intro acts; rw [hret _ acts rfl rfl rfl]) | rw [hret _ _ rfl rfl rfl]
  exact Steps.refl _
/-- what holds at the law's entry: the machine, the code, the tables' words (any of lw_tbl by 'hts w (by decide +kernel)'), the script of L ints xs at the cell b, what the Statement gives of the start (any of its parts by flat_of_before) -/
def lw_At (p : Program) (s : State) (m : MethodId) (meth : Method) (c : Code) (b L : Nat) (xs : Nat → Int32) : Prop :=
  p.tables.exec = Jvm.exec ∧ c.code = code ∧ meth.sig.returnType = ret ∧ c.maxLocals = 7 ∧ s.vm.findClass R_law = some m.cls ∧ (∀ w ∈ lw_tbl, w.before #[Value.ref b] s = true) ∧ va_X b L xs s s.heap ∧ b < s.heap.size ∧ meth.locks = false ∧ (Jvm.Cond.and given_1 narrow_1).before #[Value.ref b] s = true
/-- what every case of the law's walk takes along -/
def zLaw (p : Program) (s : State) (m : MethodId) (meth : Method) (c : Code) (b L : Nat) (xs : Nat → Int32) (A : Nat → Prop) : Prop :=
  p.tables.exec = Jvm.exec ∧ c.code = code ∧ meth.sig.returnType = ret ∧ c.maxLocals = 7 ∧ s.vm.findClass RL = some m.cls ∧ (∀ w ∈ zG, w.before #[Value.ref b] s = true) ∧ zenv s ∧ zst A s s.heap ∧ (∀ q : Nat, s.heap.size ≤ q → A q) ∧ A = (fun q : Nat => s.heap.size ≤ q) ∧ va_X b L xs s s.heap ∧ b < s.heap.size ∧ ¬ A b ∧ meth.locks = false
