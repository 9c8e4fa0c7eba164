def zG : List Cond := lw_tbl.filter goodWord
theorem zin {w : Cond} (i : Nat) (h : lw_tbl[i]? = some w) (g : goodWord w = true) : w ∈ zG := List.mem_filter.mpr ⟨List.mem_of_getElem? h, g⟩
theorem zG_in {w : Cond} (h : w ∈ zG) : w ∈ lw_tbl := (List.mem_filter.mp h).1
theorem zG_good {w : Cond} (h : w ∈ zG) : goodWord w = true := (List.mem_filter.mp h).2
theorem zuL (ws : List Cond) (ps : List Nat) (hp : ws = ps.filterMap (fun i => lw_tbl[i]?)) (h : ws.all goodWord = true) : ∀ w ∈ ws, w ∈ zG := by
  intro w hw
  have h1 := List.all_eq_true.mp h w hw
  rw [hp] at hw
  obtain ⟨i, -, hi⟩ := List.mem_filterMap.mp hw
  exact zin i hi h1
abbrev zw (y : MethodName) (c : ByteArray) (n : Nat) (r : Option FieldType) : List Cond := .code y c n r :: zG
theorem zgI {y : MethodName} {c : ByteArray} {n : Nat} {r : Option FieldType} (h : Cond.code y c n r ∈ zG) : GoodIn zG (zw y c n r) := fun w hw => by
  have h2 : w ∈ zG := by
    rcases List.mem_cons.mp hw with rfl | h3
    · exact h
    · exact h3
  exact ⟨h2, good_of_word (zG_good h2)⟩
theorem zg4 {a b c d : Cond} {ws : List Cond} (h1 : a ∈ zG) (h2 : b ∈ zG) (h3 : c ∈ zG) (h4 : d ∈ zG) (h5 : GoodIn zG ws) : GoodIn zG ([a, b, c, d] ++ ws) := fun w hw => by
  rcases List.mem_append.mp hw with h | h
  · have h2 : w ∈ zG := by
      simp only [List.mem_cons, List.not_mem_nil, or_false] at h
      rcases h with rfl | rfl | rfl | rfl <;> assumption
    exact ⟨h2, good_of_word (zG_good h2)⟩
  · exact h5 w h
theorem zg3 {a b c : Cond} {ws : List Cond} (h1 : a ∈ zG) (h2 : b ∈ zG) (h3 : c ∈ zG) (h5 : GoodIn zG ws) : GoodIn zG ([a, b, c] ++ ws) := fun w hw => by
  rcases List.mem_append.mp hw with h | h
  · have h2 : w ∈ zG := by
      simp only [List.mem_cons, List.not_mem_nil, or_false] at h
      rcases h with rfl | rfl | rfl <;> assumption
    exact ⟨h2, good_of_word (zG_good h2)⟩
  · exact h5 w h
theorem zgV {own C : String} {idx : Nat} {y : MethodName} {c : ByteArray} {n : Nat} {r : Option FieldType} (h1 : Cond.methodLink own idx y ∈ zG) (h2 : Cond.instanceMethod y ∈ zG) (h3 : Cond.selects C y y ∈ zG) (h4 : Cond.initialized C ∈ zG) (h5 : Cond.code y c n r ∈ zG) : GoodIn zG (wsV own idx C y (zw y c n r)) := zg4 h1 h2 h3 h4 (zgI h5)
theorem zgS {own : String} {idx : Nat} {y : MethodName} {c : ByteArray} {n : Nat} {r : Option FieldType} (h1 : Cond.methodLink own idx y ∈ zG) (h2 : Cond.static y ∈ zG) (h3 : Cond.initialized y.cls ∈ zG) (h5 : Cond.code y c n r ∈ zG) : GoodIn zG (va_wsS own idx y (zw y c n r)) := zg3 h1 h2 h3 (zgI h5)
theorem zin_lit {i : Int32} {n : Nat} (h : 0 ≤ i.toInt ∧ i.toInt < n) : vp_in i n := vp_in_iff.mpr h
theorem zeqi {x y : Int32} : x = y ↔ x.toInt = y.toInt := ⟨fun h => by rw [h], fun h => Int32.toInt_inj.mp h⟩
theorem zlit : (0 : Int32).toInt = 0 := by decide
abbrev zAT : List Cond := vx_atS RX11 186 "java/lang/IndexOutOfBoundsException" ["java/lang/RuntimeException", "java/lang/Exception"]
def zNG : List Cond := zAT.filter (fun w => !goodWord w)
def zkind (w : Cond) : Bool := match w with
  | .declares _ => true
  | .castable _ _ => true
  | _ => false
theorem zNG_kind : ∀ w ∈ zNG, zkind w = true := by decide +kernel
theorem zkind_warm {w : Cond} {s U : State} (hk : zkind w = true) (hW : s.WarmedH U.vm) (h : va_Nw w s) : va_Nw w U := by
  cases w with
  | declares x => exact va_Nw.warmD hW h
  | castable a b => exact va_Nw.warmC hW h
  | _ => cases hk
theorem zkind_tab {w : Cond} (hk : zkind w = true) : w.onTables = true := by
  cases w with
  | declares x => rfl
  | castable a b => rfl
  | _ => cases hk
theorem zAT_lw : ∀ w ∈ zAT, w ∈ lw_tbl := by decide +kernel
theorem zAT_ot : ∀ w ∈ Cond.classLink RX11 182 "java/lang/IndexOutOfBoundsException" :: Cond.initialized "java/lang/IndexOutOfBoundsException" :: zAT, vx_ot w = true := by decide +kernel
def zst (A : Nat → Prop) (U : State) (H : Heap) : Prop := vx_Zq Bundle.tN "UNASSIGNED_STACK" Bundle.steD A U H ∧ vx_Zq Bundle.tN "SUPPRESSED_SENTINEL" Bundle.listD A U H
theorem zst_go {A B : Nat → Prop} {s U : State} {H0 H : Heap} {locs : List Loc} (h : zst A s H0) (hS : va_S A H0 H locs) (hvm : s.vm.Alike U.vm) (hAB : ∀ q, B q → A q) : zst B U H := ⟨((vx_Zq.moved hvm h.1).kept hS.2.1).narrow hAB, ((vx_Zq.moved hvm h.2).kept hS.2.1).narrow hAB⟩
theorem zq_val {C n d : String} {A : Nat → Prop} {s : State} {H : Heap} {ty : FieldType} (h : va_Zq C n d A s H) (hn : ∀ v : Value, (v = .null ∨ ∃ t, v = .ref t) → narrow ty v = v ∧ fits ty v = true) : ∃ v : Value, va_Z C n d v A s H ∧ narrow ty v = v ∧ fits ty v = true := by
  rcases h with h | ⟨t, h⟩
  · exact ⟨.null, h, (hn _ (Or.inl rfl)).1, (hn _ (Or.inl rfl)).2⟩
  · exact ⟨.ref t, h, (hn _ (Or.inr ⟨t, rfl⟩)).1, (hn _ (Or.inr ⟨t, rfl⟩)).2⟩
def zenv (U : State) : Prop := va_Nw (.methodLinkNest RX11 11 yX9_init "GammaShelf") U ∧ va_Nw (.methodLinkNest RX11 30 yX0_init "GammaShelf") U ∧ va_Nw (.methodLinkNest RX11 37 yX6_init "GammaShelf") U ∧ va_Nw (.methodLinkNest RX11 62 yX7_init "GammaShelf") U ∧ va_Nw (.methodLinkNest RX1 17 yX5_init "GammaShelf") U ∧ (∃ a : Nat, vk_R RX11 184 "no such document" a U) ∧ (∃ a : Nat, vk_R RX11 220 "no such bit" a U) ∧ (∃ a : Nat, vk_R RX11 232 "no such letter" a U) ∧ (∃ a : Nat, vk_R RX11 251 "a hit below 0" a U) ∧ (∃ a : Nat, vk_R RX11 256 "no such rank" a U) ∧ (∃ a : Nat, vk_R RX11 267 "a step below 0" a U) ∧ (∃ a : Nat, vk_R RX11 284 "no such document on the shelf" a U) ∧ (∀ w ∈ zNG, va_Nw w U) ∧ va_Nw (.castable RX12 RX12) U ∧ va_AO RX5 U ∧ va_AO RX8 U
theorem zE_RX11_11 {U : State} (h : zenv U) : va_Nw (.methodLinkNest RX11 11 yX9_init "GammaShelf") U := h.1
theorem zE_RX11_30 {U : State} (h : zenv U) : va_Nw (.methodLinkNest RX11 30 yX0_init "GammaShelf") U := h.2.1
theorem zE_RX11_37 {U : State} (h : zenv U) : va_Nw (.methodLinkNest RX11 37 yX6_init "GammaShelf") U := h.2.2.1
theorem zE_RX11_62 {U : State} (h : zenv U) : va_Nw (.methodLinkNest RX11 62 yX7_init "GammaShelf") U := h.2.2.2.1
theorem zE_RX1_17 {U : State} (h : zenv U) : va_Nw (.methodLinkNest RX1 17 yX5_init "GammaShelf") U := h.2.2.2.2.1
theorem zE_S184 {U : State} (h : zenv U) : ∃ a : Nat, vk_R RX11 184 "no such document" a U := h.2.2.2.2.2.1
theorem zE_S220 {U : State} (h : zenv U) : ∃ a : Nat, vk_R RX11 220 "no such bit" a U := h.2.2.2.2.2.2.1
theorem zE_S232 {U : State} (h : zenv U) : ∃ a : Nat, vk_R RX11 232 "no such letter" a U := h.2.2.2.2.2.2.2.1
theorem zE_S251 {U : State} (h : zenv U) : ∃ a : Nat, vk_R RX11 251 "a hit below 0" a U := h.2.2.2.2.2.2.2.2.1
theorem zE_S256 {U : State} (h : zenv U) : ∃ a : Nat, vk_R RX11 256 "no such rank" a U := h.2.2.2.2.2.2.2.2.2.1
theorem zE_S267 {U : State} (h : zenv U) : ∃ a : Nat, vk_R RX11 267 "a step below 0" a U := h.2.2.2.2.2.2.2.2.2.2.1
theorem zE_S284 {U : State} (h : zenv U) : ∃ a : Nat, vk_R RX11 284 "no such document on the shelf" a U := h.2.2.2.2.2.2.2.2.2.2.2.1
theorem zE_NG {U : State} (h : zenv U) : ∀ w ∈ zNG, va_Nw w U := h.2.2.2.2.2.2.2.2.2.2.2.2.1
theorem zE_castS {U : State} (h : zenv U) : va_Nw (.castable RX12 RX12) U := h.2.2.2.2.2.2.2.2.2.2.2.2.2.1
theorem zE_castI {U : State} (h : zenv U) : va_Nw (.castable "java/lang/IndexOutOfBoundsException" "java/lang/IndexOutOfBoundsException") U := zE_NG h _ (by decide +kernel)
theorem zhat {args : Array Value} {s : State} (hG : ∀ w ∈ zG, w.before args s = true) (hE : zenv s) : ∀ w ∈ zAT, w.before args s = true := fun w hw => by
  by_cases hg : goodWord w = true
  · exact hG w (List.mem_filter.mpr ⟨zAT_lw w hw, hg⟩)
  · have hn : w ∈ zNG := List.mem_filter.mpr ⟨hw, by simpa using hg⟩
    exact va_Nw.use (zkind_tab (zNG_kind w hn)) (zE_NG hE w hn)
theorem zE_AO5 {U : State} (h : zenv U) : va_AO RX5 U := h.2.2.2.2.2.2.2.2.2.2.2.2.2.2.1
theorem zE_AO8 {U : State} (h : zenv U) : va_AO RX8 U := h.2.2.2.2.2.2.2.2.2.2.2.2.2.2.2
theorem zenv_warm {s U : State} (hW : s.WarmedH U.vm) (h : zenv s) : zenv U := by
  obtain ⟨a0, a1, a2, a3, a4, a5, a6, a7, a8, a9, a10, a11, a12, a13, a14, a15⟩ := h
  exact ⟨va_Nw.warmM hW a0, va_Nw.warmM hW a1, va_Nw.warmM hW a2, va_Nw.warmM hW a3, va_Nw.warmM hW a4, by obtain ⟨a, h⟩ := a5; exact ⟨a, vk_R.warm hW h⟩, by obtain ⟨a, h⟩ := a6; exact ⟨a, vk_R.warm hW h⟩, by obtain ⟨a, h⟩ := a7; exact ⟨a, vk_R.warm hW h⟩, by obtain ⟨a, h⟩ := a8; exact ⟨a, vk_R.warm hW h⟩, by obtain ⟨a, h⟩ := a9; exact ⟨a, vk_R.warm hW h⟩, by obtain ⟨a, h⟩ := a10; exact ⟨a, vk_R.warm hW h⟩, by obtain ⟨a, h⟩ := a11; exact ⟨a, vk_R.warm hW h⟩, fun w hw => zkind_warm (zNG_kind w hw) hW (a12 w hw), va_Nw.warmC hW a13, va_AO.moved hW.alike a14, va_AO.moved hW.alike a15⟩
theorem zenv_same {s U : State} (hv : s.vm = U.vm) (h : zenv s) : zenv U := by
  obtain ⟨a0, a1, a2, a3, a4, a5, a6, a7, a8, a9, a10, a11, a12, a13, a14, a15⟩ := h
  exact ⟨va_Nw.same rfl hv a0, va_Nw.same rfl hv a1, va_Nw.same rfl hv a2, va_Nw.same rfl hv a3, va_Nw.same rfl hv a4, by obtain ⟨a, h⟩ := a5; exact ⟨a, vk_R.same hv.symm h⟩, by obtain ⟨a, h⟩ := a6; exact ⟨a, vk_R.same hv.symm h⟩, by obtain ⟨a, h⟩ := a7; exact ⟨a, vk_R.same hv.symm h⟩, by obtain ⟨a, h⟩ := a8; exact ⟨a, vk_R.same hv.symm h⟩, by obtain ⟨a, h⟩ := a9; exact ⟨a, vk_R.same hv.symm h⟩, by obtain ⟨a, h⟩ := a10; exact ⟨a, vk_R.same hv.symm h⟩, by obtain ⟨a, h⟩ := a11; exact ⟨a, vk_R.same hv.symm h⟩, fun w hw => va_Nw.same (zkind_tab (zNG_kind w hw)) hv (a12 w hw), va_Nw.same rfl hv a13, va_AO.moved (by rw [hv]; exact Vm.Alike.refl _) a14, va_AO.moved (by rw [hv]; exact Vm.Alike.refl _) a15⟩
def zPc (dC : Nat → ClassId) (dI : Nat → Nat → Nat) (as : List Value) (sz : Nat) (ws : va_W) (tys : List (ClassId × FieldType)) : Array Value → State → Prop := va_Pc as (fun U => U.heap.size = sz ∧ va_P (dC, dI) vwCl ws U.heap ∧ va_K (dC, dI) vwCl tys U ∧ va_D (fun _ => True) ws ∧ zenv U ∧ zst (va_A ws sz) U U.heap)
theorem zPc_blind {dC : Nat → ClassId} {dI : Nat → Nat → Nat} {as : List Value} {sz : Nat} {ws : va_W} {tys : List (ClassId × FieldType)} : FrameBlind (zPc dC dI as sz ws tys) := fun a U g mk q => by
  obtain ⟨q0, q1, qP, qK, qD, qE, qZ⟩ := q
  exact ⟨q0, q1, qP, va_K.moved (u := U) (U := U.calling g mk a) (Vm.Alike.refl U.vm) qK, qD, zenv_same (s := U) (U := U.calling g mk a) rfl qE, ⟨vx_Zq.moved (u := U) (U := U.calling g mk a) (Vm.Alike.refl U.vm) qZ.1, vx_Zq.moved (u := U) (U := U.calling g mk a) (Vm.Alike.refl U.vm) qZ.2⟩⟩
theorem zPc_pre {dC : Nat → ClassId} {dI : Nat → Nat → Nat} {as : List Value} {ws : va_W} {tys : List (ClassId × FieldType)} {s : State} {H : Heap} {A : Nat → Prop} {locs : List Loc} (hP : va_P (dC, dI) vwCl ws H) (hK : va_K (dC, dI) vwCl tys s) (hD : va_D A ws) (hE : zenv s) (hS : va_S A s.heap H locs) (hF : ∀ q, va_A ws H.size q → A q) (hZ : zst A s s.heap) : ∀ U : State, U.heap = H → s.WarmedH U.vm → zPc dC dI as H.size ws tys as.toArray U :=
  fun U hU hW => ⟨rfl, by rw [hU], by rw [hU]; exact hP, va_K.moved hW.alike hK, hD.weaken (fun _ _ _ _ => trivial), zenv_warm hW hE, by rw [hU]; exact zst_go hZ hS hW.alike hF⟩
theorem ztab2 (x : Int32) : (x.toInt < 0 ∨ 2 < x.toInt) ∨ x = 0 ∨ x = 1 ∨ x = 2 := by
  by_cases h : x.toInt < 0 ∨ 2 < x.toInt
  · exact Or.inl h
  · right
    simp only [zeqi, show ((0 : Int32).toInt = 0) from by decide, show ((1 : Int32).toInt = 1) from by decide, show ((2 : Int32).toInt = 2) from by decide]
    omega
theorem ztab3 (x : Int32) : (x.toInt < 0 ∨ 3 < x.toInt) ∨ x = 0 ∨ x = 1 ∨ x = 2 ∨ x = 3 := by
  by_cases h : x.toInt < 0 ∨ 3 < x.toInt
  · exact Or.inl h
  · right
    simp only [zeqi, show ((0 : Int32).toInt = 0) from by decide, show ((1 : Int32).toInt = 1) from by decide, show ((2 : Int32).toInt = 2) from by decide, show ((3 : Int32).toInt = 3) from by decide]
    omega
theorem ztab6 (x : Int32) : (x.toInt < 0 ∨ 6 < x.toInt) ∨ x = 0 ∨ x = 1 ∨ x = 2 ∨ x = 3 ∨ x = 4 ∨ x = 5 ∨ x = 6 := by
  by_cases h : x.toInt < 0 ∨ 6 < x.toInt
  · exact Or.inl h
  · right
    simp only [zeqi, show ((0 : Int32).toInt = 0) from by decide, show ((1 : Int32).toInt = 1) from by decide, show ((2 : Int32).toInt = 2) from by decide, show ((3 : Int32).toInt = 3) from by decide, show ((4 : Int32).toInt = 4) from by decide, show ((5 : Int32).toInt = 5) from by decide, show ((6 : Int32).toInt = 6) from by decide]
    omega
theorem ztab19 (x : Int32) : (x.toInt < 0 ∨ 19 < x.toInt) ∨ x = 0 ∨ x = 1 ∨ x = 2 ∨ x = 3 ∨ x = 4 ∨ x = 5 ∨ x = 6 ∨ x = 7 ∨ x = 8 ∨ x = 9 ∨ x = 10 ∨ x = 11 ∨ x = 12 ∨ x = 13 ∨ x = 14 ∨ x = 15 ∨ x = 16 ∨ x = 17 ∨ x = 18 ∨ x = 19 := by
  by_cases h : x.toInt < 0 ∨ 19 < x.toInt
  · exact Or.inl h
  · right
    simp only [zeqi, show ((0 : Int32).toInt = 0) from by decide, show ((1 : Int32).toInt = 1) from by decide, show ((2 : Int32).toInt = 2) from by decide, show ((3 : Int32).toInt = 3) from by decide, show ((4 : Int32).toInt = 4) from by decide, show ((5 : Int32).toInt = 5) from by decide, show ((6 : Int32).toInt = 6) from by decide, show ((7 : Int32).toInt = 7) from by decide, show ((8 : Int32).toInt = 8) from by decide, show ((9 : Int32).toInt = 9) from by decide, show ((10 : Int32).toInt = 10) from by decide, show ((11 : Int32).toInt = 11) from by decide, show ((12 : Int32).toInt = 12) from by decide, show ((13 : Int32).toInt = 13) from by decide, show ((14 : Int32).toInt = 14) from by decide, show ((15 : Int32).toInt = 15) from by decide, show ((16 : Int32).toInt = 16) from by decide, show ((17 : Int32).toInt = 17) from by decide, show ((18 : Int32).toInt = 18) from by decide, show ((19 : Int32).toInt = 19) from by decide]
    omega
theorem zuX0 : ∀ w ∈ wsX00, w ∈ zG := zuL _ [228, 230, 232, 234, 236, 238] (by decide +kernel) (by decide +kernel)
theorem zuX1 : ∀ w ∈ wsX10, w ∈ zG := zuL _ [521, 523, 525, 527, 529, 531, 533, 535, 537, 539, 541, 543, 545, 547, 549, 551, 553] (by decide +kernel) (by decide +kernel)
theorem zuX2 : ∀ w ∈ wsX20, w ∈ zG := zuL _ [336, 338, 340, 342, 344, 346, 348, 350, 352, 354, 356] (by decide +kernel) (by decide +kernel)
theorem zuX3 : ∀ w ∈ wsX30, w ∈ zG := zuL _ [483, 485, 487, 489, 491, 493, 495, 497, 499, 501] (by decide +kernel) (by decide +kernel)
theorem zuX4 : ∀ w ∈ wsX40, w ∈ zG := zuL _ [420, 422, 424, 426, 428, 430, 432, 434, 436, 438, 440, 442] (by decide +kernel) (by decide +kernel)
theorem zuX5 : ∀ w ∈ wsX50, w ∈ zG := zuL _ [459] (by decide +kernel) (by decide +kernel)
theorem zuX6 : ∀ w ∈ wsX60, w ∈ zG := zuL _ [260, 262, 264, 266, 268, 270, 272, 274, 276, 278, 280, 282] (by decide +kernel) (by decide +kernel)
theorem zuX7 : ∀ w ∈ wsX70, w ∈ zG := zuL _ [377, 379, 381, 383, 385, 387, 389, 391, 393, 395, 397, 399] (by decide +kernel) (by decide +kernel)
theorem zuX8 : ∀ w ∈ wsX80, w ∈ zG := zuL _ [300, 302, 304, 306, 308, 310, 312, 314, 316] (by decide +kernel) (by decide +kernel)
theorem zuX9 : ∀ w ∈ wsX90, w ∈ zG := zuL _ [173, 175, 177, 179] (by decide +kernel) (by decide +kernel)
theorem zuX10 : ∀ w ∈ wsX100, w ∈ zG := zuL _ [197, 199, 201, 203, 205, 207, 209, 211] (by decide +kernel) (by decide +kernel)
theorem zuX11 : ∀ w ∈ wsX110, w ∈ zG := zuL _ [569, 571, 573, 575, 577, 579, 581, 583, 585, 587, 589, 591] (by decide +kernel) (by decide +kernel)
theorem zuX12 : ∀ w ∈ wsX120, w ∈ zG := zuL _ [1587, 1588, 1589, 1590, 1591, 1601] (by decide +kernel) (by decide +kernel)
theorem zuX13 : ∀ w ∈ wsX130, w ∈ zG := zuL _ [1679, 1681, 1683, 1685, 1687, 1689, 1691, 1693, 1695, 1697, 1699, 1701, 1703, 1705, 1707, 1709, 1711, 1713, 1715, 1717, 1719, 1721, 1723, 1725, 1727, 1729, 1731, 1733, 1735, 1737, 1739, 1741, 1743, 1745, 1747, 1749, 1751, 1753, 1755, 1757, 1759, 1761, 1763, 1765, 1767, 1769, 1771, 1773, 1775, 1777, 1779, 1781, 1783, 1785, 1787, 1789, 1791, 1793, 1795, 1797, 1799, 1801, 1803, 1805, 1807, 1809, 1811, 1813, 1815, 1817, 1819, 1821, 1823, 1825, 1827] (by decide +kernel) (by decide +kernel)
