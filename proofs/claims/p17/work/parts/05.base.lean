def zG : List Cond := lw_tbl.filter goodWord
theorem zin {w : Cond} (i : Nat) (h : lw_tbl[i]? = some w) (g : goodWord w = true) : w ∈ zG := List.mem_filter.mpr ⟨List.mem_of_getElem? h, g⟩
theorem zG_in {w : Cond} (h : w ∈ zG) : w ∈ lw_tbl := (List.mem_filter.mp h).1
theorem zG_good {w : Cond} (h : w ∈ zG) : goodWord w = true := (List.mem_filter.mp h).2
theorem zuL (ws : List Cond) (ps : List Nat) (hp : ws = ps.filterMap (fun i => lw_tbl[i]?)) (h : ws.all goodWord = true) : ∀ w ∈ ws, w ∈ zG := by
  intro w hw
  have h1 := List.all_eq_true.mp h w hw
  rw [hp] at hw
  obtain ⟨i, -, hi⟩ := List.mem_filterMap.mp hw
  exact zin i hi h1
abbrev zw (y : MethodName) (c : ByteArray) (n : Nat) (r : Option FieldType) : List Cond := .code y c n r :: zG
theorem zgI {y : MethodName} {c : ByteArray} {n : Nat} {r : Option FieldType} (h : Cond.code y c n r ∈ zG) : GoodIn zG (zw y c n r) := fun w hw => by
  have h2 : w ∈ zG := by
    rcases List.mem_cons.mp hw with rfl | h3
    · exact h
    · exact h3
  exact ⟨h2, good_of_word (zG_good h2)⟩
theorem zg4 {a b c d : Cond} {ws : List Cond} (h1 : a ∈ zG) (h2 : b ∈ zG) (h3 : c ∈ zG) (h4 : d ∈ zG) (h5 : GoodIn zG ws) : GoodIn zG ([a, b, c, d] ++ ws) := fun w hw => by
  rcases List.mem_append.mp hw with h | h
  · have h2 : w ∈ zG := by
      simp only [List.mem_cons, List.not_mem_nil, or_false] at h
      rcases h with rfl | rfl | rfl | rfl <;> assumption
    exact ⟨h2, good_of_word (zG_good h2)⟩
  · exact h5 w h
theorem zg3 {a b c : Cond} {ws : List Cond} (h1 : a ∈ zG) (h2 : b ∈ zG) (h3 : c ∈ zG) (h5 : GoodIn zG ws) : GoodIn zG ([a, b, c] ++ ws) := fun w hw => by
  rcases List.mem_append.mp hw with h | h
  · have h2 : w ∈ zG := by
      simp only [List.mem_cons, List.not_mem_nil, or_false] at h
      rcases h with rfl | rfl | rfl <;> assumption
    exact ⟨h2, good_of_word (zG_good h2)⟩
  · exact h5 w h
theorem zgV {own C : String} {idx : Nat} {y : MethodName} {c : ByteArray} {n : Nat} {r : Option FieldType} (h1 : Cond.methodLink own idx y ∈ zG) (h2 : Cond.instanceMethod y ∈ zG) (h3 : Cond.selects C y y ∈ zG) (h4 : Cond.initialized C ∈ zG) (h5 : Cond.code y c n r ∈ zG) : GoodIn zG (wsV own idx C y (zw y c n r)) := zg4 h1 h2 h3 h4 (zgI h5)
theorem zgS {own : String} {idx : Nat} {y : MethodName} {c : ByteArray} {n : Nat} {r : Option FieldType} (h1 : Cond.methodLink own idx y ∈ zG) (h2 : Cond.static y ∈ zG) (h3 : Cond.initialized y.cls ∈ zG) (h5 : Cond.code y c n r ∈ zG) : GoodIn zG (va_wsS own idx y (zw y c n r)) := zg3 h1 h2 h3 (zgI h5)
theorem zin1 {w : Cond} (i : Nat) (h : tables_1_1[i]? = some w) (g : goodWord w = true) : w ∈ zG := by
  refine List.mem_filter.mpr ⟨List.mem_append_right _ ?_, g⟩
  have h1 := List.mem_of_getElem? h
  unfold tables_1
  simp only [List.mem_append]
  exact Or.inl h1
theorem zin2 {w : Cond} (i : Nat) (h : tables_1_2[i]? = some w) (g : goodWord w = true) : w ∈ zG := by
  refine List.mem_filter.mpr ⟨List.mem_append_right _ ?_, g⟩
  have h1 := List.mem_of_getElem? h
  unfold tables_1
  simp only [List.mem_append]
  exact Or.inr (Or.inl h1)
theorem zin3 {w : Cond} (i : Nat) (h : tables_1_3[i]? = some w) (g : goodWord w = true) : w ∈ zG := by
  refine List.mem_filter.mpr ⟨List.mem_append_right _ ?_, g⟩
  have h1 := List.mem_of_getElem? h
  unfold tables_1
  simp only [List.mem_append]
  exact Or.inr (Or.inr (Or.inl h1))
theorem zin4 {w : Cond} (i : Nat) (h : tables_1_4[i]? = some w) (g : goodWord w = true) : w ∈ zG := by
  refine List.mem_filter.mpr ⟨List.mem_append_right _ ?_, g⟩
  have h1 := List.mem_of_getElem? h
  unfold tables_1
  simp only [List.mem_append]
  exact Or.inr (Or.inr (Or.inr (Or.inl h1)))
theorem zin5 {w : Cond} (i : Nat) (h : tables_1_5[i]? = some w) (g : goodWord w = true) : w ∈ zG := by
  refine List.mem_filter.mpr ⟨List.mem_append_right _ ?_, g⟩
  have h1 := List.mem_of_getElem? h
  unfold tables_1
  simp only [List.mem_append]
  exact Or.inr (Or.inr (Or.inr (Or.inr (Or.inl h1))))
theorem zin6 {w : Cond} (i : Nat) (h : tables_1_6[i]? = some w) (g : goodWord w = true) : w ∈ zG := by
  refine List.mem_filter.mpr ⟨List.mem_append_right _ ?_, g⟩
  have h1 := List.mem_of_getElem? h
  unfold tables_1
  simp only [List.mem_append]
  exact Or.inr (Or.inr (Or.inr (Or.inr (Or.inr (Or.inl h1)))))
theorem zin7 {w : Cond} (i : Nat) (h : tables_1_7[i]? = some w) (g : goodWord w = true) : w ∈ zG := by
  refine List.mem_filter.mpr ⟨List.mem_append_right _ ?_, g⟩
  have h1 := List.mem_of_getElem? h
  unfold tables_1
  simp only [List.mem_append]
  exact Or.inr (Or.inr (Or.inr (Or.inr (Or.inr (Or.inr (Or.inl h1))))))
theorem zin8 {w : Cond} (i : Nat) (h : tables_1_8[i]? = some w) (g : goodWord w = true) : w ∈ zG := by
  refine List.mem_filter.mpr ⟨List.mem_append_right _ ?_, g⟩
  have h1 := List.mem_of_getElem? h
  unfold tables_1
  simp only [List.mem_append]
  exact Or.inr (Or.inr (Or.inr (Or.inr (Or.inr (Or.inr (Or.inr (Or.inl h1)))))))
theorem zin9 {w : Cond} (i : Nat) (h : tables_1_9[i]? = some w) (g : goodWord w = true) : w ∈ zG := by
  refine List.mem_filter.mpr ⟨List.mem_append_right _ ?_, g⟩
  have h1 := List.mem_of_getElem? h
  unfold tables_1
  simp only [List.mem_append]
  exact Or.inr (Or.inr (Or.inr (Or.inr (Or.inr (Or.inr (Or.inr (Or.inr (h1))))))))
abbrev zAT : List Cond := vx_atS RX11 186 "java/lang/IndexOutOfBoundsException" ["java/lang/RuntimeException", "java/lang/Exception"]
def zNG : List Cond := zAT.filter (fun w => !goodWord w)
def zkind (w : Cond) : Bool := match w with
  | .declares _ => true
  | .castable _ _ => true
  | _ => false
theorem zNG_kind : ∀ w ∈ zNG, zkind w = true := by decide +kernel
theorem zkind_warm {w : Cond} {s U : State} (hk : zkind w = true) (hW : s.WarmedH U.vm) (h : va_Nw w s) : va_Nw w U := by
  cases w with
  | declares x => exact va_Nw.warmD hW h
  | castable a b => exact va_Nw.warmC hW h
  | _ => cases hk
theorem zkind_tab {w : Cond} (hk : zkind w = true) : w.onTables = true := by
  cases w with
  | declares x => rfl
  | castable a b => rfl
  | _ => cases hk
theorem zAT_lw : ∀ w ∈ zAT, w ∈ lw_tbl := by decide +kernel
theorem zAT_ot : ∀ w ∈ Cond.classLink RX11 182 "java/lang/IndexOutOfBoundsException" :: Cond.initialized "java/lang/IndexOutOfBoundsException" :: zAT, vx_ot w = true := by decide +kernel
def zSlen : List Nat := [3, 3, 2, 1, 2, 2, 2, 2, 3, 3, 4, 5, 4]
def zSbyt : List (List Int32) := [[105, 101, 115], [105, 110, 103], [101, 100], [115], [115, 115], [117, 115], [105, 115], [111, 114], [97, 110, 100], [110, 111, 116], [110, 101, 97, 114], [116, 105, 116, 108, 101], [98, 111, 100, 121]]
def zfm (adK : Nat → Nat) : Value := match adK 13 with
  | 0 => .null
  | t + 1 => .ref t
def zst (adK adV : Nat → Nat) (A : Nat → Prop) (U : State) (H : Heap) : Prop := vx_Zq Bundle.tN "UNASSIGNED_STACK" Bundle.steD A U H ∧ vx_Zq Bundle.tN "SUPPRESSED_SENTINEL" Bundle.listD A U H ∧ va_Z "java/lang/String" "COMPACT_STRINGS" "Z" (.int 1) A U H ∧ vk_S 13 zSlen zSbyt adK adV A U H ∧ va_Z "jdk/internal/util/Preconditions" "SIOOBE_FORMATTER" "Ljava/util/function/BiFunction;" (zfm adK) A U H
theorem zst_go {adK adV : Nat → Nat} {A B : Nat → Prop} {s U : State} {H0 H : Heap} {locs : List Loc} (h : zst adK adV A s H0) (hS : va_S A H0 H locs) (hvm : s.vm.Alike U.vm) (hAB : ∀ q, B q → A q) : zst adK adV B U H := ⟨((vx_Zq.moved hvm h.1).kept hS.2.1).narrow hAB, ((vx_Zq.moved hvm h.2.1).kept hS.2.1).narrow hAB, ((va_Z.moved hvm h.2.2.1).kept hS.2.1).narrow hAB, ((vk_S.moved hvm h.2.2.2.1).kept hS.2.1).narrow hAB, ((va_Z.moved hvm h.2.2.2.2).kept hS.2.1).narrow hAB⟩
theorem zq_val {C n d : String} {A : Nat → Prop} {s : State} {H : Heap} {ty : FieldType} (h : va_Zq C n d A s H) (hn : ∀ v : Value, (v = .null ∨ ∃ t, v = .ref t) → narrow ty v = v ∧ fits ty v = true) : ∃ v : Value, va_Z C n d v A s H ∧ narrow ty v = v ∧ fits ty v = true := by
  rcases h with h | ⟨t, h⟩
  · exact ⟨.null, h, (hn _ (Or.inl rfl)).1, (hn _ (Or.inl rfl)).2⟩
  · exact ⟨.ref t, h, (hn _ (Or.inr ⟨t, rfl⟩)).1, (hn _ (Or.inr ⟨t, rfl⟩)).2⟩
def zenv (adK : Nat → Nat) (U : State) : Prop := va_Nw (.methodLinkNest RX11 11 yX9_init "GammaShelf") U ∧ va_Nw (.methodLinkNest RX11 30 yX0_init "GammaShelf") U ∧ va_Nw (.methodLinkNest RX11 37 yX6_init "GammaShelf") U ∧ va_Nw (.methodLinkNest RX11 62 yX7_init "GammaShelf") U ∧ va_Nw (.methodLinkNest RX1 17 yX5_init "GammaShelf") U ∧ va_Nw (.methodLinkNest RX6 59 yX11_binaryDigits "GammaShelf") U ∧ va_Nw (.methodLinkNest RX1 181 yX11_rarity "GammaShelf") U ∧ vk_R RX9 75 "ies" (adK 0) U ∧ vk_R RX9 81 "ing" (adK 1) U ∧ vk_R RX9 83 "ed" (adK 2) U ∧ vk_R RX9 85 "s" (adK 3) U ∧ vk_R RX9 87 "ss" (adK 4) U ∧ vk_R RX9 89 "us" (adK 5) U ∧ vk_R RX9 91 "is" (adK 6) U ∧ vk_R RX4 90 "or" (adK 7) U ∧ vk_R RX4 96 "and" (adK 8) U ∧ vk_R RX4 98 "not" (adK 9) U ∧ vk_R RX4 100 "near" (adK 10) U ∧ vk_R RX4 102 "title" (adK 11) U ∧ vk_R RX4 104 "body" (adK 12) U ∧ (∃ a : Nat, vk_R RX11 184 "no such document" a U) ∧ (∃ a : Nat, vk_R RX11 220 "no such bit" a U) ∧ (∃ a : Nat, vk_R RX11 232 "no such letter" a U) ∧ (∃ a : Nat, vk_R RX11 251 "a hit below 0" a U) ∧ (∃ a : Nat, vk_R RX11 256 "no such rank" a U) ∧ (∃ a : Nat, vk_R RX11 267 "a step below 0" a U) ∧ (∃ a : Nat, vk_R RX11 284 "no such document on the shelf" a U) ∧ (∀ w ∈ zNG, va_Nw w U) ∧ va_Nw (.castable RX12 RX12) U ∧ va_AO RX5 U ∧ va_AO RX8 U
theorem zE_RX11_11 {adK : Nat → Nat} {U : State} (h : zenv adK U) : va_Nw (.methodLinkNest RX11 11 yX9_init "GammaShelf") U := h.1
theorem zE_RX11_30 {adK : Nat → Nat} {U : State} (h : zenv adK U) : va_Nw (.methodLinkNest RX11 30 yX0_init "GammaShelf") U := h.2.1
theorem zE_RX11_37 {adK : Nat → Nat} {U : State} (h : zenv adK U) : va_Nw (.methodLinkNest RX11 37 yX6_init "GammaShelf") U := h.2.2.1
theorem zE_RX11_62 {adK : Nat → Nat} {U : State} (h : zenv adK U) : va_Nw (.methodLinkNest RX11 62 yX7_init "GammaShelf") U := h.2.2.2.1
theorem zE_RX1_17 {adK : Nat → Nat} {U : State} (h : zenv adK U) : va_Nw (.methodLinkNest RX1 17 yX5_init "GammaShelf") U := h.2.2.2.2.1
theorem zE_RX6_59 {adK : Nat → Nat} {U : State} (h : zenv adK U) : va_Nw (.methodLinkNest RX6 59 yX11_binaryDigits "GammaShelf") U := h.2.2.2.2.2.1
theorem zE_RX1_181 {adK : Nat → Nat} {U : State} (h : zenv adK U) : va_Nw (.methodLinkNest RX1 181 yX11_rarity "GammaShelf") U := h.2.2.2.2.2.2.1
theorem zE_K0 {adK : Nat → Nat} {U : State} (h : zenv adK U) : vk_R RX9 75 "ies" (adK 0) U := h.2.2.2.2.2.2.2.1
theorem zE_K1 {adK : Nat → Nat} {U : State} (h : zenv adK U) : vk_R RX9 81 "ing" (adK 1) U := h.2.2.2.2.2.2.2.2.1
theorem zE_K2 {adK : Nat → Nat} {U : State} (h : zenv adK U) : vk_R RX9 83 "ed" (adK 2) U := h.2.2.2.2.2.2.2.2.2.1
theorem zE_K3 {adK : Nat → Nat} {U : State} (h : zenv adK U) : vk_R RX9 85 "s" (adK 3) U := h.2.2.2.2.2.2.2.2.2.2.1
theorem zE_K4 {adK : Nat → Nat} {U : State} (h : zenv adK U) : vk_R RX9 87 "ss" (adK 4) U := h.2.2.2.2.2.2.2.2.2.2.2.1
theorem zE_K5 {adK : Nat → Nat} {U : State} (h : zenv adK U) : vk_R RX9 89 "us" (adK 5) U := h.2.2.2.2.2.2.2.2.2.2.2.2.1
theorem zE_K6 {adK : Nat → Nat} {U : State} (h : zenv adK U) : vk_R RX9 91 "is" (adK 6) U := h.2.2.2.2.2.2.2.2.2.2.2.2.2.1
theorem zE_K7 {adK : Nat → Nat} {U : State} (h : zenv adK U) : vk_R RX4 90 "or" (adK 7) U := h.2.2.2.2.2.2.2.2.2.2.2.2.2.2.1
theorem zE_K8 {adK : Nat → Nat} {U : State} (h : zenv adK U) : vk_R RX4 96 "and" (adK 8) U := h.2.2.2.2.2.2.2.2.2.2.2.2.2.2.2.1
theorem zE_K9 {adK : Nat → Nat} {U : State} (h : zenv adK U) : vk_R RX4 98 "not" (adK 9) U := h.2.2.2.2.2.2.2.2.2.2.2.2.2.2.2.2.1
theorem zE_K10 {adK : Nat → Nat} {U : State} (h : zenv adK U) : vk_R RX4 100 "near" (adK 10) U := h.2.2.2.2.2.2.2.2.2.2.2.2.2.2.2.2.2.1
theorem zE_K11 {adK : Nat → Nat} {U : State} (h : zenv adK U) : vk_R RX4 102 "title" (adK 11) U := h.2.2.2.2.2.2.2.2.2.2.2.2.2.2.2.2.2.2.1
theorem zE_K12 {adK : Nat → Nat} {U : State} (h : zenv adK U) : vk_R RX4 104 "body" (adK 12) U := h.2.2.2.2.2.2.2.2.2.2.2.2.2.2.2.2.2.2.2.1
theorem zE_S184 {adK : Nat → Nat} {U : State} (h : zenv adK U) : ∃ a : Nat, vk_R RX11 184 "no such document" a U := h.2.2.2.2.2.2.2.2.2.2.2.2.2.2.2.2.2.2.2.2.1
theorem zE_S220 {adK : Nat → Nat} {U : State} (h : zenv adK U) : ∃ a : Nat, vk_R RX11 220 "no such bit" a U := h.2.2.2.2.2.2.2.2.2.2.2.2.2.2.2.2.2.2.2.2.2.1
theorem zE_S232 {adK : Nat → Nat} {U : State} (h : zenv adK U) : ∃ a : Nat, vk_R RX11 232 "no such letter" a U := h.2.2.2.2.2.2.2.2.2.2.2.2.2.2.2.2.2.2.2.2.2.2.1
theorem zE_S251 {adK : Nat → Nat} {U : State} (h : zenv adK U) : ∃ a : Nat, vk_R RX11 251 "a hit below 0" a U := h.2.2.2.2.2.2.2.2.2.2.2.2.2.2.2.2.2.2.2.2.2.2.2.1
theorem zE_S256 {adK : Nat → Nat} {U : State} (h : zenv adK U) : ∃ a : Nat, vk_R RX11 256 "no such rank" a U := h.2.2.2.2.2.2.2.2.2.2.2.2.2.2.2.2.2.2.2.2.2.2.2.2.1
theorem zE_S267 {adK : Nat → Nat} {U : State} (h : zenv adK U) : ∃ a : Nat, vk_R RX11 267 "a step below 0" a U := h.2.2.2.2.2.2.2.2.2.2.2.2.2.2.2.2.2.2.2.2.2.2.2.2.2.1
theorem zE_S284 {adK : Nat → Nat} {U : State} (h : zenv adK U) : ∃ a : Nat, vk_R RX11 284 "no such document on the shelf" a U := h.2.2.2.2.2.2.2.2.2.2.2.2.2.2.2.2.2.2.2.2.2.2.2.2.2.2.1
theorem zE_NG {adK : Nat → Nat} {U : State} (h : zenv adK U) : ∀ w ∈ zNG, va_Nw w U := h.2.2.2.2.2.2.2.2.2.2.2.2.2.2.2.2.2.2.2.2.2.2.2.2.2.2.2.1
theorem zE_castS {adK : Nat → Nat} {U : State} (h : zenv adK U) : va_Nw (.castable RX12 RX12) U := h.2.2.2.2.2.2.2.2.2.2.2.2.2.2.2.2.2.2.2.2.2.2.2.2.2.2.2.2.1
theorem zE_castI {adK : Nat → Nat} {U : State} (h : zenv adK U) : va_Nw (.castable "java/lang/IndexOutOfBoundsException" "java/lang/IndexOutOfBoundsException") U := zE_NG h _ (by decide +kernel)
theorem zhat {adK : Nat → Nat} {args : Array Value} {s : State} (hG : ∀ w ∈ zG, w.before args s = true) (hE : zenv adK s) : ∀ w ∈ zAT, w.before args s = true := fun w hw => by
  by_cases hg : goodWord w = true
  · exact hG w (List.mem_filter.mpr ⟨zAT_lw w hw, hg⟩)
  · have hn : w ∈ zNG := List.mem_filter.mpr ⟨hw, by simpa using hg⟩
    exact va_Nw.use (zkind_tab (zNG_kind w hn)) (zE_NG hE w hn)
theorem zE_AO5 {adK : Nat → Nat} {U : State} (h : zenv adK U) : va_AO RX5 U := h.2.2.2.2.2.2.2.2.2.2.2.2.2.2.2.2.2.2.2.2.2.2.2.2.2.2.2.2.2.1
theorem zE_AO8 {adK : Nat → Nat} {U : State} (h : zenv adK U) : va_AO RX8 U := h.2.2.2.2.2.2.2.2.2.2.2.2.2.2.2.2.2.2.2.2.2.2.2.2.2.2.2.2.2.2
theorem zenv_warm {adK : Nat → Nat} {s U : State} (hW : s.WarmedH U.vm) (h : zenv adK s) : zenv adK U := by
  obtain ⟨a0, a1, a2, a3, a4, a5, a6, a7, a8, a9, a10, a11, a12, a13, a14, a15, a16, a17, a18, a19, a20, a21, a22, a23, a24, a25, a26, a27, a28, a29, a30⟩ := h
  exact ⟨va_Nw.warmM hW a0, va_Nw.warmM hW a1, va_Nw.warmM hW a2, va_Nw.warmM hW a3, va_Nw.warmM hW a4, va_Nw.warmM hW a5, va_Nw.warmM hW a6, vk_R.warm hW a7, vk_R.warm hW a8, vk_R.warm hW a9, vk_R.warm hW a10, vk_R.warm hW a11, vk_R.warm hW a12, vk_R.warm hW a13, vk_R.warm hW a14, vk_R.warm hW a15, vk_R.warm hW a16, vk_R.warm hW a17, vk_R.warm hW a18, vk_R.warm hW a19, by obtain ⟨a, h⟩ := a20; exact ⟨a, vk_R.warm hW h⟩, by obtain ⟨a, h⟩ := a21; exact ⟨a, vk_R.warm hW h⟩, by obtain ⟨a, h⟩ := a22; exact ⟨a, vk_R.warm hW h⟩, by obtain ⟨a, h⟩ := a23; exact ⟨a, vk_R.warm hW h⟩, by obtain ⟨a, h⟩ := a24; exact ⟨a, vk_R.warm hW h⟩, by obtain ⟨a, h⟩ := a25; exact ⟨a, vk_R.warm hW h⟩, by obtain ⟨a, h⟩ := a26; exact ⟨a, vk_R.warm hW h⟩, fun w hw => zkind_warm (zNG_kind w hw) hW (a27 w hw), va_Nw.warmC hW a28, va_AO.moved hW.alike a29, va_AO.moved hW.alike a30⟩
theorem zenv_same {adK : Nat → Nat} {s U : State} (hv : s.vm = U.vm) (h : zenv adK s) : zenv adK U := by
  obtain ⟨a0, a1, a2, a3, a4, a5, a6, a7, a8, a9, a10, a11, a12, a13, a14, a15, a16, a17, a18, a19, a20, a21, a22, a23, a24, a25, a26, a27, a28, a29, a30⟩ := h
  exact ⟨va_Nw.same rfl hv a0, va_Nw.same rfl hv a1, va_Nw.same rfl hv a2, va_Nw.same rfl hv a3, va_Nw.same rfl hv a4, va_Nw.same rfl hv a5, va_Nw.same rfl hv a6, vk_R.same hv.symm a7, vk_R.same hv.symm a8, vk_R.same hv.symm a9, vk_R.same hv.symm a10, vk_R.same hv.symm a11, vk_R.same hv.symm a12, vk_R.same hv.symm a13, vk_R.same hv.symm a14, vk_R.same hv.symm a15, vk_R.same hv.symm a16, vk_R.same hv.symm a17, vk_R.same hv.symm a18, vk_R.same hv.symm a19, by obtain ⟨a, h⟩ := a20; exact ⟨a, vk_R.same hv.symm h⟩, by obtain ⟨a, h⟩ := a21; exact ⟨a, vk_R.same hv.symm h⟩, by obtain ⟨a, h⟩ := a22; exact ⟨a, vk_R.same hv.symm h⟩, by obtain ⟨a, h⟩ := a23; exact ⟨a, vk_R.same hv.symm h⟩, by obtain ⟨a, h⟩ := a24; exact ⟨a, vk_R.same hv.symm h⟩, by obtain ⟨a, h⟩ := a25; exact ⟨a, vk_R.same hv.symm h⟩, by obtain ⟨a, h⟩ := a26; exact ⟨a, vk_R.same hv.symm h⟩, fun w hw => va_Nw.same (zkind_tab (zNG_kind w hw)) hv (a27 w hw), va_Nw.same rfl hv a28, va_AO.moved (by rw [hv]; exact Vm.Alike.refl _) a29, va_AO.moved (by rw [hv]; exact Vm.Alike.refl _) a30⟩
def zPc (dC : Nat → ClassId) (dI : Nat → Nat → Nat) (adK adV : Nat → Nat) (as : List Value) (sz : Nat) (ws : va_W) (tys : List (ClassId × FieldType)) : Array Value → State → Prop := va_Pc as (fun U => U.heap.size = sz ∧ va_P (dC, dI) vwCl ws U.heap ∧ va_K (dC, dI) vwCl tys U ∧ va_D (fun _ => True) ws ∧ zenv adK U ∧ zst adK adV (va_A ws sz) U U.heap)
theorem zPc_blind {dC : Nat → ClassId} {dI : Nat → Nat → Nat} {adK adV : Nat → Nat} {as : List Value} {sz : Nat} {ws : va_W} {tys : List (ClassId × FieldType)} : FrameBlind (zPc dC dI adK adV as sz ws tys) := fun a U g mk q => by
  obtain ⟨q0, q1, qP, qK, qD, qE, qZ⟩ := q
  exact ⟨q0, q1, qP, va_K.moved (u := U) (U := U.calling g mk a) (Vm.Alike.refl U.vm) qK, qD, zenv_same (s := U) (U := U.calling g mk a) rfl qE, ⟨vx_Zq.moved (u := U) (U := U.calling g mk a) (Vm.Alike.refl U.vm) qZ.1, vx_Zq.moved (u := U) (U := U.calling g mk a) (Vm.Alike.refl U.vm) qZ.2.1, va_Z.moved (u := U) (U := U.calling g mk a) (Vm.Alike.refl U.vm) qZ.2.2.1, vk_S.moved (u := U) (U := U.calling g mk a) (Vm.Alike.refl U.vm) qZ.2.2.2.1, va_Z.moved (u := U) (U := U.calling g mk a) (Vm.Alike.refl U.vm) qZ.2.2.2.2⟩⟩
theorem zPc_pre {dC : Nat → ClassId} {dI : Nat → Nat → Nat} {adK adV : Nat → Nat} {as : List Value} {ws : va_W} {tys : List (ClassId × FieldType)} {s : State} {H : Heap} {A : Nat → Prop} {locs : List Loc} (hP : va_P (dC, dI) vwCl ws H) (hK : va_K (dC, dI) vwCl tys s) (hD : va_D A ws) (hE : zenv adK s) (hS : va_S A s.heap H locs) (hF : ∀ q, va_A ws H.size q → A q) (hZ : zst adK adV A s s.heap) : ∀ U : State, U.heap = H → s.WarmedH U.vm → zPc dC dI adK adV as H.size ws tys as.toArray U :=
  fun U hU hW => ⟨rfl, by rw [hU], by rw [hU]; exact hP, va_K.moved hW.alike hK, hD.weaken (fun _ _ _ _ => trivial), zenv_warm hW hE, by rw [hU]; exact zst_go hZ hS hW.alike hF⟩
theorem zuX0 : ∀ w ∈ wsX00, w ∈ zG := zuL _ [228, 230, 232, 234, 236, 238] (by decide +kernel) (by decide +kernel)
theorem zuX1 : ∀ w ∈ wsX10, w ∈ zG := zuL _ [521, 523, 525, 527, 529, 531, 533, 535, 537, 539, 541, 543, 545, 547, 549, 551, 553] (by decide +kernel) (by decide +kernel)
theorem zuX2 : ∀ w ∈ wsX20, w ∈ zG := zuL _ [336, 338, 340, 342, 344, 346, 348, 350, 352, 354, 356] (by decide +kernel) (by decide +kernel)
theorem zuX3 : ∀ w ∈ wsX30, w ∈ zG := zuL _ [483, 485, 487, 489, 491, 493, 495, 497, 499, 501] (by decide +kernel) (by decide +kernel)
theorem zuX4 : ∀ w ∈ wsX40, w ∈ zG := zuL _ [420, 422, 424, 426, 428, 430, 432, 434, 436, 438, 440, 442] (by decide +kernel) (by decide +kernel)
theorem zuX5 : ∀ w ∈ wsX50, w ∈ zG := zuL _ [459] (by decide +kernel) (by decide +kernel)
theorem zuX6 : ∀ w ∈ wsX60, w ∈ zG := zuL _ [260, 262, 264, 266, 268, 270, 272, 274, 276, 278, 280, 282] (by decide +kernel) (by decide +kernel)
theorem zuX7 : ∀ w ∈ wsX70, w ∈ zG := zuL _ [377, 379, 381, 383, 385, 387, 389, 391, 393, 395, 397, 399] (by decide +kernel) (by decide +kernel)
theorem zuX8 : ∀ w ∈ wsX80, w ∈ zG := zuL _ [300, 302, 304, 306, 308, 310, 312, 314, 316] (by decide +kernel) (by decide +kernel)
theorem zuX9 : ∀ w ∈ wsX90, w ∈ zG := zuL _ [173, 175, 177, 179] (by decide +kernel) (by decide +kernel)
theorem zuX10 : ∀ w ∈ wsX100, w ∈ zG := zuL _ [197, 199, 201, 203, 205, 207, 209, 211] (by decide +kernel) (by decide +kernel)
theorem zuX11 : ∀ w ∈ wsX110, w ∈ zG := zuL _ [569, 571, 573, 575, 577, 579, 581, 583, 585, 587, 589, 591] (by decide +kernel) (by decide +kernel)
theorem zuX12 : ∀ w ∈ wsX120, w ∈ zG := zuL _ [1587, 1588, 1589, 1590, 1591, 1601] (by decide +kernel) (by decide +kernel)
theorem zuX13 : ∀ w ∈ wsX130, w ∈ zG := zuL _ [1679, 1681, 1683, 1685, 1687, 1689, 1691, 1693, 1695, 1697, 1699, 1701, 1703, 1705, 1707, 1709, 1711, 1713, 1715, 1717, 1719, 1721, 1723, 1725, 1727, 1729, 1731, 1733, 1735, 1737, 1739, 1741, 1743, 1745, 1747, 1749, 1751, 1753, 1755, 1757, 1759, 1761, 1763, 1765, 1767, 1769, 1771, 1773, 1775, 1777, 1779, 1781, 1783, 1785, 1787, 1789, 1791, 1793, 1795, 1797, 1799, 1801, 1803, 1805, 1807, 1809, 1811, 1813, 1815, 1817, 1819, 1821, 1823, 1825, 1827] (by decide +kernel) (by decide +kernel)
theorem zml1 {w : Cond} (i : Nat) (h : tables_1_1[i]? = some w) : w ∈ lw_tbl := List.mem_append_right _ (zmt1 i h)
theorem zml2 {w : Cond} (i : Nat) (h : tables_1_2[i]? = some w) : w ∈ lw_tbl := List.mem_append_right _ (zmt2 i h)
theorem zml3 {w : Cond} (i : Nat) (h : tables_1_3[i]? = some w) : w ∈ lw_tbl := List.mem_append_right _ (zmt3 i h)
theorem zml4 {w : Cond} (i : Nat) (h : tables_1_4[i]? = some w) : w ∈ lw_tbl := List.mem_append_right _ (zmt4 i h)
theorem zml5 {w : Cond} (i : Nat) (h : tables_1_5[i]? = some w) : w ∈ lw_tbl := List.mem_append_right _ (zmt5 i h)
theorem zml6 {w : Cond} (i : Nat) (h : tables_1_6[i]? = some w) : w ∈ lw_tbl := List.mem_append_right _ (zmt6 i h)
theorem zml7 {w : Cond} (i : Nat) (h : tables_1_7[i]? = some w) : w ∈ lw_tbl := List.mem_append_right _ (zmt7 i h)
theorem zml8 {w : Cond} (i : Nat) (h : tables_1_8[i]? = some w) : w ∈ lw_tbl := List.mem_append_right _ (zmt8 i h)
theorem zml9 {w : Cond} (i : Nat) (h : tables_1_9[i]? = some w) : w ∈ lw_tbl := List.mem_append_right _ (zmt9 i h)
