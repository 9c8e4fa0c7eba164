set_option maxHeartbeats 40000000 in
set_option maxRecDepth 100000 in
theorem zlaw_loop {p : Program} {e : Env} {s : State} {m : MethodId} {below : List Frame} {meth : Method} {c : Code} (l : Launch) (hl0 : l.stackTraces = false) {b L : Nat} {xs : Nat → Int32} (hL : L ≤ 3072) {A : Nat → Prop} {dC : Nat → ClassId} {dI : Nat → Nat → Nat} {adK adV : Nat → Nat} (C1 : zLaw p s m meth c b L xs A adK adV) {h0 : Nat} {h1 : Nat} {h2 : Nat} {h69 : Nat} {q69 : Nat → Nat} {h18 : Nat} {h4 : Nat} {h7 : Nat} {h6 : Nat} {h5 : Nat} {h33 : Nat} {h39 : Nat} {h37 : Nat} {h35 : Nat} {h38 : Nat} {h3 : Nat} {h11 : Nat} {h12 : Nat} {h34 : Nat} {h36 : Nat} {h23 : Nat} {h29 : Nat} {h31 : Nat} {h28 : Nat} {h25 : Nat} {h24 : Nat} {h26 : Nat} {h27 : Nat} {h30 : Nat} {h19 : Nat} {h20 : Nat} {h22 : Nat} {h21 : Nat} {h32 : Nat} {h51 : Nat} {h61 : Nat} {h56 : Nat} {h13 : Nat} {h14 : Nat} {h119 : Nat} {h48 : Nat} {h40 : Nat} {h41 : Nat} {h42 : Nat} {h43 : Nat} {h44 : Nat} {h45 : Nat} {h47 : Nat} {h46 : Nat} {h49 : Nat} {h50 : Nat} {h52 : Nat} {h53 : Nat} {h68 : Nat} {h55 : Nat} {h54 : Nat} {h59 : Nat} {h60 : Nat} {h57 : Nat} {h58 : Nat} {h62 : Nat} {h63 : Nat} {h64 : Nat} {h65 : Nat} {h8 : Nat} {h9 : Nat} {h10 : Nat} {h66 : Nat} {h67 : Nat} {h15 : Nat} {h16 : Nat} {h17 : Nat} {k2 : ClassId} {k70 : ClassId} {k7 : ClassId} {k6 : ClassId} {k5 : ClassId} {k39 : ClassId} {k37 : ClassId} {k35 : ClassId} {k38 : ClassId} {k3 : ClassId} {k12 : ClassId} {k34 : ClassId} {k36 : ClassId} {k29 : ClassId} {k31 : ClassId} {k28 : ClassId} {k25 : ClassId} {k24 : ClassId} {k26 : ClassId} {k27 : ClassId} {k30 : ClassId} {k19 : ClassId} {k20 : ClassId} {k22 : ClassId} {k79 : ClassId} {k84 : ClassId} {k82 : ClassId} {k81 : ClassId} {k72 : ClassId} {k71 : ClassId} {k73 : ClassId} {k80 : ClassId} {k75 : ClassId} {k86 : ClassId} {k87 : ClassId} {k89 : ClassId} {k88 : ClassId} {k74 : ClassId} {k76 : ClassId} {k77 : ClassId} {k78 : ClassId} {k21 : ClassId} {k51 : ClassId} {k61 : ClassId} {k56 : ClassId} {k117 : ClassId} {k13 : ClassId} {k14 : ClassId} {k119 : ClassId} {k83 : ClassId} {k85 : ClassId} {k90 : ClassId} {k41 : ClassId} {k42 : ClassId} {k43 : ClassId} {k44 : ClassId} {k45 : ClassId} {k47 : ClassId} {k46 : ClassId} {k52 : ClassId} {k53 : ClassId} {k55 : ClassId} {k54 : ClassId} {k59 : ClassId} {k60 : ClassId} {k58 : ClassId} {k62 : ClassId} {k63 : ClassId} {k64 : ClassId} {k65 : ClassId} {k92 : ClassId} {k93 : ClassId} {k94 : ClassId} {k95 : ClassId} {k96 : ClassId} {k97 : ClassId} {k98 : ClassId} {k104 : ClassId} {k105 : ClassId} {k101 : ClassId} {k100 : ClassId} {k103 : ClassId} {k102 : ClassId} {k99 : ClassId} {k106 : ClassId} {k107 : ClassId} {k108 : ClassId} {k109 : ClassId} {k110 : ClassId} {k112 : ClassId} {k114 : ClassId} {k113 : ClassId} {k115 : ClassId} {k111 : ClassId} {k8 : ClassId} {k9 : ClassId} {k10 : ClassId} {k116 : ClassId} {k66 : ClassId} {k67 : ClassId} {k118 : ClassId} {lw0 : Int64} {v1 : Nat → Int32} {f2 : Nat → Int32} {v69 : Nat → Int32} {f70 : Nat → Int32} {v18 : Nat → Int32} {v4 : Nat → Int32} {f7 : Nat → Int32} {f6 : Nat → Int32} {f5 : Nat → Int64} {v33 : Nat → Int32} {f39 : Nat → Int32} {f37 : Nat → Int32} {f35 : Nat → Int32} {f38 : Nat → Int32} {f3 : Nat → Int32} {v11 : Nat → Int32} {f12 : Nat → Int64} {f34 : Nat → Int32} {f36 : Nat → Int32} {v23 : Nat → Int32} {f29 : Nat → Int32} {f31 : Nat → Int32} {f28 : Nat → Int32} {f25 : Nat → Int32} {f24 : Nat → Int32} {f26 : Nat → Int32} {f27 : Nat → Int32} {f30 : Nat → Int32} {f19 : Nat → Int32} {f20 : Nat → Int32} {f22 : Nat → Int32} {f79 : Nat → Int32} {f84 : Nat → Int32} {f82 : Nat → Int32} {f81 : Nat → Int32} {f72 : Nat → Int32} {f71 : Nat → Int32} {f73 : Nat → Int32} {f80 : Nat → Int32} {f75 : Nat → Int32} {f86 : Nat → Int32} {f87 : Nat → Int32} {f89 : Nat → Int32} {f88 : Nat → Int32} {f74 : Nat → Int32} {f76 : Nat → Int32} {f77 : Nat → Int32} {f78 : Nat → Int32} {f21 : Nat → Int32} {v32 : Nat → Int32} {f51 : Nat → Option Nat} {f61 : Nat → Int32} {f56 : Nat → Option Nat} {f117 : Nat → Int32} {f13 : Nat → Int32} {f14 : Nat → Int32} {f119 : Nat → Int64} {f83 : Nat → Int32} {f85 : Nat → Int32} {f90 : Nat → Int32} {v48 : Nat → Int32} {v40 : Nat → Int32} {f41 : Nat → Int32} {f42 : Nat → Int32} {f43 : Nat → Int32} {f44 : Nat → Int32} {f45 : Nat → Int32} {f47 : Nat → Int32} {f46 : Nat → Int32} {v49 : Nat → Int32} {v50 : Nat → Int32} {f52 : Nat → Int32} {f53 : Nat → Int32} {f68 : Nat → Int32} {f55 : Nat → Int32} {f54 : Nat → Int32} {f59 : Nat → Int32} {f60 : Nat → Int32} {f58 : Nat → Int32} {f62 : Nat → Int32} {f63 : Nat → Int32} {f64 : Nat → Int32} {f65 : Nat → Int32} {f92 : Nat → Int32} {f93 : Nat → Int32} {f94 : Nat → Int32} {f95 : Nat → Int32} {f96 : Nat → Int32} {f97 : Nat → Int32} {f98 : Nat → Int32} {f104 : Nat → Int32} {f105 : Nat → Int32} {sf91 : List Value} {f101 : Nat → Int32} {f100 : Nat → Int32} {f103 : Nat → Int32} {f102 : Nat → Int32} {f99 : Nat → Int32} {f106 : Nat → Int32} {f107 : Nat → Int32} {f108 : Nat → Int32} {f109 : Nat → Int32} {f110 : Nat → Int32} {f112 : Nat → Int32} {f114 : Nat → Int32} {f113 : Nat → Int32} {f115 : Nat → Int32} {f111 : Nat → Int32} {f8 : Nat → Int32} {f9 : Nat → Int32} {f10 : Nat → Int32} {f116 : Nat → Int32} {f66 : Nat → Int32} {f67 : Nat → Int32} {f118 : Nat → Int32} (hv1 : zR rg_Tape v1) (hv69 : zR rg_Model v69) (hv18 : zR rg_Documents v18) (hv4 : zR rg_Words400 v4) (hf7 : zA (-1) 399 f7) (hf6 : zA 0 399 f6) (hv33 : zR rg_Intake v33) (hf37 : zA 0 299 f37) (hf35 : zA (-1) 299 f35) (hf38 : zA 0 299 f38) (hv11 : zR rg_Words10 v11) (hf36 : zA 0 399 f36) (hv23 : zR rg_Postings v23) (hf28 : zA 0 832 f28) (hf25 : zA 0 1250 f25) (hf20 : zA 0 300 f20) (hf79 : zA 0 512 f79) (hf82 : zA 0 12 f82) (hf72 : zA 0 12 f72) (hf73 : zA 0 400 f73) (hf80 : zA 0 512 f80) (hf87 : zA (-1) 119 f87) (hf88 : zA (-1) 1023 f88) (hf76 : zA 0 600 f76) (hf13 : zA 0 9 f13) (hf14 : zA (-1) 9 f14) (hf90 : zA 0 399 f90) (hv48 : zR rg_Parser v48) (hv40 : zR rg_Query v40) (hf47 : zA 0 12000 f47) (hv49 : zR rg_Finder v49) (hv50 : zR rg_Page v50) (hf52 : zA 0 399 f52) (hf68 : zA 0 4914 f68) (hf55 : zA 0 831 f55) (hf62 : zA 0 119 f62) (hf65 : zA 0 119 f65) (hf93 : zA (-1) 1299 f93) (hf94 : zA (-1) 1299 f94) (hf101 : zA 0 12 f101) (hK : va_K (dC, dI) vwCl [(k2, .byte), (k70, .byte), (k7, .int), (k6, .int), (k5, .long), (k39, .int), (k37, .int), (k35, .int), (k38, .int), (k3, .byte), (k12, .long), (k34, .int), (k36, .int), (k29, .int), (k31, .int), (k28, .int), (k25, .int), (k24, .int), (k26, .int), (k27, .int), (k30, .int), (k19, .boolean), (k20, .int), (k22, .int), (k79, .int), (k84, .byte), (k82, .int), (k81, .byte), (k72, .int), (k71, .byte), (k73, .short), (k80, .int), (k75, .boolean), (k86, .int), (k87, .int), (k89, .int), (k88, .int), (k74, .boolean), (k76, .int), (k77, .int), (k78, .int), (k21, .int), (k51, .object RX8), (k61, .int), (k56, .object RX5), (k117, .int), (k13, .int), (k14, .int), (k119, .long), (k83, .byte), (k85, .byte), (k90, .short), (k41, .int), (k42, .int), (k43, .int), (k44, .int), (k45, .boolean), (k47, .int), (k46, .int), (k52, .int), (k53, .boolean), (k61, .int), (k55, .int), (k54, .int), (k59, .boolean), (k60, .boolean), (k58, .int), (k62, .int), (k63, .int), (k64, .int), (k65, .int), (k92, .int), (k93, .int), (k94, .int), (k95, .int), (k96, .int), (k97, .int), (k98, .int), (k104, .int), (k105, .int), (k101, .int), (k100, .byte), (k103, .boolean), (k102, .int), (k99, .int), (k106, .int), (k107, .boolean), (k108, .boolean), (k109, .int), (k110, .int), (k112, .int), (k114, .int), (k113, .int), (k115, .int), (k111, .boolean), (k8, .byte), (k9, .byte), (k10, .int), (k116, .int), (k66, .int), (k67, .int), (k118, .int)] s) {H : Heap} {locs : List Loc} {ls : Array Slot} {u23_ : Nat → Int32} {w23_ : Nat → Int64} {a23_ : Nat → Nat → Int32} {b23_ : Nat → Nat → Int64} (hc : zInv dC dI A s b h0 h1 h2 h69 q69 h18 h4 h7 h6 h5 h33 h39 h37 h35 h38 h3 h11 h12 h34 h36 h23 h29 h31 h28 h25 h24 h26 h27 h30 h19 h20 h22 h21 h32 h51 h61 h56 h13 h14 h119 h48 h40 h41 h42 h43 h44 h45 h47 h46 h49 h50 h52 h53 h68 h55 h54 h59 h60 h57 h58 h62 h63 h64 h65 h8 h9 h10 h66 h67 h15 h16 h17 k2 k70 k7 k6 k5 k39 k37 k35 k38 k3 k12 k34 k36 k29 k31 k28 k25 k24 k26 k27 k30 k19 k20 k22 k79 k84 k82 k81 k72 k71 k73 k80 k75 k86 k87 k89 k88 k74 k76 k77 k78 k21 k51 k61 k56 k117 k13 k14 k119 k83 k85 k90 k41 k42 k43 k44 k45 k47 k46 k52 k53 k55 k54 k59 k60 k58 k62 k63 k64 k65 k92 k93 k94 k95 k96 k97 k98 k104 k105 k101 k100 k103 k102 k99 k106 k107 k108 k109 k110 k112 k114 k113 k115 k111 k8 k9 k10 k116 k66 k67 k118 lw0 v1 f2 v69 f70 v18 v4 f7 f6 f5 v33 f39 f37 f35 f38 f3 v11 f12 f34 f36 v23 f29 f31 f28 f25 f24 f26 f27 f30 f19 f20 f22 f79 f84 f82 f81 f72 f71 f73 f80 f75 f86 f87 f89 f88 f74 f76 f77 f78 f21 v32 f51 f61 f56 f117 f13 f14 f119 f83 f85 f90 v48 v40 f41 f42 f43 f44 f45 f47 f46 v49 v50 f52 f53 f68 f55 f54 f59 f60 f58 f62 f63 f64 f65 f92 f93 f94 f95 f96 f97 f98 f104 f105 sf91 f101 f100 f103 f102 f99 f106 f107 f108 f109 f110 f112 f114 f113 f115 f111 f8 f9 f10 f116 f66 f67 f118 H locs ls u23_ w23_ a23_ b23_) : W p l e room_1 s m #[Value.ref b] below meth c H locs (120 + 81 * ((u23_ 0).toInt).toNat) (214701 + 1580 * ((u23_ 0).toInt).toNat) (lw_Z below #[Value.ref b] s) (F0 m 23 ls []) := by
  refine zcutLk (fun u23_ => (3072 - (u23_ 0).toInt).toNat) (zInv dC dI A s b h0 h1 h2 h69 q69 h18 h4 h7 h6 h5 h33 h39 h37 h35 h38 h3 h11 h12 h34 h36 h23 h29 h31 h28 h25 h24 h26 h27 h30 h19 h20 h22 h21 h32 h51 h61 h56 h13 h14 h119 h48 h40 h41 h42 h43 h44 h45 h47 h46 h49 h50 h52 h53 h68 h55 h54 h59 h60 h57 h58 h62 h63 h64 h65 h8 h9 h10 h66 h67 h15 h16 h17 k2 k70 k7 k6 k5 k39 k37 k35 k38 k3 k12 k34 k36 k29 k31 k28 k25 k24 k26 k27 k30 k19 k20 k22 k79 k84 k82 k81 k72 k71 k73 k80 k75 k86 k87 k89 k88 k74 k76 k77 k78 k21 k51 k61 k56 k117 k13 k14 k119 k83 k85 k90 k41 k42 k43 k44 k45 k47 k46 k52 k53 k55 k54 k59 k60 k58 k62 k63 k64 k65 k92 k93 k94 k95 k96 k97 k98 k104 k105 k101 k100 k103 k102 k99 k106 k107 k108 k109 k110 k112 k114 k113 k115 k111 k8 k9 k10 k116 k66 k67 k118 lw0 v1 f2 v69 f70 v18 v4 f7 f6 f5 v33 f39 f37 f35 f38 f3 v11 f12 f34 f36 v23 f29 f31 f28 f25 f24 f26 f27 f30 f19 f20 f22 f79 f84 f82 f81 f72 f71 f73 f80 f75 f86 f87 f89 f88 f74 f76 f77 f78 f21 v32 f51 f61 f56 f117 f13 f14 f119 f83 f85 f90 v48 v40 f41 f42 f43 f44 f45 f47 f46 v49 v50 f52 f53 f68 f55 f54 f59 f60 f58 f62 f63 f64 f65 f92 f93 f94 f95 f96 f97 f98 f104 f105 sf91 f101 f100 f103 f102 f99 f106 f107 f108 f109 f110 f112 f114 f113 f115 f111 f8 f9 f10 f116 f66 f67 f118) (fun ls u w => F0 m 23 ls []) (fun u23_ => (120 + 81 * ((u23_ 0).toInt).toNat)) (fun u23_ => (214701 + 1580 * ((u23_ 0).toInt).toNat)) ?_ (fun hJ => hJ _ _ _ _ _ _ _ hc)
  clear hc
  intro H locs ls u23_ w23_ a23_ b23_ hc hJ23
  obtain ⟨hx, hb, hr, hml, hown, hG, hE, hZ, hA, hAd, hX, hbl, hbA, hlocks⟩ := id C1
  obtain ⟨q23_, pl23, hw23, nw23, sp23, hn23_, hP, hD, hS, hl, ha23_1, ha23_6, ha23_9, ha23_13, ha23_15, ha23_16, ha23_17, ha23_18, ha23_22, ha23_23, ha23_25, ha23_31, ha23_32, ha23_34, ha23_35, ha23_37, ha23_38, ha23_45, ha23_46, ha23_66, ha23_68, ha23_71, ha23_73, ha23_76, ha23_86, ha23_88, ha23_89, ha23_92, ha23_93, b_, b_, b_, b_, b_, b_, b_, b_, b_, b_, b_, b_, b_, b_, b_, b_, b_, b_, b_, b_, b_, b_, b_, b_, b_, b_, b_, b_, b_, b_, b_, b_, b_, b_, b_, b_, b_, b_, b_, b_, hI23_1, hI23_2, hI23_3, hI23_4, hI23_5, hI23_6, hI23_7⟩ := id hc
  have b_ := zk_0
  have b_ := zk_1
  have b_ := zk_2
  have b_ := zk_3
  have b_ := zk_4
  have b_ := zk_5
  have b_ := zk_6
  have b_ := zk_7
  have b_ := zk_8
  have b_ := zk_9
  have b_ := zk_10
  have b_ := zk_11
  have b_ := zk_12
  have b_ := zk_13
  have b_ := zk_14
  have b_ := zk_15
  have b_ := zk_16
  have b_ := zk_17
  have b_ := zk_18
  have b_ := zk_19
  refine lv_iload hx hb dL_law_23 (lv_at hl 4 rfl) ?_
  refine lv_aload_n hx hb dL_law_25 rfl (lv_at hl 0 rfl) ?_
  refine va_slen hx hb hX hbl hbA hS dL_law_26 ?_
  refine lv_topi (fun z26 e_z26 => ?_)
  have b_ : z26.toInt = (L : Int) := by rw [e_z26]; exact zofn (by omega)
  refine lv_bipush (v := 6) hx hb dL_law_27 (by decide) ?_
  refine lv_isub hx hb dL_law_29 ?_
  refine lv_topi (fun z29 e_z29 => ?_)
  have b_ := zsub rfl zk_6 e_z29 (by omega) (by omega)
  refine lv_icmp_gt (tgt := 703) hx hb dL_law_30 (by decide) (fun c_ => ?_) (fun c_ => ?_)
  · skip
    have b_ := zT_gt rfl rfl c_
    refine lv_iconst (v := 1) hx hb dL_law_703 (by decide) ?_
    refine va_forget (fun q hq => by have h9 := hS.2.2 q hq; rw [hAd] at h9; exact h9) ?_
    refine W.widen (k := 601024) (n := 7293034) (by omega) (by omega) ?_
    exact lw_ret hx hb hr hlocks dL_law_704
  · skip
    have b_ := zF_gt rfl rfl c_
    refine lv_aload_n hx hb dL_law_33 rfl (lv_at hl 0 rfl) ?_
    refine lv_iload hx hb dL_law_34 (lv_at hl 4 rfl) ?_
    refine va_sld hx hb hX hbl hbA hS (zin_lit (n := L) ⟨by omega, by omega⟩) dL_law_36 ?_
    refine lv_topi (fun z36 e_z36 => ?_)
    refine lv_bipush (v := 31) hx hb dL_law_37 (by decide) ?_
    have b_ : -2147483648 ≤ z36.toInt ∧ z36.toInt ≤ 2147483647 := ⟨zlo _, zhi _⟩
    refine lv_iand hx hb dL_law_39 ?_
    refine lv_topi (fun z39 e_z39 => ?_)
    have b_ := zand (x := z36) zk_31 e_z39 (by decide)
    rcases Classical.em (z39 = (0 : Int32)) with c_ | c_
    · skip
      have b_ : z39.toInt = 0 := by rw [c_]; exact zk_0
      refine lv_tableIn (off := 96) (tgt := 136) hx hb dL_law_40 (by omega) (by omega) (by rw [b_]; decide) (by decide) ?_
      exact zcase_0 l hl0 hL C1 hv1 hv69 hv18 hv4 hf7 hf6 hv33 hf37 hf35 hf38 hv11 hf36 hv23 hf28 hf25 hf20 hf79 hf82 hf72 hf73 hf80 hf87 hf88 hf76 hf13 hf14 hf90 hv48 hv40 hf47 hv49 hv50 hf52 hf68 hf55 hf62 hf65 hf93 hf94 hf101 hK hc (by omega) hJ23
    · skip
      have b_ : z39.toInt ≠ 0 := fun h => c_ (zeqi.mpr (h.trans zk_0.symm))
      rcases Classical.em (z39 = (1 : Int32)) with c_ | c_
      · skip
        have b_ : z39.toInt = 1 := by rw [c_]; exact zk_1
        refine lv_tableIn (off := 169) (tgt := 209) hx hb dL_law_40 (by omega) (by omega) (by rw [b_]; decide) (by decide) ?_
        exact zcase_1 l hl0 hL C1 hv1 hv69 hv18 hv4 hf7 hf6 hv33 hf37 hf35 hf38 hv11 hf36 hv23 hf28 hf25 hf20 hf79 hf82 hf72 hf73 hf80 hf87 hf88 hf76 hf13 hf14 hf90 hv48 hv40 hf47 hv49 hv50 hf52 hf68 hf55 hf62 hf65 hf93 hf94 hf101 hK hc (by omega) hJ23
      · skip
        have b_ : z39.toInt ≠ 1 := fun h => c_ (zeqi.mpr (h.trans zk_1.symm))
        rcases Classical.em (z39 = (2 : Int32)) with c_ | c_
        · skip
          have b_ : z39.toInt = 2 := by rw [c_]; exact zk_2
          refine lv_tableIn (off := 194) (tgt := 234) hx hb dL_law_40 (by omega) (by omega) (by rw [b_]; decide) (by decide) ?_
          exact zcase_2 l hl0 hL C1 hv1 hv69 hv18 hv4 hf7 hf6 hv33 hf37 hf35 hf38 hv11 hf36 hv23 hf28 hf25 hf20 hf79 hf82 hf72 hf73 hf80 hf87 hf88 hf76 hf13 hf14 hf90 hv48 hv40 hf47 hv49 hv50 hf52 hf68 hf55 hf62 hf65 hf93 hf94 hf101 hK hc (by omega) hJ23
        · skip
          have b_ : z39.toInt ≠ 2 := fun h => c_ (zeqi.mpr (h.trans zk_2.symm))
          rcases Classical.em (z39 = (3 : Int32)) with c_ | c_
          · skip
            have b_ : z39.toInt = 3 := by rw [c_]; exact zk_3
            refine lv_tableIn (off := 207) (tgt := 247) hx hb dL_law_40 (by omega) (by omega) (by rw [b_]; decide) (by decide) ?_
            exact zcase_3 l hl0 hL C1 hv1 hv69 hv18 hv4 hf7 hf6 hv33 hf37 hf35 hf38 hv11 hf36 hv23 hf28 hf25 hf20 hf79 hf82 hf72 hf73 hf80 hf87 hf88 hf76 hf13 hf14 hf90 hv48 hv40 hf47 hv49 hv50 hf52 hf68 hf55 hf62 hf65 hf93 hf94 hf101 hK hc (by omega) hJ23
          · skip
            have b_ : z39.toInt ≠ 3 := fun h => c_ (zeqi.mpr (h.trans zk_3.symm))
            rcases Classical.em (z39 = (4 : Int32)) with c_ | c_
            · skip
              have b_ : z39.toInt = 4 := by rw [c_]; exact zk_4
              refine lv_tableIn (off := 232) (tgt := 272) hx hb dL_law_40 (by omega) (by omega) (by rw [b_]; decide) (by decide) ?_
              exact zcase_4 l hl0 hL C1 hv1 hv69 hv18 hv4 hf7 hf6 hv33 hf37 hf35 hf38 hv11 hf36 hv23 hf28 hf25 hf20 hf79 hf82 hf72 hf73 hf80 hf87 hf88 hf76 hf13 hf14 hf90 hv48 hv40 hf47 hv49 hv50 hf52 hf68 hf55 hf62 hf65 hf93 hf94 hf101 hK hc (by omega) hJ23
            · skip
              have b_ : z39.toInt ≠ 4 := fun h => c_ (zeqi.mpr (h.trans zk_4.symm))
              rcases Classical.em (z39 = (5 : Int32)) with c_ | c_
              · skip
                have b_ : z39.toInt = 5 := by rw [c_]; exact zk_5
                refine lv_tableIn (off := 269) (tgt := 309) hx hb dL_law_40 (by omega) (by omega) (by rw [b_]; decide) (by decide) ?_
                exact zcase_5 l hl0 hL C1 hv1 hv69 hv18 hv4 hf7 hf6 hv33 hf37 hf35 hf38 hv11 hf36 hv23 hf28 hf25 hf20 hf79 hf82 hf72 hf73 hf80 hf87 hf88 hf76 hf13 hf14 hf90 hv48 hv40 hf47 hv49 hv50 hf52 hf68 hf55 hf62 hf65 hf93 hf94 hf101 hK hc (by omega) hJ23
              · skip
                have b_ : z39.toInt ≠ 5 := fun h => c_ (zeqi.mpr (h.trans zk_5.symm))
                rcases Classical.em (z39 = (6 : Int32)) with c_ | c_
                · skip
                  have b_ : z39.toInt = 6 := by rw [c_]; exact zk_6
                  refine lv_tableIn (off := 282) (tgt := 322) hx hb dL_law_40 (by omega) (by omega) (by rw [b_]; decide) (by decide) ?_
                  exact zcase_6 l hl0 hL C1 hv1 hv69 hv18 hv4 hf7 hf6 hv33 hf37 hf35 hf38 hv11 hf36 hv23 hf28 hf25 hf20 hf79 hf82 hf72 hf73 hf80 hf87 hf88 hf76 hf13 hf14 hf90 hv48 hv40 hf47 hv49 hv50 hf52 hf68 hf55 hf62 hf65 hf93 hf94 hf101 hK hc (by omega) hJ23
                · skip
                  have b_ : z39.toInt ≠ 6 := fun h => c_ (zeqi.mpr (h.trans zk_6.symm))
                  rcases Classical.em (z39 = (7 : Int32)) with c_ | c_
                  · skip
                    have b_ : z39.toInt = 7 := by rw [c_]; exact zk_7
                    refine lv_tableIn (off := 323) (tgt := 363) hx hb dL_law_40 (by omega) (by omega) (by rw [b_]; decide) (by decide) ?_
                    exact zcase_7 l hl0 hL C1 hv1 hv69 hv18 hv4 hf7 hf6 hv33 hf37 hf35 hf38 hv11 hf36 hv23 hf28 hf25 hf20 hf79 hf82 hf72 hf73 hf80 hf87 hf88 hf76 hf13 hf14 hf90 hv48 hv40 hf47 hv49 hv50 hf52 hf68 hf55 hf62 hf65 hf93 hf94 hf101 hK hc (by omega) hJ23
                  · skip
                    have b_ : z39.toInt ≠ 7 := fun h => c_ (zeqi.mpr (h.trans zk_7.symm))
                    rcases Classical.em (z39 = (8 : Int32)) with c_ | c_
                    · skip
                      have b_ : z39.toInt = 8 := by rw [c_]; exact zk_8
                      refine lv_tableIn (off := 363) (tgt := 403) hx hb dL_law_40 (by omega) (by omega) (by rw [b_]; decide) (by decide) ?_
                      exact zcase_8 l hl0 hL C1 hv1 hv69 hv18 hv4 hf7 hf6 hv33 hf37 hf35 hf38 hv11 hf36 hv23 hf28 hf25 hf20 hf79 hf82 hf72 hf73 hf80 hf87 hf88 hf76 hf13 hf14 hf90 hv48 hv40 hf47 hv49 hv50 hf52 hf68 hf55 hf62 hf65 hf93 hf94 hf101 hK hc (by omega) hJ23
                    · skip
                      have b_ : z39.toInt ≠ 8 := fun h => c_ (zeqi.mpr (h.trans zk_8.symm))
                      rcases Classical.em (z39 = (9 : Int32)) with c_ | c_
                      · skip
                        have b_ : z39.toInt = 9 := by rw [c_]; exact zk_9
                        refine lv_tableIn (off := 376) (tgt := 416) hx hb dL_law_40 (by omega) (by omega) (by rw [b_]; decide) (by decide) ?_
                        exact zcase_9 l hl0 hL C1 hv1 hv69 hv18 hv4 hf7 hf6 hv33 hf37 hf35 hf38 hv11 hf36 hv23 hf28 hf25 hf20 hf79 hf82 hf72 hf73 hf80 hf87 hf88 hf76 hf13 hf14 hf90 hv48 hv40 hf47 hv49 hv50 hf52 hf68 hf55 hf62 hf65 hf93 hf94 hf101 hK hc (by omega) hJ23
                      · skip
                        have b_ : z39.toInt ≠ 9 := fun h => c_ (zeqi.mpr (h.trans zk_9.symm))
                        rcases Classical.em (z39 = (10 : Int32)) with c_ | c_
                        · skip
                          have b_ : z39.toInt = 10 := by rw [c_]; exact zk_10
                          refine lv_tableIn (off := 401) (tgt := 441) hx hb dL_law_40 (by omega) (by omega) (by rw [b_]; decide) (by decide) ?_
                          exact zcase_10 l hl0 hL C1 hv1 hv69 hv18 hv4 hf7 hf6 hv33 hf37 hf35 hf38 hv11 hf36 hv23 hf28 hf25 hf20 hf79 hf82 hf72 hf73 hf80 hf87 hf88 hf76 hf13 hf14 hf90 hv48 hv40 hf47 hv49 hv50 hf52 hf68 hf55 hf62 hf65 hf93 hf94 hf101 hK hc (by omega) hJ23
                        · skip
                          have b_ : z39.toInt ≠ 10 := fun h => c_ (zeqi.mpr (h.trans zk_10.symm))
                          rcases Classical.em (z39 = (11 : Int32)) with c_ | c_
                          · skip
                            have b_ : z39.toInt = 11 := by rw [c_]; exact zk_11
                            refine lv_tableIn (off := 429) (tgt := 469) hx hb dL_law_40 (by omega) (by omega) (by rw [b_]; decide) (by decide) ?_
                            exact zcase_11 l hl0 hL C1 hv1 hv69 hv18 hv4 hf7 hf6 hv33 hf37 hf35 hf38 hv11 hf36 hv23 hf28 hf25 hf20 hf79 hf82 hf72 hf73 hf80 hf87 hf88 hf76 hf13 hf14 hf90 hv48 hv40 hf47 hv49 hv50 hf52 hf68 hf55 hf62 hf65 hf93 hf94 hf101 hK hc (by omega) hJ23
                          · skip
                            have b_ : z39.toInt ≠ 11 := fun h => c_ (zeqi.mpr (h.trans zk_11.symm))
                            rcases Classical.em (z39 = (12 : Int32)) with c_ | c_
                            · skip
                              have b_ : z39.toInt = 12 := by rw [c_]; exact zk_12
                              refine lv_tableIn (off := 454) (tgt := 494) hx hb dL_law_40 (by omega) (by omega) (by rw [b_]; decide) (by decide) ?_
                              exact zcase_12 l hl0 hL C1 hv1 hv69 hv18 hv4 hf7 hf6 hv33 hf37 hf35 hf38 hv11 hf36 hv23 hf28 hf25 hf20 hf79 hf82 hf72 hf73 hf80 hf87 hf88 hf76 hf13 hf14 hf90 hv48 hv40 hf47 hv49 hv50 hf52 hf68 hf55 hf62 hf65 hf93 hf94 hf101 hK hc (by omega) hJ23
                            · skip
                              have b_ : z39.toInt ≠ 12 := fun h => c_ (zeqi.mpr (h.trans zk_12.symm))
                              rcases Classical.em (z39 = (13 : Int32)) with c_ | c_
                              · skip
                                have b_ : z39.toInt = 13 := by rw [c_]; exact zk_13
                                refine lv_tableIn (off := 494) (tgt := 534) hx hb dL_law_40 (by omega) (by omega) (by rw [b_]; decide) (by decide) ?_
                                exact zcase_13 l hl0 hL C1 hv1 hv69 hv18 hv4 hf7 hf6 hv33 hf37 hf35 hf38 hv11 hf36 hv23 hf28 hf25 hf20 hf79 hf82 hf72 hf73 hf80 hf87 hf88 hf76 hf13 hf14 hf90 hv48 hv40 hf47 hv49 hv50 hf52 hf68 hf55 hf62 hf65 hf93 hf94 hf101 hK hc (by omega) hJ23
                              · skip
                                have b_ : z39.toInt ≠ 13 := fun h => c_ (zeqi.mpr (h.trans zk_13.symm))
                                rcases Classical.em (z39 = (14 : Int32)) with c_ | c_
                                · skip
                                  have b_ : z39.toInt = 14 := by rw [c_]; exact zk_14
                                  refine lv_tableIn (off := 507) (tgt := 547) hx hb dL_law_40 (by omega) (by omega) (by rw [b_]; decide) (by decide) ?_
                                  exact zcase_14 l hl0 hL C1 hv1 hv69 hv18 hv4 hf7 hf6 hv33 hf37 hf35 hf38 hv11 hf36 hv23 hf28 hf25 hf20 hf79 hf82 hf72 hf73 hf80 hf87 hf88 hf76 hf13 hf14 hf90 hv48 hv40 hf47 hv49 hv50 hf52 hf68 hf55 hf62 hf65 hf93 hf94 hf101 hK hc (by omega) hJ23
                                · skip
                                  have b_ : z39.toInt ≠ 14 := fun h => c_ (zeqi.mpr (h.trans zk_14.symm))
                                  rcases Classical.em (z39 = (15 : Int32)) with c_ | c_
                                  · skip
                                    have b_ : z39.toInt = 15 := by rw [c_]; exact zk_15
                                    refine lv_tableIn (off := 535) (tgt := 575) hx hb dL_law_40 (by omega) (by omega) (by rw [b_]; decide) (by decide) ?_
                                    exact zcase_15 l hl0 hL C1 hv1 hv69 hv18 hv4 hf7 hf6 hv33 hf37 hf35 hf38 hv11 hf36 hv23 hf28 hf25 hf20 hf79 hf82 hf72 hf73 hf80 hf87 hf88 hf76 hf13 hf14 hf90 hv48 hv40 hf47 hv49 hv50 hf52 hf68 hf55 hf62 hf65 hf93 hf94 hf101 hK hc (by omega) hJ23
                                  · skip
                                    have b_ : z39.toInt ≠ 15 := fun h => c_ (zeqi.mpr (h.trans zk_15.symm))
                                    rcases Classical.em (z39 = (16 : Int32)) with c_ | c_
                                    · skip
                                      have b_ : z39.toInt = 16 := by rw [c_]; exact zk_16
                                      refine lv_tableIn (off := 575) (tgt := 615) hx hb dL_law_40 (by omega) (by omega) (by rw [b_]; decide) (by decide) ?_
                                      exact zcase_16 l hl0 hL C1 hv1 hv69 hv18 hv4 hf7 hf6 hv33 hf37 hf35 hf38 hv11 hf36 hv23 hf28 hf25 hf20 hf79 hf82 hf72 hf73 hf80 hf87 hf88 hf76 hf13 hf14 hf90 hv48 hv40 hf47 hv49 hv50 hf52 hf68 hf55 hf62 hf65 hf93 hf94 hf101 hK hc (by omega) hJ23
                                    · skip
                                      have b_ : z39.toInt ≠ 16 := fun h => c_ (zeqi.mpr (h.trans zk_16.symm))
                                      rcases Classical.em (z39 = (17 : Int32)) with c_ | c_
                                      · skip
                                        have b_ : z39.toInt = 17 := by rw [c_]; exact zk_17
                                        refine lv_tableIn (off := 603) (tgt := 643) hx hb dL_law_40 (by omega) (by omega) (by rw [b_]; decide) (by decide) ?_
                                        exact zcase_17 l hl0 hL C1 hv1 hv69 hv18 hv4 hf7 hf6 hv33 hf37 hf35 hf38 hv11 hf36 hv23 hf28 hf25 hf20 hf79 hf82 hf72 hf73 hf80 hf87 hf88 hf76 hf13 hf14 hf90 hv48 hv40 hf47 hv49 hv50 hf52 hf68 hf55 hf62 hf65 hf93 hf94 hf101 hK hc (by omega) hJ23
                                      · skip
                                        have b_ : z39.toInt ≠ 17 := fun h => c_ (zeqi.mpr (h.trans zk_17.symm))
                                        rcases Classical.em (z39 = (18 : Int32)) with c_ | c_
                                        · skip
                                          have b_ : z39.toInt = 18 := by rw [c_]; exact zk_18
                                          refine lv_tableIn (off := 616) (tgt := 656) hx hb dL_law_40 (by omega) (by omega) (by rw [b_]; decide) (by decide) ?_
                                          exact zcase_18 l hl0 hL C1 hv1 hv69 hv18 hv4 hf7 hf6 hv33 hf37 hf35 hf38 hv11 hf36 hv23 hf28 hf25 hf20 hf79 hf82 hf72 hf73 hf80 hf87 hf88 hf76 hf13 hf14 hf90 hv48 hv40 hf47 hv49 hv50 hf52 hf68 hf55 hf62 hf65 hf93 hf94 hf101 hK hc (by omega) hJ23
                                        · skip
                                          have b_ : z39.toInt ≠ 18 := fun h => c_ (zeqi.mpr (h.trans zk_18.symm))
                                          rcases Classical.em (z39 = (19 : Int32)) with c_ | c_
                                          · skip
                                            have b_ : z39.toInt = 19 := by rw [c_]; exact zk_19
                                            refine lv_tableIn (off := 629) (tgt := 669) hx hb dL_law_40 (by omega) (by omega) (by rw [b_]; decide) (by decide) ?_
                                            exact zcase_19 l hl0 hL C1 hv1 hv69 hv18 hv4 hf7 hf6 hv33 hf37 hf35 hf38 hv11 hf36 hv23 hf28 hf25 hf20 hf79 hf82 hf72 hf73 hf80 hf87 hf88 hf76 hf13 hf14 hf90 hv48 hv40 hf47 hv49 hv50 hf52 hf68 hf55 hf62 hf65 hf93 hf94 hf101 hK hc (by omega) hJ23
                                          · skip
                                            have b_ : z39.toInt ≠ 19 := fun h => c_ (zeqi.mpr (h.trans zk_19.symm))
                                            refine lv_tableOut (tgt := 697) hx hb dL_law_40 (by omega) (by decide) ?_
                                            exact zcase_99 l hl0 hL C1 hv1 hv69 hv18 hv4 hf7 hf6 hv33 hf37 hf35 hf38 hv11 hf36 hv23 hf28 hf25 hf20 hf79 hf82 hf72 hf73 hf80 hf87 hf88 hf76 hf13 hf14 hf90 hv48 hv40 hf47 hv49 hv50 hf52 hf68 hf55 hf62 hf65 hf93 hf94 hf101 hK hc (by omega) hJ23
