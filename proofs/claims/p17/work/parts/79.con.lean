set_option maxHeartbeats 8000000 in
set_option maxRecDepth 100000 in
theorem sX11_search_0t (l : Launch) (dC : Nat → ClassId) (dI : Nat → Nat → Nat) (adK adV : Nat → Nat) (h0 : Nat) (h48 : Nat) (h40 : Nat) (h1 : Nat) (h2 : Nat) (h3 : Nat) (h11 : Nat) (h12 : Nat) (h4 : Nat) (h5 : Nat) (h46 : Nat) (h41 : Nat) (h42 : Nat) (h43 : Nat) (h44 : Nat) (h45 : Nat) (h47 : Nat) (h49 : Nat) (h50 : Nat) (h52 : Nat) (h53 : Nat) (h51 : Nat) (h6 : Nat) (h23 : Nat) (h29 : Nat) (h27 : Nat) (h24 : Nat) (h25 : Nat) (h26 : Nat) (h28 : Nat) (h7 : Nat) (h30 : Nat) (h31 : Nat) (h68 : Nat) (h61 : Nat) (h56 : Nat) (h18 : Nat) (h19 : Nat) (h55 : Nat) (h54 : Nat) (h59 : Nat) (h21 : Nat) (h60 : Nat) (h57 : Nat) (h58 : Nat) (h62 : Nat) (h63 : Nat) (h20 : Nat) (h64 : Nat) (h65 : Nat) (h32 : Nat) (h33 : Nat) (h13 : Nat) (h14 : Nat) (h15 : Nat) (h16 : Nat) (h17 : Nat) (h8 : Nat) (h9 : Nat) (h10 : Nat) (h66 : Nat) (h67 : Nat) (h22 : Nat) (k2 : ClassId) (k3 : ClassId) (k12 : ClassId) (k5 : ClassId) (k46 : ClassId) (k41 : ClassId) (k42 : ClassId) (k43 : ClassId) (k44 : ClassId) (k45 : ClassId) (k47 : ClassId) (k52 : ClassId) (k53 : ClassId) (k51 : ClassId) (k6 : ClassId) (k29 : ClassId) (k27 : ClassId) (k24 : ClassId) (k25 : ClassId) (k26 : ClassId) (k28 : ClassId) (k7 : ClassId) (k30 : ClassId) (k31 : ClassId) (n68 : Nat) (k61 : ClassId) (k56 : ClassId) (k19 : ClassId) (k55 : ClassId) (k54 : ClassId) (k59 : ClassId) (k21 : ClassId) (k60 : ClassId) (k58 : ClassId) (k62 : ClassId) (k63 : ClassId) (k20 : ClassId) (k64 : ClassId) (k65 : ClassId) (pl0 : va_W) (sz : Nat) (sp0 : Value) (lw0 : Int64) (v48 : Nat → Int32) (v40 : Nat → Int32) (v1 : Nat → Int32) (f2 : Nat → Int32) (f3 : Nat → Int32) (v11 : Nat → Int32) (f12 : Nat → Int64) (v4 : Nat → Int32) (f5 : Nat → Int64) (f46 : Nat → Int32) (f41 : Nat → Int32) (f42 : Nat → Int32) (f43 : Nat → Int32) (f44 : Nat → Int32) (f45 : Nat → Int32) (f47 : Nat → Int32) (v49 : Nat → Int32) (v50 : Nat → Int32) (f52 : Nat → Int32) (f53 : Nat → Int32) (f51 : Nat → Option Nat) (f6 : Nat → Int32) (v23 : Nat → Int32) (f29 : Nat → Int32) (f27 : Nat → Int32) (f24 : Nat → Int32) (f25 : Nat → Int32) (f26 : Nat → Int32) (f28 : Nat → Int32) (f7 : Nat → Int32) (f30 : Nat → Int32) (f31 : Nat → Int32) (f68 : Nat → Int32) (f61 : Nat → Int32) (f56 : Nat → Option Nat) (v18 : Nat → Int32) (f19 : Nat → Int32) (f55 : Nat → Int32) (f54 : Nat → Int32) (f59 : Nat → Int32) (f21 : Nat → Int32) (f60 : Nat → Int32) (f58 : Nat → Int32) (f62 : Nat → Int32) (f63 : Nat → Int32) (f20 : Nat → Int32) (f64 : Nat → Int32) (f65 : Nat → Int32) (hv48 : zR rg_Parser v48) (hv40 : zR rg_Query v40) (hv1 : zR rg_Tape v1) (hv11 : zR rg_Words10 v11) (hv4 : zR rg_Words400 v4) (hf47 : zA 0 12000 f47) (hv49 : zR rg_Finder v49) (hv50 : zR rg_Page v50) (hf52 : zA 0 399 f52) (hf6 : zA 0 399 f6) (hv23 : zR rg_Postings v23) (hf25 : zA 0 1250 f25) (hf28 : zA 0 832 f28) (hf7 : zA (-1) 399 f7) (hf68 : zA 0 4914 f68) (hn68 : n68 ≤ 4800) (hv18 : zR rg_Documents v18) (hf55 : zA 0 831 f55) (hf62 : zA 0 119 f62) (hf20 : zA 0 300 f20) (hf65 : zA 0 119 f65) (hp0_ : zRd h23 f51 pl0) (hp1_ : zPs k61 f56 pl0) : Met l yX11_search (zw yX11_search cX11_search 2 (some .int)) { frames := 126, cells := 481, slots := 9480, locals := 3241 } (zPc dC dI adK adV [.ref h0] sz ([(h0, .inr (11, mX11 h1 h4 h11 h18 h23 h32 h33 h40 h48 h49 sp0 lw0)), (h48, .inr (4, mX4 h1 h4 h11 h40 v48)), (h40, .inr (7, mX7 h41 h42 h43 h44 h45 h46 h47 v40)), (h1, .inr (9, mX9 h2 h3 v1)), (h2, zi k2 600 f2), (h3, zi k3 12 f3), (h11, .inr (10, mX10 h12 h13 h14 h15 h16 h17 v11)), (h12, .inl (k12, 10, .inr (.inl f12))), (h4, .inr (10, mX10 h5 h6 h7 h8 h9 h10 v4)), (h5, .inl (k5, 400, .inr (.inl f5))), (h46, zi k46 160 f46), (h41, zi k41 40 f41), (h42, zi k42 40 f42), (h43, zi k43 40 f43), (h44, zi k44 40 f44), (h45, zi k45 40 f45), (h47, zi k47 270 f47), (h49, .inr (1, mX1 h18 h4 h40 h50 h56 h57 h59 h60 h61 h62 h63 h64 h65 h66 h67 h68 v49)), (h50, .inr (3, mX3 h4 h23 h40 h51 h52 h53 h54 h55 v50)), (h52, zi k52 400 f52), (h53, zi k53 400 f53), (h51, .inl (k51, 400, .inr (.inr (.inr (.inr f51))))), (h6, zi k6 400 f6), (h23, .inr (6, mX6 h24 h25 h26 h27 h28 h29 h30 h31 v23)), (h29, zi k29 400 f29), (h27, zi k27 400 f27), (h24, zi k24 1250 f24), (h25, zi k25 833 f25), (h26, zi k26 833 f26), (h28, zi k28 400 f28), (h7, zi k7 400 f7), (h30, zi k30 400 f30), (h31, zi k31 400 f31), (h68, zi k61 n68 f68), (h61, zi k61 40 f61), (h56, .inl (k56, 40, .inr (.inr (.inr (.inr f56))))), (h18, .inr (0, mX0 h19 h20 h21 h22 v18)), (h19, zi k19 120 f19), (h55, zi k55 300 f55), (h54, zi k54 832 f54), (h59, zi k59 40 f59), (h21, zi k21 120 f21), (h60, zi k60 40 f60), (h57, .inr (5, mX5 h58)), (h58, zi k58 26 f58), (h62, zi k62 120 f62), (h63, zi k63 120 f63), (h20, zi k20 120 f20), (h64, zi k64 120 f64), (h65, zi k65 120 f65)] ++ pl0) [(k2, .byte), (k3, .byte), (k12, .long), (k5, .long), (k46, .int), (k41, .int), (k42, .int), (k43, .int), (k44, .int), (k45, .boolean), (k47, .int), (k52, .int), (k53, .boolean), (k51, .object RX8), (k6, .int), (k29, .int), (k27, .int), (k24, .int), (k25, .int), (k26, .int), (k28, .int), (k7, .int), (k30, .int), (k31, .int), (k61, .int), (k61, .int), (k56, .object RX5), (k19, .boolean), (k55, .int), (k54, .int), (k59, .boolean), (k21, .int), (k60, .boolean), (k58, .int), (k62, .int), (k63, .int), (k20, .int), (k64, .int), (k65, .int)]) (va_Qi (fun (r : Int32) (u : Nat → Int32) => (0 ≤ (u 5).toInt ∧ (u 5).toInt ≤ 1) ∧ ((-1) ≤ (u 6).toInt ∧ (u 6).toInt ≤ 14) ∧ (0 ≤ (u 7).toInt ∧ (u 7).toInt ≤ 12) ∧ (0 ≤ (u 8).toInt ∧ (u 8).toInt ≤ 40) ∧ (0 ≤ (u 9).toInt ∧ (u 9).toInt ≤ 160) ∧ (0 ≤ (u 10).toInt ∧ (u 10).toInt ≤ 270) ∧ (0 ≤ (u 13).toInt ∧ (u 13).toInt ≤ 0) ∧ (0 ≤ (u 14).toInt ∧ (u 14).toInt ≤ 12) ∧ (0 ≤ (u 15).toInt ∧ (u 15).toInt ≤ 120) ∧ (0 ≤ (u 16).toInt ∧ (u 16).toInt ≤ 400) ∧ (0 ≤ (u 17).toInt ∧ (u 17).toInt ≤ 300)) (fun (u : Nat → Int32) (t : State) => ∃ (ww : Nat → Int64) (aa : Nat → Nat → Int32) (bb : Nat → Nat → Int64) (qq : Nat → Nat → Option Nat) (pl1 : va_W) (hw nw : Nat), nw ≤ 4800 ∧ zA 0 12000 (aa 7) ∧ zA 0 399 (aa 8) ∧ zA 0 4914 (aa 10) ∧ zA 0 831 (aa 12) ∧ zA 0 119 (aa 17) ∧ zA 0 119 (aa 20) ∧ (zRd h23 (qq 0) pl1) ∧ (zPs k61 (qq 1) pl1) ∧ (zOt pl0 pl1) ∧ (zyT f2 (v1 2).toInt (u 10).toInt (zqa (aa 7) (aa 2) (aa 3) (aa 4) (aa 5) (aa 1) (aa 6), (u 8).toInt, (u 9).toInt, zZc f2 (v1 2).toInt f5 (v4 7).toInt f12 (v11 7).toInt)) ∧ (zFic h23 f51 f5 f6 f7 (v4 7).toInt f24 f25 f26 f27 f28 f29 (v23 8).toInt (v23 9).toInt (v23 10).toInt (v23 11).toInt f30 f31 f52 f53 (v50 8).toInt f54 f55 (v50 9).toInt (qq 0) pl1 (aa 8) (aa 9) (u 16).toInt (aa 13) (aa 12) (u 17).toInt (aa 2) (aa 3) (aa 4) (aa 1) (aa 5) (u 9).toInt (u 8).toInt (aa 7) (u 10).toInt f19 f21 (v18 4).toInt (aa 17) (u 15).toInt (if 0 < (u 10).toInt then (v18 4).toInt else 0)) ∧ (zFiw f51 f5 f6 f7 (v4 7).toInt f24 f25 f26 f27 f28 f29 (v23 8).toInt (v23 9).toInt (v23 10).toInt (v23 11).toInt f30 f31 f52 f53 (v50 8).toInt f54 f55 (v50 9).toInt (aa 2) (aa 3) (aa 4) (aa 1) (aa 5) (u 9).toInt (u 8).toInt (aa 7) (u 10).toInt f19 (v18 4).toInt (aa 6) (aa 10) (aa 11) (aa 17) (aa 18) (u 15).toInt (if 0 < (u 10).toInt then (v18 4).toInt else 0)) ∧ (zRkc (aa 17) (aa 19) (aa 18) (aa 20) (u 15).toInt) ∧ (zScT (aa 6) (aa 10) (aa 11) f20 (v18 5).toInt (v18 4).toInt ((nw : Nat) : Int) (u 8).toInt (aa 17) (aa 19) (u 15).toInt) ∧ (120 * (u 8).toInt ≤ ((nw : Nat) : Int)) ∧ (t.heap.size + zNl (qq 0) 400 + 2 * zNl (qq 1) 40 ≤ sz + zNl f51 400 + 2 * zNl f56 40 + 1) ∧ va_P (dC, dI) vwCl ([(h0, .inr (11, mX11 h1 h4 h11 h18 h23 h32 h33 h40 h48 h49 sp0 lw0)), (h48, .inr (4, mX4 h1 h4 h11 h40 (upd (upd (upd (upd (upd (upd (upd (upd v48 4 (u 0)) 5 (u 1)) 6 (u 2)) 7 (u 3)) 8 (u 4)) 9 (u 5)) 10 (u 6)) 11 (u 7)))), (h40, .inr (7, mX7 h41 h42 h43 h44 h45 h46 h47 (upd (upd (upd (upd (upd v40 7 (u 8)) 8 (u 9)) 9 (u 10)) 10 (u 11)) 11 (u 12)))), (h1, .inr (9, mX9 h2 h3 (upd (upd v1 2 (u 13)) 3 (u 14)))), (h2, zi k2 600 f2), (h3, zi k3 12 (aa 0)), (h11, .inr (10, mX10 h12 h13 h14 h15 h16 h17 v11)), (h12, .inl (k12, 10, .inr (.inl f12))), (h4, .inr (10, mX10 h5 h6 h7 h8 h9 h10 v4)), (h5, .inl (k5, 400, .inr (.inl f5))), (h46, zi k46 160 (aa 1)), (h41, zi k41 40 (aa 2)), (h42, zi k42 40 (aa 3)), (h43, zi k43 40 (aa 4)), (h44, zi k44 40 (aa 5)), (h45, zi k45 40 (aa 6)), (h47, zi k47 270 (aa 7)), (h49, .inr (1, mX1 h18 h4 h40 h50 h56 h57 h59 h60 h61 h62 h63 h64 h65 h66 h67 hw (upd v49 16 (u 15)))), (h50, .inr (3, mX3 h4 h23 h40 h51 h52 h53 h54 h55 (upd (upd v50 8 (u 16)) 9 (u 17)))), (h52, zi k52 400 (aa 8)), (h53, zi k53 400 (aa 9)), (h51, .inl (k51, 400, .inr (.inr (.inr (.inr (qq 0)))))), (h6, zi k6 400 f6), (h23, .inr (6, mX6 h24 h25 h26 h27 h28 h29 h30 h31 v23)), (h29, zi k29 400 f29), (h27, zi k27 400 f27), (h24, zi k24 1250 f24), (h25, zi k25 833 f25), (h26, zi k26 833 f26), (h28, zi k28 400 f28), (h7, zi k7 400 f7), (h30, zi k30 400 f30), (h31, zi k31 400 f31), (hw, zi k61 nw (aa 10)), (h61, zi k61 40 (aa 11)), (h56, .inl (k56, 40, .inr (.inr (.inr (.inr (qq 1)))))), (h18, .inr (0, mX0 h19 h20 h21 h22 v18)), (h19, zi k19 120 f19), (h55, zi k55 300 (aa 12)), (h54, zi k54 832 (aa 13)), (h59, zi k59 40 (aa 14)), (h21, zi k21 120 f21), (h60, zi k60 40 (aa 15)), (h57, .inr (5, mX5 h58)), (h58, zi k58 26 (aa 16)), (h62, zi k62 120 (aa 17)), (h63, zi k63 120 (aa 18)), (h20, zi k20 120 f20), (h64, zi k64 120 (aa 19)), (h65, zi k65 120 (aa 20))] ++ pl1) t.heap ∧ va_K (dC, dI) vwCl [(k2, .byte), (k3, .byte), (k12, .long), (k5, .long), (k46, .int), (k41, .int), (k42, .int), (k43, .int), (k44, .int), (k45, .boolean), (k47, .int), (k52, .int), (k53, .boolean), (k51, .object RX8), (k6, .int), (k29, .int), (k27, .int), (k24, .int), (k25, .int), (k26, .int), (k28, .int), (k7, .int), (k30, .int), (k31, .int), (k61, .int), (k61, .int), (k56, .object RX5), (k19, .boolean), (k55, .int), (k54, .int), (k59, .boolean), (k21, .int), (k60, .boolean), (k58, .int), (k62, .int), (k63, .int), (k20, .int), (k64, .int), (k65, .int)] t ∧ va_D (va_A ([(h0, .inr (11, mX11 h1 h4 h11 h18 h23 h32 h33 h40 h48 h49 sp0 lw0)), (h48, .inr (4, mX4 h1 h4 h11 h40 v48)), (h40, .inr (7, mX7 h41 h42 h43 h44 h45 h46 h47 v40)), (h1, .inr (9, mX9 h2 h3 v1)), (h2, zi k2 600 f2), (h3, zi k3 12 f3), (h11, .inr (10, mX10 h12 h13 h14 h15 h16 h17 v11)), (h12, .inl (k12, 10, .inr (.inl f12))), (h4, .inr (10, mX10 h5 h6 h7 h8 h9 h10 v4)), (h5, .inl (k5, 400, .inr (.inl f5))), (h46, zi k46 160 f46), (h41, zi k41 40 f41), (h42, zi k42 40 f42), (h43, zi k43 40 f43), (h44, zi k44 40 f44), (h45, zi k45 40 f45), (h47, zi k47 270 f47), (h49, .inr (1, mX1 h18 h4 h40 h50 h56 h57 h59 h60 h61 h62 h63 h64 h65 h66 h67 h68 v49)), (h50, .inr (3, mX3 h4 h23 h40 h51 h52 h53 h54 h55 v50)), (h52, zi k52 400 f52), (h53, zi k53 400 f53), (h51, .inl (k51, 400, .inr (.inr (.inr (.inr f51))))), (h6, zi k6 400 f6), (h23, .inr (6, mX6 h24 h25 h26 h27 h28 h29 h30 h31 v23)), (h29, zi k29 400 f29), (h27, zi k27 400 f27), (h24, zi k24 1250 f24), (h25, zi k25 833 f25), (h26, zi k26 833 f26), (h28, zi k28 400 f28), (h7, zi k7 400 f7), (h30, zi k30 400 f30), (h31, zi k31 400 f31), (h68, zi k61 n68 f68), (h61, zi k61 40 f61), (h56, .inl (k56, 40, .inr (.inr (.inr (.inr f56))))), (h18, .inr (0, mX0 h19 h20 h21 h22 v18)), (h19, zi k19 120 f19), (h55, zi k55 300 f55), (h54, zi k54 832 f54), (h59, zi k59 40 f59), (h21, zi k21 120 f21), (h60, zi k60 40 f60), (h57, .inr (5, mX5 h58)), (h58, zi k58 26 f58), (h62, zi k62 120 f62), (h63, zi k63 120 f63), (h20, zi k20 120 f20), (h64, zi k64 120 f64), (h65, zi k65 120 f65)] ++ pl0) sz) ([(h0, .inr (11, mX11 h1 h4 h11 h18 h23 h32 h33 h40 h48 h49 sp0 lw0)), (h48, .inr (4, mX4 h1 h4 h11 h40 (upd (upd (upd (upd (upd (upd (upd (upd v48 4 (u 0)) 5 (u 1)) 6 (u 2)) 7 (u 3)) 8 (u 4)) 9 (u 5)) 10 (u 6)) 11 (u 7)))), (h40, .inr (7, mX7 h41 h42 h43 h44 h45 h46 h47 (upd (upd (upd (upd (upd v40 7 (u 8)) 8 (u 9)) 9 (u 10)) 10 (u 11)) 11 (u 12)))), (h1, .inr (9, mX9 h2 h3 (upd (upd v1 2 (u 13)) 3 (u 14)))), (h2, zi k2 600 f2), (h3, zi k3 12 (aa 0)), (h11, .inr (10, mX10 h12 h13 h14 h15 h16 h17 v11)), (h12, .inl (k12, 10, .inr (.inl f12))), (h4, .inr (10, mX10 h5 h6 h7 h8 h9 h10 v4)), (h5, .inl (k5, 400, .inr (.inl f5))), (h46, zi k46 160 (aa 1)), (h41, zi k41 40 (aa 2)), (h42, zi k42 40 (aa 3)), (h43, zi k43 40 (aa 4)), (h44, zi k44 40 (aa 5)), (h45, zi k45 40 (aa 6)), (h47, zi k47 270 (aa 7)), (h49, .inr (1, mX1 h18 h4 h40 h50 h56 h57 h59 h60 h61 h62 h63 h64 h65 h66 h67 hw (upd v49 16 (u 15)))), (h50, .inr (3, mX3 h4 h23 h40 h51 h52 h53 h54 h55 (upd (upd v50 8 (u 16)) 9 (u 17)))), (h52, zi k52 400 (aa 8)), (h53, zi k53 400 (aa 9)), (h51, .inl (k51, 400, .inr (.inr (.inr (.inr (qq 0)))))), (h6, zi k6 400 f6), (h23, .inr (6, mX6 h24 h25 h26 h27 h28 h29 h30 h31 v23)), (h29, zi k29 400 f29), (h27, zi k27 400 f27), (h24, zi k24 1250 f24), (h25, zi k25 833 f25), (h26, zi k26 833 f26), (h28, zi k28 400 f28), (h7, zi k7 400 f7), (h30, zi k30 400 f30), (h31, zi k31 400 f31), (hw, zi k61 nw (aa 10)), (h61, zi k61 40 (aa 11)), (h56, .inl (k56, 40, .inr (.inr (.inr (.inr (qq 1)))))), (h18, .inr (0, mX0 h19 h20 h21 h22 v18)), (h19, zi k19 120 f19), (h55, zi k55 300 (aa 12)), (h54, zi k54 832 (aa 13)), (h59, zi k59 40 (aa 14)), (h21, zi k21 120 f21), (h60, zi k60 40 (aa 15)), (h57, .inr (5, mX5 h58)), (h58, zi k58 26 (aa 16)), (h62, zi k62 120 (aa 17)), (h63, zi k63 120 (aa 18)), (h20, zi k20 120 f20), (h64, zi k64 120 (aa 19)), (h65, zi k65 120 (aa 20))] ++ pl1)) (va_A ([(h0, .inr (11, mX11 h1 h4 h11 h18 h23 h32 h33 h40 h48 h49 sp0 lw0)), (h48, .inr (4, mX4 h1 h4 h11 h40 v48)), (h40, .inr (7, mX7 h41 h42 h43 h44 h45 h46 h47 v40)), (h1, .inr (9, mX9 h2 h3 v1)), (h2, zi k2 600 f2), (h3, zi k3 12 f3), (h11, .inr (10, mX10 h12 h13 h14 h15 h16 h17 v11)), (h12, .inl (k12, 10, .inr (.inl f12))), (h4, .inr (10, mX10 h5 h6 h7 h8 h9 h10 v4)), (h5, .inl (k5, 400, .inr (.inl f5))), (h46, zi k46 160 f46), (h41, zi k41 40 f41), (h42, zi k42 40 f42), (h43, zi k43 40 f43), (h44, zi k44 40 f44), (h45, zi k45 40 f45), (h47, zi k47 270 f47), (h49, .inr (1, mX1 h18 h4 h40 h50 h56 h57 h59 h60 h61 h62 h63 h64 h65 h66 h67 h68 v49)), (h50, .inr (3, mX3 h4 h23 h40 h51 h52 h53 h54 h55 v50)), (h52, zi k52 400 f52), (h53, zi k53 400 f53), (h51, .inl (k51, 400, .inr (.inr (.inr (.inr f51))))), (h6, zi k6 400 f6), (h23, .inr (6, mX6 h24 h25 h26 h27 h28 h29 h30 h31 v23)), (h29, zi k29 400 f29), (h27, zi k27 400 f27), (h24, zi k24 1250 f24), (h25, zi k25 833 f25), (h26, zi k26 833 f26), (h28, zi k28 400 f28), (h7, zi k7 400 f7), (h30, zi k30 400 f30), (h31, zi k31 400 f31), (h68, zi k61 n68 f68), (h61, zi k61 40 f61), (h56, .inl (k56, 40, .inr (.inr (.inr (.inr f56))))), (h18, .inr (0, mX0 h19 h20 h21 h22 v18)), (h19, zi k19 120 f19), (h55, zi k55 300 f55), (h54, zi k54 832 f54), (h59, zi k59 40 f59), (h21, zi k21 120 f21), (h60, zi k60 40 f60), (h57, .inr (5, mX5 h58)), (h58, zi k58 26 f58), (h62, zi k62 120 f62), (h63, zi k63 120 f63), (h20, zi k20 120 f20), (h64, zi k64 120 f64), (h65, zi k65 120 f65)] ++ pl0) sz)) 481 9480 (va_A ([(h0, .inr (11, mX11 h1 h4 h11 h18 h23 h32 h33 h40 h48 h49 sp0 lw0)), (h48, .inr (4, mX4 h1 h4 h11 h40 v48)), (h40, .inr (7, mX7 h41 h42 h43 h44 h45 h46 h47 v40)), (h1, .inr (9, mX9 h2 h3 v1)), (h2, zi k2 600 f2), (h3, zi k3 12 f3), (h11, .inr (10, mX10 h12 h13 h14 h15 h16 h17 v11)), (h12, .inl (k12, 10, .inr (.inl f12))), (h4, .inr (10, mX10 h5 h6 h7 h8 h9 h10 v4)), (h5, .inl (k5, 400, .inr (.inl f5))), (h46, zi k46 160 f46), (h41, zi k41 40 f41), (h42, zi k42 40 f42), (h43, zi k43 40 f43), (h44, zi k44 40 f44), (h45, zi k45 40 f45), (h47, zi k47 270 f47), (h49, .inr (1, mX1 h18 h4 h40 h50 h56 h57 h59 h60 h61 h62 h63 h64 h65 h66 h67 h68 v49)), (h50, .inr (3, mX3 h4 h23 h40 h51 h52 h53 h54 h55 v50)), (h52, zi k52 400 f52), (h53, zi k53 400 f53), (h51, .inl (k51, 400, .inr (.inr (.inr (.inr f51))))), (h6, zi k6 400 f6), (h23, .inr (6, mX6 h24 h25 h26 h27 h28 h29 h30 h31 v23)), (h29, zi k29 400 f29), (h27, zi k27 400 f27), (h24, zi k24 1250 f24), (h25, zi k25 833 f25), (h26, zi k26 833 f26), (h28, zi k28 400 f28), (h7, zi k7 400 f7), (h30, zi k30 400 f30), (h31, zi k31 400 f31), (h68, zi k61 n68 f68), (h61, zi k61 40 f61), (h56, .inl (k56, 40, .inr (.inr (.inr (.inr f56))))), (h18, .inr (0, mX0 h19 h20 h21 h22 v18)), (h19, zi k19 120 f19), (h55, zi k55 300 f55), (h54, zi k54 832 f54), (h59, zi k59 40 f59), (h21, zi k21 120 f21), (h60, zi k60 40 f60), (h57, .inr (5, mX5 h58)), (h58, zi k58 26 f58), (h62, zi k62 120 f62), (h63, zi k63 120 f63), (h20, zi k20 120 f20), (h64, zi k64 120 f64), (h65, zi k65 120 f65)] ++ pl0) sz) := by
  refine Met.ofW (cc := cX11_search) (maxL := 2) (ret := (some .int)) (by decide) rfl ?_
  intro p e s m args below meth c s₁ B hml hv
  obtain ⟨rfl, hsz, hP, hK, hD0, hE, hZ⟩ := hv
  have hx := B.exec
  have hb := B.bytes
  have hr := B.returns
  have hG : ∀ w ∈ zG, w.before _ s = true := fun w h => atoms_spec (ws := (zw yX11_search cX11_search 2 (some .int))) B.pre w (List.mem_cons_of_mem _ h)
  have hown : s.vm.findClass RX11 = some m.cls := findClass_of_methodNamed B.named
  have hlocks := B.notSynchronized

  subst hsz
  have hD := hD0.self (sz := s.heap.size)
  generalize hAe : va_A ([(h0, .inr (11, mX11 h1 h4 h11 h18 h23 h32 h33 h40 h48 h49 sp0 lw0)), (h48, .inr (4, mX4 h1 h4 h11 h40 v48)), (h40, .inr (7, mX7 h41 h42 h43 h44 h45 h46 h47 v40)), (h1, .inr (9, mX9 h2 h3 v1)), (h2, zi k2 600 f2), (h3, zi k3 12 f3), (h11, .inr (10, mX10 h12 h13 h14 h15 h16 h17 v11)), (h12, .inl (k12, 10, .inr (.inl f12))), (h4, .inr (10, mX10 h5 h6 h7 h8 h9 h10 v4)), (h5, .inl (k5, 400, .inr (.inl f5))), (h46, zi k46 160 f46), (h41, zi k41 40 f41), (h42, zi k42 40 f42), (h43, zi k43 40 f43), (h44, zi k44 40 f44), (h45, zi k45 40 f45), (h47, zi k47 270 f47), (h49, .inr (1, mX1 h18 h4 h40 h50 h56 h57 h59 h60 h61 h62 h63 h64 h65 h66 h67 h68 v49)), (h50, .inr (3, mX3 h4 h23 h40 h51 h52 h53 h54 h55 v50)), (h52, zi k52 400 f52), (h53, zi k53 400 f53), (h51, .inl (k51, 400, .inr (.inr (.inr (.inr f51))))), (h6, zi k6 400 f6), (h23, .inr (6, mX6 h24 h25 h26 h27 h28 h29 h30 h31 v23)), (h29, zi k29 400 f29), (h27, zi k27 400 f27), (h24, zi k24 1250 f24), (h25, zi k25 833 f25), (h26, zi k26 833 f26), (h28, zi k28 400 f28), (h7, zi k7 400 f7), (h30, zi k30 400 f30), (h31, zi k31 400 f31), (h68, zi k61 n68 f68), (h61, zi k61 40 f61), (h56, .inl (k56, 40, .inr (.inr (.inr (.inr f56))))), (h18, .inr (0, mX0 h19 h20 h21 h22 v18)), (h19, zi k19 120 f19), (h55, zi k55 300 f55), (h54, zi k54 832 f54), (h59, zi k59 40 f59), (h21, zi k21 120 f21), (h60, zi k60 40 f60), (h57, .inr (5, mX5 h58)), (h58, zi k58 26 f58), (h62, zi k62 120 f62), (h63, zi k63 120 f63), (h20, zi k20 120 f20), (h64, zi k64 120 f64), (h65, zi k65 120 f65)] ++ pl0) s.heap.size = A at hD hZ ⊢
  have hA : ∀ q : Nat, s.heap.size ≤ q → A q := fun q h => by rw [← hAe]; exact Or.inr h
  have hS : va_S A s.heap s.heap [] := va_S.rf
  have hl := lv_entry ([.ref h0]) (n := 2) (Nat.le_of_ble_eq_true rfl)
  rw [lg_entry_eq]
  generalize (lg_sl ([.ref h0]) ++ List.replicate (2 - (lg_sl ([.ref h0])).length) Slot.unset).toArray = ls at hl ⊢
  have hl : lv_has ls 2 [(0, .ref h0)] := hl
  have hN_ := zNl_le (q := f51) 400
  have hN_ := zNl_le (q := f56) 40
  refine lv_aload_n hx hb dX11_search_0 rfl (lv_at hl 0 rfl) ?_
  refine va_get (D := (dC, dI)) (ci := 11) (v := .ref h48) (C := RX11) (T := TX11) (N := 12) hx hb hG zuX11 hown hK hP 0 rfl rfl 8 (by decide) (hG _ zv565) (fun _ h9 => h9) rfl dX11_search_1 ?_
  have hPc := hP.sub (ws' := [(h48, .inr (4, mX4 h1 h4 h11 h40 v48)), (h40, .inr (7, mX7 h41 h42 h43 h44 h45 h46 h47 v40)), (h1, .inr (9, mX9 h2 h3 v1)), (h2, zi k2 600 f2), (h3, zi k3 12 f3), (h11, .inr (10, mX10 h12 h13 h14 h15 h16 h17 v11)), (h12, .inl (k12, 10, .inr (.inl f12))), (h4, .inr (10, mX10 h5 h6 h7 h8 h9 h10 v4)), (h5, .inl (k5, 400, .inr (.inl f5))), (h46, zi k46 160 f46), (h41, zi k41 40 f41), (h42, zi k42 40 f42), (h43, zi k43 40 f43), (h44, zi k44 40 f44), (h45, zi k45 40 f45), (h47, zi k47 270 f47)]) [1, 2, 3, 4, 5, 6, 7, 8, 9, 10, 11, 12, 13, 14, 15, 16] rfl
  have hDc := hD.sub (ws' := [(h48, .inr (4, mX4 h1 h4 h11 h40 v48)), (h40, .inr (7, mX7 h41 h42 h43 h44 h45 h46 h47 v40)), (h1, .inr (9, mX9 h2 h3 v1)), (h2, zi k2 600 f2), (h3, zi k3 12 f3), (h11, .inr (10, mX10 h12 h13 h14 h15 h16 h17 v11)), (h12, .inl (k12, 10, .inr (.inl f12))), (h4, .inr (10, mX10 h5 h6 h7 h8 h9 h10 v4)), (h5, .inl (k5, 400, .inr (.inl f5))), (h46, zi k46 160 f46), (h41, zi k41 40 f41), (h42, zi k42 40 f42), (h43, zi k43 40 f43), (h44, zi k44 40 f44), (h45, zi k45 40 f45), (h47, zi k47 270 f47)]) [1, 2, 3, 4, 5, 6, 7, 8, 9, 10, 11, 12, 13, 14, 15, 16] (by decide) rfl
  have hKc := hK.sub (tys' := [(k2, .byte), (k3, .byte), (k12, .long), (k5, .long), (k46, .int), (k41, .int), (k42, .int), (k43, .int), (k44, .int), (k45, .boolean), (k47, .int)]) [0, 1, 2, 3, 4, 5, 6, 7, 8, 9, 10] rfl
  have hFc := va_free (wc := [(h48, .inr (4, mX4 h1 h4 h11 h40 v48)), (h40, .inr (7, mX7 h41 h42 h43 h44 h45 h46 h47 v40)), (h1, .inr (9, mX9 h2 h3 v1)), (h2, zi k2 600 f2), (h3, zi k3 12 f3), (h11, .inr (10, mX10 h12 h13 h14 h15 h16 h17 v11)), (h12, .inl (k12, 10, .inr (.inl f12))), (h4, .inr (10, mX10 h5 h6 h7 h8 h9 h10 v4)), (h5, .inl (k5, 400, .inr (.inl f5))), (h46, zi k46 160 f46), (h41, zi k41 40 f41), (h42, zi k42 40 f42), (h43, zi k43 40 f43), (h44, zi k44 40 f44), (h45, zi k45 40 f45), (h47, zi k47 270 f47)]) hD hS hA [1, 2, 3, 4, 5, 6, 7, 8, 9, 10, 11, 12, 13, 14, 15, 16] rfl
  refine va_calli (va_runV (As := []) (rest := []) ⟨hx, hb, hml, hown, hG⟩ (sX4_read_0 l dC dI adK adV h48 h40 h1 h2 h3 h11 h12 h4 h5 h46 h41 h42 h43 h44 h45 h47 h13 h14 h15 h16 h17 h6 h7 h8 h9 h10 k2 k3 k12 k5 k46 k41 k42 k43 k44 k45 k47 s.heap.size v48 v40 v1 f2 f3 v11 f12 v4 f5 f46 f41 f42 f43 f44 f45 f47 hv48 hv40 hv1 hv11 hv4 hf47) (cwV 0 hG (zgV zv1005 zv1006 zv1007 zv137 zv1008) rfl rfl rfl (by decide +kernel) ⟨Nat.le_of_ble_eq_true rfl, Nat.le_of_ble_eq_true rfl⟩) ⟨zPc_blind, va_recv hKc hPc (ci := 4) (q0 := 0) rfl rfl, zPc_pre hPc hKc hDc hE hS hFc hZ⟩ rfl rfl hl.1 rfl (lv_room (Nat.le_of_ble_eq_true rfl)) dX11_search_4 ⟨(show 0 + 0 ≤ 481 from by omega), (show 0 + 0 ≤ 9480 from by omega)⟩) hS (fun q _ h => hFc q h) hFc (fun r4_ u4_ t H1 locs ht hvm hw hB hz1 hk1 hS => ?_)
  replace hw : (0 ≤ (u4_ 5).toInt ∧ (u4_ 5).toInt ≤ 1) ∧ ((-1) ≤ (u4_ 6).toInt ∧ (u4_ 6).toInt ≤ 14) ∧ (0 ≤ (u4_ 7).toInt ∧ (u4_ 7).toInt ≤ 12) ∧ (0 ≤ (u4_ 8).toInt ∧ (u4_ 8).toInt ≤ 40) ∧ (0 ≤ (u4_ 9).toInt ∧ (u4_ 9).toInt ≤ 160) ∧ (0 ≤ (u4_ 10).toInt ∧ (u4_ 10).toInt ≤ 270) ∧ (0 ≤ (u4_ 13).toInt ∧ (u4_ 13).toInt ≤ 12) ∧ (r4_.toInt = (u4_ 14).toInt) := hw
  obtain ⟨b_, b_, b_, b_, b_, b_, b_, b_⟩ := hw
  obtain ⟨w4_, a4_, b4_, ha4_7, hB4_0, hP1, hK1, hD1⟩ := hB
  have hB4_0 : zyR f2 (v1 2).toInt (u4_ 14).toInt (u4_ 10).toInt (zqa (a4_ 7) (a4_ 2) (a4_ 3) (a4_ 4) (a4_ 5) (a4_ 1) (a4_ 6), (u4_ 8).toInt, (u4_ 9).toInt, zZc f2 (v1 2).toInt f5 (v4 7).toInt f12 (v11 7).toInt) := hB4_0
  rw [ht] at hP1
  obtain ⟨hP, hD⟩ := va_joinQ (wr := [(h0, .inr (11, mX11 h1 h4 h11 h18 h23 h32 h33 h40 h48 h49 sp0 lw0)), (h49, .inr (1, mX1 h18 h4 h40 h50 h56 h57 h59 h60 h61 h62 h63 h64 h65 h66 h67 h68 v49)), (h50, .inr (3, mX3 h4 h23 h40 h51 h52 h53 h54 h55 v50)), (h52, zi k52 400 f52), (h53, zi k53 400 f53), (h51, .inl (k51, 400, .inr (.inr (.inr (.inr f51))))), (h6, zi k6 400 f6), (h23, .inr (6, mX6 h24 h25 h26 h27 h28 h29 h30 h31 v23)), (h29, zi k29 400 f29), (h27, zi k27 400 f27), (h24, zi k24 1250 f24), (h25, zi k25 833 f25), (h26, zi k26 833 f26), (h28, zi k28 400 f28), (h7, zi k7 400 f7), (h30, zi k30 400 f30), (h31, zi k31 400 f31), (h68, zi k61 n68 f68), (h61, zi k61 40 f61), (h56, .inl (k56, 40, .inr (.inr (.inr (.inr f56))))), (h18, .inr (0, mX0 h19 h20 h21 h22 v18)), (h19, zi k19 120 f19), (h55, zi k55 300 f55), (h54, zi k54 832 f54), (h59, zi k59 40 f59), (h21, zi k21 120 f21), (h60, zi k60 40 f60), (h57, .inr (5, mX5 h58)), (h58, zi k58 26 f58), (h62, zi k62 120 f62), (h63, zi k63 120 f63), (h20, zi k20 120 f20), (h64, zi k64 120 f64), (h65, zi k65 120 f65)]) (w1 := [(h48, .inr (4, mX4 h1 h4 h11 h40 (upd (upd (upd (upd (upd (upd (upd (upd v48 4 (u4_ 0)) 5 (u4_ 1)) 6 (u4_ 2)) 7 (u4_ 3)) 8 (u4_ 4)) 9 (u4_ 5)) 10 (u4_ 6)) 11 (u4_ 7)))), (h40, .inr (7, mX7 h41 h42 h43 h44 h45 h46 h47 (upd (upd (upd (upd (upd v40 7 (u4_ 8)) 8 (u4_ 9)) 9 (u4_ 10)) 10 (u4_ 11)) 11 (u4_ 12)))), (h1, .inr (9, mX9 h2 h3 (upd v1 3 (u4_ 13)))), (h2, zi k2 600 f2), (h3, zi k3 12 (a4_ 0)), (h11, .inr (10, mX10 h12 h13 h14 h15 h16 h17 v11)), (h12, .inl (k12, 10, .inr (.inl f12))), (h4, .inr (10, mX10 h5 h6 h7 h8 h9 h10 v4)), (h5, .inl (k5, 400, .inr (.inl f5))), (h46, zi k46 160 (a4_ 1)), (h41, zi k41 40 (a4_ 2)), (h42, zi k42 40 (a4_ 3)), (h43, zi k43 40 (a4_ 4)), (h44, zi k44 40 (a4_ 5)), (h45, zi k45 40 (a4_ 6)), (h47, zi k47 270 (a4_ 7))]) hP hD [1, 2, 3, 4, 5, 6, 7, 8, 9, 10, 11, 12, 13, 14, 15, 16] [0, 17, 18, 19, 20, 21, 22, 23, 24, 25, 26, 27, 28, 29, 30, 31, 32, 33, 34, 35, 36, 37, 38, 39, 40, 41, 42, 43, 44, 45, 46, 47, 48, 49] rfl rfl (by decide) (by decide) hk1 hFc hP1 hD1
  have hP : va_P (dC, dI) vwCl ([(h0, .inr (11, mX11 h1 h4 h11 h18 h23 h32 h33 h40 h48 h49 sp0 lw0)), (h48, .inr (4, mX4 h1 h4 h11 h40 (upd (upd (upd (upd (upd (upd (upd (upd v48 4 (u4_ 0)) 5 (u4_ 1)) 6 (u4_ 2)) 7 (u4_ 3)) 8 (u4_ 4)) 9 (u4_ 5)) 10 (u4_ 6)) 11 (u4_ 7)))), (h40, .inr (7, mX7 h41 h42 h43 h44 h45 h46 h47 (upd (upd (upd (upd (upd v40 7 (u4_ 8)) 8 (u4_ 9)) 9 (u4_ 10)) 10 (u4_ 11)) 11 (u4_ 12)))), (h1, .inr (9, mX9 h2 h3 (upd v1 3 (u4_ 13)))), (h2, zi k2 600 f2), (h3, zi k3 12 (a4_ 0)), (h11, .inr (10, mX10 h12 h13 h14 h15 h16 h17 v11)), (h12, .inl (k12, 10, .inr (.inl f12))), (h4, .inr (10, mX10 h5 h6 h7 h8 h9 h10 v4)), (h5, .inl (k5, 400, .inr (.inl f5))), (h46, zi k46 160 (a4_ 1)), (h41, zi k41 40 (a4_ 2)), (h42, zi k42 40 (a4_ 3)), (h43, zi k43 40 (a4_ 4)), (h44, zi k44 40 (a4_ 5)), (h45, zi k45 40 (a4_ 6)), (h47, zi k47 270 (a4_ 7)), (h49, .inr (1, mX1 h18 h4 h40 h50 h56 h57 h59 h60 h61 h62 h63 h64 h65 h66 h67 h68 v49)), (h50, .inr (3, mX3 h4 h23 h40 h51 h52 h53 h54 h55 v50)), (h52, zi k52 400 f52), (h53, zi k53 400 f53), (h51, .inl (k51, 400, .inr (.inr (.inr (.inr f51))))), (h6, zi k6 400 f6), (h23, .inr (6, mX6 h24 h25 h26 h27 h28 h29 h30 h31 v23)), (h29, zi k29 400 f29), (h27, zi k27 400 f27), (h24, zi k24 1250 f24), (h25, zi k25 833 f25), (h26, zi k26 833 f26), (h28, zi k28 400 f28), (h7, zi k7 400 f7), (h30, zi k30 400 f30), (h31, zi k31 400 f31), (h68, zi k61 n68 f68), (h61, zi k61 40 f61), (h56, .inl (k56, 40, .inr (.inr (.inr (.inr f56))))), (h18, .inr (0, mX0 h19 h20 h21 h22 v18)), (h19, zi k19 120 f19), (h55, zi k55 300 f55), (h54, zi k54 832 f54), (h59, zi k59 40 f59), (h21, zi k21 120 f21), (h60, zi k60 40 f60), (h57, .inr (5, mX5 h58)), (h58, zi k58 26 f58), (h62, zi k62 120 f62), (h63, zi k63 120 f63), (h20, zi k20 120 f20), (h64, zi k64 120 f64), (h65, zi k65 120 f65)] ++ pl0) H1 := hP.part [0, 34, 35, 36, 37, 38, 39, 40, 41, 42, 43, 44, 45, 46, 47, 48, 49, 1, 2, 3, 4, 5, 6, 7, 8, 9, 10, 11, 12, 13, 14, 15, 16, 17, 18, 19, 20, 21, 22, 23, 24, 25, 26, 27, 28, 29, 30, 31, 32, 33] rfl
  have hD : va_D A ([(h0, .inr (11, mX11 h1 h4 h11 h18 h23 h32 h33 h40 h48 h49 sp0 lw0)), (h48, .inr (4, mX4 h1 h4 h11 h40 (upd (upd (upd (upd (upd (upd (upd (upd v48 4 (u4_ 0)) 5 (u4_ 1)) 6 (u4_ 2)) 7 (u4_ 3)) 8 (u4_ 4)) 9 (u4_ 5)) 10 (u4_ 6)) 11 (u4_ 7)))), (h40, .inr (7, mX7 h41 h42 h43 h44 h45 h46 h47 (upd (upd (upd (upd (upd v40 7 (u4_ 8)) 8 (u4_ 9)) 9 (u4_ 10)) 10 (u4_ 11)) 11 (u4_ 12)))), (h1, .inr (9, mX9 h2 h3 (upd v1 3 (u4_ 13)))), (h2, zi k2 600 f2), (h3, zi k3 12 (a4_ 0)), (h11, .inr (10, mX10 h12 h13 h14 h15 h16 h17 v11)), (h12, .inl (k12, 10, .inr (.inl f12))), (h4, .inr (10, mX10 h5 h6 h7 h8 h9 h10 v4)), (h5, .inl (k5, 400, .inr (.inl f5))), (h46, zi k46 160 (a4_ 1)), (h41, zi k41 40 (a4_ 2)), (h42, zi k42 40 (a4_ 3)), (h43, zi k43 40 (a4_ 4)), (h44, zi k44 40 (a4_ 5)), (h45, zi k45 40 (a4_ 6)), (h47, zi k47 270 (a4_ 7)), (h49, .inr (1, mX1 h18 h4 h40 h50 h56 h57 h59 h60 h61 h62 h63 h64 h65 h66 h67 h68 v49)), (h50, .inr (3, mX3 h4 h23 h40 h51 h52 h53 h54 h55 v50)), (h52, zi k52 400 f52), (h53, zi k53 400 f53), (h51, .inl (k51, 400, .inr (.inr (.inr (.inr f51))))), (h6, zi k6 400 f6), (h23, .inr (6, mX6 h24 h25 h26 h27 h28 h29 h30 h31 v23)), (h29, zi k29 400 f29), (h27, zi k27 400 f27), (h24, zi k24 1250 f24), (h25, zi k25 833 f25), (h26, zi k26 833 f26), (h28, zi k28 400 f28), (h7, zi k7 400 f7), (h30, zi k30 400 f30), (h31, zi k31 400 f31), (h68, zi k61 n68 f68), (h61, zi k61 40 f61), (h56, .inl (k56, 40, .inr (.inr (.inr (.inr f56))))), (h18, .inr (0, mX0 h19 h20 h21 h22 v18)), (h19, zi k19 120 f19), (h55, zi k55 300 f55), (h54, zi k54 832 f54), (h59, zi k59 40 f59), (h21, zi k21 120 f21), (h60, zi k60 40 f60), (h57, .inr (5, mX5 h58)), (h58, zi k58 26 f58), (h62, zi k62 120 f62), (h63, zi k63 120 f63), (h20, zi k20 120 f20), (h64, zi k64 120 f64), (h65, zi k65 120 f65)] ++ pl0) := hD.part [0, 34, 35, 36, 37, 38, 39, 40, 41, 42, 43, 44, 45, 46, 47, 48, 49, 1, 2, 3, 4, 5, 6, 7, 8, 9, 10, 11, 12, 13, 14, 15, 16, 17, 18, 19, 20, 21, 22, 23, 24, 25, 26, 27, 28, 29, 30, 31, 32, 33] (by decide) rfl
  generalize H1 = H at hP hS ⊢
  clear hz1
  refine lv_istore_n (lv' := [(1, .int r4_), (0, .ref h0)]) hx hb dX11_search_7 rfl hl (by decide) rfl (fun ls hl => ?_)
  refine lv_aload_n hx hb dX11_search_8 rfl (lv_at hl 1 rfl) ?_
  refine va_get (D := (dC, dI)) (ci := 11) (v := .ref h1) (C := RX11) (T := TX11) (N := 12) hx hb hG zuX11 hown hK hP 0 rfl rfl 0 (by decide) (hG _ zv557) (fun _ h9 => h9) rfl dX11_search_9 ?_
  have hPc := hP.sub (ws' := [(h1, .inr (9, mX9 h2 h3 (upd v1 3 (u4_ 13))))]) [3] rfl
  have hDc := hD.sub (ws' := [(h1, .inr (9, mX9 h2 h3 (upd v1 3 (u4_ 13))))]) [3] (by decide) rfl
  have hKc := hK.sub (tys' := []) [] rfl
  have hFc := va_free (wc := [(h1, .inr (9, mX9 h2 h3 (upd v1 3 (u4_ 13))))]) hD hS hA [3] rfl
  refine va_callv (va_runV (As := []) (rest := []) ⟨hx, hb, hml, hown, hG⟩ (sX9_clear_0 l dC dI adK adV h1 h2 h3 H.size (upd v1 3 (u4_ 13)) (zR_up2 hv1 3 (show (0 : Int) ≤ ((u4_ 13) : Int32).toInt ∧ ((u4_ 13) : Int32).toInt ≤ (12 : Int) from (by first | with_reducible assumption | exact ⟨by omega, by omega⟩)))) (cwV 0 hG (zgV zv809 zv810 zv811 zv130 zv812) rfl rfl rfl (by decide +kernel) ⟨Nat.le_of_ble_eq_true rfl, Nat.le_of_ble_eq_true rfl⟩) ⟨zPc_blind, va_recv hKc hPc (ci := 9) (q0 := 0) rfl rfl, zPc_pre hPc hKc hDc hE hS hFc hZ⟩ rfl rfl hl.1 rfl (lv_room (Nat.le_of_ble_eq_true rfl)) dX11_search_12 ⟨(show 0 + 0 ≤ 481 from by omega), (show 0 + 0 ≤ 9480 from by omega)⟩) hS (fun q _ h => hFc q h) hFc (fun u12_ t H1 locs ht hvm hw hB hz1 hk1 hS => ?_)
  replace hw : (0 ≤ (u12_ 0).toInt ∧ (u12_ 0).toInt ≤ 0) ∧ ((u12_ 0).toInt = 0) := hw
  obtain ⟨b_, hX12_0⟩ := hw
  obtain ⟨w12_, a12_, b12_, hP1, hK1, hD1⟩ := hB
  rw [ht] at hP1
  obtain ⟨hP, hD⟩ := va_joinQ (wr := [(h0, .inr (11, mX11 h1 h4 h11 h18 h23 h32 h33 h40 h48 h49 sp0 lw0)), (h48, .inr (4, mX4 h1 h4 h11 h40 (upd (upd (upd (upd (upd (upd (upd (upd v48 4 (u4_ 0)) 5 (u4_ 1)) 6 (u4_ 2)) 7 (u4_ 3)) 8 (u4_ 4)) 9 (u4_ 5)) 10 (u4_ 6)) 11 (u4_ 7)))), (h40, .inr (7, mX7 h41 h42 h43 h44 h45 h46 h47 (upd (upd (upd (upd (upd v40 7 (u4_ 8)) 8 (u4_ 9)) 9 (u4_ 10)) 10 (u4_ 11)) 11 (u4_ 12)))), (h2, zi k2 600 f2), (h3, zi k3 12 (a4_ 0)), (h11, .inr (10, mX10 h12 h13 h14 h15 h16 h17 v11)), (h12, .inl (k12, 10, .inr (.inl f12))), (h4, .inr (10, mX10 h5 h6 h7 h8 h9 h10 v4)), (h5, .inl (k5, 400, .inr (.inl f5))), (h46, zi k46 160 (a4_ 1)), (h41, zi k41 40 (a4_ 2)), (h42, zi k42 40 (a4_ 3)), (h43, zi k43 40 (a4_ 4)), (h44, zi k44 40 (a4_ 5)), (h45, zi k45 40 (a4_ 6)), (h47, zi k47 270 (a4_ 7)), (h49, .inr (1, mX1 h18 h4 h40 h50 h56 h57 h59 h60 h61 h62 h63 h64 h65 h66 h67 h68 v49)), (h50, .inr (3, mX3 h4 h23 h40 h51 h52 h53 h54 h55 v50)), (h52, zi k52 400 f52), (h53, zi k53 400 f53), (h51, .inl (k51, 400, .inr (.inr (.inr (.inr f51))))), (h6, zi k6 400 f6), (h23, .inr (6, mX6 h24 h25 h26 h27 h28 h29 h30 h31 v23)), (h29, zi k29 400 f29), (h27, zi k27 400 f27), (h24, zi k24 1250 f24), (h25, zi k25 833 f25), (h26, zi k26 833 f26), (h28, zi k28 400 f28), (h7, zi k7 400 f7), (h30, zi k30 400 f30), (h31, zi k31 400 f31), (h68, zi k61 n68 f68), (h61, zi k61 40 f61), (h56, .inl (k56, 40, .inr (.inr (.inr (.inr f56))))), (h18, .inr (0, mX0 h19 h20 h21 h22 v18)), (h19, zi k19 120 f19), (h55, zi k55 300 f55), (h54, zi k54 832 f54), (h59, zi k59 40 f59), (h21, zi k21 120 f21), (h60, zi k60 40 f60), (h57, .inr (5, mX5 h58)), (h58, zi k58 26 f58), (h62, zi k62 120 f62), (h63, zi k63 120 f63), (h20, zi k20 120 f20), (h64, zi k64 120 f64), (h65, zi k65 120 f65)]) (w1 := [(h1, .inr (9, mX9 h2 h3 (upd (upd v1 2 (u12_ 0)) 3 (u4_ 13))))]) hP hD [3] [0, 1, 2, 4, 5, 6, 7, 8, 9, 10, 11, 12, 13, 14, 15, 16, 17, 18, 19, 20, 21, 22, 23, 24, 25, 26, 27, 28, 29, 30, 31, 32, 33, 34, 35, 36, 37, 38, 39, 40, 41, 42, 43, 44, 45, 46, 47, 48, 49] rfl rfl (by decide) (by decide) hk1 hFc hP1 hD1
  have hP : va_P (dC, dI) vwCl ([(h0, .inr (11, mX11 h1 h4 h11 h18 h23 h32 h33 h40 h48 h49 sp0 lw0)), (h48, .inr (4, mX4 h1 h4 h11 h40 (upd (upd (upd (upd (upd (upd (upd (upd v48 4 (u4_ 0)) 5 (u4_ 1)) 6 (u4_ 2)) 7 (u4_ 3)) 8 (u4_ 4)) 9 (u4_ 5)) 10 (u4_ 6)) 11 (u4_ 7)))), (h40, .inr (7, mX7 h41 h42 h43 h44 h45 h46 h47 (upd (upd (upd (upd (upd v40 7 (u4_ 8)) 8 (u4_ 9)) 9 (u4_ 10)) 10 (u4_ 11)) 11 (u4_ 12)))), (h1, .inr (9, mX9 h2 h3 (upd (upd v1 2 (u12_ 0)) 3 (u4_ 13)))), (h2, zi k2 600 f2), (h3, zi k3 12 (a4_ 0)), (h11, .inr (10, mX10 h12 h13 h14 h15 h16 h17 v11)), (h12, .inl (k12, 10, .inr (.inl f12))), (h4, .inr (10, mX10 h5 h6 h7 h8 h9 h10 v4)), (h5, .inl (k5, 400, .inr (.inl f5))), (h46, zi k46 160 (a4_ 1)), (h41, zi k41 40 (a4_ 2)), (h42, zi k42 40 (a4_ 3)), (h43, zi k43 40 (a4_ 4)), (h44, zi k44 40 (a4_ 5)), (h45, zi k45 40 (a4_ 6)), (h47, zi k47 270 (a4_ 7)), (h49, .inr (1, mX1 h18 h4 h40 h50 h56 h57 h59 h60 h61 h62 h63 h64 h65 h66 h67 h68 v49)), (h50, .inr (3, mX3 h4 h23 h40 h51 h52 h53 h54 h55 v50)), (h52, zi k52 400 f52), (h53, zi k53 400 f53), (h51, .inl (k51, 400, .inr (.inr (.inr (.inr f51))))), (h6, zi k6 400 f6), (h23, .inr (6, mX6 h24 h25 h26 h27 h28 h29 h30 h31 v23)), (h29, zi k29 400 f29), (h27, zi k27 400 f27), (h24, zi k24 1250 f24), (h25, zi k25 833 f25), (h26, zi k26 833 f26), (h28, zi k28 400 f28), (h7, zi k7 400 f7), (h30, zi k30 400 f30), (h31, zi k31 400 f31), (h68, zi k61 n68 f68), (h61, zi k61 40 f61), (h56, .inl (k56, 40, .inr (.inr (.inr (.inr f56))))), (h18, .inr (0, mX0 h19 h20 h21 h22 v18)), (h19, zi k19 120 f19), (h55, zi k55 300 f55), (h54, zi k54 832 f54), (h59, zi k59 40 f59), (h21, zi k21 120 f21), (h60, zi k60 40 f60), (h57, .inr (5, mX5 h58)), (h58, zi k58 26 f58), (h62, zi k62 120 f62), (h63, zi k63 120 f63), (h20, zi k20 120 f20), (h64, zi k64 120 f64), (h65, zi k65 120 f65)] ++ pl0) H1 := hP.part [0, 1, 2, 49, 3, 4, 5, 6, 7, 8, 9, 10, 11, 12, 13, 14, 15, 16, 17, 18, 19, 20, 21, 22, 23, 24, 25, 26, 27, 28, 29, 30, 31, 32, 33, 34, 35, 36, 37, 38, 39, 40, 41, 42, 43, 44, 45, 46, 47, 48] rfl
  have hD : va_D A ([(h0, .inr (11, mX11 h1 h4 h11 h18 h23 h32 h33 h40 h48 h49 sp0 lw0)), (h48, .inr (4, mX4 h1 h4 h11 h40 (upd (upd (upd (upd (upd (upd (upd (upd v48 4 (u4_ 0)) 5 (u4_ 1)) 6 (u4_ 2)) 7 (u4_ 3)) 8 (u4_ 4)) 9 (u4_ 5)) 10 (u4_ 6)) 11 (u4_ 7)))), (h40, .inr (7, mX7 h41 h42 h43 h44 h45 h46 h47 (upd (upd (upd (upd (upd v40 7 (u4_ 8)) 8 (u4_ 9)) 9 (u4_ 10)) 10 (u4_ 11)) 11 (u4_ 12)))), (h1, .inr (9, mX9 h2 h3 (upd (upd v1 2 (u12_ 0)) 3 (u4_ 13)))), (h2, zi k2 600 f2), (h3, zi k3 12 (a4_ 0)), (h11, .inr (10, mX10 h12 h13 h14 h15 h16 h17 v11)), (h12, .inl (k12, 10, .inr (.inl f12))), (h4, .inr (10, mX10 h5 h6 h7 h8 h9 h10 v4)), (h5, .inl (k5, 400, .inr (.inl f5))), (h46, zi k46 160 (a4_ 1)), (h41, zi k41 40 (a4_ 2)), (h42, zi k42 40 (a4_ 3)), (h43, zi k43 40 (a4_ 4)), (h44, zi k44 40 (a4_ 5)), (h45, zi k45 40 (a4_ 6)), (h47, zi k47 270 (a4_ 7)), (h49, .inr (1, mX1 h18 h4 h40 h50 h56 h57 h59 h60 h61 h62 h63 h64 h65 h66 h67 h68 v49)), (h50, .inr (3, mX3 h4 h23 h40 h51 h52 h53 h54 h55 v50)), (h52, zi k52 400 f52), (h53, zi k53 400 f53), (h51, .inl (k51, 400, .inr (.inr (.inr (.inr f51))))), (h6, zi k6 400 f6), (h23, .inr (6, mX6 h24 h25 h26 h27 h28 h29 h30 h31 v23)), (h29, zi k29 400 f29), (h27, zi k27 400 f27), (h24, zi k24 1250 f24), (h25, zi k25 833 f25), (h26, zi k26 833 f26), (h28, zi k28 400 f28), (h7, zi k7 400 f7), (h30, zi k30 400 f30), (h31, zi k31 400 f31), (h68, zi k61 n68 f68), (h61, zi k61 40 f61), (h56, .inl (k56, 40, .inr (.inr (.inr (.inr f56))))), (h18, .inr (0, mX0 h19 h20 h21 h22 v18)), (h19, zi k19 120 f19), (h55, zi k55 300 f55), (h54, zi k54 832 f54), (h59, zi k59 40 f59), (h21, zi k21 120 f21), (h60, zi k60 40 f60), (h57, .inr (5, mX5 h58)), (h58, zi k58 26 f58), (h62, zi k62 120 f62), (h63, zi k63 120 f63), (h20, zi k20 120 f20), (h64, zi k64 120 f64), (h65, zi k65 120 f65)] ++ pl0) := hD.part [0, 1, 2, 49, 3, 4, 5, 6, 7, 8, 9, 10, 11, 12, 13, 14, 15, 16, 17, 18, 19, 20, 21, 22, 23, 24, 25, 26, 27, 28, 29, 30, 31, 32, 33, 34, 35, 36, 37, 38, 39, 40, 41, 42, 43, 44, 45, 46, 47, 48] (by decide) rfl
  generalize H1 = H at hP hS ⊢
  clear hz1
  refine lv_iload_n hx hb dX11_search_15 rfl (lv_at hl 0 rfl) ?_
  refine zcutWk (fun H locs ls u26_ w26_ a26_ b26_ => ∃ (q26_ : Nat → Nat → Option Nat) (pl26 : va_W) (hw26 nw26 : Nat), nw26 ≤ 4800 ∧ va_P (dC, dI) vwCl ([(h0, .inr (11, mX11 h1 h4 h11 h18 h23 h32 h33 h40 h48 h49 sp0 lw0)), (h48, .inr (4, mX4 h1 h4 h11 h40 (upd (upd (upd (upd (upd (upd (upd (upd v48 4 (u4_ 0)) 5 (u4_ 1)) 6 (u4_ 2)) 7 (u4_ 3)) 8 (u4_ 4)) 9 (u4_ 5)) 10 (u4_ 6)) 11 (u4_ 7)))), (h40, .inr (7, mX7 h41 h42 h43 h44 h45 h46 h47 (upd (upd (upd (upd (upd v40 7 (u26_ 0)) 8 (u26_ 1)) 9 (u26_ 2)) 10 (u26_ 3)) 11 (u26_ 4)))), (h1, .inr (9, mX9 h2 h3 (upd (upd v1 2 (u12_ 0)) 3 (u4_ 13)))), (h2, zi k2 600 f2), (h3, zi k3 12 (a4_ 0)), (h11, .inr (10, mX10 h12 h13 h14 h15 h16 h17 v11)), (h12, .inl (k12, 10, .inr (.inl f12))), (h4, .inr (10, mX10 h5 h6 h7 h8 h9 h10 v4)), (h5, .inl (k5, 400, .inr (.inl f5))), (h46, zi k46 160 (a4_ 1)), (h41, zi k41 40 (a4_ 2)), (h42, zi k42 40 (a4_ 3)), (h43, zi k43 40 (a4_ 4)), (h44, zi k44 40 (a4_ 5)), (h45, zi k45 40 (a4_ 6)), (h47, zi k47 270 (a4_ 7)), (h49, .inr (1, mX1 h18 h4 h40 h50 h56 h57 h59 h60 h61 h62 h63 h64 h65 h66 h67 hw26 v49)), (h50, .inr (3, mX3 h4 h23 h40 h51 h52 h53 h54 h55 v50)), (h52, zi k52 400 f52), (h53, zi k53 400 f53), (h51, .inl (k51, 400, .inr (.inr (.inr (.inr f51))))), (h6, zi k6 400 f6), (h23, .inr (6, mX6 h24 h25 h26 h27 h28 h29 h30 h31 v23)), (h29, zi k29 400 f29), (h27, zi k27 400 f27), (h24, zi k24 1250 f24), (h25, zi k25 833 f25), (h26, zi k26 833 f26), (h28, zi k28 400 f28), (h7, zi k7 400 f7), (h30, zi k30 400 f30), (h31, zi k31 400 f31), (hw26, zi k61 nw26 f68), (h61, zi k61 40 f61), (h56, .inl (k56, 40, .inr (.inr (.inr (.inr f56))))), (h18, .inr (0, mX0 h19 h20 h21 h22 v18)), (h19, zi k19 120 f19), (h55, zi k55 300 f55), (h54, zi k54 832 f54), (h59, zi k59 40 f59), (h21, zi k21 120 f21), (h60, zi k60 40 f60), (h57, .inr (5, mX5 h58)), (h58, zi k58 26 f58), (h62, zi k62 120 f62), (h63, zi k63 120 f63), (h20, zi k20 120 f20), (h64, zi k64 120 f64), (h65, zi k65 120 f65)] ++ pl26) H ∧ va_D A ([(h0, .inr (11, mX11 h1 h4 h11 h18 h23 h32 h33 h40 h48 h49 sp0 lw0)), (h48, .inr (4, mX4 h1 h4 h11 h40 (upd (upd (upd (upd (upd (upd (upd (upd v48 4 (u4_ 0)) 5 (u4_ 1)) 6 (u4_ 2)) 7 (u4_ 3)) 8 (u4_ 4)) 9 (u4_ 5)) 10 (u4_ 6)) 11 (u4_ 7)))), (h40, .inr (7, mX7 h41 h42 h43 h44 h45 h46 h47 (upd (upd (upd (upd (upd v40 7 (u26_ 0)) 8 (u26_ 1)) 9 (u26_ 2)) 10 (u26_ 3)) 11 (u26_ 4)))), (h1, .inr (9, mX9 h2 h3 (upd (upd v1 2 (u12_ 0)) 3 (u4_ 13)))), (h2, zi k2 600 f2), (h3, zi k3 12 (a4_ 0)), (h11, .inr (10, mX10 h12 h13 h14 h15 h16 h17 v11)), (h12, .inl (k12, 10, .inr (.inl f12))), (h4, .inr (10, mX10 h5 h6 h7 h8 h9 h10 v4)), (h5, .inl (k5, 400, .inr (.inl f5))), (h46, zi k46 160 (a4_ 1)), (h41, zi k41 40 (a4_ 2)), (h42, zi k42 40 (a4_ 3)), (h43, zi k43 40 (a4_ 4)), (h44, zi k44 40 (a4_ 5)), (h45, zi k45 40 (a4_ 6)), (h47, zi k47 270 (a4_ 7)), (h49, .inr (1, mX1 h18 h4 h40 h50 h56 h57 h59 h60 h61 h62 h63 h64 h65 h66 h67 hw26 v49)), (h50, .inr (3, mX3 h4 h23 h40 h51 h52 h53 h54 h55 v50)), (h52, zi k52 400 f52), (h53, zi k53 400 f53), (h51, .inl (k51, 400, .inr (.inr (.inr (.inr f51))))), (h6, zi k6 400 f6), (h23, .inr (6, mX6 h24 h25 h26 h27 h28 h29 h30 h31 v23)), (h29, zi k29 400 f29), (h27, zi k27 400 f27), (h24, zi k24 1250 f24), (h25, zi k25 833 f25), (h26, zi k26 833 f26), (h28, zi k28 400 f28), (h7, zi k7 400 f7), (h30, zi k30 400 f30), (h31, zi k31 400 f31), (hw26, zi k61 nw26 f68), (h61, zi k61 40 f61), (h56, .inl (k56, 40, .inr (.inr (.inr (.inr f56))))), (h18, .inr (0, mX0 h19 h20 h21 h22 v18)), (h19, zi k19 120 f19), (h55, zi k55 300 f55), (h54, zi k54 832 f54), (h59, zi k59 40 f59), (h21, zi k21 120 f21), (h60, zi k60 40 f60), (h57, .inr (5, mX5 h58)), (h58, zi k58 26 f58), (h62, zi k62 120 f62), (h63, zi k63 120 f63), (h20, zi k20 120 f20), (h64, zi k64 120 f64), (h65, zi k65 120 f65)] ++ pl26) ∧ va_S A s.heap H locs ∧ lv_has ls 2 [(0, .ref h0), (1, .int r4_)] ∧ (0 ≤ (u26_ 0).toInt ∧ (u26_ 0).toInt ≤ 40) ∧ (0 ≤ (u26_ 1).toInt ∧ (u26_ 1).toInt ≤ 160) ∧ (0 ≤ (u26_ 2).toInt ∧ (u26_ 2).toInt ≤ 270) ∧ (zyT f2 (v1 2).toInt (u26_ 2).toInt (zqa (a4_ 7) (a4_ 2) (a4_ 3) (a4_ 4) (a4_ 5) (a4_ 1) (a4_ 6), (u26_ 0).toInt, (u26_ 1).toInt, zZc f2 (v1 2).toInt f5 (v4 7).toInt f12 (v11 7).toInt)) ∧ (zRd h23 f51 pl26) ∧ (zPs k61 f56 pl26) ∧ (zOt pl0 pl26) ∧ (H.size + zNl f51 400 + 2 * zNl f56 40 ≤ s.heap.size + zNl f51 400 + 2 * zNl f56 40 + 0)) (fun ls u26_ w26_ => F0 m 26 ls []) (fun u26_ => (0 + 0)) (fun u26_ => (0 + 0)) ?_ (fun hJ26 => ?_)
  · skip
    intro H locs ls u26_ w26_ a26_ b26_ hc
    obtain ⟨q26_, pl26, hw26, nw26, hn26_, hP, hD, hS, hl, b_, b_, b_, hI26_0, hI26_1, hI26_2, hI26_3, b_⟩ := hc
    refine zWsz (fun hzc_ hzd_ => ?_)
    obtain ⟨kz26, ekz26⟩ : ∃ k : Nat, k = H.size - s.heap.size := ⟨_, rfl⟩
    have hkz26 : kz26 + zNl f51 400 + 2 * zNl f56 40 ≤ zNl f51 400 + 2 * zNl f56 40 + 0 := by omega
    refine zWti (k := kz26) (by omega) ?_
    refine lv_aload_n hx hb dX11_search_26 rfl (lv_at hl 0 rfl) ?_
    refine va_get (D := (dC, dI)) (ci := 11) (v := .ref h49) (C := RX11) (T := TX11) (N := 12) hx hb hG zuX11 hown hK hP 0 rfl rfl 9 (by decide) (hG _ zv566) (fun _ h9 => h9) rfl dX11_search_27 ?_
    have b_ : -2147483648 ≤ (u26_ 3).toInt ∧ (u26_ 3).toInt ≤ 2147483647 := ⟨zlo _, zhi _⟩
    have b_ : -2147483648 ≤ (u26_ 4).toInt ∧ (u26_ 4).toInt ≤ 2147483647 := ⟨zlo _, zhi _⟩
    have hPc := hP.part (cx := [(h49, .inr (1, mX1 h18 h4 h40 h50 h56 h57 h59 h60 h61 h62 h63 h64 h65 h66 h67 hw26 v49)), (h50, .inr (3, mX3 h4 h23 h40 h51 h52 h53 h54 h55 v50)), (h52, zi k52 400 f52), (h53, zi k53 400 f53), (h40, .inr (7, mX7 h41 h42 h43 h44 h45 h46 h47 (upd (upd (upd (upd (upd v40 7 (u26_ 0)) 8 (u26_ 1)) 9 (u26_ 2)) 10 (u26_ 3)) 11 (u26_ 4)))), (h41, zi k41 40 (a4_ 2)), (h42, zi k42 40 (a4_ 3)), (h43, zi k43 40 (a4_ 4)), (h4, .inr (10, mX10 h5 h6 h7 h8 h9 h10 v4)), (h51, .inl (k51, 400, .inr (.inr (.inr (.inr f51))))), (h6, zi k6 400 f6), (h23, .inr (6, mX6 h24 h25 h26 h27 h28 h29 h30 h31 v23)), (h29, zi k29 400 f29), (h27, zi k27 400 f27), (h24, zi k24 1250 f24), (h25, zi k25 833 f25), (h26, zi k26 833 f26), (h28, zi k28 400 f28), (h5, .inl (k5, 400, .inr (.inl f5))), (h7, zi k7 400 f7), (h30, zi k30 400 f30), (h31, zi k31 400 f31), (h46, zi k46 160 (a4_ 1)), (hw26, zi k61 nw26 f68), (h61, zi k61 40 f61), (h56, .inl (k56, 40, .inr (.inr (.inr (.inr f56))))), (h18, .inr (0, mX0 h19 h20 h21 h22 v18)), (h19, zi k19 120 f19), (h55, zi k55 300 f55), (h54, zi k54 832 f54), (h44, zi k44 40 (a4_ 5)), (h59, zi k59 40 f59), (h21, zi k21 120 f21), (h47, zi k47 270 (a4_ 7)), (h60, zi k60 40 f60), (h57, .inr (5, mX5 h58)), (h58, zi k58 26 f58), (h62, zi k62 120 f62), (h63, zi k63 120 f63), (h45, zi k45 40 (a4_ 6)), (h20, zi k20 120 f20), (h64, zi k64 120 f64), (h65, zi k65 120 f65)]) [17, 18, 19, 20, 2, 11, 12, 13, 8, 21, 22, 23, 24, 25, 26, 27, 28, 29, 9, 30, 31, 32, 10, 33, 34, 35, 36, 37, 38, 39, 14, 40, 41, 16, 42, 43, 44, 45, 46, 15, 47, 48, 49] rfl
    have hDc := hD.part (cx := [(h49, .inr (1, mX1 h18 h4 h40 h50 h56 h57 h59 h60 h61 h62 h63 h64 h65 h66 h67 hw26 v49)), (h50, .inr (3, mX3 h4 h23 h40 h51 h52 h53 h54 h55 v50)), (h52, zi k52 400 f52), (h53, zi k53 400 f53), (h40, .inr (7, mX7 h41 h42 h43 h44 h45 h46 h47 (upd (upd (upd (upd (upd v40 7 (u26_ 0)) 8 (u26_ 1)) 9 (u26_ 2)) 10 (u26_ 3)) 11 (u26_ 4)))), (h41, zi k41 40 (a4_ 2)), (h42, zi k42 40 (a4_ 3)), (h43, zi k43 40 (a4_ 4)), (h4, .inr (10, mX10 h5 h6 h7 h8 h9 h10 v4)), (h51, .inl (k51, 400, .inr (.inr (.inr (.inr f51))))), (h6, zi k6 400 f6), (h23, .inr (6, mX6 h24 h25 h26 h27 h28 h29 h30 h31 v23)), (h29, zi k29 400 f29), (h27, zi k27 400 f27), (h24, zi k24 1250 f24), (h25, zi k25 833 f25), (h26, zi k26 833 f26), (h28, zi k28 400 f28), (h5, .inl (k5, 400, .inr (.inl f5))), (h7, zi k7 400 f7), (h30, zi k30 400 f30), (h31, zi k31 400 f31), (h46, zi k46 160 (a4_ 1)), (hw26, zi k61 nw26 f68), (h61, zi k61 40 f61), (h56, .inl (k56, 40, .inr (.inr (.inr (.inr f56))))), (h18, .inr (0, mX0 h19 h20 h21 h22 v18)), (h19, zi k19 120 f19), (h55, zi k55 300 f55), (h54, zi k54 832 f54), (h44, zi k44 40 (a4_ 5)), (h59, zi k59 40 f59), (h21, zi k21 120 f21), (h47, zi k47 270 (a4_ 7)), (h60, zi k60 40 f60), (h57, .inr (5, mX5 h58)), (h58, zi k58 26 f58), (h62, zi k62 120 f62), (h63, zi k63 120 f63), (h45, zi k45 40 (a4_ 6)), (h20, zi k20 120 f20), (h64, zi k64 120 f64), (h65, zi k65 120 f65)]) [17, 18, 19, 20, 2, 11, 12, 13, 8, 21, 22, 23, 24, 25, 26, 27, 28, 29, 9, 30, 31, 32, 10, 33, 34, 35, 36, 37, 38, 39, 14, 40, 41, 16, 42, 43, 44, 45, 46, 15, 47, 48, 49] (by decide) rfl
    have hKc := hK.sub (tys' := [(k52, .int), (k53, .boolean), (k41, .int), (k42, .int), (k43, .int), (k51, .object RX8), (k6, .int), (k29, .int), (k27, .int), (k24, .int), (k25, .int), (k26, .int), (k28, .int), (k5, .long), (k7, .int), (k30, .int), (k31, .int), (k46, .int), (k61, .int), (k61, .int), (k56, .object RX5), (k19, .boolean), (k55, .int), (k54, .int), (k44, .int), (k59, .boolean), (k21, .int), (k47, .int), (k60, .boolean), (k58, .int), (k62, .int), (k63, .int), (k45, .boolean), (k20, .int), (k64, .int), (k65, .int)]) [11, 12, 5, 6, 7, 13, 14, 15, 16, 17, 18, 19, 20, 3, 21, 22, 23, 4, 24, 25, 26, 27, 28, 29, 8, 30, 31, 10, 32, 33, 34, 35, 9, 36, 37, 38] rfl
    have hFc := va_freeP (cx := [(h49, .inr (1, mX1 h18 h4 h40 h50 h56 h57 h59 h60 h61 h62 h63 h64 h65 h66 h67 hw26 v49)), (h50, .inr (3, mX3 h4 h23 h40 h51 h52 h53 h54 h55 v50)), (h52, zi k52 400 f52), (h53, zi k53 400 f53), (h40, .inr (7, mX7 h41 h42 h43 h44 h45 h46 h47 (upd (upd (upd (upd (upd v40 7 (u26_ 0)) 8 (u26_ 1)) 9 (u26_ 2)) 10 (u26_ 3)) 11 (u26_ 4)))), (h41, zi k41 40 (a4_ 2)), (h42, zi k42 40 (a4_ 3)), (h43, zi k43 40 (a4_ 4)), (h4, .inr (10, mX10 h5 h6 h7 h8 h9 h10 v4)), (h51, .inl (k51, 400, .inr (.inr (.inr (.inr f51))))), (h6, zi k6 400 f6), (h23, .inr (6, mX6 h24 h25 h26 h27 h28 h29 h30 h31 v23)), (h29, zi k29 400 f29), (h27, zi k27 400 f27), (h24, zi k24 1250 f24), (h25, zi k25 833 f25), (h26, zi k26 833 f26), (h28, zi k28 400 f28), (h5, .inl (k5, 400, .inr (.inl f5))), (h7, zi k7 400 f7), (h30, zi k30 400 f30), (h31, zi k31 400 f31), (h46, zi k46 160 (a4_ 1)), (hw26, zi k61 nw26 f68), (h61, zi k61 40 f61), (h56, .inl (k56, 40, .inr (.inr (.inr (.inr f56))))), (h18, .inr (0, mX0 h19 h20 h21 h22 v18)), (h19, zi k19 120 f19), (h55, zi k55 300 f55), (h54, zi k54 832 f54), (h44, zi k44 40 (a4_ 5)), (h59, zi k59 40 f59), (h21, zi k21 120 f21), (h47, zi k47 270 (a4_ 7)), (h60, zi k60 40 f60), (h57, .inr (5, mX5 h58)), (h58, zi k58 26 f58), (h62, zi k62 120 f62), (h63, zi k63 120 f63), (h45, zi k45 40 (a4_ 6)), (h20, zi k20 120 f20), (h64, zi k64 120 f64), (h65, zi k65 120 f65)]) hD hS hA [17, 18, 19, 20, 2, 11, 12, 13, 8, 21, 22, 23, 24, 25, 26, 27, 28, 29, 9, 30, 31, 32, 10, 33, 34, 35, 36, 37, 38, 39, 14, 40, 41, 16, 42, 43, 44, 45, 46, 15, 47, 48, 49] rfl
    refine zWsz (fun hza_ hzb_ => ?_)
    refine va_callv (va_runV (As := []) (rest := []) ⟨hx, hb, hml, hown, hG⟩ (sX1_find_0t l dC dI adK adV h49 h50 h52 h53 h40 h41 h42 h43 h4 h51 h6 h23 h29 h27 h24 h25 h26 h28 h5 h7 h30 h31 h46 hw26 h61 h56 h18 h19 h55 h54 h44 h59 h21 h47 h60 h57 h58 h62 h63 h45 h20 h64 h65 h66 h67 h8 h9 h10 h22 k52 k53 k41 k42 k43 k51 k6 k29 k27 k24 k25 k26 k28 k5 k7 k30 k31 k46 nw26 k61 k56 k19 k55 k54 k44 k59 k21 k47 k60 k58 k62 k63 k45 k20 k64 k65 pl26 H.size v49 v50 f52 f53 (upd (upd (upd (upd (upd v40 7 (u26_ 0)) 8 (u26_ 1)) 9 (u26_ 2)) 10 (u26_ 3)) 11 (u26_ 4)) (a4_ 2) (a4_ 3) (a4_ 4) v4 f51 f6 v23 f29 f27 f24 f25 f26 f28 f5 f7 f30 f31 (a4_ 1) f68 f61 f56 v18 f19 f55 f54 (a4_ 5) f59 f21 (a4_ 7) f60 f58 f62 f63 (a4_ 6) f20 f64 f65 hv49 hv50 hf52 (zR_updF (zR_updF (zR_up2 (zR_up2 (zR_up2 hv40 7 (show (0 : Int) ≤ ((u26_ 0) : Int32).toInt ∧ ((u26_ 0) : Int32).toInt ≤ (40 : Int) from (by first | with_reducible assumption | exact ⟨by omega, by omega⟩))) 8 (show (0 : Int) ≤ ((u26_ 1) : Int32).toInt ∧ ((u26_ 1) : Int32).toInt ≤ (160 : Int) from (by first | with_reducible assumption | exact ⟨by omega, by omega⟩))) 9 (show (0 : Int) ≤ ((u26_ 2) : Int32).toInt ∧ ((u26_ 2) : Int32).toInt ≤ (270 : Int) from (by first | with_reducible assumption | exact ⟨by omega, by omega⟩))) 10 rfl) 11 rfl) hv4 hf6 hv23 hf25 hf28 hf7 hf68 hn26_ hv18 hf55 ha4_7 hf62 hf20 hf65 (show zRd h23 f51 pl26 from by first | with_reducible assumption | assumption) (show zPs k61 f56 pl26 from by first | with_reducible assumption | assumption)) (cwV 0 hG (zgV zv1171 zv1172 zv1173 zv138 zv1174) rfl rfl rfl (by decide +kernel) ⟨Nat.le_of_ble_eq_true rfl, Nat.le_of_ble_eq_true rfl⟩) ⟨zPc_blind, va_recv hKc hPc (ci := 1) (q0 := 0) rfl rfl, zPc_pre hPc hKc hDc hE hS hFc hZ⟩ rfl rfl hl.1 rfl (lv_room (Nat.le_of_ble_eq_true rfl)) dX11_search_30 ⟨(show kz26 + 481 ≤ 481 from by omega), (show (0 + 0) + 9480 ≤ 9480 from by omega)⟩) hS (fun q _ h => hFc q h) hFc (fun u30_ t H1 locs ht hvm hw hB hz1 hk1 hS => ?_)
    replace hw : (0 ≤ (u30_ 0).toInt ∧ (u30_ 0).toInt ≤ 120) ∧ (0 ≤ (u30_ 1).toInt ∧ (u30_ 1).toInt ≤ 400) ∧ (0 ≤ (u30_ 2).toInt ∧ (u30_ 2).toInt ≤ 300) := hw
    obtain ⟨b_, b_, b_⟩ := hw
    obtain ⟨w30_, a30_, b30_, q30_, pl30_, hw30_, nw30_, hn30_, ha30_0, ha30_2, ha30_4, ha30_9, ha30_12, hB30_0, hB30_1, hB30_2, hB30_3, hB30_4, hB30_5, hB30_6, hB30_7, hBS30, hP1, hK1, hD1⟩ := hB
    have hB30_0 : zRd h23 (q30_ 0) pl30_ := hB30_0
    have hB30_1 : zPs k61 (q30_ 1) pl30_ := hB30_1
    have hB30_2 : zOt pl26 pl30_ := hB30_2
    have hB30_3 : zFic h23 f51 f5 f6 f7 (v4 7).toInt f24 f25 f26 f27 f28 f29 (v23 8).toInt (v23 9).toInt (v23 10).toInt (v23 11).toInt f30 f31 f52 f53 (v50 8).toInt f54 f55 (v50 9).toInt (q30_ 0) pl30_ (a30_ 0) (a30_ 1) (u30_ 1).toInt (a30_ 5) (a30_ 4) (u30_ 2).toInt (a4_ 2) (a4_ 3) (a4_ 4) (a4_ 1) (a4_ 5) (u26_ 1).toInt (u26_ 0).toInt (a4_ 7) (u26_ 2).toInt f19 f21 (v18 4).toInt (a30_ 9) (u30_ 0).toInt (if 0 < (u26_ 2).toInt then (v18 4).toInt else 0) := hB30_3
    have hB30_4 : zFiw f51 f5 f6 f7 (v4 7).toInt f24 f25 f26 f27 f28 f29 (v23 8).toInt (v23 9).toInt (v23 10).toInt (v23 11).toInt f30 f31 f52 f53 (v50 8).toInt f54 f55 (v50 9).toInt (a4_ 2) (a4_ 3) (a4_ 4) (a4_ 1) (a4_ 5) (u26_ 1).toInt (u26_ 0).toInt (a4_ 7) (u26_ 2).toInt f19 (v18 4).toInt (a4_ 6) (a30_ 2) (a30_ 3) (a30_ 9) (a30_ 10) (u30_ 0).toInt (if 0 < (u26_ 2).toInt then (v18 4).toInt else 0) := hB30_4
    have hB30_5 : zRkc (a30_ 9) (a30_ 11) (a30_ 10) (a30_ 12) (u30_ 0).toInt := hB30_5
    have hB30_6 : zScT (a4_ 6) (a30_ 2) (a30_ 3) f20 (v18 5).toInt (v18 4).toInt ((nw30_ : Nat) : Int) (u26_ 0).toInt (a30_ 9) (a30_ 11) (u30_ 0).toInt := hB30_6
    have hB30_7 : 120 * (u26_ 0).toInt ≤ ((nw30_ : Nat) : Int) := hB30_7
    rw [ht] at hP1
    rw [ht] at hBS30
    obtain ⟨hP, hD⟩ := va_joinP (wr := [(h0, .inr (11, mX11 h1 h4 h11 h18 h23 h32 h33 h40 h48 h49 sp0 lw0)), (h48, .inr (4, mX4 h1 h4 h11 h40 (upd (upd (upd (upd (upd (upd (upd (upd v48 4 (u4_ 0)) 5 (u4_ 1)) 6 (u4_ 2)) 7 (u4_ 3)) 8 (u4_ 4)) 9 (u4_ 5)) 10 (u4_ 6)) 11 (u4_ 7)))), (h1, .inr (9, mX9 h2 h3 (upd (upd v1 2 (u12_ 0)) 3 (u4_ 13)))), (h2, zi k2 600 f2), (h3, zi k3 12 (a4_ 0)), (h11, .inr (10, mX10 h12 h13 h14 h15 h16 h17 v11)), (h12, .inl (k12, 10, .inr (.inl f12)))]) (rx := [(h49, .inr (1, mX1 h18 h4 h40 h50 h56 h57 h59 h60 h61 h62 h63 h64 h65 h66 h67 hw30_ (upd v49 16 (u30_ 0)))), (h50, .inr (3, mX3 h4 h23 h40 h51 h52 h53 h54 h55 (upd (upd v50 8 (u30_ 1)) 9 (u30_ 2)))), (h52, zi k52 400 (a30_ 0)), (h53, zi k53 400 (a30_ 1)), (h40, .inr (7, mX7 h41 h42 h43 h44 h45 h46 h47 (upd (upd (upd (upd (upd v40 7 (u26_ 0)) 8 (u26_ 1)) 9 (u26_ 2)) 10 (u26_ 3)) 11 (u26_ 4)))), (h41, zi k41 40 (a4_ 2)), (h42, zi k42 40 (a4_ 3)), (h43, zi k43 40 (a4_ 4)), (h4, .inr (10, mX10 h5 h6 h7 h8 h9 h10 v4)), (h51, .inl (k51, 400, .inr (.inr (.inr (.inr (q30_ 0)))))), (h6, zi k6 400 f6), (h23, .inr (6, mX6 h24 h25 h26 h27 h28 h29 h30 h31 v23)), (h29, zi k29 400 f29), (h27, zi k27 400 f27), (h24, zi k24 1250 f24), (h25, zi k25 833 f25), (h26, zi k26 833 f26), (h28, zi k28 400 f28), (h5, .inl (k5, 400, .inr (.inl f5))), (h7, zi k7 400 f7), (h30, zi k30 400 f30), (h31, zi k31 400 f31), (h46, zi k46 160 (a4_ 1)), (hw30_, zi k61 nw30_ (a30_ 2)), (h61, zi k61 40 (a30_ 3)), (h56, .inl (k56, 40, .inr (.inr (.inr (.inr (q30_ 1)))))), (h18, .inr (0, mX0 h19 h20 h21 h22 v18)), (h19, zi k19 120 f19), (h55, zi k55 300 (a30_ 4)), (h54, zi k54 832 (a30_ 5)), (h44, zi k44 40 (a4_ 5)), (h59, zi k59 40 (a30_ 6)), (h21, zi k21 120 f21), (h47, zi k47 270 (a4_ 7)), (h60, zi k60 40 (a30_ 7)), (h57, .inr (5, mX5 h58)), (h58, zi k58 26 (a30_ 8)), (h62, zi k62 120 (a30_ 9)), (h63, zi k63 120 (a30_ 10)), (h45, zi k45 40 (a4_ 6)), (h20, zi k20 120 f20), (h64, zi k64 120 (a30_ 11)), (h65, zi k65 120 (a30_ 12))]) hP hD [17, 18, 19, 20, 2, 11, 12, 13, 8, 21, 22, 23, 24, 25, 26, 27, 28, 29, 9, 30, 31, 32, 10, 33, 34, 35, 36, 37, 38, 39, 14, 40, 41, 16, 42, 43, 44, 45, 46, 15, 47, 48, 49] [0, 1, 3, 4, 5, 6, 7] rfl rfl (by decide) (by decide) hk1 hFc hP1 hD1
    have hP : va_P (dC, dI) vwCl ([(h0, .inr (11, mX11 h1 h4 h11 h18 h23 h32 h33 h40 h48 h49 sp0 lw0)), (h48, .inr (4, mX4 h1 h4 h11 h40 (upd (upd (upd (upd (upd (upd (upd (upd v48 4 (u4_ 0)) 5 (u4_ 1)) 6 (u4_ 2)) 7 (u4_ 3)) 8 (u4_ 4)) 9 (u4_ 5)) 10 (u4_ 6)) 11 (u4_ 7)))), (h40, .inr (7, mX7 h41 h42 h43 h44 h45 h46 h47 (upd (upd (upd (upd (upd v40 7 (u26_ 0)) 8 (u26_ 1)) 9 (u26_ 2)) 10 (u26_ 3)) 11 (u26_ 4)))), (h1, .inr (9, mX9 h2 h3 (upd (upd v1 2 (u12_ 0)) 3 (u4_ 13)))), (h2, zi k2 600 f2), (h3, zi k3 12 (a4_ 0)), (h11, .inr (10, mX10 h12 h13 h14 h15 h16 h17 v11)), (h12, .inl (k12, 10, .inr (.inl f12))), (h4, .inr (10, mX10 h5 h6 h7 h8 h9 h10 v4)), (h5, .inl (k5, 400, .inr (.inl f5))), (h46, zi k46 160 (a4_ 1)), (h41, zi k41 40 (a4_ 2)), (h42, zi k42 40 (a4_ 3)), (h43, zi k43 40 (a4_ 4)), (h44, zi k44 40 (a4_ 5)), (h45, zi k45 40 (a4_ 6)), (h47, zi k47 270 (a4_ 7)), (h49, .inr (1, mX1 h18 h4 h40 h50 h56 h57 h59 h60 h61 h62 h63 h64 h65 h66 h67 hw30_ (upd v49 16 (u30_ 0)))), (h50, .inr (3, mX3 h4 h23 h40 h51 h52 h53 h54 h55 (upd (upd v50 8 (u30_ 1)) 9 (u30_ 2)))), (h52, zi k52 400 (a30_ 0)), (h53, zi k53 400 (a30_ 1)), (h51, .inl (k51, 400, .inr (.inr (.inr (.inr (q30_ 0)))))), (h6, zi k6 400 f6), (h23, .inr (6, mX6 h24 h25 h26 h27 h28 h29 h30 h31 v23)), (h29, zi k29 400 f29), (h27, zi k27 400 f27), (h24, zi k24 1250 f24), (h25, zi k25 833 f25), (h26, zi k26 833 f26), (h28, zi k28 400 f28), (h7, zi k7 400 f7), (h30, zi k30 400 f30), (h31, zi k31 400 f31), (hw30_, zi k61 nw30_ (a30_ 2)), (h61, zi k61 40 (a30_ 3)), (h56, .inl (k56, 40, .inr (.inr (.inr (.inr (q30_ 1)))))), (h18, .inr (0, mX0 h19 h20 h21 h22 v18)), (h19, zi k19 120 f19), (h55, zi k55 300 (a30_ 4)), (h54, zi k54 832 (a30_ 5)), (h59, zi k59 40 (a30_ 6)), (h21, zi k21 120 f21), (h60, zi k60 40 (a30_ 7)), (h57, .inr (5, mX5 h58)), (h58, zi k58 26 (a30_ 8)), (h62, zi k62 120 (a30_ 9)), (h63, zi k63 120 (a30_ 10)), (h20, zi k20 120 f20), (h64, zi k64 120 (a30_ 11)), (h65, zi k65 120 (a30_ 12))] ++ pl30_) H1 := hP.part [0, 1, 11, 2, 3, 4, 5, 6, 15, 25, 29, 12, 13, 14, 37, 46, 40, 7, 8, 9, 10, 16, 17, 18, 19, 20, 21, 22, 23, 24, 26, 27, 28, 30, 31, 32, 33, 34, 35, 36, 38, 39, 41, 42, 43, 44, 45, 47, 48, 49] rfl
    have hD : va_D A ([(h0, .inr (11, mX11 h1 h4 h11 h18 h23 h32 h33 h40 h48 h49 sp0 lw0)), (h48, .inr (4, mX4 h1 h4 h11 h40 (upd (upd (upd (upd (upd (upd (upd (upd v48 4 (u4_ 0)) 5 (u4_ 1)) 6 (u4_ 2)) 7 (u4_ 3)) 8 (u4_ 4)) 9 (u4_ 5)) 10 (u4_ 6)) 11 (u4_ 7)))), (h40, .inr (7, mX7 h41 h42 h43 h44 h45 h46 h47 (upd (upd (upd (upd (upd v40 7 (u26_ 0)) 8 (u26_ 1)) 9 (u26_ 2)) 10 (u26_ 3)) 11 (u26_ 4)))), (h1, .inr (9, mX9 h2 h3 (upd (upd v1 2 (u12_ 0)) 3 (u4_ 13)))), (h2, zi k2 600 f2), (h3, zi k3 12 (a4_ 0)), (h11, .inr (10, mX10 h12 h13 h14 h15 h16 h17 v11)), (h12, .inl (k12, 10, .inr (.inl f12))), (h4, .inr (10, mX10 h5 h6 h7 h8 h9 h10 v4)), (h5, .inl (k5, 400, .inr (.inl f5))), (h46, zi k46 160 (a4_ 1)), (h41, zi k41 40 (a4_ 2)), (h42, zi k42 40 (a4_ 3)), (h43, zi k43 40 (a4_ 4)), (h44, zi k44 40 (a4_ 5)), (h45, zi k45 40 (a4_ 6)), (h47, zi k47 270 (a4_ 7)), (h49, .inr (1, mX1 h18 h4 h40 h50 h56 h57 h59 h60 h61 h62 h63 h64 h65 h66 h67 hw30_ (upd v49 16 (u30_ 0)))), (h50, .inr (3, mX3 h4 h23 h40 h51 h52 h53 h54 h55 (upd (upd v50 8 (u30_ 1)) 9 (u30_ 2)))), (h52, zi k52 400 (a30_ 0)), (h53, zi k53 400 (a30_ 1)), (h51, .inl (k51, 400, .inr (.inr (.inr (.inr (q30_ 0)))))), (h6, zi k6 400 f6), (h23, .inr (6, mX6 h24 h25 h26 h27 h28 h29 h30 h31 v23)), (h29, zi k29 400 f29), (h27, zi k27 400 f27), (h24, zi k24 1250 f24), (h25, zi k25 833 f25), (h26, zi k26 833 f26), (h28, zi k28 400 f28), (h7, zi k7 400 f7), (h30, zi k30 400 f30), (h31, zi k31 400 f31), (hw30_, zi k61 nw30_ (a30_ 2)), (h61, zi k61 40 (a30_ 3)), (h56, .inl (k56, 40, .inr (.inr (.inr (.inr (q30_ 1)))))), (h18, .inr (0, mX0 h19 h20 h21 h22 v18)), (h19, zi k19 120 f19), (h55, zi k55 300 (a30_ 4)), (h54, zi k54 832 (a30_ 5)), (h59, zi k59 40 (a30_ 6)), (h21, zi k21 120 f21), (h60, zi k60 40 (a30_ 7)), (h57, .inr (5, mX5 h58)), (h58, zi k58 26 (a30_ 8)), (h62, zi k62 120 (a30_ 9)), (h63, zi k63 120 (a30_ 10)), (h20, zi k20 120 f20), (h64, zi k64 120 (a30_ 11)), (h65, zi k65 120 (a30_ 12))] ++ pl30_) := hD.part [0, 1, 11, 2, 3, 4, 5, 6, 15, 25, 29, 12, 13, 14, 37, 46, 40, 7, 8, 9, 10, 16, 17, 18, 19, 20, 21, 22, 23, 24, 26, 27, 28, 30, 31, 32, 33, 34, 35, 36, 38, 39, 41, 42, 43, 44, 45, 47, 48, 49] (by decide) rfl
    generalize H1 = H at hP hS hBS30 ⊢
    clear hz1
    refine zWsz (fun hzc_ hzd_ => ?_)
    obtain ⟨kz30, ekz30⟩ : ∃ k : Nat, k = H.size - s.heap.size := ⟨_, rfl⟩
    have hkz30 : kz30 + zNl (q30_ 0) 400 + 2 * zNl (q30_ 1) 40 ≤ zNl f51 400 + 2 * zNl f56 40 + 1 := by omega
    refine zWti (k := kz30) (by omega) ?_
    have hot_ : zOt pl0 pl30_ := zOt_tr (show zOt pl0 pl26 from by first | assumption | exact zOt_rf) hB30_2
    refine lv_iload_n hx hb dX11_search_33 rfl (lv_at hl 1 rfl) ?_
    have b_ : -2147483648 ≤ r4_.toInt ∧ r4_.toInt ≤ 2147483647 := ⟨zlo _, zhi _⟩
    refine lv_if_eq (tgt := 42) hx hb dX11_search_34 (by decide) (fun c_ => ?_) (fun c_ => ?_)
    · skip
      have b_ := zT_eq rfl zk_0 c_
      refine lv_aload_n hx hb dX11_search_42 rfl (lv_at hl 0 rfl) ?_
      refine va_get (D := (dC, dI)) (ci := 11) (v := .ref h49) (C := RX11) (T := TX11) (N := 12) hx hb hG zuX11 hown hK hP 0 rfl rfl 9 (by decide) (hG _ zv566) (fun _ h9 => h9) rfl dX11_search_43 ?_
      have hPc := hP.sub (ws' := [(h49, .inr (1, mX1 h18 h4 h40 h50 h56 h57 h59 h60 h61 h62 h63 h64 h65 h66 h67 hw30_ (upd v49 16 (u30_ 0))))]) [17] rfl
      have hDc := hD.sub (ws' := [(h49, .inr (1, mX1 h18 h4 h40 h50 h56 h57 h59 h60 h61 h62 h63 h64 h65 h66 h67 hw30_ (upd v49 16 (u30_ 0))))]) [17] (by decide) rfl
      have hKc := hK.sub (tys' := []) [] rfl
      have hFc := va_free (wc := [(h49, .inr (1, mX1 h18 h4 h40 h50 h56 h57 h59 h60 h61 h62 h63 h64 h65 h66 h67 hw30_ (upd v49 16 (u30_ 0))))]) hD hS hA [17] rfl
      refine va_calli (va_runV (As := []) (rest := []) ⟨hx, hb, hml, hown, hG⟩ (sX1_found_0 l dC dI adK adV h49 h18 h4 h40 h50 h56 h57 h59 h60 h61 h62 h63 h64 h65 h66 h67 hw30_ H.size (upd v49 16 (u30_ 0)) (zR_up2 hv49 16 (show (0 : Int) ≤ ((u30_ 0) : Int32).toInt ∧ ((u30_ 0) : Int32).toInt ≤ (120 : Int) from (by first | with_reducible assumption | exact ⟨by omega, by omega⟩)))) (cwV 0 hG (zgV zv1364 zv1365 zv1366 zv138 zv1367) rfl rfl rfl (by decide +kernel) ⟨Nat.le_of_ble_eq_true rfl, Nat.le_of_ble_eq_true rfl⟩) ⟨zPc_blind, va_recv hKc hPc (ci := 1) (q0 := 0) rfl rfl, zPc_pre hPc hKc hDc hE hS hFc hZ⟩ rfl rfl hl.1 rfl (lv_room (Nat.le_of_ble_eq_true rfl)) dX11_search_46 ⟨(show kz30 + 0 + 0 ≤ 481 from by omega), (show (0 + 0) + 9480 + 0 ≤ 9480 from by omega)⟩) hS (fun q _ h => hFc q h) hFc (fun r46_ u46_ t H1 locs ht hvm hw hB hz1 hk1 hS => ?_)
      replace hw : (0 ≤ r46_.toInt ∧ r46_.toInt ≤ 120) ∧ (r46_.toInt = (u30_ 0).toInt) := hw
      obtain ⟨b_, hX46_0⟩ := hw
      obtain ⟨w46_, a46_, b46_, hP1, hK1, hD1⟩ := hB
      rw [ht] at hP1
      obtain ⟨hP, hD⟩ := va_joinQ (wr := [(h0, .inr (11, mX11 h1 h4 h11 h18 h23 h32 h33 h40 h48 h49 sp0 lw0)), (h48, .inr (4, mX4 h1 h4 h11 h40 (upd (upd (upd (upd (upd (upd (upd (upd v48 4 (u4_ 0)) 5 (u4_ 1)) 6 (u4_ 2)) 7 (u4_ 3)) 8 (u4_ 4)) 9 (u4_ 5)) 10 (u4_ 6)) 11 (u4_ 7)))), (h40, .inr (7, mX7 h41 h42 h43 h44 h45 h46 h47 (upd (upd (upd (upd (upd v40 7 (u26_ 0)) 8 (u26_ 1)) 9 (u26_ 2)) 10 (u26_ 3)) 11 (u26_ 4)))), (h1, .inr (9, mX9 h2 h3 (upd (upd v1 2 (u12_ 0)) 3 (u4_ 13)))), (h2, zi k2 600 f2), (h3, zi k3 12 (a4_ 0)), (h11, .inr (10, mX10 h12 h13 h14 h15 h16 h17 v11)), (h12, .inl (k12, 10, .inr (.inl f12))), (h4, .inr (10, mX10 h5 h6 h7 h8 h9 h10 v4)), (h5, .inl (k5, 400, .inr (.inl f5))), (h46, zi k46 160 (a4_ 1)), (h41, zi k41 40 (a4_ 2)), (h42, zi k42 40 (a4_ 3)), (h43, zi k43 40 (a4_ 4)), (h44, zi k44 40 (a4_ 5)), (h45, zi k45 40 (a4_ 6)), (h47, zi k47 270 (a4_ 7)), (h50, .inr (3, mX3 h4 h23 h40 h51 h52 h53 h54 h55 (upd (upd v50 8 (u30_ 1)) 9 (u30_ 2)))), (h52, zi k52 400 (a30_ 0)), (h53, zi k53 400 (a30_ 1)), (h51, .inl (k51, 400, .inr (.inr (.inr (.inr (q30_ 0)))))), (h6, zi k6 400 f6), (h23, .inr (6, mX6 h24 h25 h26 h27 h28 h29 h30 h31 v23)), (h29, zi k29 400 f29), (h27, zi k27 400 f27), (h24, zi k24 1250 f24), (h25, zi k25 833 f25), (h26, zi k26 833 f26), (h28, zi k28 400 f28), (h7, zi k7 400 f7), (h30, zi k30 400 f30), (h31, zi k31 400 f31), (hw30_, zi k61 nw30_ (a30_ 2)), (h61, zi k61 40 (a30_ 3)), (h56, .inl (k56, 40, .inr (.inr (.inr (.inr (q30_ 1)))))), (h18, .inr (0, mX0 h19 h20 h21 h22 v18)), (h19, zi k19 120 f19), (h55, zi k55 300 (a30_ 4)), (h54, zi k54 832 (a30_ 5)), (h59, zi k59 40 (a30_ 6)), (h21, zi k21 120 f21), (h60, zi k60 40 (a30_ 7)), (h57, .inr (5, mX5 h58)), (h58, zi k58 26 (a30_ 8)), (h62, zi k62 120 (a30_ 9)), (h63, zi k63 120 (a30_ 10)), (h20, zi k20 120 f20), (h64, zi k64 120 (a30_ 11)), (h65, zi k65 120 (a30_ 12))]) (w1 := [(h49, .inr (1, mX1 h18 h4 h40 h50 h56 h57 h59 h60 h61 h62 h63 h64 h65 h66 h67 hw30_ (upd v49 16 (u30_ 0))))]) hP hD [17] [0, 1, 2, 3, 4, 5, 6, 7, 8, 9, 10, 11, 12, 13, 14, 15, 16, 18, 19, 20, 21, 22, 23, 24, 25, 26, 27, 28, 29, 30, 31, 32, 33, 34, 35, 36, 37, 38, 39, 40, 41, 42, 43, 44, 45, 46, 47, 48, 49] rfl rfl (by decide) (by decide) hk1 hFc hP1 hD1
      have hP : va_P (dC, dI) vwCl ([(h0, .inr (11, mX11 h1 h4 h11 h18 h23 h32 h33 h40 h48 h49 sp0 lw0)), (h48, .inr (4, mX4 h1 h4 h11 h40 (upd (upd (upd (upd (upd (upd (upd (upd v48 4 (u4_ 0)) 5 (u4_ 1)) 6 (u4_ 2)) 7 (u4_ 3)) 8 (u4_ 4)) 9 (u4_ 5)) 10 (u4_ 6)) 11 (u4_ 7)))), (h40, .inr (7, mX7 h41 h42 h43 h44 h45 h46 h47 (upd (upd (upd (upd (upd v40 7 (u26_ 0)) 8 (u26_ 1)) 9 (u26_ 2)) 10 (u26_ 3)) 11 (u26_ 4)))), (h1, .inr (9, mX9 h2 h3 (upd (upd v1 2 (u12_ 0)) 3 (u4_ 13)))), (h2, zi k2 600 f2), (h3, zi k3 12 (a4_ 0)), (h11, .inr (10, mX10 h12 h13 h14 h15 h16 h17 v11)), (h12, .inl (k12, 10, .inr (.inl f12))), (h4, .inr (10, mX10 h5 h6 h7 h8 h9 h10 v4)), (h5, .inl (k5, 400, .inr (.inl f5))), (h46, zi k46 160 (a4_ 1)), (h41, zi k41 40 (a4_ 2)), (h42, zi k42 40 (a4_ 3)), (h43, zi k43 40 (a4_ 4)), (h44, zi k44 40 (a4_ 5)), (h45, zi k45 40 (a4_ 6)), (h47, zi k47 270 (a4_ 7)), (h49, .inr (1, mX1 h18 h4 h40 h50 h56 h57 h59 h60 h61 h62 h63 h64 h65 h66 h67 hw30_ (upd v49 16 (u30_ 0)))), (h50, .inr (3, mX3 h4 h23 h40 h51 h52 h53 h54 h55 (upd (upd v50 8 (u30_ 1)) 9 (u30_ 2)))), (h52, zi k52 400 (a30_ 0)), (h53, zi k53 400 (a30_ 1)), (h51, .inl (k51, 400, .inr (.inr (.inr (.inr (q30_ 0)))))), (h6, zi k6 400 f6), (h23, .inr (6, mX6 h24 h25 h26 h27 h28 h29 h30 h31 v23)), (h29, zi k29 400 f29), (h27, zi k27 400 f27), (h24, zi k24 1250 f24), (h25, zi k25 833 f25), (h26, zi k26 833 f26), (h28, zi k28 400 f28), (h7, zi k7 400 f7), (h30, zi k30 400 f30), (h31, zi k31 400 f31), (hw30_, zi k61 nw30_ (a30_ 2)), (h61, zi k61 40 (a30_ 3)), (h56, .inl (k56, 40, .inr (.inr (.inr (.inr (q30_ 1)))))), (h18, .inr (0, mX0 h19 h20 h21 h22 v18)), (h19, zi k19 120 f19), (h55, zi k55 300 (a30_ 4)), (h54, zi k54 832 (a30_ 5)), (h59, zi k59 40 (a30_ 6)), (h21, zi k21 120 f21), (h60, zi k60 40 (a30_ 7)), (h57, .inr (5, mX5 h58)), (h58, zi k58 26 (a30_ 8)), (h62, zi k62 120 (a30_ 9)), (h63, zi k63 120 (a30_ 10)), (h20, zi k20 120 f20), (h64, zi k64 120 (a30_ 11)), (h65, zi k65 120 (a30_ 12))] ++ pl30_) H1 := hP.part [0, 1, 2, 3, 4, 5, 6, 7, 8, 9, 10, 11, 12, 13, 14, 15, 16, 49, 17, 18, 19, 20, 21, 22, 23, 24, 25, 26, 27, 28, 29, 30, 31, 32, 33, 34, 35, 36, 37, 38, 39, 40, 41, 42, 43, 44, 45, 46, 47, 48] rfl
      have hD : va_D A ([(h0, .inr (11, mX11 h1 h4 h11 h18 h23 h32 h33 h40 h48 h49 sp0 lw0)), (h48, .inr (4, mX4 h1 h4 h11 h40 (upd (upd (upd (upd (upd (upd (upd (upd v48 4 (u4_ 0)) 5 (u4_ 1)) 6 (u4_ 2)) 7 (u4_ 3)) 8 (u4_ 4)) 9 (u4_ 5)) 10 (u4_ 6)) 11 (u4_ 7)))), (h40, .inr (7, mX7 h41 h42 h43 h44 h45 h46 h47 (upd (upd (upd (upd (upd v40 7 (u26_ 0)) 8 (u26_ 1)) 9 (u26_ 2)) 10 (u26_ 3)) 11 (u26_ 4)))), (h1, .inr (9, mX9 h2 h3 (upd (upd v1 2 (u12_ 0)) 3 (u4_ 13)))), (h2, zi k2 600 f2), (h3, zi k3 12 (a4_ 0)), (h11, .inr (10, mX10 h12 h13 h14 h15 h16 h17 v11)), (h12, .inl (k12, 10, .inr (.inl f12))), (h4, .inr (10, mX10 h5 h6 h7 h8 h9 h10 v4)), (h5, .inl (k5, 400, .inr (.inl f5))), (h46, zi k46 160 (a4_ 1)), (h41, zi k41 40 (a4_ 2)), (h42, zi k42 40 (a4_ 3)), (h43, zi k43 40 (a4_ 4)), (h44, zi k44 40 (a4_ 5)), (h45, zi k45 40 (a4_ 6)), (h47, zi k47 270 (a4_ 7)), (h49, .inr (1, mX1 h18 h4 h40 h50 h56 h57 h59 h60 h61 h62 h63 h64 h65 h66 h67 hw30_ (upd v49 16 (u30_ 0)))), (h50, .inr (3, mX3 h4 h23 h40 h51 h52 h53 h54 h55 (upd (upd v50 8 (u30_ 1)) 9 (u30_ 2)))), (h52, zi k52 400 (a30_ 0)), (h53, zi k53 400 (a30_ 1)), (h51, .inl (k51, 400, .inr (.inr (.inr (.inr (q30_ 0)))))), (h6, zi k6 400 f6), (h23, .inr (6, mX6 h24 h25 h26 h27 h28 h29 h30 h31 v23)), (h29, zi k29 400 f29), (h27, zi k27 400 f27), (h24, zi k24 1250 f24), (h25, zi k25 833 f25), (h26, zi k26 833 f26), (h28, zi k28 400 f28), (h7, zi k7 400 f7), (h30, zi k30 400 f30), (h31, zi k31 400 f31), (hw30_, zi k61 nw30_ (a30_ 2)), (h61, zi k61 40 (a30_ 3)), (h56, .inl (k56, 40, .inr (.inr (.inr (.inr (q30_ 1)))))), (h18, .inr (0, mX0 h19 h20 h21 h22 v18)), (h19, zi k19 120 f19), (h55, zi k55 300 (a30_ 4)), (h54, zi k54 832 (a30_ 5)), (h59, zi k59 40 (a30_ 6)), (h21, zi k21 120 f21), (h60, zi k60 40 (a30_ 7)), (h57, .inr (5, mX5 h58)), (h58, zi k58 26 (a30_ 8)), (h62, zi k62 120 (a30_ 9)), (h63, zi k63 120 (a30_ 10)), (h20, zi k20 120 f20), (h64, zi k64 120 (a30_ 11)), (h65, zi k65 120 (a30_ 12))] ++ pl30_) := hD.part [0, 1, 2, 3, 4, 5, 6, 7, 8, 9, 10, 11, 12, 13, 14, 15, 16, 49, 17, 18, 19, 20, 21, 22, 23, 24, 25, 26, 27, 28, 29, 30, 31, 32, 33, 34, 35, 36, 37, 38, 39, 40, 41, 42, 43, 44, 45, 46, 47, 48] (by decide) rfl
      generalize H1 = H at hP hS ⊢
      clear hz1
      refine zWsz (fun hza_ hzb_ => ?_)
      refine W.widen (k := 481) (n := 9480) (by omega) (by omega) ?_
      have b_ : -2147483648 ≤ (u4_ 0).toInt ∧ (u4_ 0).toInt ≤ 2147483647 := ⟨zlo _, zhi _⟩
      have b_ : -2147483648 ≤ (u4_ 1).toInt ∧ (u4_ 1).toInt ≤ 2147483647 := ⟨zlo _, zhi _⟩
      have b_ : -2147483648 ≤ (u4_ 2).toInt ∧ (u4_ 2).toInt ≤ 2147483647 := ⟨zlo _, zhi _⟩
      have b_ : -2147483648 ≤ (u4_ 3).toInt ∧ (u4_ 3).toInt ≤ 2147483647 := ⟨zlo _, zhi _⟩
      have b_ : -2147483648 ≤ (u4_ 4).toInt ∧ (u4_ 4).toInt ≤ 2147483647 := ⟨zlo _, zhi _⟩
      have hpost : (0 ≤ (u4_ 5).toInt ∧ (u4_ 5).toInt ≤ 1) ∧ ((-1) ≤ (u4_ 6).toInt ∧ (u4_ 6).toInt ≤ 14) ∧ (0 ≤ (u4_ 7).toInt ∧ (u4_ 7).toInt ≤ 12) ∧ (0 ≤ (u26_ 0).toInt ∧ (u26_ 0).toInt ≤ 40) ∧ (0 ≤ (u26_ 1).toInt ∧ (u26_ 1).toInt ≤ 160) ∧ (0 ≤ (u26_ 2).toInt ∧ (u26_ 2).toInt ≤ 270) ∧ (0 ≤ (u12_ 0).toInt ∧ (u12_ 0).toInt ≤ 0) ∧ (0 ≤ (u4_ 13).toInt ∧ (u4_ 13).toInt ≤ 12) ∧ (0 ≤ (u30_ 0).toInt ∧ (u30_ 0).toInt ≤ 120) ∧ (0 ≤ (u30_ 1).toInt ∧ (u30_ 1).toInt ≤ 400) ∧ (0 ≤ (u30_ 2).toInt ∧ (u30_ 2).toInt ≤ 300) := ⟨(by first | with_reducible assumption | exact ⟨by omega, by omega⟩), (by first | with_reducible assumption | exact ⟨by omega, by omega⟩), (by first | with_reducible assumption | exact ⟨by omega, by omega⟩), (by first | with_reducible assumption | exact ⟨by omega, by omega⟩), (by first | with_reducible assumption | exact ⟨by omega, by omega⟩), (by first | with_reducible assumption | exact ⟨by omega, by omega⟩), (by first | with_reducible assumption | exact ⟨by omega, by omega⟩), (by first | with_reducible assumption | exact ⟨by omega, by omega⟩), (by first | with_reducible assumption | exact ⟨by omega, by omega⟩), (by first | with_reducible assumption | exact ⟨by omega, by omega⟩), (by first | with_reducible assumption | exact ⟨by omega, by omega⟩)⟩
      have hP9 : va_P (dC, dI) vwCl ([(h0, .inr (11, mX11 h1 h4 h11 h18 h23 h32 h33 h40 h48 h49 sp0 lw0)), (h48, .inr (4, mX4 h1 h4 h11 h40 (upd (upd (upd (upd (upd (upd (upd (upd v48 4 (u4_ 0)) 5 (u4_ 1)) 6 (u4_ 2)) 7 (u4_ 3)) 8 (u4_ 4)) 9 (u4_ 5)) 10 (u4_ 6)) 11 (u4_ 7)))), (h40, .inr (7, mX7 h41 h42 h43 h44 h45 h46 h47 (upd (upd (upd (upd (upd v40 7 (u26_ 0)) 8 (u26_ 1)) 9 (u26_ 2)) 10 (u26_ 3)) 11 (u26_ 4)))), (h1, .inr (9, mX9 h2 h3 (upd (upd v1 2 (u12_ 0)) 3 (u4_ 13)))), (h2, zi k2 600 f2), (h3, zi k3 12 (a4_ 0)), (h11, .inr (10, mX10 h12 h13 h14 h15 h16 h17 v11)), (h12, .inl (k12, 10, .inr (.inl f12))), (h4, .inr (10, mX10 h5 h6 h7 h8 h9 h10 v4)), (h5, .inl (k5, 400, .inr (.inl f5))), (h46, zi k46 160 (a4_ 1)), (h41, zi k41 40 (a4_ 2)), (h42, zi k42 40 (a4_ 3)), (h43, zi k43 40 (a4_ 4)), (h44, zi k44 40 (a4_ 5)), (h45, zi k45 40 (a4_ 6)), (h47, zi k47 270 (a4_ 7)), (h49, .inr (1, mX1 h18 h4 h40 h50 h56 h57 h59 h60 h61 h62 h63 h64 h65 h66 h67 hw30_ (upd v49 16 (u30_ 0)))), (h50, .inr (3, mX3 h4 h23 h40 h51 h52 h53 h54 h55 (upd (upd v50 8 (u30_ 1)) 9 (u30_ 2)))), (h52, zi k52 400 (a30_ 0)), (h53, zi k53 400 (a30_ 1)), (h51, .inl (k51, 400, .inr (.inr (.inr (.inr (q30_ 0)))))), (h6, zi k6 400 f6), (h23, .inr (6, mX6 h24 h25 h26 h27 h28 h29 h30 h31 v23)), (h29, zi k29 400 f29), (h27, zi k27 400 f27), (h24, zi k24 1250 f24), (h25, zi k25 833 f25), (h26, zi k26 833 f26), (h28, zi k28 400 f28), (h7, zi k7 400 f7), (h30, zi k30 400 f30), (h31, zi k31 400 f31), (hw30_, zi k61 nw30_ (a30_ 2)), (h61, zi k61 40 (a30_ 3)), (h56, .inl (k56, 40, .inr (.inr (.inr (.inr (q30_ 1)))))), (h18, .inr (0, mX0 h19 h20 h21 h22 v18)), (h19, zi k19 120 f19), (h55, zi k55 300 (a30_ 4)), (h54, zi k54 832 (a30_ 5)), (h59, zi k59 40 (a30_ 6)), (h21, zi k21 120 f21), (h60, zi k60 40 (a30_ 7)), (h57, .inr (5, mX5 h58)), (h58, zi k58 26 (a30_ 8)), (h62, zi k62 120 (a30_ 9)), (h63, zi k63 120 (a30_ 10)), (h20, zi k20 120 f20), (h64, zi k64 120 (a30_ 11)), (h65, zi k65 120 (a30_ 12))] ++ pl30_) H := hP
      have hD9 : va_D A ([(h0, .inr (11, mX11 h1 h4 h11 h18 h23 h32 h33 h40 h48 h49 sp0 lw0)), (h48, .inr (4, mX4 h1 h4 h11 h40 (upd (upd (upd (upd (upd (upd (upd (upd v48 4 (u4_ 0)) 5 (u4_ 1)) 6 (u4_ 2)) 7 (u4_ 3)) 8 (u4_ 4)) 9 (u4_ 5)) 10 (u4_ 6)) 11 (u4_ 7)))), (h40, .inr (7, mX7 h41 h42 h43 h44 h45 h46 h47 (upd (upd (upd (upd (upd v40 7 (u26_ 0)) 8 (u26_ 1)) 9 (u26_ 2)) 10 (u26_ 3)) 11 (u26_ 4)))), (h1, .inr (9, mX9 h2 h3 (upd (upd v1 2 (u12_ 0)) 3 (u4_ 13)))), (h2, zi k2 600 f2), (h3, zi k3 12 (a4_ 0)), (h11, .inr (10, mX10 h12 h13 h14 h15 h16 h17 v11)), (h12, .inl (k12, 10, .inr (.inl f12))), (h4, .inr (10, mX10 h5 h6 h7 h8 h9 h10 v4)), (h5, .inl (k5, 400, .inr (.inl f5))), (h46, zi k46 160 (a4_ 1)), (h41, zi k41 40 (a4_ 2)), (h42, zi k42 40 (a4_ 3)), (h43, zi k43 40 (a4_ 4)), (h44, zi k44 40 (a4_ 5)), (h45, zi k45 40 (a4_ 6)), (h47, zi k47 270 (a4_ 7)), (h49, .inr (1, mX1 h18 h4 h40 h50 h56 h57 h59 h60 h61 h62 h63 h64 h65 h66 h67 hw30_ (upd v49 16 (u30_ 0)))), (h50, .inr (3, mX3 h4 h23 h40 h51 h52 h53 h54 h55 (upd (upd v50 8 (u30_ 1)) 9 (u30_ 2)))), (h52, zi k52 400 (a30_ 0)), (h53, zi k53 400 (a30_ 1)), (h51, .inl (k51, 400, .inr (.inr (.inr (.inr (q30_ 0)))))), (h6, zi k6 400 f6), (h23, .inr (6, mX6 h24 h25 h26 h27 h28 h29 h30 h31 v23)), (h29, zi k29 400 f29), (h27, zi k27 400 f27), (h24, zi k24 1250 f24), (h25, zi k25 833 f25), (h26, zi k26 833 f26), (h28, zi k28 400 f28), (h7, zi k7 400 f7), (h30, zi k30 400 f30), (h31, zi k31 400 f31), (hw30_, zi k61 nw30_ (a30_ 2)), (h61, zi k61 40 (a30_ 3)), (h56, .inl (k56, 40, .inr (.inr (.inr (.inr (q30_ 1)))))), (h18, .inr (0, mX0 h19 h20 h21 h22 v18)), (h19, zi k19 120 f19), (h55, zi k55 300 (a30_ 4)), (h54, zi k54 832 (a30_ 5)), (h59, zi k59 40 (a30_ 6)), (h21, zi k21 120 f21), (h60, zi k60 40 (a30_ 7)), (h57, .inr (5, mX5 h58)), (h58, zi k58 26 (a30_ 8)), (h62, zi k62 120 (a30_ 9)), (h63, zi k63 120 (a30_ 10)), (h20, zi k20 120 f20), (h64, zi k64 120 (a30_ 11)), (h65, zi k65 120 (a30_ 12))] ++ pl30_) := hD
      have hB0 : zRd h23 (q30_ 0) pl30_ := by assumption
      have hB1 : zPs k61 (q30_ 1) pl30_ := by assumption
      have hB2 : zOt pl0 pl30_ := by first | assumption | exact zOt_rf
      have hB3 : zyT f2 (v1 2).toInt (u26_ 2).toInt (zqa (a4_ 7) (a4_ 2) (a4_ 3) (a4_ 4) (a4_ 5) (a4_ 1) (a4_ 6), (u26_ 0).toInt, (u26_ 1).toInt, zZc f2 (v1 2).toInt f5 (v4 7).toInt f12 (v11 7).toInt) := by exact hI26_0
      have hB4 : zFic h23 f51 f5 f6 f7 (v4 7).toInt f24 f25 f26 f27 f28 f29 (v23 8).toInt (v23 9).toInt (v23 10).toInt (v23 11).toInt f30 f31 f52 f53 (v50 8).toInt f54 f55 (v50 9).toInt (q30_ 0) pl30_ (a30_ 0) (a30_ 1) (u30_ 1).toInt (a30_ 5) (a30_ 4) (u30_ 2).toInt (a4_ 2) (a4_ 3) (a4_ 4) (a4_ 1) (a4_ 5) (u26_ 1).toInt (u26_ 0).toInt (a4_ 7) (u26_ 2).toInt f19 f21 (v18 4).toInt (a30_ 9) (u30_ 0).toInt (if 0 < (u26_ 2).toInt then (v18 4).toInt else 0) := by exact hB30_3
      have hB5 : zFiw f51 f5 f6 f7 (v4 7).toInt f24 f25 f26 f27 f28 f29 (v23 8).toInt (v23 9).toInt (v23 10).toInt (v23 11).toInt f30 f31 f52 f53 (v50 8).toInt f54 f55 (v50 9).toInt (a4_ 2) (a4_ 3) (a4_ 4) (a4_ 1) (a4_ 5) (u26_ 1).toInt (u26_ 0).toInt (a4_ 7) (u26_ 2).toInt f19 (v18 4).toInt (a4_ 6) (a30_ 2) (a30_ 3) (a30_ 9) (a30_ 10) (u30_ 0).toInt (if 0 < (u26_ 2).toInt then (v18 4).toInt else 0) := by exact hB30_4
      have hB6 : zRkc (a30_ 9) (a30_ 11) (a30_ 10) (a30_ 12) (u30_ 0).toInt := by exact hB30_5
      have hB7 : zScT (a4_ 6) (a30_ 2) (a30_ 3) f20 (v18 5).toInt (v18 4).toInt ((nw30_ : Nat) : Int) (u26_ 0).toInt (a30_ 9) (a30_ 11) (u30_ 0).toInt := by exact hB30_6
      have hB8 : 120 * (u26_ 0).toInt ≤ ((nw30_ : Nat) : Int) := by exact hB30_7
      have hBS : H.size + zNl (q30_ 0) 400 + 2 * zNl (q30_ 1) 40 ≤ s.heap.size + zNl f51 400 + 2 * zNl f56 40 + 1 := by omega
      exact W.iret (v := r46_) hx hb hr (fun t ht hW => ⟨⟨r46_, (fun i => ([(u4_ 0), (u4_ 1), (u4_ 2), (u4_ 3), (u4_ 4), (u4_ 5), (u4_ 6), (u4_ 7), (u26_ 0), (u26_ 1), (u26_ 2), (u26_ 3), (u26_ 4), (u12_ 0), (u4_ 13), (u30_ 0), (u30_ 1), (u30_ 2)] : List (Int32)).getD i 0), rfl, hpost, (fun _ => 0), (fun i => ([(a4_ 0), (a4_ 1), (a4_ 2), (a4_ 3), (a4_ 4), (a4_ 5), (a4_ 6), (a4_ 7), (a30_ 0), (a30_ 1), (a30_ 2), (a30_ 3), (a30_ 4), (a30_ 5), (a30_ 6), (a30_ 7), (a30_ 8), (a30_ 9), (a30_ 10), (a30_ 11), (a30_ 12)] : List (Nat → Int32)).getD i (fun _ => 0)), (fun _ => (fun _ => 0)), (fun i => ([(q30_ 0), (q30_ 1)] : List (Nat → Option Nat)).getD i (fun _ => none)), pl30_, hw30_, nw30_, hn30_, ha4_7, ha30_0, ha30_2, ha30_4, ha30_9, ha30_12, hB0, hB1, hB2, hB3, hB4, hB5, hB6, hB7, hB8, (by rw [ht]; exact hBS), by rw [ht]; exact hP9, va_K.moved hW.alike hK, hD9⟩, hS.F ht⟩) hS.2.2 dX11_search_49
    · skip
      have b_ := zF_eq rfl zk_0 c_
      refine lv_iload_n hx hb dX11_search_37 rfl (lv_at hl 1 rfl) ?_
      refine lv_ineg hx hb dX11_search_38 ?_
      refine lv_topi (fun z38 e_z38 => ?_)
      refine lv_goto (tgt := 49) hx hb dX11_search_39 (by decide) ?_
      refine zWsz (fun hza_ hzb_ => ?_)
      refine W.widen (k := 481) (n := 9480) (by omega) (by omega) ?_
      have b_ : -2147483648 ≤ z38.toInt ∧ z38.toInt ≤ 2147483647 := ⟨zlo _, zhi _⟩
      have b_ : -2147483648 ≤ (u4_ 0).toInt ∧ (u4_ 0).toInt ≤ 2147483647 := ⟨zlo _, zhi _⟩
      have b_ : -2147483648 ≤ (u4_ 1).toInt ∧ (u4_ 1).toInt ≤ 2147483647 := ⟨zlo _, zhi _⟩
      have b_ : -2147483648 ≤ (u4_ 2).toInt ∧ (u4_ 2).toInt ≤ 2147483647 := ⟨zlo _, zhi _⟩
      have b_ : -2147483648 ≤ (u4_ 3).toInt ∧ (u4_ 3).toInt ≤ 2147483647 := ⟨zlo _, zhi _⟩
      have b_ : -2147483648 ≤ (u4_ 4).toInt ∧ (u4_ 4).toInt ≤ 2147483647 := ⟨zlo _, zhi _⟩
      have hpost : (0 ≤ (u4_ 5).toInt ∧ (u4_ 5).toInt ≤ 1) ∧ ((-1) ≤ (u4_ 6).toInt ∧ (u4_ 6).toInt ≤ 14) ∧ (0 ≤ (u4_ 7).toInt ∧ (u4_ 7).toInt ≤ 12) ∧ (0 ≤ (u26_ 0).toInt ∧ (u26_ 0).toInt ≤ 40) ∧ (0 ≤ (u26_ 1).toInt ∧ (u26_ 1).toInt ≤ 160) ∧ (0 ≤ (u26_ 2).toInt ∧ (u26_ 2).toInt ≤ 270) ∧ (0 ≤ (u12_ 0).toInt ∧ (u12_ 0).toInt ≤ 0) ∧ (0 ≤ (u4_ 13).toInt ∧ (u4_ 13).toInt ≤ 12) ∧ (0 ≤ (u30_ 0).toInt ∧ (u30_ 0).toInt ≤ 120) ∧ (0 ≤ (u30_ 1).toInt ∧ (u30_ 1).toInt ≤ 400) ∧ (0 ≤ (u30_ 2).toInt ∧ (u30_ 2).toInt ≤ 300) := ⟨(by first | with_reducible assumption | exact ⟨by omega, by omega⟩), (by first | with_reducible assumption | exact ⟨by omega, by omega⟩), (by first | with_reducible assumption | exact ⟨by omega, by omega⟩), (by first | with_reducible assumption | exact ⟨by omega, by omega⟩), (by first | with_reducible assumption | exact ⟨by omega, by omega⟩), (by first | with_reducible assumption | exact ⟨by omega, by omega⟩), (by first | with_reducible assumption | exact ⟨by omega, by omega⟩), (by first | with_reducible assumption | exact ⟨by omega, by omega⟩), (by first | with_reducible assumption | exact ⟨by omega, by omega⟩), (by first | with_reducible assumption | exact ⟨by omega, by omega⟩), (by first | with_reducible assumption | exact ⟨by omega, by omega⟩)⟩
      have hP9 : va_P (dC, dI) vwCl ([(h0, .inr (11, mX11 h1 h4 h11 h18 h23 h32 h33 h40 h48 h49 sp0 lw0)), (h48, .inr (4, mX4 h1 h4 h11 h40 (upd (upd (upd (upd (upd (upd (upd (upd v48 4 (u4_ 0)) 5 (u4_ 1)) 6 (u4_ 2)) 7 (u4_ 3)) 8 (u4_ 4)) 9 (u4_ 5)) 10 (u4_ 6)) 11 (u4_ 7)))), (h40, .inr (7, mX7 h41 h42 h43 h44 h45 h46 h47 (upd (upd (upd (upd (upd v40 7 (u26_ 0)) 8 (u26_ 1)) 9 (u26_ 2)) 10 (u26_ 3)) 11 (u26_ 4)))), (h1, .inr (9, mX9 h2 h3 (upd (upd v1 2 (u12_ 0)) 3 (u4_ 13)))), (h2, zi k2 600 f2), (h3, zi k3 12 (a4_ 0)), (h11, .inr (10, mX10 h12 h13 h14 h15 h16 h17 v11)), (h12, .inl (k12, 10, .inr (.inl f12))), (h4, .inr (10, mX10 h5 h6 h7 h8 h9 h10 v4)), (h5, .inl (k5, 400, .inr (.inl f5))), (h46, zi k46 160 (a4_ 1)), (h41, zi k41 40 (a4_ 2)), (h42, zi k42 40 (a4_ 3)), (h43, zi k43 40 (a4_ 4)), (h44, zi k44 40 (a4_ 5)), (h45, zi k45 40 (a4_ 6)), (h47, zi k47 270 (a4_ 7)), (h49, .inr (1, mX1 h18 h4 h40 h50 h56 h57 h59 h60 h61 h62 h63 h64 h65 h66 h67 hw30_ (upd v49 16 (u30_ 0)))), (h50, .inr (3, mX3 h4 h23 h40 h51 h52 h53 h54 h55 (upd (upd v50 8 (u30_ 1)) 9 (u30_ 2)))), (h52, zi k52 400 (a30_ 0)), (h53, zi k53 400 (a30_ 1)), (h51, .inl (k51, 400, .inr (.inr (.inr (.inr (q30_ 0)))))), (h6, zi k6 400 f6), (h23, .inr (6, mX6 h24 h25 h26 h27 h28 h29 h30 h31 v23)), (h29, zi k29 400 f29), (h27, zi k27 400 f27), (h24, zi k24 1250 f24), (h25, zi k25 833 f25), (h26, zi k26 833 f26), (h28, zi k28 400 f28), (h7, zi k7 400 f7), (h30, zi k30 400 f30), (h31, zi k31 400 f31), (hw30_, zi k61 nw30_ (a30_ 2)), (h61, zi k61 40 (a30_ 3)), (h56, .inl (k56, 40, .inr (.inr (.inr (.inr (q30_ 1)))))), (h18, .inr (0, mX0 h19 h20 h21 h22 v18)), (h19, zi k19 120 f19), (h55, zi k55 300 (a30_ 4)), (h54, zi k54 832 (a30_ 5)), (h59, zi k59 40 (a30_ 6)), (h21, zi k21 120 f21), (h60, zi k60 40 (a30_ 7)), (h57, .inr (5, mX5 h58)), (h58, zi k58 26 (a30_ 8)), (h62, zi k62 120 (a30_ 9)), (h63, zi k63 120 (a30_ 10)), (h20, zi k20 120 f20), (h64, zi k64 120 (a30_ 11)), (h65, zi k65 120 (a30_ 12))] ++ pl30_) H := hP
      have hD9 : va_D A ([(h0, .inr (11, mX11 h1 h4 h11 h18 h23 h32 h33 h40 h48 h49 sp0 lw0)), (h48, .inr (4, mX4 h1 h4 h11 h40 (upd (upd (upd (upd (upd (upd (upd (upd v48 4 (u4_ 0)) 5 (u4_ 1)) 6 (u4_ 2)) 7 (u4_ 3)) 8 (u4_ 4)) 9 (u4_ 5)) 10 (u4_ 6)) 11 (u4_ 7)))), (h40, .inr (7, mX7 h41 h42 h43 h44 h45 h46 h47 (upd (upd (upd (upd (upd v40 7 (u26_ 0)) 8 (u26_ 1)) 9 (u26_ 2)) 10 (u26_ 3)) 11 (u26_ 4)))), (h1, .inr (9, mX9 h2 h3 (upd (upd v1 2 (u12_ 0)) 3 (u4_ 13)))), (h2, zi k2 600 f2), (h3, zi k3 12 (a4_ 0)), (h11, .inr (10, mX10 h12 h13 h14 h15 h16 h17 v11)), (h12, .inl (k12, 10, .inr (.inl f12))), (h4, .inr (10, mX10 h5 h6 h7 h8 h9 h10 v4)), (h5, .inl (k5, 400, .inr (.inl f5))), (h46, zi k46 160 (a4_ 1)), (h41, zi k41 40 (a4_ 2)), (h42, zi k42 40 (a4_ 3)), (h43, zi k43 40 (a4_ 4)), (h44, zi k44 40 (a4_ 5)), (h45, zi k45 40 (a4_ 6)), (h47, zi k47 270 (a4_ 7)), (h49, .inr (1, mX1 h18 h4 h40 h50 h56 h57 h59 h60 h61 h62 h63 h64 h65 h66 h67 hw30_ (upd v49 16 (u30_ 0)))), (h50, .inr (3, mX3 h4 h23 h40 h51 h52 h53 h54 h55 (upd (upd v50 8 (u30_ 1)) 9 (u30_ 2)))), (h52, zi k52 400 (a30_ 0)), (h53, zi k53 400 (a30_ 1)), (h51, .inl (k51, 400, .inr (.inr (.inr (.inr (q30_ 0)))))), (h6, zi k6 400 f6), (h23, .inr (6, mX6 h24 h25 h26 h27 h28 h29 h30 h31 v23)), (h29, zi k29 400 f29), (h27, zi k27 400 f27), (h24, zi k24 1250 f24), (h25, zi k25 833 f25), (h26, zi k26 833 f26), (h28, zi k28 400 f28), (h7, zi k7 400 f7), (h30, zi k30 400 f30), (h31, zi k31 400 f31), (hw30_, zi k61 nw30_ (a30_ 2)), (h61, zi k61 40 (a30_ 3)), (h56, .inl (k56, 40, .inr (.inr (.inr (.inr (q30_ 1)))))), (h18, .inr (0, mX0 h19 h20 h21 h22 v18)), (h19, zi k19 120 f19), (h55, zi k55 300 (a30_ 4)), (h54, zi k54 832 (a30_ 5)), (h59, zi k59 40 (a30_ 6)), (h21, zi k21 120 f21), (h60, zi k60 40 (a30_ 7)), (h57, .inr (5, mX5 h58)), (h58, zi k58 26 (a30_ 8)), (h62, zi k62 120 (a30_ 9)), (h63, zi k63 120 (a30_ 10)), (h20, zi k20 120 f20), (h64, zi k64 120 (a30_ 11)), (h65, zi k65 120 (a30_ 12))] ++ pl30_) := hD
      have hB0 : zRd h23 (q30_ 0) pl30_ := by assumption
      have hB1 : zPs k61 (q30_ 1) pl30_ := by assumption
      have hB2 : zOt pl0 pl30_ := by first | assumption | exact zOt_rf
      have hB3 : zyT f2 (v1 2).toInt (u26_ 2).toInt (zqa (a4_ 7) (a4_ 2) (a4_ 3) (a4_ 4) (a4_ 5) (a4_ 1) (a4_ 6), (u26_ 0).toInt, (u26_ 1).toInt, zZc f2 (v1 2).toInt f5 (v4 7).toInt f12 (v11 7).toInt) := by exact hI26_0
      have hB4 : zFic h23 f51 f5 f6 f7 (v4 7).toInt f24 f25 f26 f27 f28 f29 (v23 8).toInt (v23 9).toInt (v23 10).toInt (v23 11).toInt f30 f31 f52 f53 (v50 8).toInt f54 f55 (v50 9).toInt (q30_ 0) pl30_ (a30_ 0) (a30_ 1) (u30_ 1).toInt (a30_ 5) (a30_ 4) (u30_ 2).toInt (a4_ 2) (a4_ 3) (a4_ 4) (a4_ 1) (a4_ 5) (u26_ 1).toInt (u26_ 0).toInt (a4_ 7) (u26_ 2).toInt f19 f21 (v18 4).toInt (a30_ 9) (u30_ 0).toInt (if 0 < (u26_ 2).toInt then (v18 4).toInt else 0) := by exact hB30_3
      have hB5 : zFiw f51 f5 f6 f7 (v4 7).toInt f24 f25 f26 f27 f28 f29 (v23 8).toInt (v23 9).toInt (v23 10).toInt (v23 11).toInt f30 f31 f52 f53 (v50 8).toInt f54 f55 (v50 9).toInt (a4_ 2) (a4_ 3) (a4_ 4) (a4_ 1) (a4_ 5) (u26_ 1).toInt (u26_ 0).toInt (a4_ 7) (u26_ 2).toInt f19 (v18 4).toInt (a4_ 6) (a30_ 2) (a30_ 3) (a30_ 9) (a30_ 10) (u30_ 0).toInt (if 0 < (u26_ 2).toInt then (v18 4).toInt else 0) := by exact hB30_4
      have hB6 : zRkc (a30_ 9) (a30_ 11) (a30_ 10) (a30_ 12) (u30_ 0).toInt := by exact hB30_5
      have hB7 : zScT (a4_ 6) (a30_ 2) (a30_ 3) f20 (v18 5).toInt (v18 4).toInt ((nw30_ : Nat) : Int) (u26_ 0).toInt (a30_ 9) (a30_ 11) (u30_ 0).toInt := by exact hB30_6
      have hB8 : 120 * (u26_ 0).toInt ≤ ((nw30_ : Nat) : Int) := by exact hB30_7
      have hBS : H.size + zNl (q30_ 0) 400 + 2 * zNl (q30_ 1) 40 ≤ s.heap.size + zNl f51 400 + 2 * zNl f56 40 + 1 := by omega
      exact W.iret (v := z38) hx hb hr (fun t ht hW => ⟨⟨z38, (fun i => ([(u4_ 0), (u4_ 1), (u4_ 2), (u4_ 3), (u4_ 4), (u4_ 5), (u4_ 6), (u4_ 7), (u26_ 0), (u26_ 1), (u26_ 2), (u26_ 3), (u26_ 4), (u12_ 0), (u4_ 13), (u30_ 0), (u30_ 1), (u30_ 2)] : List (Int32)).getD i 0), rfl, hpost, (fun _ => 0), (fun i => ([(a4_ 0), (a4_ 1), (a4_ 2), (a4_ 3), (a4_ 4), (a4_ 5), (a4_ 6), (a4_ 7), (a30_ 0), (a30_ 1), (a30_ 2), (a30_ 3), (a30_ 4), (a30_ 5), (a30_ 6), (a30_ 7), (a30_ 8), (a30_ 9), (a30_ 10), (a30_ 11), (a30_ 12)] : List (Nat → Int32)).getD i (fun _ => 0)), (fun _ => (fun _ => 0)), (fun i => ([(q30_ 0), (q30_ 1)] : List (Nat → Option Nat)).getD i (fun _ => none)), pl30_, hw30_, nw30_, hn30_, ha4_7, ha30_0, ha30_2, ha30_4, ha30_9, ha30_12, hB0, hB1, hB2, hB3, hB4, hB5, hB6, hB7, hB8, (by rw [ht]; exact hBS), by rw [ht]; exact hP9, va_K.moved hW.alike hK, hD9⟩, hS.F ht⟩) hS.2.2 dX11_search_49
  · skip
    have b_ : -2147483648 ≤ r4_.toInt ∧ r4_.toInt ≤ 2147483647 := ⟨zlo _, zhi _⟩
    refine lv_if_eq (tgt := 26) hx hb dX11_search_16 (by decide) (fun c_ => ?_) (fun c_ => ?_)
    · skip
      have b_ := zT_eq rfl zk_0 c_
      refine zWsz (fun hza_ hzb_ => ?_)
      refine W.widen (k := (0 + 0)) (n := (0 + 0)) (by omega) (by omega) ?_
      have hc : va_P (dC, dI) vwCl ([(h0, .inr (11, mX11 h1 h4 h11 h18 h23 h32 h33 h40 h48 h49 sp0 lw0)), (h48, .inr (4, mX4 h1 h4 h11 h40 (upd (upd (upd (upd (upd (upd (upd (upd v48 4 (u4_ 0)) 5 (u4_ 1)) 6 (u4_ 2)) 7 (u4_ 3)) 8 (u4_ 4)) 9 (u4_ 5)) 10 (u4_ 6)) 11 (u4_ 7)))), (h40, .inr (7, mX7 h41 h42 h43 h44 h45 h46 h47 (upd (upd (upd (upd (upd v40 7 (u4_ 8)) 8 (u4_ 9)) 9 (u4_ 10)) 10 (u4_ 11)) 11 (u4_ 12)))), (h1, .inr (9, mX9 h2 h3 (upd (upd v1 2 (u12_ 0)) 3 (u4_ 13)))), (h2, zi k2 600 f2), (h3, zi k3 12 (a4_ 0)), (h11, .inr (10, mX10 h12 h13 h14 h15 h16 h17 v11)), (h12, .inl (k12, 10, .inr (.inl f12))), (h4, .inr (10, mX10 h5 h6 h7 h8 h9 h10 v4)), (h5, .inl (k5, 400, .inr (.inl f5))), (h46, zi k46 160 (a4_ 1)), (h41, zi k41 40 (a4_ 2)), (h42, zi k42 40 (a4_ 3)), (h43, zi k43 40 (a4_ 4)), (h44, zi k44 40 (a4_ 5)), (h45, zi k45 40 (a4_ 6)), (h47, zi k47 270 (a4_ 7)), (h49, .inr (1, mX1 h18 h4 h40 h50 h56 h57 h59 h60 h61 h62 h63 h64 h65 h66 h67 h68 v49)), (h50, .inr (3, mX3 h4 h23 h40 h51 h52 h53 h54 h55 v50)), (h52, zi k52 400 f52), (h53, zi k53 400 f53), (h51, .inl (k51, 400, .inr (.inr (.inr (.inr f51))))), (h6, zi k6 400 f6), (h23, .inr (6, mX6 h24 h25 h26 h27 h28 h29 h30 h31 v23)), (h29, zi k29 400 f29), (h27, zi k27 400 f27), (h24, zi k24 1250 f24), (h25, zi k25 833 f25), (h26, zi k26 833 f26), (h28, zi k28 400 f28), (h7, zi k7 400 f7), (h30, zi k30 400 f30), (h31, zi k31 400 f31), (h68, zi k61 n68 f68), (h61, zi k61 40 f61), (h56, .inl (k56, 40, .inr (.inr (.inr (.inr f56))))), (h18, .inr (0, mX0 h19 h20 h21 h22 v18)), (h19, zi k19 120 f19), (h55, zi k55 300 f55), (h54, zi k54 832 f54), (h59, zi k59 40 f59), (h21, zi k21 120 f21), (h60, zi k60 40 f60), (h57, .inr (5, mX5 h58)), (h58, zi k58 26 f58), (h62, zi k62 120 f62), (h63, zi k63 120 f63), (h20, zi k20 120 f20), (h64, zi k64 120 f64), (h65, zi k65 120 f65)] ++ pl0) H ∧ va_D A ([(h0, .inr (11, mX11 h1 h4 h11 h18 h23 h32 h33 h40 h48 h49 sp0 lw0)), (h48, .inr (4, mX4 h1 h4 h11 h40 (upd (upd (upd (upd (upd (upd (upd (upd v48 4 (u4_ 0)) 5 (u4_ 1)) 6 (u4_ 2)) 7 (u4_ 3)) 8 (u4_ 4)) 9 (u4_ 5)) 10 (u4_ 6)) 11 (u4_ 7)))), (h40, .inr (7, mX7 h41 h42 h43 h44 h45 h46 h47 (upd (upd (upd (upd (upd v40 7 (u4_ 8)) 8 (u4_ 9)) 9 (u4_ 10)) 10 (u4_ 11)) 11 (u4_ 12)))), (h1, .inr (9, mX9 h2 h3 (upd (upd v1 2 (u12_ 0)) 3 (u4_ 13)))), (h2, zi k2 600 f2), (h3, zi k3 12 (a4_ 0)), (h11, .inr (10, mX10 h12 h13 h14 h15 h16 h17 v11)), (h12, .inl (k12, 10, .inr (.inl f12))), (h4, .inr (10, mX10 h5 h6 h7 h8 h9 h10 v4)), (h5, .inl (k5, 400, .inr (.inl f5))), (h46, zi k46 160 (a4_ 1)), (h41, zi k41 40 (a4_ 2)), (h42, zi k42 40 (a4_ 3)), (h43, zi k43 40 (a4_ 4)), (h44, zi k44 40 (a4_ 5)), (h45, zi k45 40 (a4_ 6)), (h47, zi k47 270 (a4_ 7)), (h49, .inr (1, mX1 h18 h4 h40 h50 h56 h57 h59 h60 h61 h62 h63 h64 h65 h66 h67 h68 v49)), (h50, .inr (3, mX3 h4 h23 h40 h51 h52 h53 h54 h55 v50)), (h52, zi k52 400 f52), (h53, zi k53 400 f53), (h51, .inl (k51, 400, .inr (.inr (.inr (.inr f51))))), (h6, zi k6 400 f6), (h23, .inr (6, mX6 h24 h25 h26 h27 h28 h29 h30 h31 v23)), (h29, zi k29 400 f29), (h27, zi k27 400 f27), (h24, zi k24 1250 f24), (h25, zi k25 833 f25), (h26, zi k26 833 f26), (h28, zi k28 400 f28), (h7, zi k7 400 f7), (h30, zi k30 400 f30), (h31, zi k31 400 f31), (h68, zi k61 n68 f68), (h61, zi k61 40 f61), (h56, .inl (k56, 40, .inr (.inr (.inr (.inr f56))))), (h18, .inr (0, mX0 h19 h20 h21 h22 v18)), (h19, zi k19 120 f19), (h55, zi k55 300 f55), (h54, zi k54 832 f54), (h59, zi k59 40 f59), (h21, zi k21 120 f21), (h60, zi k60 40 f60), (h57, .inr (5, mX5 h58)), (h58, zi k58 26 f58), (h62, zi k62 120 f62), (h63, zi k63 120 f63), (h20, zi k20 120 f20), (h64, zi k64 120 f64), (h65, zi k65 120 f65)] ++ pl0) ∧ va_S A s.heap H locs ∧ lv_has ls 2 [(0, .ref h0), (1, .int r4_)] ∧ (0 ≤ (u4_ 8).toInt ∧ (u4_ 8).toInt ≤ 40) ∧ (0 ≤ (u4_ 9).toInt ∧ (u4_ 9).toInt ≤ 160) ∧ (0 ≤ (u4_ 10).toInt ∧ (u4_ 10).toInt ≤ 270) ∧ (zyT f2 (v1 2).toInt (u4_ 10).toInt (zqa (a4_ 7) (a4_ 2) (a4_ 3) (a4_ 4) (a4_ 5) (a4_ 1) (a4_ 6), (u4_ 8).toInt, (u4_ 9).toInt, zZc f2 (v1 2).toInt f5 (v4 7).toInt f12 (v11 7).toInt)) ∧ (zRd h23 f51 pl0) ∧ (zPs k61 f56 pl0) ∧ (zOt pl0 pl0) ∧ (H.size + zNl f51 400 + 2 * zNl f56 40 ≤ s.heap.size + zNl f51 400 + 2 * zNl f56 40 + 0) := ⟨hP, hD, hS, lv_sub hl [1, 0] rfl, (by first | with_reducible assumption | exact ⟨by omega, by omega⟩), (by first | with_reducible assumption | exact ⟨by omega, by omega⟩), (by first | with_reducible assumption | exact ⟨by omega, by omega⟩), by first | exact zyT_a hB4_0 (by omega) | exact zyT_b hB4_0 (by omega) (by omega) (by first | decide | (dsimp only; omega) | omega), by assumption, by assumption, by first | assumption | exact zOt_rf, by omega⟩
      exact hJ26 H locs ls (fun i => ([(u4_ 8), (u4_ 9), (u4_ 10), (u4_ 11), (u4_ 12)] : List (Int32)).getD i 0) (fun _ => 0) (fun _ => (fun _ => 0)) (fun _ => (fun _ => 0)) ⟨(fun _ => (fun _ => none)), pl0, h68, n68, hn68, hc⟩
    · skip
      have b_ := zF_eq rfl zk_0 c_
      refine lv_aload_n hx hb dX11_search_19 rfl (lv_at hl 1 rfl) ?_
      refine va_get (D := (dC, dI)) (ci := 11) (v := .ref h40) (C := RX11) (T := TX11) (N := 12) hx hb hG zuX11 hown hK hP 0 rfl rfl 7 (by decide) (hG _ zv564) (fun _ h9 => h9) rfl dX11_search_20 ?_
      have b_ : -2147483648 ≤ (u4_ 11).toInt ∧ (u4_ 11).toInt ≤ 2147483647 := ⟨zlo _, zhi _⟩
      have b_ : -2147483648 ≤ (u4_ 12).toInt ∧ (u4_ 12).toInt ≤ 2147483647 := ⟨zlo _, zhi _⟩
      have hPc := hP.sub (ws' := [(h40, .inr (7, mX7 h41 h42 h43 h44 h45 h46 h47 (upd (upd (upd (upd (upd v40 7 (u4_ 8)) 8 (u4_ 9)) 9 (u4_ 10)) 10 (u4_ 11)) 11 (u4_ 12))))]) [2] rfl
      have hDc := hD.sub (ws' := [(h40, .inr (7, mX7 h41 h42 h43 h44 h45 h46 h47 (upd (upd (upd (upd (upd v40 7 (u4_ 8)) 8 (u4_ 9)) 9 (u4_ 10)) 10 (u4_ 11)) 11 (u4_ 12))))]) [2] (by decide) rfl
      have hKc := hK.sub (tys' := []) [] rfl
      have hFc := va_free (wc := [(h40, .inr (7, mX7 h41 h42 h43 h44 h45 h46 h47 (upd (upd (upd (upd (upd v40 7 (u4_ 8)) 8 (u4_ 9)) 9 (u4_ 10)) 10 (u4_ 11)) 11 (u4_ 12))))]) hD hS hA [2] rfl
      refine va_callv (va_runV (As := []) (rest := []) ⟨hx, hb, hml, hown, hG⟩ (sX7_clear_0 l dC dI adK adV h40 h41 h42 h43 h44 h45 h46 h47 H.size (upd (upd (upd (upd (upd v40 7 (u4_ 8)) 8 (u4_ 9)) 9 (u4_ 10)) 10 (u4_ 11)) 11 (u4_ 12)) (zR_updF (zR_updF (zR_up2 (zR_up2 (zR_up2 hv40 7 (show (0 : Int) ≤ ((u4_ 8) : Int32).toInt ∧ ((u4_ 8) : Int32).toInt ≤ (40 : Int) from (by first | with_reducible assumption | exact ⟨by omega, by omega⟩))) 8 (show (0 : Int) ≤ ((u4_ 9) : Int32).toInt ∧ ((u4_ 9) : Int32).toInt ≤ (160 : Int) from (by first | with_reducible assumption | exact ⟨by omega, by omega⟩))) 9 (show (0 : Int) ≤ ((u4_ 10) : Int32).toInt ∧ ((u4_ 10) : Int32).toInt ≤ (270 : Int) from (by first | with_reducible assumption | exact ⟨by omega, by omega⟩))) 10 rfl) 11 rfl)) (cwV 0 hG (zgV zv1170 zv1010 zv1011 zv136 zv1012) rfl rfl rfl (by decide +kernel) ⟨Nat.le_of_ble_eq_true rfl, Nat.le_of_ble_eq_true rfl⟩) ⟨zPc_blind, va_recv hKc hPc (ci := 7) (q0 := 0) rfl rfl, zPc_pre hPc hKc hDc hE hS hFc hZ⟩ rfl rfl hl.1 rfl (lv_room (Nat.le_of_ble_eq_true rfl)) dX11_search_23 ⟨(show 0 + 0 ≤ 481 from by omega), (show 0 + 0 ≤ 9480 from by omega)⟩) hS (fun q _ h => hFc q h) hFc (fun u23_ t H1 locs ht hvm hw hB hz1 hk1 hS => ?_)
      replace hw : (0 ≤ (u23_ 0).toInt ∧ (u23_ 0).toInt ≤ 0) ∧ (0 ≤ (u23_ 1).toInt ∧ (u23_ 1).toInt ≤ 0) ∧ (0 ≤ (u23_ 2).toInt ∧ (u23_ 2).toInt ≤ 0) ∧ (0 ≤ (u23_ 3).toInt ∧ (u23_ 3).toInt ≤ 0) ∧ (0 ≤ (u23_ 4).toInt ∧ (u23_ 4).toInt ≤ 0) := hw
      obtain ⟨b_, b_, b_, b_, b_⟩ := hw
      obtain ⟨w23_, a23_, b23_, hP1, hK1, hD1⟩ := hB
      rw [ht] at hP1
      obtain ⟨hP, hD⟩ := va_joinQ (wr := [(h0, .inr (11, mX11 h1 h4 h11 h18 h23 h32 h33 h40 h48 h49 sp0 lw0)), (h48, .inr (4, mX4 h1 h4 h11 h40 (upd (upd (upd (upd (upd (upd (upd (upd v48 4 (u4_ 0)) 5 (u4_ 1)) 6 (u4_ 2)) 7 (u4_ 3)) 8 (u4_ 4)) 9 (u4_ 5)) 10 (u4_ 6)) 11 (u4_ 7)))), (h1, .inr (9, mX9 h2 h3 (upd (upd v1 2 (u12_ 0)) 3 (u4_ 13)))), (h2, zi k2 600 f2), (h3, zi k3 12 (a4_ 0)), (h11, .inr (10, mX10 h12 h13 h14 h15 h16 h17 v11)), (h12, .inl (k12, 10, .inr (.inl f12))), (h4, .inr (10, mX10 h5 h6 h7 h8 h9 h10 v4)), (h5, .inl (k5, 400, .inr (.inl f5))), (h46, zi k46 160 (a4_ 1)), (h41, zi k41 40 (a4_ 2)), (h42, zi k42 40 (a4_ 3)), (h43, zi k43 40 (a4_ 4)), (h44, zi k44 40 (a4_ 5)), (h45, zi k45 40 (a4_ 6)), (h47, zi k47 270 (a4_ 7)), (h49, .inr (1, mX1 h18 h4 h40 h50 h56 h57 h59 h60 h61 h62 h63 h64 h65 h66 h67 h68 v49)), (h50, .inr (3, mX3 h4 h23 h40 h51 h52 h53 h54 h55 v50)), (h52, zi k52 400 f52), (h53, zi k53 400 f53), (h51, .inl (k51, 400, .inr (.inr (.inr (.inr f51))))), (h6, zi k6 400 f6), (h23, .inr (6, mX6 h24 h25 h26 h27 h28 h29 h30 h31 v23)), (h29, zi k29 400 f29), (h27, zi k27 400 f27), (h24, zi k24 1250 f24), (h25, zi k25 833 f25), (h26, zi k26 833 f26), (h28, zi k28 400 f28), (h7, zi k7 400 f7), (h30, zi k30 400 f30), (h31, zi k31 400 f31), (h68, zi k61 n68 f68), (h61, zi k61 40 f61), (h56, .inl (k56, 40, .inr (.inr (.inr (.inr f56))))), (h18, .inr (0, mX0 h19 h20 h21 h22 v18)), (h19, zi k19 120 f19), (h55, zi k55 300 f55), (h54, zi k54 832 f54), (h59, zi k59 40 f59), (h21, zi k21 120 f21), (h60, zi k60 40 f60), (h57, .inr (5, mX5 h58)), (h58, zi k58 26 f58), (h62, zi k62 120 f62), (h63, zi k63 120 f63), (h20, zi k20 120 f20), (h64, zi k64 120 f64), (h65, zi k65 120 f65)]) (w1 := [(h40, .inr (7, mX7 h41 h42 h43 h44 h45 h46 h47 (upd (upd (upd (upd (upd v40 7 (u23_ 0)) 8 (u23_ 1)) 9 (u23_ 2)) 10 (u23_ 3)) 11 (u23_ 4))))]) hP hD [2] [0, 1, 3, 4, 5, 6, 7, 8, 9, 10, 11, 12, 13, 14, 15, 16, 17, 18, 19, 20, 21, 22, 23, 24, 25, 26, 27, 28, 29, 30, 31, 32, 33, 34, 35, 36, 37, 38, 39, 40, 41, 42, 43, 44, 45, 46, 47, 48, 49] rfl rfl (by decide) (by decide) hk1 hFc hP1 hD1
      have hP : va_P (dC, dI) vwCl ([(h0, .inr (11, mX11 h1 h4 h11 h18 h23 h32 h33 h40 h48 h49 sp0 lw0)), (h48, .inr (4, mX4 h1 h4 h11 h40 (upd (upd (upd (upd (upd (upd (upd (upd v48 4 (u4_ 0)) 5 (u4_ 1)) 6 (u4_ 2)) 7 (u4_ 3)) 8 (u4_ 4)) 9 (u4_ 5)) 10 (u4_ 6)) 11 (u4_ 7)))), (h40, .inr (7, mX7 h41 h42 h43 h44 h45 h46 h47 (upd (upd (upd (upd (upd v40 7 (u23_ 0)) 8 (u23_ 1)) 9 (u23_ 2)) 10 (u23_ 3)) 11 (u23_ 4)))), (h1, .inr (9, mX9 h2 h3 (upd (upd v1 2 (u12_ 0)) 3 (u4_ 13)))), (h2, zi k2 600 f2), (h3, zi k3 12 (a4_ 0)), (h11, .inr (10, mX10 h12 h13 h14 h15 h16 h17 v11)), (h12, .inl (k12, 10, .inr (.inl f12))), (h4, .inr (10, mX10 h5 h6 h7 h8 h9 h10 v4)), (h5, .inl (k5, 400, .inr (.inl f5))), (h46, zi k46 160 (a4_ 1)), (h41, zi k41 40 (a4_ 2)), (h42, zi k42 40 (a4_ 3)), (h43, zi k43 40 (a4_ 4)), (h44, zi k44 40 (a4_ 5)), (h45, zi k45 40 (a4_ 6)), (h47, zi k47 270 (a4_ 7)), (h49, .inr (1, mX1 h18 h4 h40 h50 h56 h57 h59 h60 h61 h62 h63 h64 h65 h66 h67 h68 v49)), (h50, .inr (3, mX3 h4 h23 h40 h51 h52 h53 h54 h55 v50)), (h52, zi k52 400 f52), (h53, zi k53 400 f53), (h51, .inl (k51, 400, .inr (.inr (.inr (.inr f51))))), (h6, zi k6 400 f6), (h23, .inr (6, mX6 h24 h25 h26 h27 h28 h29 h30 h31 v23)), (h29, zi k29 400 f29), (h27, zi k27 400 f27), (h24, zi k24 1250 f24), (h25, zi k25 833 f25), (h26, zi k26 833 f26), (h28, zi k28 400 f28), (h7, zi k7 400 f7), (h30, zi k30 400 f30), (h31, zi k31 400 f31), (h68, zi k61 n68 f68), (h61, zi k61 40 f61), (h56, .inl (k56, 40, .inr (.inr (.inr (.inr f56))))), (h18, .inr (0, mX0 h19 h20 h21 h22 v18)), (h19, zi k19 120 f19), (h55, zi k55 300 f55), (h54, zi k54 832 f54), (h59, zi k59 40 f59), (h21, zi k21 120 f21), (h60, zi k60 40 f60), (h57, .inr (5, mX5 h58)), (h58, zi k58 26 f58), (h62, zi k62 120 f62), (h63, zi k63 120 f63), (h20, zi k20 120 f20), (h64, zi k64 120 f64), (h65, zi k65 120 f65)] ++ pl0) H1 := hP.part [0, 1, 49, 2, 3, 4, 5, 6, 7, 8, 9, 10, 11, 12, 13, 14, 15, 16, 17, 18, 19, 20, 21, 22, 23, 24, 25, 26, 27, 28, 29, 30, 31, 32, 33, 34, 35, 36, 37, 38, 39, 40, 41, 42, 43, 44, 45, 46, 47, 48] rfl
      have hD : va_D A ([(h0, .inr (11, mX11 h1 h4 h11 h18 h23 h32 h33 h40 h48 h49 sp0 lw0)), (h48, .inr (4, mX4 h1 h4 h11 h40 (upd (upd (upd (upd (upd (upd (upd (upd v48 4 (u4_ 0)) 5 (u4_ 1)) 6 (u4_ 2)) 7 (u4_ 3)) 8 (u4_ 4)) 9 (u4_ 5)) 10 (u4_ 6)) 11 (u4_ 7)))), (h40, .inr (7, mX7 h41 h42 h43 h44 h45 h46 h47 (upd (upd (upd (upd (upd v40 7 (u23_ 0)) 8 (u23_ 1)) 9 (u23_ 2)) 10 (u23_ 3)) 11 (u23_ 4)))), (h1, .inr (9, mX9 h2 h3 (upd (upd v1 2 (u12_ 0)) 3 (u4_ 13)))), (h2, zi k2 600 f2), (h3, zi k3 12 (a4_ 0)), (h11, .inr (10, mX10 h12 h13 h14 h15 h16 h17 v11)), (h12, .inl (k12, 10, .inr (.inl f12))), (h4, .inr (10, mX10 h5 h6 h7 h8 h9 h10 v4)), (h5, .inl (k5, 400, .inr (.inl f5))), (h46, zi k46 160 (a4_ 1)), (h41, zi k41 40 (a4_ 2)), (h42, zi k42 40 (a4_ 3)), (h43, zi k43 40 (a4_ 4)), (h44, zi k44 40 (a4_ 5)), (h45, zi k45 40 (a4_ 6)), (h47, zi k47 270 (a4_ 7)), (h49, .inr (1, mX1 h18 h4 h40 h50 h56 h57 h59 h60 h61 h62 h63 h64 h65 h66 h67 h68 v49)), (h50, .inr (3, mX3 h4 h23 h40 h51 h52 h53 h54 h55 v50)), (h52, zi k52 400 f52), (h53, zi k53 400 f53), (h51, .inl (k51, 400, .inr (.inr (.inr (.inr f51))))), (h6, zi k6 400 f6), (h23, .inr (6, mX6 h24 h25 h26 h27 h28 h29 h30 h31 v23)), (h29, zi k29 400 f29), (h27, zi k27 400 f27), (h24, zi k24 1250 f24), (h25, zi k25 833 f25), (h26, zi k26 833 f26), (h28, zi k28 400 f28), (h7, zi k7 400 f7), (h30, zi k30 400 f30), (h31, zi k31 400 f31), (h68, zi k61 n68 f68), (h61, zi k61 40 f61), (h56, .inl (k56, 40, .inr (.inr (.inr (.inr f56))))), (h18, .inr (0, mX0 h19 h20 h21 h22 v18)), (h19, zi k19 120 f19), (h55, zi k55 300 f55), (h54, zi k54 832 f54), (h59, zi k59 40 f59), (h21, zi k21 120 f21), (h60, zi k60 40 f60), (h57, .inr (5, mX5 h58)), (h58, zi k58 26 f58), (h62, zi k62 120 f62), (h63, zi k63 120 f63), (h20, zi k20 120 f20), (h64, zi k64 120 f64), (h65, zi k65 120 f65)] ++ pl0) := hD.part [0, 1, 49, 2, 3, 4, 5, 6, 7, 8, 9, 10, 11, 12, 13, 14, 15, 16, 17, 18, 19, 20, 21, 22, 23, 24, 25, 26, 27, 28, 29, 30, 31, 32, 33, 34, 35, 36, 37, 38, 39, 40, 41, 42, 43, 44, 45, 46, 47, 48] (by decide) rfl
      generalize H1 = H at hP hS ⊢
      clear hz1
      refine zWsz (fun hza_ hzb_ => ?_)
      refine W.widen (k := (0 + 0)) (n := (0 + 0)) (by omega) (by omega) ?_
      have hc : va_P (dC, dI) vwCl ([(h0, .inr (11, mX11 h1 h4 h11 h18 h23 h32 h33 h40 h48 h49 sp0 lw0)), (h48, .inr (4, mX4 h1 h4 h11 h40 (upd (upd (upd (upd (upd (upd (upd (upd v48 4 (u4_ 0)) 5 (u4_ 1)) 6 (u4_ 2)) 7 (u4_ 3)) 8 (u4_ 4)) 9 (u4_ 5)) 10 (u4_ 6)) 11 (u4_ 7)))), (h40, .inr (7, mX7 h41 h42 h43 h44 h45 h46 h47 (upd (upd (upd (upd (upd v40 7 (u23_ 0)) 8 (u23_ 1)) 9 (u23_ 2)) 10 (u23_ 3)) 11 (u23_ 4)))), (h1, .inr (9, mX9 h2 h3 (upd (upd v1 2 (u12_ 0)) 3 (u4_ 13)))), (h2, zi k2 600 f2), (h3, zi k3 12 (a4_ 0)), (h11, .inr (10, mX10 h12 h13 h14 h15 h16 h17 v11)), (h12, .inl (k12, 10, .inr (.inl f12))), (h4, .inr (10, mX10 h5 h6 h7 h8 h9 h10 v4)), (h5, .inl (k5, 400, .inr (.inl f5))), (h46, zi k46 160 (a4_ 1)), (h41, zi k41 40 (a4_ 2)), (h42, zi k42 40 (a4_ 3)), (h43, zi k43 40 (a4_ 4)), (h44, zi k44 40 (a4_ 5)), (h45, zi k45 40 (a4_ 6)), (h47, zi k47 270 (a4_ 7)), (h49, .inr (1, mX1 h18 h4 h40 h50 h56 h57 h59 h60 h61 h62 h63 h64 h65 h66 h67 h68 v49)), (h50, .inr (3, mX3 h4 h23 h40 h51 h52 h53 h54 h55 v50)), (h52, zi k52 400 f52), (h53, zi k53 400 f53), (h51, .inl (k51, 400, .inr (.inr (.inr (.inr f51))))), (h6, zi k6 400 f6), (h23, .inr (6, mX6 h24 h25 h26 h27 h28 h29 h30 h31 v23)), (h29, zi k29 400 f29), (h27, zi k27 400 f27), (h24, zi k24 1250 f24), (h25, zi k25 833 f25), (h26, zi k26 833 f26), (h28, zi k28 400 f28), (h7, zi k7 400 f7), (h30, zi k30 400 f30), (h31, zi k31 400 f31), (h68, zi k61 n68 f68), (h61, zi k61 40 f61), (h56, .inl (k56, 40, .inr (.inr (.inr (.inr f56))))), (h18, .inr (0, mX0 h19 h20 h21 h22 v18)), (h19, zi k19 120 f19), (h55, zi k55 300 f55), (h54, zi k54 832 f54), (h59, zi k59 40 f59), (h21, zi k21 120 f21), (h60, zi k60 40 f60), (h57, .inr (5, mX5 h58)), (h58, zi k58 26 f58), (h62, zi k62 120 f62), (h63, zi k63 120 f63), (h20, zi k20 120 f20), (h64, zi k64 120 f64), (h65, zi k65 120 f65)] ++ pl0) H ∧ va_D A ([(h0, .inr (11, mX11 h1 h4 h11 h18 h23 h32 h33 h40 h48 h49 sp0 lw0)), (h48, .inr (4, mX4 h1 h4 h11 h40 (upd (upd (upd (upd (upd (upd (upd (upd v48 4 (u4_ 0)) 5 (u4_ 1)) 6 (u4_ 2)) 7 (u4_ 3)) 8 (u4_ 4)) 9 (u4_ 5)) 10 (u4_ 6)) 11 (u4_ 7)))), (h40, .inr (7, mX7 h41 h42 h43 h44 h45 h46 h47 (upd (upd (upd (upd (upd v40 7 (u23_ 0)) 8 (u23_ 1)) 9 (u23_ 2)) 10 (u23_ 3)) 11 (u23_ 4)))), (h1, .inr (9, mX9 h2 h3 (upd (upd v1 2 (u12_ 0)) 3 (u4_ 13)))), (h2, zi k2 600 f2), (h3, zi k3 12 (a4_ 0)), (h11, .inr (10, mX10 h12 h13 h14 h15 h16 h17 v11)), (h12, .inl (k12, 10, .inr (.inl f12))), (h4, .inr (10, mX10 h5 h6 h7 h8 h9 h10 v4)), (h5, .inl (k5, 400, .inr (.inl f5))), (h46, zi k46 160 (a4_ 1)), (h41, zi k41 40 (a4_ 2)), (h42, zi k42 40 (a4_ 3)), (h43, zi k43 40 (a4_ 4)), (h44, zi k44 40 (a4_ 5)), (h45, zi k45 40 (a4_ 6)), (h47, zi k47 270 (a4_ 7)), (h49, .inr (1, mX1 h18 h4 h40 h50 h56 h57 h59 h60 h61 h62 h63 h64 h65 h66 h67 h68 v49)), (h50, .inr (3, mX3 h4 h23 h40 h51 h52 h53 h54 h55 v50)), (h52, zi k52 400 f52), (h53, zi k53 400 f53), (h51, .inl (k51, 400, .inr (.inr (.inr (.inr f51))))), (h6, zi k6 400 f6), (h23, .inr (6, mX6 h24 h25 h26 h27 h28 h29 h30 h31 v23)), (h29, zi k29 400 f29), (h27, zi k27 400 f27), (h24, zi k24 1250 f24), (h25, zi k25 833 f25), (h26, zi k26 833 f26), (h28, zi k28 400 f28), (h7, zi k7 400 f7), (h30, zi k30 400 f30), (h31, zi k31 400 f31), (h68, zi k61 n68 f68), (h61, zi k61 40 f61), (h56, .inl (k56, 40, .inr (.inr (.inr (.inr f56))))), (h18, .inr (0, mX0 h19 h20 h21 h22 v18)), (h19, zi k19 120 f19), (h55, zi k55 300 f55), (h54, zi k54 832 f54), (h59, zi k59 40 f59), (h21, zi k21 120 f21), (h60, zi k60 40 f60), (h57, .inr (5, mX5 h58)), (h58, zi k58 26 f58), (h62, zi k62 120 f62), (h63, zi k63 120 f63), (h20, zi k20 120 f20), (h64, zi k64 120 f64), (h65, zi k65 120 f65)] ++ pl0) ∧ va_S A s.heap H locs ∧ lv_has ls 2 [(0, .ref h0), (1, .int r4_)] ∧ (0 ≤ (u23_ 0).toInt ∧ (u23_ 0).toInt ≤ 40) ∧ (0 ≤ (u23_ 1).toInt ∧ (u23_ 1).toInt ≤ 160) ∧ (0 ≤ (u23_ 2).toInt ∧ (u23_ 2).toInt ≤ 270) ∧ (zyT f2 (v1 2).toInt (u23_ 2).toInt (zqa (a4_ 7) (a4_ 2) (a4_ 3) (a4_ 4) (a4_ 5) (a4_ 1) (a4_ 6), (u23_ 0).toInt, (u23_ 1).toInt, zZc f2 (v1 2).toInt f5 (v4 7).toInt f12 (v11 7).toInt)) ∧ (zRd h23 f51 pl0) ∧ (zPs k61 f56 pl0) ∧ (zOt pl0 pl0) ∧ (H.size + zNl f51 400 + 2 * zNl f56 40 ≤ s.heap.size + zNl f51 400 + 2 * zNl f56 40 + 0) := ⟨hP, hD, hS, lv_sub hl [1, 0] rfl, (by first | with_reducible assumption | exact ⟨by omega, by omega⟩), (by first | with_reducible assumption | exact ⟨by omega, by omega⟩), (by first | with_reducible assumption | exact ⟨by omega, by omega⟩), by first | exact zyT_a hB4_0 (by omega) | exact zyT_b hB4_0 (by omega) (by omega) (by first | decide | (dsimp only; omega) | omega), by assumption, by assumption, by first | assumption | exact zOt_rf, by omega⟩
      exact hJ26 H locs ls (fun i => ([(u23_ 0), (u23_ 1), (u23_ 2), (u23_ 3), (u23_ 4)] : List (Int32)).getD i 0) (fun _ => 0) (fun _ => (fun _ => 0)) (fun _ => (fun _ => 0)) ⟨(fun _ => (fun _ => none)), pl0, h68, n68, hn68, hc⟩
def zTe (f g : Nat → Int32) (n : Int) : Prop := (∀ j : Nat, f j = g j) ∧ zTy f n
def zTi (s : Nat → Int64) (i fr : Nat → Int32) (n : Int) (g sz : Nat → Int32) (k : Int) : Prop := n = k ∧ zSd s i fr n ∧ zMs g sz k ∧ ∀ y : Int, zHas s n y ↔ zQ g sz k y
theorem zTe_0 {f : Nat → Int32} {n : Int} (h : n ≤ 0) : zTe f f n := ⟨fun _ => rfl, fun j hj => by omega⟩
theorem zTe_m {f g : Nat → Int32} {n m : Int} (h : zTe f g n) (e : m ≤ n) : zTe f g m := ⟨h.1, fun j hj => h.2 j (by omega)⟩
theorem zTi_0 {s : Nat → Int64} {i fr g sz : Nat → Int32} {n k : Int} (h1 : n = 0) (h2 : k = 0) (h3 : ∀ j : Nat, j < 10 → fr j = 0) : zTi s i fr n g sz k := by
  subst h1; subst h2
  exact ⟨rfl, ⟨fun a b _ q => by omega, fun a q => by omega, fun a b _ q => by omega, h3⟩, ⟨fun j q => by omega, fun a b _ q => by omega⟩, fun y => ⟨fun ⟨a, q, _⟩ => by omega, fun ⟨a, q, _⟩ => by omega⟩⟩
theorem zTe_f {f f' g g' : Nat → Int32} {o o' n : Int} {a b c d e a' b' c' d' e' : Int32} (h : zTe f g o) (eo : o' = o) (h1 : o ≤ 580 → zFed f f' o a b c d e) (h2 : 580 < o → ∀ j : Nat, f' j = f j) (k1 : o' ≤ 580 → zFed g g' o' a' b' c' d' e') (k2 : 580 < o' → ∀ j : Nat, g' j = g j) (ea : a' = a) (eb : b' = b) (ec : c' = c) (ed : d' = d) (ee : e' = e) (hn : n ≤ o + 20) (hm : 580 < o → n = o) : zTe f' g' n := by
  subst eo; subst ea; subst eb; subst ec; subst ed; subst ee
  by_cases q : o' ≤ 580
  · exact ⟨zFed_u (h1 q) (k1 q) h.1, fun j hj => zFed_b (h1 q) h.2 j (by omega)⟩
  · have q1 := hm (by omega)
    refine ⟨fun j => by rw [h2 (by omega) j, k2 (by omega) j]; exact h.1 j, fun j hj => ?_⟩
    rw [h2 (by omega) j]
    exact h.2 j (by omega)
theorem zTi_s {s s' : Nat → Int64} {i i' fr fr' g g' sz sz' f f2 : Nat → Int32} {n n' k k' l l2 on on2 r r2 : Int} (h : zTi s i fr n g sz k) (ht : zTe f f2 l) (el : l2 = l) (h1 : zSd s i fr n → zSd s' i' fr' n' ∧ ∃ x : Int, zFW f l x ∧ zStp on x n n' r (zHas s n) (zHas s' n')) (h2 : zMs g sz k → zMs g' sz' k' ∧ ∃ x : Int, zFW f2 l2 x ∧ zStp on2 x k k' r2 (zQ g sz k) (zQ g' sz' k')) (eon : on2 = on) : zTi s' i' fr' n' g' sz' k' ∧ r = r2 := by
  obtain ⟨e1, e2, e3, e4⟩ := h
  subst el; subst eon
  obtain ⟨a1, x, a2, a3⟩ := h1 e2
  obtain ⟨b1, y, b2, b3⟩ := h2 e3
  have e : x = y := zFW_u (zFW_c (fun j _ => ht.1 j) a2) b2
  subst e
  subst e1
  have q := zStp_u a3 b3 e4
  exact ⟨⟨q.2.1, a1, b1, q.2.2⟩, q.1⟩
theorem zSz0 {H s a b i : Nat} {q r : Nat → Option Nat} (h : H ≤ s + a) (e : a + 480 ≤ b) : H + zNl q 400 + 2 * zNl r 40 ≤ s + b + 2 * i := by
  have h1 := zNl_le (q := q) 400
  have h2 := zNl_le (q := r) 40
  omega
def zsS (s : Nat → Int64) (n : Int) : Int → Bool := fun x => (List.range n.toNat).any (fun a => decide ((s a).toInt = x))
theorem zsS_i {s : Nat → Int64} {n x : Int} : zsS s n x = true ↔ zHas s n x := by
  unfold zsS
  rw [List.any_eq_true]
  constructor
  · rintro ⟨a, a1, a2⟩
    rw [List.mem_range] at a1
    exact ⟨a, by omega, of_decide_eq_true a2⟩
  · rintro ⟨a, a1, a2⟩
    exact ⟨a, by rw [List.mem_range]; omega, decide_eq_true a2⟩
section ZPM
variable {T T' : Nat → Nat → Int} {V V2 : List Int} {D : Nat}
theorem zcs_s (h : V.length ≤ 400) : zcs (zBv T V D) = (V.map (fun w => zco (zPq T w D).length)).sum := by
  have key : ∀ k : Nat, zsu (fun i => zco (zBv T V D i).length) k = ((V.take k).map (fun w => zco (zPq T w D).length)).sum := by
    intro k
    induction k with
    | zero => rfl
    | succ k ih =>
      show zsu (fun i => zco (zBv T V D i).length) k + zco (zBv T V D k).length = _
      rw [ih]
      rcases Nat.lt_or_ge k V.length with c | c
      · have e : V.take (k + 1) = V.take k ++ [V[k]] := by rw [List.take_add_one, List.getElem?_eq_getElem c]; rfl
        have e2 : zBv T V D k = zPq T V[k] D := by unfold zBv; rw [List.getElem?_eq_getElem c]; rfl
        rw [e, List.map_append, List.sum_append, e2]
        show _ = _ + (zco (zPq T V[k] D).length + 0)
        rfl
      · rw [List.take_of_length_le c, List.take_of_length_le (by omega), (zBv_n (T := T) (K := V) (d := D) (k := k) c).1]
        rfl
  unfold zcs
  rw [key 400, List.take_of_length_le h]
theorem zcs_p (h : V.Perm V2) (hl : V.length ≤ 400) : zcs (zBv T V D) = zcs (zBv T V2 D) := by
  rw [zcs_s hl, zcs_s (by rw [← h.length_eq]; exact hl)]
  exact (h.map _).sum_nat
theorem zdc_p {t : Nat → Int} (h : V.Perm V2) : zdc t V = zdc t V2 := (h.filter _).length_eq
theorem zkV_p {S : Int → Bool} {w : Int} (h : V.Perm V2) : (zkV S V w).Perm (zkV S V2 w) ∧ zkO S V w = zkO S V2 w := by
  have l := h.length_eq
  have m : w ∈ V ↔ w ∈ V2 := h.mem_iff
  unfold zkV zkO
  rw [l]
  refine ⟨?_, ?_⟩
  · by_cases a : S w = true
    · rw [if_pos a, if_pos a]; exact h
    · rw [if_neg a, if_neg a]
      by_cases b : w ∈ V
      · rw [if_pos b, if_pos (m.mp b)]; exact h
      · rw [if_neg b, if_neg (fun c => b (m.mpr c))]
        by_cases c : V2.length < 400
        · rw [if_pos c, if_pos c]; exact h.append_right _
        · rw [if_neg c, if_neg c]; exact h
  · have : decide (w ∈ V) = decide (w ∈ V2) := by rw [decide_eq_decide]; exact m
    rw [this]
theorem zRq_p {f : Nat → Int32} {n : Int} {S : Int → Bool} (h : V.Perm V2) (k : Nat) : (zRq f n S V k).1 = (zRq f n S V2 k).1 ∧ (zRq f n S V k).2.1 = (zRq f n S V2 k).2.1 ∧ (zRq f n S V k).2.2.1.Perm (zRq f n S V2 k).2.2.1 ∧ (zRq f n S V k).2.2.2.1 = (zRq f n S V2 k).2.2.2.1 ∧ (zRq f n S V k).2.2.2.2 = (zRq f n S V2 k).2.2.2.2 := by
  induction k with
  | zero => exact ⟨rfl, rfl, h, rfl, rfl⟩
  | succ k ih =>
    obtain ⟨i1, i2, i3, i4, i5⟩ := ih
    have e : zRq f n S V (k + 1) = zRqs f n S k (zRq f n S V k) := rfl
    have e' : zRq f n S V2 (k + 1) = zRqs f n S k (zRq f n S V2 k) := rfl
    have kp := zkV_p (S := S) (w := zwd f n k) i3
    rw [e, e']
    unfold zRqs
    rw [← i5, ← i2, ← i1, ← i4, ← kp.2]
    by_cases a : (zRq f n S V k).2.2.2.2 = false
    · rw [if_pos a, if_pos a]; exact ⟨i1, i2, i3, i4, i5⟩
    · rw [if_neg a, if_neg a]
      by_cases b : (zRq f n S V k).2.1 < 512 ∧ (f k).toInt = 10
      · rw [if_pos b, if_pos b]; exact ⟨rfl, rfl, i3, rfl, rfl⟩
      · rw [if_neg b, if_neg b]
        by_cases c : zsb f n k = true
        · rw [if_pos c, if_pos c]
          by_cases d : zkO S (zRq f n S V k).2.2.1 (zwd f n k) = true
          · rw [if_pos d, if_pos d]; exact ⟨rfl, rfl, kp.1, rfl, rfl⟩
          · rw [if_neg d, if_neg d]; exact ⟨rfl, rfl, i3, rfl, rfl⟩
        · rw [if_neg c, if_neg c]; exact ⟨i1, i2, i3, i4, i5⟩
end ZPM
theorem zRq_l {f : Nat → Int32} {n : Int} {S : Int → Bool} {V : List Int} (h : V.length ≤ 400) (k : Nat) : (zRq f n S V k).2.2.1.length ≤ 400 := by
  induction k with
  | zero => exact h
  | succ k ih =>
    have e : zRq f n S V (k + 1) = zRqs f n S k (zRq f n S V k) := rfl
    rw [e]
    unfold zRqs
    by_cases a : (zRq f n S V k).2.2.2.2 = false
    · rw [if_pos a]; exact ih
    · rw [if_neg a]
      by_cases b : (zRq f n S V k).2.1 < 512 ∧ (f k).toInt = 10
      · rw [if_pos b]; exact ih
      · rw [if_neg b]
        by_cases c : zsb f n k = true
        · rw [if_pos c]
          by_cases d : zkO S (zRq f n S V k).2.2.1 (zwd f n k) = true
          · rw [if_pos d]
            show (zkV S (zRq f n S V k).2.2.1 (zwd f n k)).length ≤ 400
            unfold zkV
            (repeat' split)
            · exact ih
            · exact ih
            · rw [List.length_append, List.length_singleton]; omega
            · exact ih
          · rw [if_neg d]; exact ih
        · rw [if_neg c]; exact ih
def zDo (on ln mk wc : Nat → Int32) (n os : Int) (on2 ln2 mk2 un2 : Nat → Int32) (n2 : Int) : Prop := n = n2 ∧ (∀ d : Nat, (d : Int) < n → (on d).toInt = (on2 d).toInt ∧ (ln d).toInt = (ln2 d).toInt ∧ (mk d).toInt = (mk2 d).toInt ∧ (wc d).toInt = (un2 d).toInt) ∧ (∀ d : Nat, n ≤ (d : Int) → d < 120 → (mk d).toInt = 0) ∧ os = (zsu (fun d => if (on d).toInt ≠ 0 then 1 else 0) n.toNat : Nat) ∧ 0 ≤ n ∧ n ≤ 120
def zTd (s : Nat → Int64) (i fr : Nat → Int32) (nw : Int) (ro cs nxc fc lc bt : Nat → Int32) (ch ru ab tk : Int) (h l : Nat → Int32) (D : Int) (on ln mk wc : Nat → Int32) (os : Int) (g sz : Nat → Int32) (W : Int) (ta ke : Nat → Int32) (D2 : Int) (on2 ln2 mk2 un2 : Nat → Int32) : Prop := zDo on ln mk wc D os on2 ln2 mk2 un2 D2 ∧ ∃ (T : Nat → Nat → Int) (V V2 : List Int), zKl s i fr nw ro cs nxc fc lc bt ch ru ab tk h l D T V ∧ zMd g sz W ta ke D2 T V2 ∧ V.Perm V2
section ZTD
variable {s s3 : Nat → Int64} {i fr ro cs nxc fc lc bt h l on ln mk wc g sz ta ke on2 ln2 mk2 un2 i3 fr3 ro3 cs3 nx3 fc3 lc3 bt3 h3 l3 on3 ln3 mk3 wc3 g3 sz3 ta3 ke3 on4 ln4 mk4 un4 : Nat → Int32} {nw ch ru ab tk D os W D2 nw3 ch3 ru3 ab3 tk3 D3 os3 W3 D4 : Int}
theorem zDo_a (hd : zDo on ln mk wc D os on2 ln2 mk2 un2 D2) {a b : Int} (h0 : D < 120) (u1 : zUi on on3 D.toNat 1) (u2 : zUi ln ln3 D.toNat a) (u3 : mk3 = mk) (u4 : zUi wc wc3 D.toNat b) (u5 : 0 ≤ os → os ≤ 1000 → os3 = os + 1) (v1 : zUi on2 on4 D.toNat 1) (v2 : zUi ln2 ln4 D.toNat a) (v3 : zUi mk2 mk4 D.toNat 0) (v4 : zUi un2 un4 D.toNat b) : zDo on3 ln3 mk3 wc3 (D + 1) os3 on4 ln4 mk4 un4 (D2 + 1) := by
  obtain ⟨a1, a2, a3, a4, a5, a6⟩ := hd
  have ob : ∀ m : Nat, zsu (fun d => if (on d).toInt ≠ 0 then 1 else 0) m ≤ m := fun m => by
    induction m with
    | zero => exact Nat.le_refl _
    | succ m ih => show zsu (fun d => if (on d).toInt ≠ 0 then 1 else 0) m + (if (on m).toInt ≠ 0 then 1 else 0) ≤ m + 1; split <;> omega
  have o1 := ob D.toNat
  refine ⟨by omega, fun d hd => ?_, fun d q1 q2 => ?_, ?_, by omega, by omega⟩
  · rw [u1 d, u2 d, u3, u4 d, v1 d, v2 d, v3 d, v4 d]
    by_cases c : d = D.toNat
    · simp only [if_pos c]
      exact ⟨trivial, trivial, by rw [c]; exact a3 _ (by omega) (by omega), trivial⟩
    · simp only [if_neg c]
      exact a2 d (by omega)
  · rw [u3]; exact a3 d (by omega) q2
  · rw [u5 (by omega) (by omega), a4, show (D + 1).toNat = D.toNat + 1 from by omega]
    show _ = ((zsu (fun d => if (on3 d).toInt ≠ 0 then 1 else 0) D.toNat + (if (on3 D.toNat).toInt ≠ 0 then 1 else 0) : Nat) : Int)
    rw [u1 D.toNat, if_pos rfl, if_pos (by decide), zsu_c (G := fun d => if (on3 d).toInt ≠ 0 then 1 else 0) (fun d hd => by rw [u1 d, if_neg (show ¬ d = D.toNat from by omega)])]
    omega
theorem zTd_e {f f2 : Nat → Int32} {n n2 : Int} {s2 : Nat → Int64} {i2 fr2 sg ssz : Nat → Int32} {ns ks r r2 : Int} (ht : zTd s i fr nw ro cs nxc fc lc bt ch ru ab tk h l D on ln mk wc os g sz W ta ke D2 on2 ln2 mk2 un2) (te : zTe f f2 n) (en : n2 = n) (hn : n ≤ 600) (hn0 : 0 ≤ n) (ti : zTi s2 i2 fr2 ns sg ssz ks) (hc : zEk f n s i fr nw s2 ns ro cs nxc fc lc bt ch ru ab tk h l D s3 i3 fr3 nw3 ro3 cs3 nx3 fc3 lc3 bt3 ch3 ru3 ab3 tk3 h3 l3 D3 on ln mk wc on3 ln3 mk3 wc3 os os3 r) (hm : zEm f2 n2 g sz W ta ke D2 sg ssz ks g3 sz3 W3 ta3 ke3 D4 on2 ln2 mk2 un2 on4 ln4 mk4 un4 r2) : r = r2 ∧ zTd s3 i3 fr3 nw3 ro3 cs3 nx3 fc3 lc3 bt3 ch3 ru3 ab3 tk3 h3 l3 D3 on3 ln3 mk3 wc3 os3 g3 sz3 W3 ta3 ke3 D4 on4 ln4 mk4 un4 := by
  subst en
  have ef : f = f2 := funext te.1
  subst ef
  obtain ⟨hd, T, V, V2, k1, k2, k3⟩ := ht
  have eD := hd.1
  subst eD
  obtain ⟨t1, t2, t3, t4⟩ := ti
  have a := hc (zsS s2 ns) T V ⟨te.2, hn, t2.1, fun x => zsS_i, k1⟩
  have b := hm (zsS s2 ns) T V2 te.2 hn hn0 t3 (fun x => by rw [zsS_i]; exact t4 x) k2
  have p := zRq_p (f := f) (n := n2) (S := zsS s2 ns) k3 n2.toNat
  have lv : (zRq f n2 (zsS s2 ns) V n2.toNat).2.2.1.length ≤ 400 ∨ True := Or.inr trivial
  have acc : zac f n2 (zsS s2 ns) T V D ↔ zac f n2 (zsS s2 ns) T V2 D := by
    unfold zac
    rw [p.1, p.2.2.2.2]
    have l4 := zRq_l (f := f) (n := n2) (S := zsS s2 ns) (V := V) (by have := k1.1.2.1; have := k1.1.2.2.1; omega) n2.toNat
    rw [zcs_p p.2.2.1 l4]
  rcases a with ⟨a0, a1, a2, a3, a4, a5, a6, a7, a8⟩ | ⟨a0, a1, a2, a3, a4, a5, a6, a7, a8⟩ <;> rcases b with ⟨b0, b1, b2, b3, b4, b5, b6, b7⟩ | ⟨b0, b1, b2, b3, b4, b5, b6, b7⟩
  · refine ⟨by omega, ?_⟩
    subst a2; subst b2
    rw [← p.2.2.2.1] at b5
    rw [← p.1, ← zdc_p p.2.2.1] at b7
    rw [← p.1] at b3
    exact ⟨zDo_a hd a0.1 a4 a5 a6 a7 a8 b4 b5 b6 b7, _, _, _, a3, b3, p.2.2.1⟩
  · exact absurd (acc.mp a0) b0
  · exact absurd (acc.mpr b0) a0
  · refine ⟨by omega, ?_⟩
    subst a2; subst b2; subst a4; subst a5; subst a6; subst a7; subst a8; subst b4; subst b5; subst b6; subst b7
    exact ⟨hd, T, V, V2, a3, b3, k3⟩
theorem zBv_c {T T' : Nat → Nat → Int} {V : List Int} {D : Nat} (e : ∀ d : Nat, d < D → T' d = T d) : zBv T V D = zBv T' V D := funext fun id => by
  unfold zBv
  cases V[id]? with
  | none => rfl
  | some w => exact (zPq_c (T := T) (T' := T') (w := w) (D := D) e).1.symm
theorem zKl_c {T T' : Nat → Nat → Int} {V : List Int} (hk : zKl s i fr nw ro cs nxc fc lc bt ch ru ab tk h l D T V) (e : ∀ d : Nat, (d : Int) < D → T' d = T d) : zKl s i fr nw ro cs nxc fc lc bt ch ru ab tk h l D T' V := by
  obtain ⟨a1, a2, a3, a4, a5, a6, a7, a8⟩ := hk
  have q : ∀ w, zPq T' w D.toNat = zPq T w D.toNat ∧ zLd T' w D.toNat = zLd T w D.toNat ∧ zHn T' w D.toNat = zHn T w D.toNat := fun w => zPq_c (fun d hd => e d (by omega))
  have b1 : zBv T' V D.toNat = zBv T V D.toNat := funext fun id => by unfold zBv; cases V[id]? with
    | none => rfl
    | some w => exact (q w).1
  have b2 : ∀ id, zHv T' V D.toNat id = zHv T V D.toNat id := fun id => by unfold zHv; cases V[id]? with
    | none => rfl
    | some w => show (zHn T' w D.toNat : Int) = zHn T w D.toNat; rw [(q w).2.2]
  have b3 : ∀ id, zLv T' V D.toNat id = zLv T V D.toNat id := fun id => by unfold zLv; cases V[id]? with
    | none => rfl
    | some w => show zLd T' w D.toNat + 1 = zLd T w D.toNat + 1; rw [(q w).2.1]
  exact ⟨a1, a2, by rw [b1]; exact a3, by rw [b1]; exact a4, fun id hid => by rw [b2, b3]; exact a5 id hid, a6, a7, fun d hd => by rw [e d (by omega)]; exact a8 d hd⟩
theorem zTd_t {r r2 : Int} (ht : zTd s i fr nw ro cs nxc fc lc bt ch ru ab tk h l D on ln mk wc os g sz W ta ke D2 on2 ln2 mk2 un2) (hc : zYf s i fr nw ro cs nxc fc lc bt ch ru ab tk h l on D s3 i3 fr3 nw3 ro3 cs3 nx3 fc3 lc3 bt3 ch3 ru3 ab3 tk3 h3 l3 r) (hm : zYn g sz W ta ke on2 D2 g3 sz3 W3 ta3 ke3 r2) : r = r2 ∧ zTd s3 i3 fr3 nw3 ro3 cs3 nx3 fc3 lc3 bt3 ch3 ru3 ab3 tk3 h3 l3 D on ln mk wc os g3 sz3 W3 ta3 ke3 D2 on2 ln2 mk2 un2 := by
  obtain ⟨hd, T, V, V2, k1, k2, k3⟩ := ht
  have eD := hd.1
  subst eD
  have l4 : V.length ≤ 400 := by have := k1.1.2.1; have := k1.1.2.2.1; omega
  have c0 := k1.2.2.2.1
  obtain ⟨a1, a2⟩ := hc T V k1
  obtain ⟨V1, b1, b2, b3⟩ := hm T V2 k2 (Nat.le_trans (Nat.le_of_eq (zcs_p k3 l4).symm) c0)
  have eT : ∀ d : Nat, (d : Int) < D → zTo on2 T d = zTo on T d := fun d hd' => by
    have q := (hd.2.1 d hd').1
    unfold zTo
    rw [q]
  have a1' := zKl_c (T' := zTo on2 T) a1 eT
  have ek : ∀ w, zkp on2 T D w = zkp on T D w := fun w => by
    unfold zkp
    rw [(zPq_c (T := zTo on T) (T' := zTo on2 T) (w := w) (D := D.toNat) (fun d hd' => eT d (by omega))).2.2]
  have pm : (V.filter (zkp on T D)).Perm V1 := by
    rw [List.perm_ext_iff_of_nodup ((zVo_nd k1.1).filter _) (zMv_nd b1.1)]
    intro x
    rw [b2 x, List.mem_filter, List.mem_filter, k3.mem_iff, ek x]
  have lf : (V.filter (zkp on T D)).length ≤ 400 := Nat.le_trans (List.length_filter_le _ _) l4
  have q1 := zcs_p (T := zTo on2 T) (D := D.toNat) pm lf
  have c1 : zcs (zBv (zTo on2 T) (V.filter (zkp on T D)) D.toNat) ≤ 40000 := a1'.2.2.2.1
  have c2 : zcs (zBv (zTo on2 T) V1 D.toNat) ≤ 40000 := Nat.le_trans (Nat.le_of_eq q1.symm) c1
  have q2 := b3 c2
  have eB := zBv_c (T := zTo on T) (T' := zTo on2 T) (V := V.filter (zkp on T D)) (D := D.toNat) (fun d hd' => eT d (by omega))
  have q3 := zcs_p (T := T) (D := D.toNat) k3 l4
  have q4 := congrArg zcs eB
  exact ⟨by omega, hd, _, _, _, a1', b1, pm⟩
theorem zTd_o {P P2 : Int32} {r r2 : Int} (ht : zTd s i fr nw ro cs nxc fc lc bt ch ru ab tk h l D on ln mk wc os g sz W ta ke D2 on2 ln2 mk2 un2) (hc : zRv on D P r on on3 0) (hm : zRv on2 D2 P2 r2 on2 on4 0) (eP : P2 = P) (o1 : zW (r = 1 → 0 ≤ os → os3 = os - 1)) (o0 : zW (r = 0 → os3 = os)) : r = r2 ∧ zTd s i fr nw ro cs nxc fc lc bt ch ru ab tk h l D on3 ln mk wc os3 g sz W ta ke D2 on4 ln2 mk2 un2 := by
  subst eP
  obtain ⟨hd, ex⟩ := ht
  obtain ⟨a1, a2, a3, a4, a5, a6⟩ := hd
  obtain ⟨c1, c2⟩ := hc
  obtain ⟨m1, m2⟩ := hm
  subst a1
  have hi : r = 1 ↔ r2 = 1 := by
    rw [c1.2, m1.2]
    constructor
    · rintro ⟨q1, q2, q3⟩
      exact ⟨q1, q2, by rw [← (a2 _ (by have := zclamp q1; omega)).1]; exact q3⟩
    · rintro ⟨q1, q2, q3⟩
      exact ⟨q1, q2, by rw [(a2 _ (by have := zclamp q1; omega)).1]; exact q3⟩
  have er : r = r2 := by have := c1.1; have := m1.1; omega
  refine ⟨er, ?_, ex⟩
  rcases c2 with ⟨r1, u⟩ | ⟨r0, u⟩
  · rcases m2 with ⟨-, v⟩ | ⟨z, -⟩
    · have in_ := c1.2.mp r1
      have cl := zclamp in_.1
      refine ⟨rfl, fun d hd => ?_, a3, ?_, a5, a6⟩
      · obtain ⟨b1, b2⟩ := a2 d hd
        rw [u d, v d]
        by_cases c : d = P2.toNatClampNeg
        · rw [if_pos c, if_pos c]; exact ⟨rfl, b2⟩
        · rw [if_neg c, if_neg c]; exact ⟨b1, b2⟩
      · have q := zsu_u (F := fun d => if (on3 d).toInt ≠ 0 then 1 else 0) (G := fun d => if (on d).toInt ≠ 0 then 1 else 0) (k := P2.toNatClampNeg) (n := D.toNat) (by omega) (fun d _ c => by rw [u d, if_neg c])
        have e1 : (if (on3 P2.toNatClampNeg).toInt ≠ 0 then 1 else 0) = 0 := by rw [u P2.toNatClampNeg, if_pos rfl]; rfl
        have e2 : (if (on P2.toNatClampNeg).toInt ≠ 0 then 1 else 0) = 1 := if_pos in_.2.2
        rw [e1, e2] at q
        rw [o1 r1 (by omega), a4]
        omega
    · omega
  · rcases m2 with ⟨z, -⟩ | ⟨-, v⟩
    · omega
    · rw [u, v, o0 r0]
      exact ⟨rfl, a2, a3, a4, a5, a6⟩
theorem zTd_m {P P2 : Int32} {r r2 v : Int} (ht : zTd s i fr nw ro cs nxc fc lc bt ch ru ab tk h l D on ln mk wc os g sz W ta ke D2 on2 ln2 mk2 un2) {v2 : Int} (hc : zRv on D P r mk mk3 v) (hm : zRv on2 D2 P2 r2 mk2 mk4 v2) (eP : P2 = P) (ev : v2 = v) : r = r2 ∧ zTd s i fr nw ro cs nxc fc lc bt ch ru ab tk h l D on ln mk3 wc os g sz W ta ke D2 on2 ln2 mk4 un2 := by
  subst eP; subst ev
  obtain ⟨hd, ex⟩ := ht
  obtain ⟨a1, a2, a3, a4, a5, a6⟩ := hd
  obtain ⟨c1, c2⟩ := hc
  obtain ⟨m1, m2⟩ := hm
  subst a1
  have hi : r = 1 ↔ r2 = 1 := by
    rw [c1.2, m1.2]
    constructor
    · rintro ⟨q1, q2, q3⟩
      exact ⟨q1, q2, by rw [← (a2 _ (by have := zclamp q1; omega)).1]; exact q3⟩
    · rintro ⟨q1, q2, q3⟩
      exact ⟨q1, q2, by rw [(a2 _ (by have := zclamp q1; omega)).1]; exact q3⟩
  have er : r = r2 := by have := c1.1; have := m1.1; omega
  refine ⟨er, ?_, ex⟩
  rcases c2 with ⟨r1, u⟩ | ⟨r0, u⟩
  · rcases m2 with ⟨-, w⟩ | ⟨z, -⟩
    · have in_ := c1.2.mp r1
      have cl := zclamp in_.1
      refine ⟨rfl, fun d hd => ?_, fun d q1 q2 => ?_, a4, a5, a6⟩
      · obtain ⟨b1, b2, b3, b4⟩ := a2 d hd
        rw [u d, w d]
        by_cases c : d = P2.toNatClampNeg
        · rw [if_pos c, if_pos c]; exact ⟨b1, b2, rfl, b4⟩
        · rw [if_neg c, if_neg c]; exact ⟨b1, b2, b3, b4⟩
      · rw [u d, if_neg (by omega)]; exact a3 d q1 q2
    · omega
  · rcases m2 with ⟨z, -⟩ | ⟨-, w⟩
    · omega
    · rw [u, w]
      exact ⟨rfl, a2, a3, a4, a5, a6⟩
theorem zTd_0 (hw : nw = 0) (hfr : ∀ j : Nat, j < 400 → fr j = 0) (hro : ∀ j : Nat, j < 1250 → ro j = 0) (hbt : ∀ j : Nat, j < 400 → bt j = 0) (h1 : ch = 0) (h2 : ru = 0) (h3 : ab = 0) (h4 : tk = 0) (hh : ∀ j : Nat, j < 400 → h j = 0) (hl : ∀ j : Nat, j < 400 → l j = 0) (hD : D = 0) (hmk : ∀ j : Nat, j < 120 → mk j = 0) (hos : os = 0) (hW : W = 0) (hta : ∀ j : Nat, j < 122880 → ta j = 0) (hD2 : D2 = 0) : zTd s i fr nw ro cs nxc fc lc bt ch ru ab tk h l D on ln mk wc os g sz W ta ke D2 on2 ln2 mk2 un2 := by
  subst hw; subst hD; subst hD2; subst hW; subst hos
  have eB : zBv (fun _ _ => 0) [] (0 : Int).toNat = fun _ => [] := funext fun id => rfl
  refine ⟨⟨rfl, fun d hd => by omega, fun d _ hd => by rw [hmk d hd]; decide, rfl, Int.le_refl _, by decide⟩, fun _ _ => 0, [], [], ⟨⟨fun a b _ hb => by omega, rfl, by decide, fun a ha => by omega, fun id hid => by omega, hfr⟩, fun x hx => absurd hx List.not_mem_nil, by rw [eB]; exact zPB_0 hro hbt h1 h2 h3 h4, ?_, fun id hid => by rw [hh id hid, hl id hid]; exact ⟨rfl, rfl⟩, Int.le_refl _, by decide, fun d hd => absurd hd (Nat.not_lt_zero _)⟩, ⟨⟨⟨fun j hj => by omega, fun a b _ hb => by omega⟩, rfl, by decide, fun j hj => by omega, fun x hx => absurd hx List.not_mem_nil⟩, Int.le_refl _, by decide, fun d hd => by omega, fun j _ hj => by rw [hta j hj]; decide⟩, List.Perm.refl _⟩
  rw [eB]
  have z : ∀ m, zsu (fun _ => zco ([] : List Bool).length) m = 0 := fun m => by
    induction m with
    | zero => rfl
    | succ m ih => show zsu (fun _ => zco ([] : List Bool).length) m + 0 = 0; rw [ih]
  show zsu (fun _ => zco ([] : List Bool).length) 400 ≤ 40000
  rw [z]
  exact Nat.zero_le _
end ZTD
theorem zFr {D : va_G} {cl : List vw_C} {A : Nat → Prop} {X T R pl : va_W} {H : Heap} (hP : va_P D cl (X ++ pl) H) (hD : va_D A (X ++ pl)) (is : List Nat) (hn : va_nd is = true) (hs : is.map (fun i => X[i]?) = (T ++ R).map some) : ∃ pq : va_W, pq = R ++ pl ∧ va_P D cl (T ++ pq) H ∧ va_D A (T ++ pq) := ⟨_, rfl, by rw [← List.append_assoc]; exact hP.part is hs, by rw [← List.append_assoc]; exact hD.part is hn hs⟩
theorem zBk {D : va_G} {cl : List vw_C} {A : Nat → Prop} {X T R pl pq : va_W} {H : Heap} (hq : pq = R ++ pl) (hP : va_P D cl (T ++ pq) H) (hD : va_D A (T ++ pq)) (is : List Nat) (hn : va_nd is = true) (hs : is.map (fun i => (T ++ R)[i]?) = X.map some) : va_P D cl (X ++ pl) H ∧ va_D A (X ++ pl) := by
  subst hq
  rw [← List.append_assoc] at hP hD
  exact ⟨hP.part is hs, hD.part is hn hs⟩
section ZHS
variable {s ss : Nat → Int64} {sg ssz g sz wd ws me ta f cd cd2 wh lf rt nm lw lfr lmn lto ib ph kd lo hi sd ct : Nat → Int32} {n ns sn W nt pw lv lvx len cn leaves wants tt bd mk : Int} {V K : List Int} {t : Nat → Int} {d : Nat}
theorem zHits {f2 i fr ro cs nxc fc lc bt h l on ln mkA wc ke on2 ln2 mk2 un2 ti bo i2 fr2 rk0 wn0 std0 sn0 rk wn std sn nums hits : Nat → Int32} {rf0 rf : Nat → Option Nat} {pl : va_W} {hp : Nat} {nt2 nw ch ru ab tk Dn os D2 op0 cnt0 op cnt fd fd2 nodes ks : Int} {T : Nat → Nat → Int} {V V2 : List Int} (hd : zDo on ln mkA wc Dn os on2 ln2 mk2 un2 D2) (k1 : zKl s i fr nw ro cs nxc fc lc bt ch ru ab tk h l Dn T V) (k2 : zMd g sz W ta ke D2 T V2) (k3 : V.Perm V2) (k4 : zMb ti bo D2 T) (k5 : ∀ x : Nat, (x : Int) < Dn → zT8 (T x) ∧ zT9 (T x)) (te : zTe f f2 nt) (en : nt2 = nt) (hn : nt ≤ 600) (tii : zTi ss i2 fr2 ns sg ssz ks) (pg : zPgO rf0 rk0 wn0 op0) (sdp : ∃ (rk1 : Nat → Int32) (M1 : Nat → Nat → Prop), zSdp std0 sn0 rk1 cnt0 M1) (hc : zyT f nt len (zqa cd kd lo hi sd ph ct, lv, pw, zZc f nt s nw ss ns)) (hF : zFic hp rf0 s i fr nw ro cs nxc fc lc bt ch ru ab tk h l rk0 wn0 op0 std0 sn0 cnt0 rf pl rk wn op std sn cnt kd lo hi ph sd pw lv cd len on mkA Dn nums fd (if 0 < len then Dn else 0)) (hm : zxR f2 nt2 cn (zma cd2 wh lf rt nm lw lfr lmn lto wd ws, leaves, wants, zWmq f2 nt2)) (hR : (cn = 0 ∧ fd2 = 0) ∨ (1 ≤ cn ∧ nodes = cn ∧ zMeI sg ssz ks g sz W wd ws me wants ∧ zIbE g sz W wd ws lw lfr ib leaves ∧ zFrI ta lw lfr lmn me ib wh lf nm rt lto nodes on2 ti bo mk2 D2 (nodes - 1).toNat hits fd2 D2)) (l4 : lv ≤ 40) (p1 : pw ≤ 160) : zHtq nums fd hits fd2 ∧ zPst rf nw rk wn op (zQa kd lo hi ph pw lv) ∧ ∃ (rk1 : Nat → Int32) (M1 : Nat → Nat → Prop), zSdp std sn rk1 cnt M1 := by
  subst en
  have ef : f = f2 := funext te.1
  subst ef
  have eD := hd.1
  subst eD
  obtain ⟨t1, t2, t3, t4⟩ := tii
  have Dc : zDcs s nw ss ns sg ssz ks g sz W V2 := ⟨k1.1.1, t2.1, t4, t3, k2.1, fun x => by rw [← k3.mem_iff]; exact zVo_m k1.1⟩
  rcases zBth_i te.2 hn hc hm with ⟨c1, c2, c3⟩ | ⟨K, lvx, c1, c2, c3⟩
  · have pre : zFpre rf0 s i fr nw ro cs nxc fc lc bt ch ru ab tk h l rk0 wn0 op0 std0 sn0 cnt0 kd lo hi ph pw lv cd len Dn T V := ⟨k1, pg, sdp, k5, fun a ha => by have c3' : lv ≤ 0 := c3; omega, l4, fun j hj => by omega⟩
    obtain ⟨r1, r2, r3, r4⟩ := hF T V pre
    refine ⟨?_, r1, r3⟩
    rw [if_neg (by omega)] at r4
    have r4' : fd = 0 := r4
    rcases hR with ⟨q1, q2⟩ | ⟨q1, _⟩
    · exact ⟨by omega, fun j hj => by omega⟩
    · omega
  · have hW := c1.1.2.2.1 zWl_0
    have hlen : 0 < K.length := c1.1.2.1
    have e1 := c2.1
    have e2 := c3.1
    rcases hR with ⟨q1, q2⟩ | ⟨q0, q1, q2, q3, q4⟩
    · omega
    · subst q1
      have pre : zFpre rf0 s i fr nw ro cs nxc fc lc bt ch ru ab tk h l rk0 wn0 op0 std0 sn0 cnt0 kd lo hi ph pw lv cd len Dn T V := ⟨k1, pg, sdp, k5, zQw_i c1 c2 c3 Dc q2 p1, zQcd_i c1 c2 c3 Dc q2 q3 l4⟩
      obtain ⟨r1, r2, r3, r4⟩ := hF T V pre
      rw [if_pos (by omega)] at r4
      refine ⟨?_, r1, r3⟩
      have hN : zNwf wh lf rt nodes := zCm_w c3 hW
      have hSx : ∀ d : Nat, ∃ S : Nat → Nat → Prop, ∀ p : Nat, zSae wh lf nm (zMq ta lw lfr lmn me ib (d : Int) (p : Int)) (p : Int) nodes (S p) := fun d => zS_x hN (fun p => zMq ta lw lfr lmn me ib (d : Int) (p : Int))
      obtain ⟨S, hS⟩ := Classical.skolem.mp hSx
      have hVx : ∀ d : Nat, ∃ V' : Nat → Prop, zVe wh lf rt nm lfr lto (S d) (ti d).toInt (bo d).toInt (mk2 d).toInt nodes V' := fun d => zV_x hN (S d)
      obtain ⟨V', hV⟩ := Classical.skolem.mp hVx
      have rf4 := q4 S V' (fun d hd' => ⟨fun p _ => hS d p, hV d⟩)
      have r5 : zHrr nums (fun d => (on2 d).toInt ≠ 0 ∧ V' d (nodes - 1).toNat) Dn.toNat fd := zHrr_q r4 (fun d hd' => by
        have o := hd.2.1 d (by omega)
        have rw_ := k2.2.2.2.1 d (by omega)
        have mb := k4 d (by omega)
        have v := (zDocV (mk := (mk2 d).toInt) (S := S d) (V' := V' d) c1 c2 c3 Dc rw_.1 q2 q3 mb.2.2.2.2 (k5 d (by omega)).1.1 mb.2.1 mb.2.2.2.1 (fun p _ => hS d p) (hV d)).1
        rw [o.1, o.2.2.1]
        exact and_congr Iff.rfl v)
      exact zHrr_u r5 rf4
end ZHS
theorem zcnt_u {t : Nat → Int} {a : Nat} {w : Int} : ∀ k : Nat, zcnt (zuf t a w) k ≤ zcnt t k + (if a < k then 1 else 0) := by
  intro k
  induction k with
  | zero => exact Nat.le_refl _
  | succ k ih =>
    show zcnt (zuf t a w) k + (if zuf t a w k ≠ 0 then 1 else 0) ≤ zcnt t k + (if t k ≠ 0 then 1 else 0) + (if a < k + 1 then 1 else 0)
    by_cases c : k = a
    · rw [if_neg (show ¬ a < k from by omega)] at ih
      rw [if_pos (show a < k + 1 from by omega)]
      split <;> split <;> omega
    · have e : zuf t a w k = t k := zuf_n c
      rw [e]
      by_cases c2 : a < k
      · rw [if_pos c2] at ih
        rw [if_pos (show a < k + 1 from by omega)]
        omega
      · rw [if_neg c2] at ih
        rw [if_neg (show ¬ a < k + 1 from by omega)]
        omega
theorem zRq_9 {f : Nat → Int32} {n : Int} {S : Int → Bool} {V : List Int} (k : Nat) : (∀ q : Nat, (zRq f n S V k).1 q ≠ 0 → (q < 512 ∧ 2 * q + 1 ≤ k) ∨ (512 ≤ q ∧ 2 * q + 1 ≤ k + 1024)) ∧ zcnt (zRq f n S V k).1 1024 ≤ (zRq f n S V k).2.2.2.1 := by
  induction k with
  | zero =>
    refine ⟨fun q h => absurd rfl h, ?_⟩
    have z : ∀ m : Nat, zcnt (fun _ => (0 : Int)) m = 0 := fun m => by
      induction m with
      | zero => rfl
      | succ m ih => show zcnt (fun _ => (0 : Int)) m + 0 = 0; rw [ih]
    exact Nat.le_of_eq (z 1024)
  | succ k ih =>
    obtain ⟨i1, i2⟩ := ih
    have i1' : ∀ q : Nat, (zRq f n S V k).1 q ≠ 0 → (q < 512 ∧ 2 * q + 1 ≤ k + 1) ∨ (512 ≤ q ∧ 2 * q + 1 ≤ k + 1 + 1024) := fun q h => by
      rcases i1 q h with c | c
      · exact Or.inl ⟨c.1, by omega⟩
      · exact Or.inr ⟨c.1, by omega⟩
    have e : zRq f n S V (k + 1) = zRqs f n S k (zRq f n S V k) := rfl
    have b := zRq_b (f := f) (n := n) (S := S) (V := V) k
    have b2 := zRq_n (f := f) (n := n) (S := S) (V := V) k
    rw [e]
    unfold zRqs
    by_cases c1 : (zRq f n S V k).2.2.2.2 = false
    · rw [if_pos c1]
      exact ⟨i1', i2⟩
    · rw [if_neg c1]
      by_cases c2 : (zRq f n S V k).2.1 < 512 ∧ (f k).toInt = 10
      · rw [if_pos c2]
        exact ⟨i1', i2⟩
      · rw [if_neg c2]
        by_cases c3 : zsb f n k = true
        · rw [if_pos c3]
          have c3' := c3
          unfold zsb at c3'
          rw [Bool.and_eq_true, Bool.not_eq_true'] at c3'
          by_cases c4 : zkO S (zRq f n S V k).2.2.1 (zwd f n k) = true
          · rw [if_pos c4]
            have p0 := b.2.2.1
            have p1 := b.2.2.2.2 c3'.2
            show (∀ q : Nat, zkT S (zRq f n S V k).1 (zRq f n S V k).2.1 (zwd f n k) q ≠ 0 → _) ∧ zcnt (zkT S (zRq f n S V k).1 (zRq f n S V k).2.1 (zwd f n k)) 1024 ≤ (zRq f n S V k).2.2.2.1 + zkC S (zwd f n k)
            unfold zkT zkC
            by_cases c5 : S (zwd f n k) = true
            · rw [if_pos c5, if_pos c5]
              exact ⟨i1', by omega⟩
            · rw [if_neg c5, if_neg c5]
              refine ⟨fun q h => ?_, ?_⟩
              · by_cases c6 : q = (zRq f n S V k).2.1.toNat
                · rcases Int.lt_or_le (zRq f n S V k).2.1 512 with c7 | c7
                  · have := (b2 c7).2 c3'.2
                    exact Or.inl ⟨by omega, by omega⟩
                  · exact Or.inr ⟨by omega, by omega⟩
                · rw [zuf_n c6] at h
                  exact i1' q h
              · have u := zcnt_u (t := (zRq f n S V k).1) (a := (zRq f n S V k).2.1.toNat) (w := zwd f n k) 1024
                split at u <;> omega
          · rw [if_neg c4]
            exact ⟨i1', i2⟩
        · rw [if_neg c3]
          exact ⟨i1', i2⟩
theorem zRq_8 {f : Nat → Int32} {n : Int} {S : Int → Bool} {V : List Int} (hn : n ≤ 600) : zT8 (zRq f n S V n.toNat).1 ∧ zT9 (zRq f n S V n.toNat).1 := by
  obtain ⟨h1, h2⟩ := zRq_9 (f := f) (n := n) (S := S) (V := V) n.toNat
  have b := (zRq_b (f := f) (n := n) (S := S) (V := V) n.toNat).1
  refine ⟨⟨fun p hp => ?_, by omega⟩, fun p h5 hp => ?_⟩
  · rcases h1 p hp with c | c <;> omega
  · rcases h1 p hp with c | c <;> omega
theorem zT8_o {on : Nat → Int32} {T : Nat → Nat → Int} {d : Nat} (h : zT8 (T d) ∧ zT9 (T d)) : zT8 (zTo on T d) ∧ zT9 (zTo on T d) := by
  by_cases c : (on d).toInt ≠ 0
  · have e : zTo on T d = T d := by
      funext k
      unfold zTo
      rw [if_pos c]
    rw [e]
    exact h
  · have e : zTo on T d = fun _ => 0 := by
      funext k
      unfold zTo
      rw [if_neg c]
    rw [e]
    have z : ∀ m : Nat, zcnt (fun _ => (0 : Int)) m = 0 := fun m => by
      induction m with
      | zero => rfl
      | succ m ih => show zcnt (fun _ => (0 : Int)) m + 0 = 0; rw [ih]
    exact ⟨⟨fun p hp => absurd rfl hp, by rw [z]; exact Nat.zero_le _⟩, fun p _ hp => absurd rfl hp⟩
def zTiq (s : Nat → Int64) (i fr : Nat → Int32) (nw : Int) (ro cs nxc fc lc bt : Nat → Int32) (ch ru ab tk : Int) (h l : Nat → Int32) (D : Int) (on ln mk wc : Nat → Int32) (os : Int) (g sz : Nat → Int32) (W : Int) (ta ke : Nat → Int32) (D2 : Int) (on2 ln2 mk2 un2 ti bo : Nat → Int32) : Prop := zDo on ln mk wc D os on2 ln2 mk2 un2 D2 ∧ ∃ (T : Nat → Nat → Int) (V V2 : List Int), zKl s i fr nw ro cs nxc fc lc bt ch ru ab tk h l D T V ∧ zMd g sz W ta ke D2 T V2 ∧ V.Perm V2 ∧ zMb ti bo D2 T ∧ ∀ d : Nat, (d : Int) < D → zT8 (T d) ∧ zT9 (T d)
section ZTIQ
variable {s s3 : Nat → Int64} {ti bo ti3 bo3 : Nat → Int32} {i fr ro cs nxc fc lc bt h l on ln mk wc g sz ta ke on2 ln2 mk2 un2 i3 fr3 ro3 cs3 nx3 fc3 lc3 bt3 h3 l3 on3 ln3 mk3 wc3 g3 sz3 ta3 ke3 on4 ln4 mk4 un4 : Nat → Int32} {nw ch ru ab tk D os W D2 nw3 ch3 ru3 ab3 tk3 D3 os3 W3 D4 : Int}
theorem zTiq_e {f f2 : Nat → Int32} {n n2 : Int} {s2 : Nat → Int64} {i2 fr2 sg ssz : Nat → Int32} {ns ks r r2 : Int} (ht : zTiq s i fr nw ro cs nxc fc lc bt ch ru ab tk h l D on ln mk wc os g sz W ta ke D2 on2 ln2 mk2 un2 ti bo) (te : zTe f f2 n) (en : n2 = n) (hn : n ≤ 600) (hn0 : 0 ≤ n) (tii : zTi s2 i2 fr2 ns sg ssz ks) (hc : zEk f n s i fr nw s2 ns ro cs nxc fc lc bt ch ru ab tk h l D s3 i3 fr3 nw3 ro3 cs3 nx3 fc3 lc3 bt3 ch3 ru3 ab3 tk3 h3 l3 D3 on ln mk wc on3 ln3 mk3 wc3 os os3 r) (hm : zEm f2 n2 g sz W ta ke D2 sg ssz ks g3 sz3 W3 ta3 ke3 D4 on2 ln2 mk2 un2 on4 ln4 mk4 un4 r2) (hen : zEn f2 n2 g sz W ta ke D2 sg ssz ks ti bo ti3 bo3) : r = r2 ∧ zTiq s3 i3 fr3 nw3 ro3 cs3 nx3 fc3 lc3 bt3 ch3 ru3 ab3 tk3 h3 l3 D3 on3 ln3 mk3 wc3 os3 g3 sz3 W3 ta3 ke3 D4 on4 ln4 mk4 un4 ti3 bo3 := by
  subst en
  have ef : f = f2 := funext te.1
  subst ef
  obtain ⟨hd, T, V, V2, k1, k2, k3, k4, k5⟩ := ht
  have eD := hd.1
  subst eD
  obtain ⟨t1, t2, t3, t4⟩ := tii
  have a := hc (zsS s2 ns) T V ⟨te.2, hn, t2.1, fun x => zsS_i, k1⟩
  have b := hm (zsS s2 ns) T V2 te.2 hn hn0 t3 (fun x => by rw [zsS_i]; exact t4 x) k2
  have en9 := hen (zsS s2 ns) T V2 te.2 hn hn0 t3 (fun x => by rw [zsS_i]; exact t4 x) k2
  have p := zRq_p (f := f) (n := n2) (S := zsS s2 ns) k3 n2.toNat
  have lv : (zRq f n2 (zsS s2 ns) V n2.toNat).2.2.1.length ≤ 400 ∨ True := Or.inr trivial
  have acc : zac f n2 (zsS s2 ns) T V D ↔ zac f n2 (zsS s2 ns) T V2 D := by
    unfold zac
    rw [p.1, p.2.2.2.2]
    have l4 := zRq_l (f := f) (n := n2) (S := zsS s2 ns) (V := V) (by have := k1.1.2.1; have := k1.1.2.2.1; omega) n2.toNat
    rw [zcs_p p.2.2.1 l4]
  rcases a with ⟨a0, a1, a2, a3, a4, a5, a6, a7, a8⟩ | ⟨a0, a1, a2, a3, a4, a5, a6, a7, a8⟩ <;> rcases b with ⟨b0, b1, b2, b3, b4, b5, b6, b7⟩ | ⟨b0, b1, b2, b3, b4, b5, b6, b7⟩
  · refine ⟨by omega, ?_⟩
    subst a2; subst b2
    rw [← p.2.2.2.1] at b5
    rw [← p.1, ← zdc_p p.2.2.1] at b7
    rw [← p.1] at b3
    refine ⟨zDo_a hd a0.1 a4 a5 a6 a7 a8 b4 b5 b6 b7, _, _, _, a3, b3, p.2.2.1, fun d hd' => ?_, fun d hd' => ?_⟩
    · by_cases c : d = D.toNat
      · have q := en9.2 b0
        rw [c, zuf_s, p.1]
        exact q
      · have q := en9.1 d (by omega)
        rw [zuf_n c, q.1, q.2]
        exact k4 d (by omega)
    · by_cases c : d = D.toNat
      · rw [c, zuf_s]
        exact zRq_8 hn
      · rw [zuf_n c]
        exact k5 d (by omega)
  · exact absurd (acc.mp a0) b0
  · exact absurd (acc.mpr b0) a0
  · refine ⟨by omega, ?_⟩
    subst a2; subst b2; subst a4; subst a5; subst a6; subst a7; subst a8; subst b4; subst b5; subst b6; subst b7
    exact ⟨hd, T, V, V2, a3, b3, k3, fun d hd' => by have q := en9.1 d hd'; rw [q.1, q.2]; exact k4 d hd', k5⟩
theorem zTiq_t {r r2 : Int} (ht : zTiq s i fr nw ro cs nxc fc lc bt ch ru ab tk h l D on ln mk wc os g sz W ta ke D2 on2 ln2 mk2 un2 ti bo) (hc : zYf s i fr nw ro cs nxc fc lc bt ch ru ab tk h l on D s3 i3 fr3 nw3 ro3 cs3 nx3 fc3 lc3 bt3 ch3 ru3 ab3 tk3 h3 l3 r) (hm : zYn g sz W ta ke on2 D2 g3 sz3 W3 ta3 ke3 r2) : r = r2 ∧ zTiq s3 i3 fr3 nw3 ro3 cs3 nx3 fc3 lc3 bt3 ch3 ru3 ab3 tk3 h3 l3 D on ln mk wc os g3 sz3 W3 ta3 ke3 D2 on2 ln2 mk2 un2 ti bo := by
  obtain ⟨hd, T, V, V2, k1, k2, k3, k4, k5⟩ := ht
  have eD := hd.1
  subst eD
  have l4 : V.length ≤ 400 := by have := k1.1.2.1; have := k1.1.2.2.1; omega
  have c0 := k1.2.2.2.1
  obtain ⟨a1, a2⟩ := hc T V k1
  obtain ⟨V1, b1, b2, b3⟩ := hm T V2 k2 (Nat.le_trans (Nat.le_of_eq (zcs_p k3 l4).symm) c0)
  have eT : ∀ d : Nat, (d : Int) < D → zTo on2 T d = zTo on T d := fun d hd' => by
    have q := (hd.2.1 d hd').1
    unfold zTo
    rw [q]
  have a1' := zKl_c (T' := zTo on2 T) a1 eT
  have ek : ∀ w, zkp on2 T D w = zkp on T D w := fun w => by
    unfold zkp
    rw [(zPq_c (T := zTo on T) (T' := zTo on2 T) (w := w) (D := D.toNat) (fun d hd' => eT d (by omega))).2.2]
  have pm : (V.filter (zkp on T D)).Perm V1 := by
    rw [List.perm_ext_iff_of_nodup ((zVo_nd k1.1).filter _) (zMv_nd b1.1)]
    intro x
    rw [b2 x, List.mem_filter, List.mem_filter, k3.mem_iff, ek x]
  have lf : (V.filter (zkp on T D)).length ≤ 400 := Nat.le_trans (List.length_filter_le _ _) l4
  have q1 := zcs_p (T := zTo on2 T) (D := D.toNat) pm lf
  have c1 : zcs (zBv (zTo on2 T) (V.filter (zkp on T D)) D.toNat) ≤ 40000 := a1'.2.2.2.1
  have c2 : zcs (zBv (zTo on2 T) V1 D.toNat) ≤ 40000 := Nat.le_trans (Nat.le_of_eq q1.symm) c1
  have q2 := b3 c2
  have eB := zBv_c (T := zTo on T) (T' := zTo on2 T) (V := V.filter (zkp on T D)) (D := D.toNat) (fun d hd' => eT d (by omega))
  have q3 := zcs_p (T := T) (D := D.toNat) k3 l4
  have q4 := congrArg zcs eB
  exact ⟨by omega, hd, _, _, _, a1', b1, pm, fun d hd' => by
    obtain ⟨z1, z2, z3, z4, z5⟩ := k4 d hd'
    refine ⟨z1, z2, z3, z4, fun q hq => z5 q (fun e => hq ?_)⟩
    unfold zTo
    split
    · exact e
    · rfl, fun d hd' => zT8_o (k5 d hd')⟩
theorem zTiq_o {P P2 : Int32} {r r2 : Int} (ht : zTiq s i fr nw ro cs nxc fc lc bt ch ru ab tk h l D on ln mk wc os g sz W ta ke D2 on2 ln2 mk2 un2 ti bo) (hc : zRv on D P r on on3 0) (hm : zRv on2 D2 P2 r2 on2 on4 0) (eP : P2 = P) (o1 : zW (r = 1 → 0 ≤ os → os3 = os - 1)) (o0 : zW (r = 0 → os3 = os)) : r = r2 ∧ zTiq s i fr nw ro cs nxc fc lc bt ch ru ab tk h l D on3 ln mk wc os3 g sz W ta ke D2 on4 ln2 mk2 un2 ti bo := by
  subst eP
  obtain ⟨hd, ex⟩ := ht
  obtain ⟨a1, a2, a3, a4, a5, a6⟩ := hd
  obtain ⟨c1, c2⟩ := hc
  obtain ⟨m1, m2⟩ := hm
  subst a1
  have hi : r = 1 ↔ r2 = 1 := by
    rw [c1.2, m1.2]
    constructor
    · rintro ⟨q1, q2, q3⟩
      exact ⟨q1, q2, by rw [← (a2 _ (by have := zclamp q1; omega)).1]; exact q3⟩
    · rintro ⟨q1, q2, q3⟩
      exact ⟨q1, q2, by rw [(a2 _ (by have := zclamp q1; omega)).1]; exact q3⟩
  have er : r = r2 := by have := c1.1; have := m1.1; omega
  refine ⟨er, ?_, ex⟩
  rcases c2 with ⟨r1, u⟩ | ⟨r0, u⟩
  · rcases m2 with ⟨-, v⟩ | ⟨z, -⟩
    · have in_ := c1.2.mp r1
      have cl := zclamp in_.1
      refine ⟨rfl, fun d hd => ?_, a3, ?_, a5, a6⟩
      · obtain ⟨b1, b2⟩ := a2 d hd
        rw [u d, v d]
        by_cases c : d = P2.toNatClampNeg
        · rw [if_pos c, if_pos c]; exact ⟨rfl, b2⟩
        · rw [if_neg c, if_neg c]; exact ⟨b1, b2⟩
      · have q := zsu_u (F := fun d => if (on3 d).toInt ≠ 0 then 1 else 0) (G := fun d => if (on d).toInt ≠ 0 then 1 else 0) (k := P2.toNatClampNeg) (n := D.toNat) (by omega) (fun d _ c => by rw [u d, if_neg c])
        have e1 : (if (on3 P2.toNatClampNeg).toInt ≠ 0 then 1 else 0) = 0 := by rw [u P2.toNatClampNeg, if_pos rfl]; rfl
        have e2 : (if (on P2.toNatClampNeg).toInt ≠ 0 then 1 else 0) = 1 := if_pos in_.2.2
        rw [e1, e2] at q
        rw [o1 r1 (by omega), a4]
        omega
    · omega
  · rcases m2 with ⟨z, -⟩ | ⟨-, v⟩
    · omega
    · rw [u, v, o0 r0]
      exact ⟨rfl, a2, a3, a4, a5, a6⟩
theorem zTiq_m {P P2 : Int32} {r r2 v : Int} (ht : zTiq s i fr nw ro cs nxc fc lc bt ch ru ab tk h l D on ln mk wc os g sz W ta ke D2 on2 ln2 mk2 un2 ti bo) {v2 : Int} (hc : zRv on D P r mk mk3 v) (hm : zRv on2 D2 P2 r2 mk2 mk4 v2) (eP : P2 = P) (ev : v2 = v) : r = r2 ∧ zTiq s i fr nw ro cs nxc fc lc bt ch ru ab tk h l D on ln mk3 wc os g sz W ta ke D2 on2 ln2 mk4 un2 ti bo := by
  subst eP; subst ev
  obtain ⟨hd, ex⟩ := ht
  obtain ⟨a1, a2, a3, a4, a5, a6⟩ := hd
  obtain ⟨c1, c2⟩ := hc
  obtain ⟨m1, m2⟩ := hm
  subst a1
  have hi : r = 1 ↔ r2 = 1 := by
    rw [c1.2, m1.2]
    constructor
    · rintro ⟨q1, q2, q3⟩
      exact ⟨q1, q2, by rw [← (a2 _ (by have := zclamp q1; omega)).1]; exact q3⟩
    · rintro ⟨q1, q2, q3⟩
      exact ⟨q1, q2, by rw [(a2 _ (by have := zclamp q1; omega)).1]; exact q3⟩
  have er : r = r2 := by have := c1.1; have := m1.1; omega
  refine ⟨er, ?_, ex⟩
  rcases c2 with ⟨r1, u⟩ | ⟨r0, u⟩
  · rcases m2 with ⟨-, w⟩ | ⟨z, -⟩
    · have in_ := c1.2.mp r1
      have cl := zclamp in_.1
      refine ⟨rfl, fun d hd => ?_, fun d q1 q2 => ?_, a4, a5, a6⟩
      · obtain ⟨b1, b2, b3, b4⟩ := a2 d hd
        rw [u d, w d]
        by_cases c : d = P2.toNatClampNeg
        · rw [if_pos c, if_pos c]; exact ⟨b1, b2, rfl, b4⟩
        · rw [if_neg c, if_neg c]; exact ⟨b1, b2, b3, b4⟩
      · rw [u d, if_neg (by omega)]; exact a3 d q1 q2
    · omega
  · rcases m2 with ⟨z, -⟩ | ⟨-, w⟩
    · omega
    · rw [u, w]
      exact ⟨rfl, a2, a3, a4, a5, a6⟩
theorem zTiq_0 (hw : nw = 0) (hfr : ∀ j : Nat, j < 400 → fr j = 0) (hro : ∀ j : Nat, j < 1250 → ro j = 0) (hbt : ∀ j : Nat, j < 400 → bt j = 0) (h1 : ch = 0) (h2 : ru = 0) (h3 : ab = 0) (h4 : tk = 0) (hh : ∀ j : Nat, j < 400 → h j = 0) (hl : ∀ j : Nat, j < 400 → l j = 0) (hD : D = 0) (hmk : ∀ j : Nat, j < 120 → mk j = 0) (hos : os = 0) (hW : W = 0) (hta : ∀ j : Nat, j < 122880 → ta j = 0) (hD2 : D2 = 0) : zTiq s i fr nw ro cs nxc fc lc bt ch ru ab tk h l D on ln mk wc os g sz W ta ke D2 on2 ln2 mk2 un2 ti bo := by
  subst hw; subst hD; subst hD2; subst hW; subst hos
  have eB : zBv (fun _ _ => 0) [] (0 : Int).toNat = fun _ => [] := funext fun id => rfl
  refine ⟨⟨rfl, fun d hd => by omega, fun d _ hd => by rw [hmk d hd]; decide, rfl, Int.le_refl _, by decide⟩, fun _ _ => 0, [], [], ⟨⟨fun a b _ hb => by omega, rfl, by decide, fun a ha => by omega, fun id hid => by omega, hfr⟩, fun x hx => absurd hx List.not_mem_nil, by rw [eB]; exact zPB_0 hro hbt h1 h2 h3 h4, ?_, fun id hid => by rw [hh id hid, hl id hid]; exact ⟨rfl, rfl⟩, Int.le_refl _, by decide, fun d hd => absurd hd (Nat.not_lt_zero _)⟩, ⟨⟨⟨fun j hj => by omega, fun a b _ hb => by omega⟩, rfl, by decide, fun j hj => by omega, fun x hx => absurd hx List.not_mem_nil⟩, Int.le_refl _, by decide, fun d hd => by omega, fun j _ hj => by rw [hta j hj]; decide⟩, List.Perm.refl _, fun d hd => by omega, fun d hd => by omega⟩
  rw [eB]
  have z : ∀ m, zsu (fun _ => zco ([] : List Bool).length) m = 0 := fun m => by
    induction m with
    | zero => rfl
    | succ m ih => show zsu (fun _ => zco ([] : List Bool).length) m + 0 = 0; rw [ih]
  show zsu (fun _ => zco ([] : List Bool).length) 400 ≤ 40000
  rw [z]
  exact Nat.zero_le _
end ZTIQ
def zPgT (rf : Nat → Option Nat) (rk wn : Nat → Int32) (op : Int) (std sn : Nat → Int32) (cnt : Int) : Prop := zPgO rf rk wn op ∧ ∃ (rk1 : Nat → Int32) (M1 : Nat → Nat → Prop), zSdp std sn rk1 cnt M1
theorem zTiq_s {s ss : Nat → Int64} {sg ssz g sz wd ws me ta f cd cd2 wh lf rt nm lw lfr lmn lto ib ph kd lo hi sd ct f2 i fr ro cs nxc fc lc bt h l on ln mkA wc ke on2 ln2 mk2 un2 ti bo i2 fr2 rk0 wn0 std0 sn0 rk wn std sn nums hits : Nat → Int32} {rf0 rf : Nat → Option Nat} {pl : va_W} {hp : Nat} {ns W nt pw lv len cn leaves wants nt2 nw ch ru ab tk Dn os D2 op0 cnt0 op cnt fd fd2 nodes ks : Int} (ht : zTiq s i fr nw ro cs nxc fc lc bt ch ru ab tk h l Dn on ln mkA wc os g sz W ta ke D2 on2 ln2 mk2 un2 ti bo) (te : zTe f f2 nt) (en : nt2 = nt) (hn : nt ≤ 600) (tii : zTi ss i2 fr2 ns sg ssz ks) (pg : zPgT rf0 rk0 wn0 op0 std0 sn0 cnt0) (hc : zyT f nt len (zqa cd kd lo hi sd ph ct, lv, pw, zZc f nt s nw ss ns)) (hF : zFic hp rf0 s i fr nw ro cs nxc fc lc bt ch ru ab tk h l rk0 wn0 op0 std0 sn0 cnt0 rf pl rk wn op std sn cnt kd lo hi ph sd pw lv cd len on mkA Dn nums fd (if 0 < len then Dn else 0)) (hm : zxR f2 nt2 cn (zma cd2 wh lf rt nm lw lfr lmn lto wd ws, leaves, wants, zWmq f2 nt2)) (hR : (cn = 0 ∧ fd2 = 0) ∨ (1 ≤ cn ∧ nodes = cn ∧ zMeI sg ssz ks g sz W wd ws me wants ∧ zIbE g sz W wd ws lw lfr ib leaves ∧ zFrI ta lw lfr lmn me ib wh lf nm rt lto nodes on2 ti bo mk2 D2 (nodes - 1).toNat hits fd2 D2)) (l4 : lv ≤ 40) (p1 : pw ≤ 160) : zHtq nums fd hits fd2 ∧ zPgT rf rk wn op std sn cnt := by
  obtain ⟨hd, T, V, V2, k1, k2, k3, k4, k5⟩ := ht
  obtain ⟨a1, a2, a3⟩ := zHits hd k1 k2 k3 k4 k5 te en hn tii pg.1 pg.2 hc hF hm hR l4 p1
  exact ⟨a1, zPst_o a2, a3⟩
theorem zHtq_0 {nums hits : Nat → Int32} {fd fd2 : Int} (h1 : fd = 0) (h2 : fd2 = 0) : zHtq nums fd hits fd2 := ⟨by omega, fun j hj => by omega⟩
theorem zPgT_0 {rf : Nat → Option Nat} {rk wn std sn : Nat → Int32} {op cnt : Int} (h1 : ∀ j : Nat, j < 400 → rf j = none) (h2 : op = 0) (h3 : ∀ j : Nat, j < 400 → wn j = 0) (h4 : ∀ j : Nat, j < 832 → (std j).toInt = -1) (h5 : cnt = 0) : zPgT rf rk wn op std sn cnt := by
  refine ⟨⟨fun i j a hi hj e1 e2 => (by rw [h1 i hi] at e1; cases e1), by omega, by omega, fun w hw hne => absurd (by rw [h3 w hw]; decide) hne⟩, fun _ => 0, fun _ _ => False, ?_⟩
  exact ⟨by omega, fun p hp => Or.inl ⟨h4 p hp, fun a q => q⟩, fun c hc => by omega, fun p hp q => by have := h4 p hp; omega⟩
theorem zTh_c {nums hits : Nat → Int32} {fd fd2 p p2 : Int} {R z : Int32} {y y2 : Int64} (h : zHtq nums fd hits fd2) (hc : y.toInt = zNm nums fd p) (hm : R.toInt = zNm hits fd2 p2) (ep : p2 = p) (ey : y2 = R.toInt64) (ez : z = lg_cmp y y2) : z.toInt = 0 := by
  subst ep
  obtain ⟨h1, h2⟩ := h
  subst h1
  have er : y.toInt = R.toInt := by
    rw [hc, hm]
    unfold zNm
    by_cases c : 0 ≤ p2 ∧ p2 < fd
    · rw [if_pos c, if_pos c]
      exact h2 p2.toNat (by omega)
    · rw [if_neg c, if_neg c]
  have q := zlcmp ez
  have e2 : y2.toInt = R.toInt := by rw [ey, Int32.toInt_toInt64]
  omega
def zRkT (nu sc sh rk : Nat → Int32) (fd : Int) (rk2 sc2 pl2 : Nat → Int32) (fd2 : Int) : Prop := fd = fd2 ∧ ∀ j : Nat, (j : Int) < fd → zTrp nu sc sh (rk j).toInt.toNat = zTrp rk2 sc2 pl2 j
theorem zRkT_0 {nu sc sh rk rk2 sc2 pl2 : Nat → Int32} {fd fd2 : Int} (h1 : fd = 0) (h2 : fd2 = 0) : zRkT nu sc sh rk fd rk2 sc2 pl2 fd2 := ⟨by omega, fun j hj => by omega⟩
theorem zRkT_f {nu sc sh rk rk2 sc2 pl2 : Nat → Int32} {fd fd2 : Int} (h : zRkT nu sc sh rk fd rk2 sc2 pl2 fd2) : fd = fd2 := h.1
theorem zHrr_m {nums : Nat → Int32} {Q : Nat → Prop} : ∀ {k : Nat} {f : Int}, zHrr nums Q k f → ∀ t : Nat, (t : Int) < f → 0 ≤ (nums t).toInt ∧ (nums t).toInt < (k : Int) ∧ Q (nums t).toInt.toNat := by
  intro k
  induction k with
  | zero => intro f h t ht; have h' : f = 0 := h; omega
  | succ k ih =>
    intro f h t ht
    rcases h with ⟨h1, h2, h3, h4⟩ | ⟨_, h4⟩
    · by_cases c : (t : Int) = f - 1
      · have et : t = (f - 1).toNat := by omega
        rw [et, h3]
        exact ⟨by omega, by omega, by rw [show ((k : Int)).toNat = k from by omega]; exact h1⟩
      · obtain ⟨a1, a2, a3⟩ := ih h4 t (by omega)
        exact ⟨a1, by omega, a3⟩
    · obtain ⟨a1, a2, a3⟩ := ih h4 t ht
      exact ⟨a1, by omega, a3⟩
theorem zsu_C {on : Nat → Int32} : ∀ k : Nat, zCnR (fun d => (on d).toInt ≠ 0) k ((zsu (fun d => if (on d).toInt ≠ 0 then 1 else 0) k : Nat) : Int) := by
  intro k
  induction k with
  | zero => exact rfl
  | succ k ih =>
    have e : zsu (fun d => if (on d).toInt ≠ 0 then 1 else 0) (k + 1) = zsu (fun d => if (on d).toInt ≠ 0 then 1 else 0) k + (if (on k).toInt ≠ 0 then 1 else 0) := rfl
    by_cases c : (on k).toInt ≠ 0
    · refine Or.inl ⟨c, ?_⟩
      rw [e, if_pos c, show ((zsu (fun d => if (on d).toInt ≠ 0 then 1 else 0) k + 1 : Nat) : Int) - 1 = ((zsu (fun d => if (on d).toInt ≠ 0 then 1 else 0) k : Nat) : Int) from by omega]
      exact ih
    · refine Or.inr ⟨c, ?_⟩
      rw [e, if_neg c, Nat.add_zero]
      exact ih
theorem zCnR_m {P P' : Nat → Prop} : ∀ {k : Nat} {w w' : Int}, zCnR P k w → zCnR P' k w' → (∀ j : Nat, j < k → P j → P' j) → w ≤ w' := by
  intro k
  induction k with
  | zero => intro w w' h h' _; have a : w = 0 := h; have b : w' = 0 := h'; omega
  | succ k ih =>
    intro w w' h h' hP
    rcases h with ⟨h1, h2⟩ | ⟨h1, h2⟩ <;> rcases h' with ⟨g1, g2⟩ | ⟨g1, g2⟩
    · have := ih h2 g2 (fun j hj => hP j (by omega)); omega
    · exact absurd (hP k (by omega) h1) g1
    · have := ih h2 g2 (fun j hj => hP j (by omega)); omega
    · exact ih h2 g2 (fun j hj => hP j (by omega))
theorem zUWs_4 {K : List Int} {u w : Int} (h : zUWs [] K u w) : ∀ e ∈ K, 1 ≤ e / 1000 % 1000 ∧ (e / 1000 % 1000 = 4 → e / 1000000000 = 0) := fun e he => by
  obtain ⟨hl, _, U, W, T, hg⟩ := h
  obtain ⟨i, hi, ei⟩ := List.mem_iff_getElem.mp he
  have ei2 : K.getD i 0 = e := by rw [← ei]; simp [hi]
  have ul := hg.2.2.2 i (Nat.zero_le i) hi
  rw [ei2] at ul
  exact ⟨ul.2.1, ul.1.2.2.1⟩
theorem zIl_s {lo : Nat → Int32} {a : Nat} {s : Int} {p : Nat} (h : (lo a).toInt = zsw s) (s0 : 0 ≤ s) (s3 : s ≤ 3) : zIl lo (a : Int) (p : Int) ↔ zsid s p := by
  have ea : ((a : Int)).toNat = a := by omega
  unfold zIl zsid
  rw [ea, h]
  unfold zsw
  by_cases c3 : s = 3
  · rw [if_pos c3]
    exact ⟨fun _ => ⟨fun _ => Or.inr c3, fun _ => Or.inr c3⟩, fun _ => Or.inl rfl⟩
  · rw [if_neg c3]
    by_cases c0 : s = 0
    · rw [if_pos c0]
      constructor
      · intro q
        exfalso
        omega
      · rintro ⟨q1, q2⟩
        by_cases c : p < 512
        · have := q1 c; omega
        · have := q2 (by omega); omega
    · rw [if_neg c0]
      constructor
      · intro q; exact ⟨fun c => by omega, fun c => by omega⟩
      · rintro ⟨q1, q2⟩
        by_cases c : p < 512
        · have := q1 c; omega
        · have := q2 (by omega); omega
def zLfs (ct kd co : Nat → Int32) (s : Nat → Int64) (n : Int) (lo hi ph sd : Nat → Int32) (pw : Int) (t : Nat → Int) (ta lw lfr lmn me ib lo2 : Nat → Int32) (tt bd lv : Int) (d : Nat) : Prop := ∀ a : Nat, (a : Int) < lv → (kd a).toInt ≠ 4 → ∀ p : Nat, (p < 832 ∧ zLcc s n kd lo hi ph sd pw t a p) ↔ zPrd tt bd p ∧ zHt ta lw lfr lmn me ib lo2 (a : Int) (d : Int) (p : Int)
section ZRT
variable {s ss : Nat → Int64} {sg ssz g sz wd ws me ta f cd cd2 wh lf rt nm lw lfr lmn lto ib ph kd lo hi sd ct co lo2 c0 l0 : Nat → Int32} {n ns sn W nt pw lv lvx len cn leaves wants tt bd : Int} {V K : List Int} {t : Nat → Int} {d : Nat}
theorem zLv_e (hCe : zCe (zqa cd kd lo hi sd ph ct, lv, pw, zZc f nt s n ss ns) len K) (hs : zUWs [] K 1 0) (hI : zLvI K leaves) : lv.toNat = leaves.toNat := by
  have h1 : ∀ a : Nat, (a : Int) < lv → (a : Int) < leaves := fun a ha => by
    obtain ⟨e, e1, e2, e3, e4⟩ := hCe.2.2.2 a ha
    obtain ⟨i, hi', ei⟩ := List.mem_iff_getElem.mp e1
    have ei2 : K.getD i 0 = e := by rw [← ei]; simp [hi']
    have q := hI.1 i hi' (by rw [ei2]; exact e3)
    rw [ei2] at q
    omega
  have h2 : ∀ a : Nat, (a : Int) < leaves → (a : Int) < lv := fun a ha => by
    obtain ⟨i, i1, i2, i3⟩ := hI.2.2 (a : Int) (by omega) ha
    have m := zgd_m i1
    have k := (zUWs_4 hs _ m).1
    have o := ((hCe.2.2.1 _ m).2 k i2).1
    have o1 : K.getD i 0 % 1000 < lv := o
    omega
  rcases Nat.lt_trichotomy lv.toNat leaves.toNat with c | c | c
  · have := h2 lv.toNat (by omega); omega
  · exact c
  · have := h1 leaves.toNat (by omega); omega
theorem zCo_e (hCe : zCe (zqa cd kd lo hi sd ph ct, lv, pw, zZc f nt s n ss ns) len K) (hCm : zCm (zma cd2 wh lf rt nm lw lfr lmn lto wd ws, leaves, wants, zWmq f nt) cn K) (hs : zUWs [] K 1 0) (hI : zLvI K leaves) (hN : zNoR wh lf rt nm (cn - 1).toNat 0 0 c0 l0 co lo2) (a : Nat) (ha : (a : Int) < lv) : (ct a).toInt = (co a).toInt ∧ ((kd a).toInt = 4 → (ct a).toInt = 0) ∧ ∃ e ∈ K, e % 1000 = (a : Int) ∧ (kd a).toInt = e / 1000 % 1000 ∧ 1 ≤ e / 1000 % 1000 ∧ e / 1000 % 1000 ≤ 4 ∧ ((kd a).toInt ≠ 4 → (lo2 a).toInt = zsw (e / 1000000000 % 4)) := by
  obtain ⟨e, e1, e2, e3, e4⟩ := hCe.2.2.2 a ha
  have hlen : cn = (K.length : Int) := hCm.1
  have hN' : zNoR wh lf rt nm (K.length - 1) 0 0 c0 l0 co lo2 := by
    rw [show (cn - 1).toNat = K.length - 1 from by omega] at hN
    exact hN
  have ne := zNo_e hCm hs hI hN' e e1
  obtain ⟨u1, u2, u3, _⟩ := (hCe.2.2.1 e e1).2 e2 e3
  have ea : (e % 1000).toNat = a := by omega
  rw [ea] at u2 u3 ne
  have u2' : (kd a).toInt = e / 1000 % 1000 := u2
  have u3' : (ct a).toInt = e / 1000000000 / 4 := u3.2
  have z4 := (zUWs_4 hs e e1).2
  refine ⟨?_, fun k4 => ?_, e, e1, e4, u2', e2, e3, fun k4 => ?_⟩
  · by_cases c : e / 1000 % 1000 = 4
    · have q1 := ne.2 c
      have q2 := z4 c
      omega
    · have q := (ne.1 e2 (by omega)).1
      omega
  · have q2 := z4 (by omega)
    omega
  · exact (ne.1 e2 (by omega)).2
theorem zLfs_i (hCe : zCe (zqa cd kd lo hi sd ph ct, lv, pw, zZc f nt s n ss ns) len K) (hCm : zCm (zma cd2 wh lf rt nm lw lfr lmn lto wd ws, leaves, wants, zWmq f nt) cn K) (hW : zWl K) (hs : zUWs [] K 1 0) (hI : zLvI K leaves) (hN : zNoR wh lf rt nm (cn - 1).toNat 0 0 c0 l0 co lo2) (D : zDcs s n ss ns sg ssz sn g sz W V) (hrw : zRw ta (1024 * d) t V) (hMe : zMeI sg ssz sn g sz W wd ws me wants) (hIb : zIbE g sz W wd ws lw lfr ib leaves) (hz : ∀ p : Nat, t p ≠ 0 → zPrd tt bd p) (h8 : ∀ p : Nat, t p ≠ 0 → p < 832) (t5 : tt ≤ 512) (b5 : bd ≤ 512) : zLfs ct kd co s n lo hi ph sd pw t ta lw lfr lmn me ib lo2 tt bd lv d := fun a ha ka p => by
  obtain ⟨_, _, e, e1, e2, e3, e4, e5, e6⟩ := zCo_e hCe hCm hs hI hN a ha
  have hl := ((zLft_i (mk := 0) hCe hCm hW D hrw hMe hIb hz h8 t5 b5 e e1).2 e4 (by omega)).1 p
  rw [e2] at hl
  have hl' : (p < 832 ∧ zLcc s n kd lo hi ph sd pw t ((a : Int)).toNat p) ↔ zPrd tt bd p ∧ zsid (e / 1000000000 % 4) p ∧ zMt ta lw lfr lmn me ib (a : Int) (d : Int) (p : Int) = 1 := hl
  rw [show ((a : Int)).toNat = a from by omega] at hl'
  rw [hl']
  unfold zHt
  rw [zIl_s (e6 ka) (by omega) (by omega)]
end ZRT
section ZRU
variable {s : Nat → Int64} {ct kd co lo hi ph sd ta lw lfr lmn me ib lo2 ti bo on on2 : Nat → Int32} {n pw tt bd lv leaves f : Int} {t : Nat → Int} {T : Nat → Nat → Int} {d : Nat}
theorem zLfs_w (h : zLfs ct kd co s n lo hi ph sd pw t ta lw lfr lmn me ib lo2 tt bd lv d) {a : Nat} (ha : (a : Int) < lv) (ka : (kd a).toInt ≠ 4) (hw : zWtR (zLcc s n kd lo hi ph sd pw t a) 832 f) : zWtR (zWgP tt bd (zHt ta lw lfr lmn me ib lo2 (a : Int) (d : Int))) 1024 f := by
  have q := zWtR_c (P' := zWgP tt bd (zHt ta lw lfr lmn me ib lo2 (a : Int) (d : Int))) hw (fun j hj => ⟨fun g => (h a ha ka j).mp ⟨hj, g⟩, fun g => ((h a ha ka j).mpr g).2⟩)
  exact zWtR_k q 192 (fun i i1 _ g => by have := ((h a ha ka i).mpr g).1; omega)
theorem zLfs_d (h : zLfs ct kd co s n lo hi ph sd pw t ta lw lfr lmn me ib lo2 (ti d).toInt (bo d).toInt lv d) {a : Nat} (ha : (a : Int) < lv) (ka : (kd a).toInt ≠ 4) : (∃ q : Nat, q < 832 ∧ zLcc s n kd lo hi ph sd pw t a q) ↔ zWd ta lw lfr lmn me ib lo2 ti bo (a : Int) (d : Int) := by
  have ed : ((d : Int)).toNat = d := by omega
  constructor
  · rintro ⟨q, q1, q2⟩
    obtain ⟨g1, g2⟩ := (h a ha ka q).mp ⟨q1, q2⟩
    unfold zWd zSm
    rw [ed]
    rcases g1 with g1 | ⟨g1, g3⟩
    · exact Or.inl ⟨(q : Int), by omega, g1, g2⟩
    · exact Or.inr ⟨(q : Int), by omega, g3, g2⟩
  · unfold zWd zSm
    rw [ed]
    rintro (⟨p, p1, p2, p3⟩ | ⟨p, p1, p2, p3⟩)
    · have e : p = ((p.toNat : Nat) : Int) := by omega
      rw [e] at p3
      obtain ⟨z1, z2⟩ := (h a ha ka p.toNat).mpr ⟨Or.inl (by omega), p3⟩
      exact ⟨_, z1, z2⟩
    · have e : p = ((p.toNat : Nat) : Int) := by omega
      rw [e] at p3
      obtain ⟨z1, z2⟩ := (h a ha ka p.toNat).mpr ⟨Or.inr ⟨by omega, by omega⟩, p3⟩
      exact ⟨_, z1, z2⟩
theorem zLfs_s (h : zLfs ct kd co s n lo hi ph sd pw t ta lw lfr lmn me ib lo2 tt bd lv d) (el : lv.toNat = leaves.toNat) (hc : ∀ a : Nat, (a : Int) < lv → (ct a).toInt = (co a).toInt ∧ ((kd a).toInt = 4 → (ct a).toInt = 0)) {q : Nat} : (q < 832 ∧ zShC s n kd lo hi ph sd pw ct lv t q) ↔ zShP tt bd co ta lw lfr lmn me ib lo2 leaves (d : Int) q := by
  constructor
  · rintro ⟨q8, a, a1, a2, a3, a4⟩
    obtain ⟨g1, g2⟩ := (h a a1 a3 q).mp ⟨q8, a4⟩
    exact ⟨g1, a, by omega, by rw [← (hc a a1).1]; exact a2, g2⟩
  · rintro ⟨g1, a, a1, a2, a3⟩
    have a1' : (a : Int) < lv := by omega
    have c := hc a a1'
    have k4 : (kd a).toInt ≠ 4 := fun k => a2 (by rw [← c.1]; exact c.2 k)
    obtain ⟨z1, z2⟩ := (h a a1' k4 q).mpr ⟨g1, a3⟩
    exact ⟨z1, a, a1', by rw [c.1]; exact a2, k4, z2⟩
theorem zLfs_f (h : zLfs ct kd co s n lo hi ph sd pw t ta lw lfr lmn me ib lo2 tt bd lv d) (el : lv.toNat = leaves.toNat) (hc : ∀ a : Nat, (a : Int) < lv → (ct a).toInt = (co a).toInt ∧ ((kd a).toInt = 4 → (ct a).toInt = 0)) {r r' : Int} (h1 : zFuP (zShC s n kd lo hi ph sd pw ct lv t) r) (h2 : zShR (zShP tt bd co ta lw lfr lmn me ib lo2 leaves (d : Int)) r') : r = r' := by
  have g2 := h2 (fun q _ hq => ((zLfs_s h el hc).mpr hq).1)
  exact zFuP_u (zFuP_c h1 (fun q q8 => ⟨fun g => (zLfs_s h el hc).mp ⟨q8, g⟩, fun g => ((zLfs_s h el hc).mpr g).2⟩)) g2
end ZRU
theorem zTir {s ss : Nat → Int64} {sg ssz g sz wd ws me ta f cd cd2 wh lf rt nm lw lfr lmn lto ib ph kd lo hi sd ct f2 i fr ro cs nxc fc lc bt h l on ln mkA wc ke on2 ln2 mk2 un2 ti bo i2 fr2 rk0 wn0 std0 sn0 rk wn std sn nums hits : Nat → Int32} {w hv sc sh rkc co lo2 c0 l0 ma rk2 sc2 pl2 : Nat → Int32} {rf0 rf : Nat → Option Nat} {pl : va_W} {hp : Nat} {ns W nt pw lv len cn leaves wants nt2 nw ch ru ab tk Dn os D2 op0 cnt0 op cnt fd fd2 nodes ks wl : Int} {T : Nat → Nat → Int} {V V2 : List Int} (hd : zDo on ln mkA wc Dn os on2 ln2 mk2 un2 D2) (k1 : zKl s i fr nw ro cs nxc fc lc bt ch ru ab tk h l Dn T V) (k2 : zMd g sz W ta ke D2 T V2) (k3 : V.Perm V2) (k4 : zMb ti bo D2 T) (k5 : ∀ x : Nat, (x : Int) < Dn → zT8 (T x) ∧ zT9 (T x)) (te : zTe f f2 nt) (en : nt2 = nt) (hn : nt ≤ 600) (tii : zTi ss i2 fr2 ns sg ssz ks) (pg : zPgO rf0 rk0 wn0 op0) (sdp : ∃ (rk1 : Nat → Int32) (M1 : Nat → Nat → Prop), zSdp std0 sn0 rk1 cnt0 M1) (hc : zyT f nt len (zqa cd kd lo hi sd ph ct, lv, pw, zZc f nt s nw ss ns)) (hF : zFic hp rf0 s i fr nw ro cs nxc fc lc bt ch ru ab tk h l rk0 wn0 op0 std0 sn0 cnt0 rf pl rk wn op std sn cnt kd lo hi ph sd pw lv cd len on mkA Dn nums fd (if 0 < len then Dn else 0)) (hR : (cn = 0 ∧ fd2 = 0) ∨ (1 ≤ cn ∧ nodes = cn ∧ zMeI sg ssz ks g sz W wd ws me wants ∧ zIbE g sz W wd ws lw lfr ib leaves ∧ zFrI ta lw lfr lmn me ib wh lf nm rt lto nodes on2 ti bo mk2 D2 (nodes - 1).toNat hits fd2 D2)) (l4 : lv ≤ 40) (p1 : pw ≤ 160) (hH : zHtq nums fd hits fd2) (hFw : zFiw rf0 s i fr nw ro cs nxc fc lc bt ch ru ab tk h l rk0 wn0 op0 std0 sn0 cnt0 kd lo hi ph sd pw lv cd len on Dn ct w hv nums sh fd (if 0 < len then Dn else 0)) (hRk : zRkc nums sc sh rkc fd) (hST : zScT ct w hv ln os Dn wl lv nums sc fd) (hNW : 120 * lv ≤ wl) (hL : zxLv f2 nt2 cn leaves (zma cd2 wh lf rt nm lw lfr lmn lto wd ws, leaves, wants, zWmq f2 nt2)) (hX : cn = 0 ∨ ∃ n_ : Int, zStn on2 D2 n_ ∧ zNoR wh lf rt nm (nodes - 1).toNat 0 0 c0 l0 co lo2 ∧ zMcI ma co on2 ta lw lfr lmn me ib lo2 ti bo D2 leaves ∧ zFrX (fun d_ s_ => zSrI co ta lw lfr lmn me ib lo2 ti bo ma ln2 d_ n_ s_ leaves) (fun d_ p_ => zShR (zShP (ti d_.toNat).toInt (bo d_.toNat).toInt co ta lw lfr lmn me ib lo2 leaves d_) p_) rk2 sc2 pl2 hits fd2) : zRkT nums sc sh rkc fd rk2 sc2 pl2 fd2 := by
  obtain ⟨hH1, hH2⟩ := hH
  rcases hR with ⟨q1, q2⟩ | ⟨q0, q1, q2, q3, q4⟩
  · exact zRkT_0 (by omega) q2
  subst en
  have ef : f = f2 := funext te.1
  subst ef
  have eD := hd.1
  subst eD
  obtain ⟨t1, t2, t3, t4⟩ := tii
  have Dc : zDcs s nw ss ns sg ssz ks g sz W V2 := ⟨k1.1.1, t2.1, t4, t3, k2.1, fun x => by rw [← k3.mem_iff]; exact zVo_m k1.1⟩
  rcases hX with c | ⟨n_, x1, x2, x3, X, x4, x5⟩
  · omega
  obtain ⟨K, l1, l2⟩ := hL te.2 q0
  obtain ⟨K', y1, y2⟩ := hc te.2
  have eK := zPar_u y1 (zPaL_p l1)
  rw [eK] at y2
  obtain ⟨w1, w2⟩ := zPaL_w hn l1
  rcases zPar_z hn (zPaL_p l1) with c | ⟨lvx, c1⟩
  · have z := l2.1
    rw [c] at z
    have z' : cn = 0 := z
    omega
  have x2' : zNoR wh lf rt nm (cn - 1).toNat 0 0 c0 l0 co lo2 := by rw [← q1]; exact x2
  have hW := c1.1.2.2.1 zWl_0
  have hlen : 0 < K.length := c1.1.2.1
  have pre : zFpre rf0 s i fr nw ro cs nxc fc lc bt ch ru ab tk h l rk0 wn0 op0 std0 sn0 cnt0 kd lo hi ph pw lv cd len Dn T V := ⟨k1, pg, sdp, k5, zQw_i c1 y2 l2 Dc q2 p1, zQcd_i c1 y2 l2 Dc q2 q3 l4⟩
  obtain ⟨_, _, _, r4⟩ := hF T V pre
  obtain ⟨v1, v2⟩ := hFw T V pre
  have elen : len = (K.length : Int) := y2.1
  have plen : 0 < len := by omega
  rw [if_pos plen] at r4 v1
  have el := zLv_e y2 w1 w2
  have hco := fun (a : Nat) (ha : (a : Int) < lv) => zCo_e y2 l2 w1 w2 x2' a ha
  have hcc : ∀ a : Nat, (a : Int) < lv → (ct a).toInt = (co a).toInt ∧ ((kd a).toInt = 4 → (ct a).toInt = 0) := fun a ha => ⟨(hco a ha).1, (hco a ha).2.1⟩
  have hD0 := hd.2.2.2.2.1
  have hD1 := hd.2.2.2.2.2
  have hlf : ∀ d : Nat, (d : Int) < Dn → zLfs ct kd co s nw lo hi ph sd pw (T d) ta lw lfr lmn me ib lo2 (ti d).toInt (bo d).toInt lv d := fun d hd' => by
    have rw_ := k2.2.2.2.1 d (by omega)
    have mb := k4 d (by omega)
    exact zLfs_i y2 l2 hW w1 w2 x2' Dc rw_.1 q2 q3 mb.2.2.2.2 (k5 d hd').1.1 mb.2.1 mb.2.2.2.1
  have hon : ∀ d : Nat, d < Dn.toNat → ((on d).toInt ≠ 0 ↔ (on2 d).toInt ≠ 0) := fun d hd' => by rw [(hd.2.1 d (by omega)).1]
  have a1 : zCnR (fun d => (on d).toInt ≠ 0) Dn.toNat os := by
    rw [hd.2.2.2.1]
    exact zsu_C _
  have a2 : zCnR (fun d => (on2 d).toInt ≠ 0) Dn.toNat n_ := by
    have z : n_ = ((zsu (fun d => if (on2 d).toInt ≠ 0 then 1 else 0) Dn.toNat : Nat) : Int) := x1
    rw [z]
    exact zsu_C _
  have hos : os = n_ := zCnR_u (zCnR_c (P' := fun d => (on2 d).toInt ≠ 0) a1 hon) a2
  have ob := zCnR_b a1
  have hhv : ∀ a : Nat, (a : Int) < lv → (hv a).toInt ≤ os := fun a ha => by
    by_cases k4 : (kd a).toInt = 4
    · rw [v1.2.1 a ha k4]; exact ob.1
    · exact zCnR_m (v1.1 a ha k4) a1 (fun j _ q => q.1)
  have hma : ∀ a : Nat, (a : Int) < lv → (ct a).toInt ≠ 0 → (hv a).toInt = (ma a).toInt := fun a ha hc' => by
    have z := hcc a ha
    have k4 : (kd a).toInt ≠ 4 := fun k => hc' (z.2 k)
    refine zCnR_u (zCnR_c (P' := zMcP on2 ta lw lfr lmn me ib lo2 ti bo (a : Int)) (v1.1 a ha k4) (fun d hd' => ?_)) (x3 a (by omega) (by rw [← z.1]; exact hc'))
    exact and_congr (hon d hd') (zLfs_d (hlf d (by omega)) ha k4)
  have x4' : zRkr rk2 sc2 pl2 X fd := by rw [hH1]; exact x4
  refine ⟨hH1, zRk_tie hRk x4' (fun t ht => ?_)⟩
  obtain ⟨e1, e2, e3⟩ := x5 t (by omega)
  obtain ⟨m1, m2, m3, _⟩ := zHrr_m r4 t ht
  have eX1 : (X t).1 = (nums t).toInt := e1.trans (hH2 t ht).symm
  rw [eX1] at e2 e3
  have e2' : zSrI co ta lw lfr lmn me ib lo2 ti bo ma ln2 (nums t).toInt n_ (X t).2.1 leaves := e2
  have edn : (((nums t).toInt.toNat : Nat) : Int) = (nums t).toInt := by omega
  have e3' : zShR (zShP (ti (nums t).toInt.toNat).toInt (bo (nums t).toInt.toNat).toInt co ta lw lfr lmn me ib lo2 leaves (((nums t).toInt.toNat : Nat) : Int)) (X t).2.2 := by
    rw [edn]
    exact e3
  have lfd := hlf (nums t).toInt.toNat (by omega)
  obtain ⟨sc1, _, _⟩ := hST t ht hNW ob.1 (by omega) m1 (by omega) hhv
  have s1 : zSrR (fun a => (ct a).toInt ≠ 0) (fun a f => zWtR (zLcc s nw kd lo hi ph sd pw (T (nums t).toInt.toNat) a) 832 f) (fun a => (hv a).toInt) (zMk ln Dn (nums t).toInt) os lv.toNat (sc t).toInt := by
    rw [sc1]
    exact zSrR_S lv.toNat (fun a ha hc' => v1.2.2 _ (by omega) m3 a (by omega) (fun k => hc' ((hcc a (by omega)).2 k)))
  have eln : zMk ln Dn (nums t).toInt = (ln2 (nums t).toInt.toNat).toInt := by
    unfold zMk
    rw [if_pos ⟨m1, by omega⟩]
    exact (hd.2.1 _ (by omega)).2.1
  have s3 : zSrR (fun a => (co a).toInt ≠ 0) (zSrW ta lw lfr lmn me ib lo2 ti bo (nums t).toInt) (fun a => (ma a).toInt) (ln2 (nums t).toInt.toNat).toInt n_ lv.toNat (sc t).toInt := by
    refine zSrR_c (fun a ha => ?_) (fun a ha hc' f9 hf => ?_) (fun a ha hc' f9 hf => ?_) s1
    · show (ct a).toInt ≠ 0 ↔ (co a).toInt ≠ 0
      rw [(hcc a (by omega)).1]
    · have g9 := zLfs_w lfd (a := a) (by omega) (fun k => hc' ((hcc a (by omega)).2 k)) hf
      rw [edn] at g9
      exact g9
    · show zsc1 f9 (zMk ln Dn (nums t).toInt) os (hv a).toInt = zsc1 f9 (ln2 (nums t).toInt.toNat).toInt n_ (ma a).toInt
      rw [eln, hos, hma a (by omega) hc']
  have es : (sc t).toInt = (X t).2.1 := by
    have s2 := (e2' (by omega) (by omega)).1
    rw [← el] at s2
    refine zSrR_u ?_ s3 s2
    intro a _ _ f9 f8 g1 g2
    exact zWtR_u g1 g2
  have ep : (sh t).toInt = (X t).2.2 := zLfs_f lfd el hcc (v2 (fun a ha k => (hcc a ha).2 k) t ht) e3'
  exact Prod.ext eX1.symm (Prod.ext es ep)
theorem zTir_s {s ss : Nat → Int64} {sg ssz g sz wd ws me ta f cd cd2 wh lf rt nm lw lfr lmn lto ib ph kd lo hi sd ct f2 i fr ro cs nxc fc lc bt h l on ln mkA wc ke on2 ln2 mk2 un2 ti bo i2 fr2 rk0 wn0 std0 sn0 rk wn std sn nums hits : Nat → Int32} {w hv sc sh rkc co lo2 c0 l0 ma rk2 sc2 pl2 : Nat → Int32} {rf0 rf : Nat → Option Nat} {pl : va_W} {hp : Nat} {ns W nt pw lv len cn leaves wants nt2 nw ch ru ab tk Dn os D2 op0 cnt0 op cnt fd fd2 nodes ks wl : Int} (ht : zTiq s i fr nw ro cs nxc fc lc bt ch ru ab tk h l Dn on ln mkA wc os g sz W ta ke D2 on2 ln2 mk2 un2 ti bo) (te : zTe f f2 nt) (en : nt2 = nt) (hn : nt ≤ 600) (tii : zTi ss i2 fr2 ns sg ssz ks) (pg : zPgT rf0 rk0 wn0 op0 std0 sn0 cnt0) (hc : zyT f nt len (zqa cd kd lo hi sd ph ct, lv, pw, zZc f nt s nw ss ns)) (hF : zFic hp rf0 s i fr nw ro cs nxc fc lc bt ch ru ab tk h l rk0 wn0 op0 std0 sn0 cnt0 rf pl rk wn op std sn cnt kd lo hi ph sd pw lv cd len on mkA Dn nums fd (if 0 < len then Dn else 0)) (hR : (cn = 0 ∧ fd2 = 0) ∨ (1 ≤ cn ∧ nodes = cn ∧ zMeI sg ssz ks g sz W wd ws me wants ∧ zIbE g sz W wd ws lw lfr ib leaves ∧ zFrI ta lw lfr lmn me ib wh lf nm rt lto nodes on2 ti bo mk2 D2 (nodes - 1).toNat hits fd2 D2)) (l4 : lv ≤ 40) (p1 : pw ≤ 160) (hH : zHtq nums fd hits fd2) (hFw : zFiw rf0 s i fr nw ro cs nxc fc lc bt ch ru ab tk h l rk0 wn0 op0 std0 sn0 cnt0 kd lo hi ph sd pw lv cd len on Dn ct w hv nums sh fd (if 0 < len then Dn else 0)) (hRk : zRkc nums sc sh rkc fd) (hST : zScT ct w hv ln os Dn wl lv nums sc fd) (hNW : 120 * lv ≤ wl) (hL : zxLv f2 nt2 cn leaves (zma cd2 wh lf rt nm lw lfr lmn lto wd ws, leaves, wants, zWmq f2 nt2)) (hX : cn = 0 ∨ ∃ n_ : Int, zStn on2 D2 n_ ∧ zNoR wh lf rt nm (nodes - 1).toNat 0 0 c0 l0 co lo2 ∧ zMcI ma co on2 ta lw lfr lmn me ib lo2 ti bo D2 leaves ∧ zFrX (fun d_ s_ => zSrI co ta lw lfr lmn me ib lo2 ti bo ma ln2 d_ n_ s_ leaves) (fun d_ p_ => zShR (zShP (ti d_.toNat).toInt (bo d_.toNat).toInt co ta lw lfr lmn me ib lo2 leaves d_) p_) rk2 sc2 pl2 hits fd2) : zRkT nums sc sh rkc fd rk2 sc2 pl2 fd2 := by
  obtain ⟨hd, T, V, V2, k1, k2, k3, k4, k5⟩ := ht
  exact zTir hd k1 k2 k3 k4 k5 te en hn tii pg.1 pg.2 hc hF hR l4 p1 hH hFw hRk hST hNW hL hX
theorem zTr_c {nu sc sh rk rk2 sc2 pl2 : Nat → Int32} {fd fd2 w w2 : Int} {P P2 R z : Int32} {y y2 : Int64} (h : zRkT nu sc sh rk fd rk2 sc2 pl2 fd2) (hc : y.toInt = zRna (zTrp nu sc sh (rk P.toNatClampNeg).toNatClampNeg) w) (hm : R.toInt = zRna (zTrp rk2 sc2 pl2 P2.toNatClampNeg) w2) (eP : P2 = P) (ew : w2 = w) (h0 : 0 ≤ P.toInt) (h1 : P.toInt < fd) (ey : y2 = R.toInt64) (ez : z = lg_cmp y y2) : z.toInt = 0 := by
  subst eP; subst ew
  have e0 : P2.toNatClampNeg = P2.toInt.toNat := rfl
  have e := h.2 P2.toNatClampNeg (by omega)
  have e' : zTrp nu sc sh (rk P2.toNatClampNeg).toNatClampNeg = zTrp rk2 sc2 pl2 P2.toNatClampNeg := e
  have er : y.toInt = R.toInt := by rw [hc, hm, e']
  have q := zlcmp ez
  have e2 : y2.toInt = R.toInt := by rw [ey, Int32.toInt_toInt64]
  omega
set_option maxHeartbeats 8000000 in
set_option maxRecDepth 100000 in
theorem sX13_thrown_0 (l : Launch) (dC : Nat → ClassId) (dI : Nat → Nat → Nat) (adK adV : Nat → Nat) (h0 : Nat) (q0 : Nat → Nat) (sz : Nat) (v0 : Nat → Int32) (hv0 : zR rg_Model v0) : Met l yX13_thrown (zw yX13_thrown cX13_thrown 1 (some .int)) { frames := 0, cells := 0, slots := 0, locals := 0 } (zPc dC dI adK adV [.ref h0] sz [(h0, .inr (13, mX13 q0 v0))] []) (va_Qi (fun (r : Int32) (u : Nat → Int32) => (r.toInt = (v0 21).toInt)) (fun (u : Nat → Int32) (t : State) => ∃ (ww : Nat → Int64) (aa : Nat → Nat → Int32) (bb : Nat → Nat → Int64), va_P (dC, dI) vwCl [(h0, .inr (13, mX13 q0 v0))] t.heap ∧ va_K (dC, dI) vwCl [] t ∧ va_D (va_A [(h0, .inr (13, mX13 q0 v0))] sz) [(h0, .inr (13, mX13 q0 v0))]) (va_A [(h0, .inr (13, mX13 q0 v0))] sz)) 0 0 (va_A [(h0, .inr (13, mX13 q0 v0))] sz) := by
  refine Met.ofW (cc := cX13_thrown) (maxL := 1) (ret := (some .int)) (by decide) rfl ?_
  intro p e s m args below meth c s₁ B hml hv
  obtain ⟨rfl, hsz, hP, hK, hD0, hE, hZ⟩ := hv
  have hx := B.exec
  have hb := B.bytes
  have hr := B.returns
  have hG : ∀ w ∈ zG, w.before _ s = true := fun w h => atoms_spec (ws := (zw yX13_thrown cX13_thrown 1 (some .int))) B.pre w (List.mem_cons_of_mem _ h)
  have hown : s.vm.findClass RX13 = some m.cls := findClass_of_methodNamed B.named
  have hlocks := B.notSynchronized

  subst hsz
  have hD := hD0.self (sz := s.heap.size)
  generalize hAe : va_A [(h0, .inr (13, mX13 q0 v0))] s.heap.size = A at hD hZ ⊢
  have hA : ∀ q : Nat, s.heap.size ≤ q → A q := fun q h => by rw [← hAe]; exact Or.inr h
  have hS : va_S A s.heap s.heap [] := va_S.rf
  have hl := lv_entry ([.ref h0]) (n := 1) (Nat.le_of_ble_eq_true rfl)
  rw [lg_entry_eq]
  generalize (lg_sl ([.ref h0]) ++ List.replicate (1 - (lg_sl ([.ref h0])).length) Slot.unset).toArray = ls at hl ⊢
  have hl : lv_has ls 1 [(0, .ref h0)] := hl
  have b_ : -2147483648 ≤ (v0 21).toInt ∧ (v0 21).toInt ≤ 2147483647 := ⟨zlo _, zhi _⟩
  refine lv_aload_n hx hb dX13_thrown_0 rfl (lv_at hl 0 rfl) ?_
  refine va_get (D := (dC, dI)) (ci := 13) (v := .int (v0 21)) (C := RX13) (T := TX13) (N := 75) hx hb hG zuX13 hown hK hP 0 rfl rfl 21 (by decide) (hG _ zv1625) (fun _ h9 => h9) rfl dX13_thrown_1 ?_
  refine W.widen (k := 0) (n := 0) (by decide) (by decide) ?_
  have hpost : ((v0 21).toInt = (v0 21).toInt) := by omega
  have hP9 : va_P (dC, dI) vwCl [(h0, .inr (13, mX13 q0 v0))] s.heap := hP
  have hD9 : va_D A [(h0, .inr (13, mX13 q0 v0))] := hD
  exact W.iret (v := (v0 21)) hx hb hr (fun t ht hW => ⟨⟨(v0 21), (fun _ => 0), rfl, hpost, (fun _ => 0), (fun _ => (fun _ => 0)), (fun _ => (fun _ => 0)), by rw [ht]; exact hP9, va_K.moved hW.alike hK, hD9⟩, hS.F ht⟩) hS.2.2 dX13_thrown_4
