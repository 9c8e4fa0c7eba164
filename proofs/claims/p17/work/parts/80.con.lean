theorem zknown {args : Array Value} {s : State} (hts : ∀ w ∈ lw_tbl, w.before args s = true) : ∃ (dC : Nat → ClassId) (dI : Nat → Nat → Nat), ∀ (k : Nat) (q : vw_C), vwCl[k]? = some q → u_Kn s q.1 q.2.1 q.2.2 (dC k) (dI k) := by
  obtain ⟨c0, i0, hk0⟩ := u_known (C := RX0) (T := TX0) (N := 6) (n := 6) hts (fun w h => zG_in (zuX0 w h)) (hts (.instantiable RX0 6) (zml1 89 rfl))
  obtain ⟨c1, i1, hk1⟩ := u_known (C := RX1) (T := TX1) (N := 17) (n := 17) hts (fun w h => zG_in (zuX1 w h)) (hts (.instantiable RX1 17) (zml2 78 rfl))
  obtain ⟨c2, i2, hk2⟩ := u_known (C := RX2) (T := TX2) (N := 11) (n := 11) hts (fun w h => zG_in (zuX2 w h)) (hts (.instantiable RX2 11) (zml1 192 rfl))
  obtain ⟨c3, i3, hk3⟩ := u_known (C := RX3) (T := TX3) (N := 10) (n := 10) hts (fun w h => zG_in (zuX3 w h)) (hts (.instantiable RX3 10) (zml2 95 rfl))
  obtain ⟨c4, i4, hk4⟩ := u_known (C := RX4) (T := TX4) (N := 12) (n := 12) hts (fun w h => zG_in (zuX4 w h)) (hts (.instantiable RX4 12) (zml2 35 rfl))
  obtain ⟨c5, i5, hk5⟩ := u_known (C := RX5) (T := TX5) (N := 1) (n := 1) hts (fun w h => zG_in (zuX5 w h)) (hts (.instantiable RX5 1) (zml2 85 rfl))
  obtain ⟨c6, i6, hk6⟩ := u_known (C := RX6) (T := TX6) (N := 12) (n := 12) hts (fun w h => zG_in (zuX6 w h)) (hts (.instantiable RX6 12) (zml1 115 rfl))
  obtain ⟨c7, i7, hk7⟩ := u_known (C := RX7) (T := TX7) (N := 12) (n := 12) hts (fun w h => zG_in (zuX7 w h)) (hts (.instantiable RX7 12) (zml1 232 rfl))
  obtain ⟨c8, i8, hk8⟩ := u_known (C := RX8) (T := TX8) (N := 9) (n := 9) hts (fun w h => zG_in (zuX8 w h)) (hts (.instantiable RX8 9) (zml1 158 rfl))
  obtain ⟨c9, i9, hk9⟩ := u_known (C := RX9) (T := TX9) (N := 4) (n := 4) hts (fun w h => zG_in (zuX9 w h)) (hts (.instantiable RX9 4) (zml1 36 rfl))
  obtain ⟨c10, i10, hk10⟩ := u_known (C := RX10) (T := TX10) (N := 8) (n := 8) hts (fun w h => zG_in (zuX10 w h)) (hts (.instantiable RX10 8) (zml1 56 rfl))
  obtain ⟨c11, i11, hk11⟩ := u_known (C := RX11) (T := TX11) (N := 12) (n := 12) hts (fun w h => zG_in (zuX11 w h)) (hts (.instantiable RX11 12) (zml1 28 rfl))
  obtain ⟨c12, i12, hk12⟩ := u_known (C := RX12) (T := TX12) (N := 6) (n := 6) hts (fun w h => zG_in (zuX12 w h)) (hts (.instantiable RX12 6) (zml7 16 rfl))
  obtain ⟨c13, i13, hk13⟩ := u_known (C := RX13) (T := TX13) (N := 75) (n := 75) hts (fun w h => zG_in (zuX13 w h)) (hts (.instantiable RX13 75) (zml7 8 rfl))
  refine ⟨fun k => [c0, c1, c2, c3, c4, c5, c6, c7, c8, c9, c10, c11, c12, c13].getD k c0, fun k => [i0, i1, i2, i3, i4, i5, i6, i7, i8, i9, i10, i11, i12, i13].getD k i0, ?_⟩
  intro k q hq
  match k, hq with
  | 0, hq => cases hq; exact hk0
  | 1, hq => cases hq; exact hk1
  | 2, hq => cases hq; exact hk2
  | 3, hq => cases hq; exact hk3
  | 4, hq => cases hq; exact hk4
  | 5, hq => cases hq; exact hk5
  | 6, hq => cases hq; exact hk6
  | 7, hq => cases hq; exact hk7
  | 8, hq => cases hq; exact hk8
  | 9, hq => cases hq; exact hk9
  | 10, hq => cases hq; exact hk10
  | 11, hq => cases hq; exact hk11
  | 12, hq => cases hq; exact hk12
  | 13, hq => cases hq; exact hk13
  | k + 14, hq => simp [vwCl] at hq
theorem zstrs {args : Array Value} {s : State} (hgv : (Jvm.Cond.and given_1 narrow_1).before args s = true) : ∃ adK adV : Nat → Nat, vk_S 13 zSlen zSbyt adK adV (fun q : Nat => s.heap.size ≤ q) s s.heap ∧ ∀ i : Nat, i < 13 → ((fun i => ([.string RX9 75, .string RX9 81, .string RX9 83, .string RX9 85, .string RX9 87, .string RX9 89, .string RX9 91, .string RX4 90, .string RX4 96, .string RX4 98, .string RX4 100, .string RX4 102, .string RX4 104] : List Term).getD i (.string RX9 75)) i).eval args s none [] s = some (.ref (adK i)) := by
  have hs := flat_of_before _ hgv
  exact vk_Sof (tm := (fun i => ([.string RX9 75, .string RX9 81, .string RX9 83, .string RX9 85, .string RX9 87, .string RX9 89, .string RX9 91, .string RX4 90, .string RX4 96, .string RX4 98, .string RX4 100, .string RX4 102, .string RX4 104] : List Term).getD i (.string RX9 75))) (fun i hi => match i, hi with
    | 0, _ => (by decide)
    | 1, _ => (by decide)
    | 2, _ => (by decide)
    | 3, _ => (by decide)
    | 4, _ => (by decide)
    | 5, _ => (by decide)
    | 6, _ => (by decide)
    | 7, _ => (by decide)
    | 8, _ => (by decide)
    | 9, _ => (by decide)
    | 10, _ => (by decide)
    | 11, _ => (by decide)
    | 12, _ => (by decide)
    | n + 13, h => absurd h (by omega))
    (fun i hi => match i, hi with
    | 0, _ => hs (.exactly (.string RX9 75) "java/lang/String") (by decide +kernel)
    | 1, _ => hs (.exactly (.string RX9 81) "java/lang/String") (by decide +kernel)
    | 2, _ => hs (.exactly (.string RX9 83) "java/lang/String") (by decide +kernel)
    | 3, _ => hs (.exactly (.string RX9 85) "java/lang/String") (by decide +kernel)
    | 4, _ => hs (.exactly (.string RX9 87) "java/lang/String") (by decide +kernel)
    | 5, _ => hs (.exactly (.string RX9 89) "java/lang/String") (by decide +kernel)
    | 6, _ => hs (.exactly (.string RX9 91) "java/lang/String") (by decide +kernel)
    | 7, _ => hs (.exactly (.string RX4 90) "java/lang/String") (by decide +kernel)
    | 8, _ => hs (.exactly (.string RX4 96) "java/lang/String") (by decide +kernel)
    | 9, _ => hs (.exactly (.string RX4 98) "java/lang/String") (by decide +kernel)
    | 10, _ => hs (.exactly (.string RX4 100) "java/lang/String") (by decide +kernel)
    | 11, _ => hs (.exactly (.string RX4 102) "java/lang/String") (by decide +kernel)
    | 12, _ => hs (.exactly (.string RX4 104) "java/lang/String") (by decide +kernel)
    | n + 13, h => absurd h (by omega))
    (fun i hi => match i, hi with
    | 0, _ => hs (.eq (.field (.string RX9 75) "java/lang/String" "coder" "B") (.int 0)) (by decide +kernel)
    | 1, _ => hs (.eq (.field (.string RX9 81) "java/lang/String" "coder" "B") (.int 0)) (by decide +kernel)
    | 2, _ => hs (.eq (.field (.string RX9 83) "java/lang/String" "coder" "B") (.int 0)) (by decide +kernel)
    | 3, _ => hs (.eq (.field (.string RX9 85) "java/lang/String" "coder" "B") (.int 0)) (by decide +kernel)
    | 4, _ => hs (.eq (.field (.string RX9 87) "java/lang/String" "coder" "B") (.int 0)) (by decide +kernel)
    | 5, _ => hs (.eq (.field (.string RX9 89) "java/lang/String" "coder" "B") (.int 0)) (by decide +kernel)
    | 6, _ => hs (.eq (.field (.string RX9 91) "java/lang/String" "coder" "B") (.int 0)) (by decide +kernel)
    | 7, _ => hs (.eq (.field (.string RX4 90) "java/lang/String" "coder" "B") (.int 0)) (by decide +kernel)
    | 8, _ => hs (.eq (.field (.string RX4 96) "java/lang/String" "coder" "B") (.int 0)) (by decide +kernel)
    | 9, _ => hs (.eq (.field (.string RX4 98) "java/lang/String" "coder" "B") (.int 0)) (by decide +kernel)
    | 10, _ => hs (.eq (.field (.string RX4 100) "java/lang/String" "coder" "B") (.int 0)) (by decide +kernel)
    | 11, _ => hs (.eq (.field (.string RX4 102) "java/lang/String" "coder" "B") (.int 0)) (by decide +kernel)
    | 12, _ => hs (.eq (.field (.string RX4 104) "java/lang/String" "coder" "B") (.int 0)) (by decide +kernel)
    | n + 13, h => absurd h (by omega))
    (fun i hi => match i, hi with
    | 0, _ => hs (.arrayOf (.field (.string RX9 75) "java/lang/String" "value" "[B") .byte) (by decide +kernel)
    | 1, _ => hs (.arrayOf (.field (.string RX9 81) "java/lang/String" "value" "[B") .byte) (by decide +kernel)
    | 2, _ => hs (.arrayOf (.field (.string RX9 83) "java/lang/String" "value" "[B") .byte) (by decide +kernel)
    | 3, _ => hs (.arrayOf (.field (.string RX9 85) "java/lang/String" "value" "[B") .byte) (by decide +kernel)
    | 4, _ => hs (.arrayOf (.field (.string RX9 87) "java/lang/String" "value" "[B") .byte) (by decide +kernel)
    | 5, _ => hs (.arrayOf (.field (.string RX9 89) "java/lang/String" "value" "[B") .byte) (by decide +kernel)
    | 6, _ => hs (.arrayOf (.field (.string RX9 91) "java/lang/String" "value" "[B") .byte) (by decide +kernel)
    | 7, _ => hs (.arrayOf (.field (.string RX4 90) "java/lang/String" "value" "[B") .byte) (by decide +kernel)
    | 8, _ => hs (.arrayOf (.field (.string RX4 96) "java/lang/String" "value" "[B") .byte) (by decide +kernel)
    | 9, _ => hs (.arrayOf (.field (.string RX4 98) "java/lang/String" "value" "[B") .byte) (by decide +kernel)
    | 10, _ => hs (.arrayOf (.field (.string RX4 100) "java/lang/String" "value" "[B") .byte) (by decide +kernel)
    | 11, _ => hs (.arrayOf (.field (.string RX4 102) "java/lang/String" "value" "[B") .byte) (by decide +kernel)
    | 12, _ => hs (.arrayOf (.field (.string RX4 104) "java/lang/String" "value" "[B") .byte) (by decide +kernel)
    | n + 13, h => absurd h (by omega))
    (fun i hi => match i, hi with
    | 0, _ => hs (.eq (.length (.field (.string RX9 75) "java/lang/String" "value" "[B")) (.int 3)) (by decide +kernel)
    | 1, _ => hs (.eq (.length (.field (.string RX9 81) "java/lang/String" "value" "[B")) (.int 3)) (by decide +kernel)
    | 2, _ => hs (.eq (.length (.field (.string RX9 83) "java/lang/String" "value" "[B")) (.int 2)) (by decide +kernel)
    | 3, _ => hs (.eq (.length (.field (.string RX9 85) "java/lang/String" "value" "[B")) (.int 1)) (by decide +kernel)
    | 4, _ => hs (.eq (.length (.field (.string RX9 87) "java/lang/String" "value" "[B")) (.int 2)) (by decide +kernel)
    | 5, _ => hs (.eq (.length (.field (.string RX9 89) "java/lang/String" "value" "[B")) (.int 2)) (by decide +kernel)
    | 6, _ => hs (.eq (.length (.field (.string RX9 91) "java/lang/String" "value" "[B")) (.int 2)) (by decide +kernel)
    | 7, _ => hs (.eq (.length (.field (.string RX4 90) "java/lang/String" "value" "[B")) (.int 2)) (by decide +kernel)
    | 8, _ => hs (.eq (.length (.field (.string RX4 96) "java/lang/String" "value" "[B")) (.int 3)) (by decide +kernel)
    | 9, _ => hs (.eq (.length (.field (.string RX4 98) "java/lang/String" "value" "[B")) (.int 3)) (by decide +kernel)
    | 10, _ => hs (.eq (.length (.field (.string RX4 100) "java/lang/String" "value" "[B")) (.int 4)) (by decide +kernel)
    | 11, _ => hs (.eq (.length (.field (.string RX4 102) "java/lang/String" "value" "[B")) (.int 5)) (by decide +kernel)
    | 12, _ => hs (.eq (.length (.field (.string RX4 104) "java/lang/String" "value" "[B")) (.int 4)) (by decide +kernel)
    | n + 13, h => absurd h (by omega))
    (fun i hi => match i, hi with
    | 0, _ => (fun j hj => match j, hj with
      | 0, _ => hs (.eq (.elem (.field (.string RX9 75) "java/lang/String" "value" "[B") (.int 0)) (.int 105)) (by decide +kernel)
      | 1, _ => hs (.eq (.elem (.field (.string RX9 75) "java/lang/String" "value" "[B") (.int 1)) (.int 101)) (by decide +kernel)
      | 2, _ => hs (.eq (.elem (.field (.string RX9 75) "java/lang/String" "value" "[B") (.int 2)) (.int 115)) (by decide +kernel)
      | n + 3, h => absurd h (by show ¬ (n + 3 < 3); omega))
    | 1, _ => (fun j hj => match j, hj with
      | 0, _ => hs (.eq (.elem (.field (.string RX9 81) "java/lang/String" "value" "[B") (.int 0)) (.int 105)) (by decide +kernel)
      | 1, _ => hs (.eq (.elem (.field (.string RX9 81) "java/lang/String" "value" "[B") (.int 1)) (.int 110)) (by decide +kernel)
      | 2, _ => hs (.eq (.elem (.field (.string RX9 81) "java/lang/String" "value" "[B") (.int 2)) (.int 103)) (by decide +kernel)
      | n + 3, h => absurd h (by show ¬ (n + 3 < 3); omega))
    | 2, _ => (fun j hj => match j, hj with
      | 0, _ => hs (.eq (.elem (.field (.string RX9 83) "java/lang/String" "value" "[B") (.int 0)) (.int 101)) (by decide +kernel)
      | 1, _ => hs (.eq (.elem (.field (.string RX9 83) "java/lang/String" "value" "[B") (.int 1)) (.int 100)) (by decide +kernel)
      | n + 2, h => absurd h (by show ¬ (n + 2 < 2); omega))
    | 3, _ => (fun j hj => match j, hj with
      | 0, _ => hs (.eq (.elem (.field (.string RX9 85) "java/lang/String" "value" "[B") (.int 0)) (.int 115)) (by decide +kernel)
      | n + 1, h => absurd h (by show ¬ (n + 1 < 1); omega))
    | 4, _ => (fun j hj => match j, hj with
      | 0, _ => hs (.eq (.elem (.field (.string RX9 87) "java/lang/String" "value" "[B") (.int 0)) (.int 115)) (by decide +kernel)
      | 1, _ => hs (.eq (.elem (.field (.string RX9 87) "java/lang/String" "value" "[B") (.int 1)) (.int 115)) (by decide +kernel)
      | n + 2, h => absurd h (by show ¬ (n + 2 < 2); omega))
    | 5, _ => (fun j hj => match j, hj with
      | 0, _ => hs (.eq (.elem (.field (.string RX9 89) "java/lang/String" "value" "[B") (.int 0)) (.int 117)) (by decide +kernel)
      | 1, _ => hs (.eq (.elem (.field (.string RX9 89) "java/lang/String" "value" "[B") (.int 1)) (.int 115)) (by decide +kernel)
      | n + 2, h => absurd h (by show ¬ (n + 2 < 2); omega))
    | 6, _ => (fun j hj => match j, hj with
      | 0, _ => hs (.eq (.elem (.field (.string RX9 91) "java/lang/String" "value" "[B") (.int 0)) (.int 105)) (by decide +kernel)
      | 1, _ => hs (.eq (.elem (.field (.string RX9 91) "java/lang/String" "value" "[B") (.int 1)) (.int 115)) (by decide +kernel)
      | n + 2, h => absurd h (by show ¬ (n + 2 < 2); omega))
    | 7, _ => (fun j hj => match j, hj with
      | 0, _ => hs (.eq (.elem (.field (.string RX4 90) "java/lang/String" "value" "[B") (.int 0)) (.int 111)) (by decide +kernel)
      | 1, _ => hs (.eq (.elem (.field (.string RX4 90) "java/lang/String" "value" "[B") (.int 1)) (.int 114)) (by decide +kernel)
      | n + 2, h => absurd h (by show ¬ (n + 2 < 2); omega))
    | 8, _ => (fun j hj => match j, hj with
      | 0, _ => hs (.eq (.elem (.field (.string RX4 96) "java/lang/String" "value" "[B") (.int 0)) (.int 97)) (by decide +kernel)
      | 1, _ => hs (.eq (.elem (.field (.string RX4 96) "java/lang/String" "value" "[B") (.int 1)) (.int 110)) (by decide +kernel)
      | 2, _ => hs (.eq (.elem (.field (.string RX4 96) "java/lang/String" "value" "[B") (.int 2)) (.int 100)) (by decide +kernel)
      | n + 3, h => absurd h (by show ¬ (n + 3 < 3); omega))
    | 9, _ => (fun j hj => match j, hj with
      | 0, _ => hs (.eq (.elem (.field (.string RX4 98) "java/lang/String" "value" "[B") (.int 0)) (.int 110)) (by decide +kernel)
      | 1, _ => hs (.eq (.elem (.field (.string RX4 98) "java/lang/String" "value" "[B") (.int 1)) (.int 111)) (by decide +kernel)
      | 2, _ => hs (.eq (.elem (.field (.string RX4 98) "java/lang/String" "value" "[B") (.int 2)) (.int 116)) (by decide +kernel)
      | n + 3, h => absurd h (by show ¬ (n + 3 < 3); omega))
    | 10, _ => (fun j hj => match j, hj with
      | 0, _ => hs (.eq (.elem (.field (.string RX4 100) "java/lang/String" "value" "[B") (.int 0)) (.int 110)) (by decide +kernel)
      | 1, _ => hs (.eq (.elem (.field (.string RX4 100) "java/lang/String" "value" "[B") (.int 1)) (.int 101)) (by decide +kernel)
      | 2, _ => hs (.eq (.elem (.field (.string RX4 100) "java/lang/String" "value" "[B") (.int 2)) (.int 97)) (by decide +kernel)
      | 3, _ => hs (.eq (.elem (.field (.string RX4 100) "java/lang/String" "value" "[B") (.int 3)) (.int 114)) (by decide +kernel)
      | n + 4, h => absurd h (by show ¬ (n + 4 < 4); omega))
    | 11, _ => (fun j hj => match j, hj with
      | 0, _ => hs (.eq (.elem (.field (.string RX4 102) "java/lang/String" "value" "[B") (.int 0)) (.int 116)) (by decide +kernel)
      | 1, _ => hs (.eq (.elem (.field (.string RX4 102) "java/lang/String" "value" "[B") (.int 1)) (.int 105)) (by decide +kernel)
      | 2, _ => hs (.eq (.elem (.field (.string RX4 102) "java/lang/String" "value" "[B") (.int 2)) (.int 116)) (by decide +kernel)
      | 3, _ => hs (.eq (.elem (.field (.string RX4 102) "java/lang/String" "value" "[B") (.int 3)) (.int 108)) (by decide +kernel)
      | 4, _ => hs (.eq (.elem (.field (.string RX4 102) "java/lang/String" "value" "[B") (.int 4)) (.int 101)) (by decide +kernel)
      | n + 5, h => absurd h (by show ¬ (n + 5 < 5); omega))
    | 12, _ => (fun j hj => match j, hj with
      | 0, _ => hs (.eq (.elem (.field (.string RX4 104) "java/lang/String" "value" "[B") (.int 0)) (.int 98)) (by decide +kernel)
      | 1, _ => hs (.eq (.elem (.field (.string RX4 104) "java/lang/String" "value" "[B") (.int 1)) (.int 111)) (by decide +kernel)
      | 2, _ => hs (.eq (.elem (.field (.string RX4 104) "java/lang/String" "value" "[B") (.int 2)) (.int 100)) (by decide +kernel)
      | 3, _ => hs (.eq (.elem (.field (.string RX4 104) "java/lang/String" "value" "[B") (.int 3)) (.int 121)) (by decide +kernel)
      | n + 4, h => absurd h (by show ¬ (n + 4 < 4); omega))
    | n + 13, h => absurd h (by omega))
    (fun i j hi hj hij => by
    match i, j, hi, hj, hij with
    | 0, 0, _, _, h => exact absurd rfl h
    | 0, 1, _, _, _ => exact Or.inl (hs (.not (.eq (.string RX9 75) (.string RX9 81))) (by decide +kernel))
    | 0, 2, _, _, _ => exact Or.inl (hs (.not (.eq (.string RX9 75) (.string RX9 83))) (by decide +kernel))
    | 0, 3, _, _, _ => exact Or.inl (hs (.not (.eq (.string RX9 75) (.string RX9 85))) (by decide +kernel))
    | 0, 4, _, _, _ => exact Or.inl (hs (.not (.eq (.string RX9 75) (.string RX9 87))) (by decide +kernel))
    | 0, 5, _, _, _ => exact Or.inl (hs (.not (.eq (.string RX9 75) (.string RX9 89))) (by decide +kernel))
    | 0, 6, _, _, _ => exact Or.inl (hs (.not (.eq (.string RX9 75) (.string RX9 91))) (by decide +kernel))
    | 0, 7, _, _, _ => exact Or.inl (hs (.not (.eq (.string RX9 75) (.string RX4 90))) (by decide +kernel))
    | 0, 8, _, _, _ => exact Or.inl (hs (.not (.eq (.string RX9 75) (.string RX4 96))) (by decide +kernel))
    | 0, 9, _, _, _ => exact Or.inl (hs (.not (.eq (.string RX9 75) (.string RX4 98))) (by decide +kernel))
    | 0, 10, _, _, _ => exact Or.inl (hs (.not (.eq (.string RX9 75) (.string RX4 100))) (by decide +kernel))
    | 0, 11, _, _, _ => exact Or.inl (hs (.not (.eq (.string RX9 75) (.string RX4 102))) (by decide +kernel))
    | 0, 12, _, _, _ => exact Or.inl (hs (.not (.eq (.string RX9 75) (.string RX4 104))) (by decide +kernel))
    | 1, 0, _, _, _ => exact Or.inr (hs (.not (.eq (.string RX9 75) (.string RX9 81))) (by decide +kernel))
    | 1, 1, _, _, h => exact absurd rfl h
    | 1, 2, _, _, _ => exact Or.inl (hs (.not (.eq (.string RX9 81) (.string RX9 83))) (by decide +kernel))
    | 1, 3, _, _, _ => exact Or.inl (hs (.not (.eq (.string RX9 81) (.string RX9 85))) (by decide +kernel))
    | 1, 4, _, _, _ => exact Or.inl (hs (.not (.eq (.string RX9 81) (.string RX9 87))) (by decide +kernel))
    | 1, 5, _, _, _ => exact Or.inl (hs (.not (.eq (.string RX9 81) (.string RX9 89))) (by decide +kernel))
    | 1, 6, _, _, _ => exact Or.inl (hs (.not (.eq (.string RX9 81) (.string RX9 91))) (by decide +kernel))
    | 1, 7, _, _, _ => exact Or.inl (hs (.not (.eq (.string RX9 81) (.string RX4 90))) (by decide +kernel))
    | 1, 8, _, _, _ => exact Or.inl (hs (.not (.eq (.string RX9 81) (.string RX4 96))) (by decide +kernel))
    | 1, 9, _, _, _ => exact Or.inl (hs (.not (.eq (.string RX9 81) (.string RX4 98))) (by decide +kernel))
    | 1, 10, _, _, _ => exact Or.inl (hs (.not (.eq (.string RX9 81) (.string RX4 100))) (by decide +kernel))
    | 1, 11, _, _, _ => exact Or.inl (hs (.not (.eq (.string RX9 81) (.string RX4 102))) (by decide +kernel))
    | 1, 12, _, _, _ => exact Or.inl (hs (.not (.eq (.string RX9 81) (.string RX4 104))) (by decide +kernel))
    | 2, 0, _, _, _ => exact Or.inr (hs (.not (.eq (.string RX9 75) (.string RX9 83))) (by decide +kernel))
    | 2, 1, _, _, _ => exact Or.inr (hs (.not (.eq (.string RX9 81) (.string RX9 83))) (by decide +kernel))
    | 2, 2, _, _, h => exact absurd rfl h
    | 2, 3, _, _, _ => exact Or.inl (hs (.not (.eq (.string RX9 83) (.string RX9 85))) (by decide +kernel))
    | 2, 4, _, _, _ => exact Or.inl (hs (.not (.eq (.string RX9 83) (.string RX9 87))) (by decide +kernel))
    | 2, 5, _, _, _ => exact Or.inl (hs (.not (.eq (.string RX9 83) (.string RX9 89))) (by decide +kernel))
    | 2, 6, _, _, _ => exact Or.inl (hs (.not (.eq (.string RX9 83) (.string RX9 91))) (by decide +kernel))
    | 2, 7, _, _, _ => exact Or.inl (hs (.not (.eq (.string RX9 83) (.string RX4 90))) (by decide +kernel))
    | 2, 8, _, _, _ => exact Or.inl (hs (.not (.eq (.string RX9 83) (.string RX4 96))) (by decide +kernel))
    | 2, 9, _, _, _ => exact Or.inl (hs (.not (.eq (.string RX9 83) (.string RX4 98))) (by decide +kernel))
    | 2, 10, _, _, _ => exact Or.inl (hs (.not (.eq (.string RX9 83) (.string RX4 100))) (by decide +kernel))
    | 2, 11, _, _, _ => exact Or.inl (hs (.not (.eq (.string RX9 83) (.string RX4 102))) (by decide +kernel))
    | 2, 12, _, _, _ => exact Or.inl (hs (.not (.eq (.string RX9 83) (.string RX4 104))) (by decide +kernel))
    | 3, 0, _, _, _ => exact Or.inr (hs (.not (.eq (.string RX9 75) (.string RX9 85))) (by decide +kernel))
    | 3, 1, _, _, _ => exact Or.inr (hs (.not (.eq (.string RX9 81) (.string RX9 85))) (by decide +kernel))
    | 3, 2, _, _, _ => exact Or.inr (hs (.not (.eq (.string RX9 83) (.string RX9 85))) (by decide +kernel))
    | 3, 3, _, _, h => exact absurd rfl h
    | 3, 4, _, _, _ => exact Or.inl (hs (.not (.eq (.string RX9 85) (.string RX9 87))) (by decide +kernel))
    | 3, 5, _, _, _ => exact Or.inl (hs (.not (.eq (.string RX9 85) (.string RX9 89))) (by decide +kernel))
    | 3, 6, _, _, _ => exact Or.inl (hs (.not (.eq (.string RX9 85) (.string RX9 91))) (by decide +kernel))
    | 3, 7, _, _, _ => exact Or.inl (hs (.not (.eq (.string RX9 85) (.string RX4 90))) (by decide +kernel))
    | 3, 8, _, _, _ => exact Or.inl (hs (.not (.eq (.string RX9 85) (.string RX4 96))) (by decide +kernel))
    | 3, 9, _, _, _ => exact Or.inl (hs (.not (.eq (.string RX9 85) (.string RX4 98))) (by decide +kernel))
    | 3, 10, _, _, _ => exact Or.inl (hs (.not (.eq (.string RX9 85) (.string RX4 100))) (by decide +kernel))
    | 3, 11, _, _, _ => exact Or.inl (hs (.not (.eq (.string RX9 85) (.string RX4 102))) (by decide +kernel))
    | 3, 12, _, _, _ => exact Or.inl (hs (.not (.eq (.string RX9 85) (.string RX4 104))) (by decide +kernel))
    | 4, 0, _, _, _ => exact Or.inr (hs (.not (.eq (.string RX9 75) (.string RX9 87))) (by decide +kernel))
    | 4, 1, _, _, _ => exact Or.inr (hs (.not (.eq (.string RX9 81) (.string RX9 87))) (by decide +kernel))
    | 4, 2, _, _, _ => exact Or.inr (hs (.not (.eq (.string RX9 83) (.string RX9 87))) (by decide +kernel))
    | 4, 3, _, _, _ => exact Or.inr (hs (.not (.eq (.string RX9 85) (.string RX9 87))) (by decide +kernel))
    | 4, 4, _, _, h => exact absurd rfl h
    | 4, 5, _, _, _ => exact Or.inl (hs (.not (.eq (.string RX9 87) (.string RX9 89))) (by decide +kernel))
    | 4, 6, _, _, _ => exact Or.inl (hs (.not (.eq (.string RX9 87) (.string RX9 91))) (by decide +kernel))
    | 4, 7, _, _, _ => exact Or.inl (hs (.not (.eq (.string RX9 87) (.string RX4 90))) (by decide +kernel))
    | 4, 8, _, _, _ => exact Or.inl (hs (.not (.eq (.string RX9 87) (.string RX4 96))) (by decide +kernel))
    | 4, 9, _, _, _ => exact Or.inl (hs (.not (.eq (.string RX9 87) (.string RX4 98))) (by decide +kernel))
    | 4, 10, _, _, _ => exact Or.inl (hs (.not (.eq (.string RX9 87) (.string RX4 100))) (by decide +kernel))
    | 4, 11, _, _, _ => exact Or.inl (hs (.not (.eq (.string RX9 87) (.string RX4 102))) (by decide +kernel))
    | 4, 12, _, _, _ => exact Or.inl (hs (.not (.eq (.string RX9 87) (.string RX4 104))) (by decide +kernel))
    | 5, 0, _, _, _ => exact Or.inr (hs (.not (.eq (.string RX9 75) (.string RX9 89))) (by decide +kernel))
    | 5, 1, _, _, _ => exact Or.inr (hs (.not (.eq (.string RX9 81) (.string RX9 89))) (by decide +kernel))
    | 5, 2, _, _, _ => exact Or.inr (hs (.not (.eq (.string RX9 83) (.string RX9 89))) (by decide +kernel))
    | 5, 3, _, _, _ => exact Or.inr (hs (.not (.eq (.string RX9 85) (.string RX9 89))) (by decide +kernel))
    | 5, 4, _, _, _ => exact Or.inr (hs (.not (.eq (.string RX9 87) (.string RX9 89))) (by decide +kernel))
    | 5, 5, _, _, h => exact absurd rfl h
    | 5, 6, _, _, _ => exact Or.inl (hs (.not (.eq (.string RX9 89) (.string RX9 91))) (by decide +kernel))
    | 5, 7, _, _, _ => exact Or.inl (hs (.not (.eq (.string RX9 89) (.string RX4 90))) (by decide +kernel))
    | 5, 8, _, _, _ => exact Or.inl (hs (.not (.eq (.string RX9 89) (.string RX4 96))) (by decide +kernel))
    | 5, 9, _, _, _ => exact Or.inl (hs (.not (.eq (.string RX9 89) (.string RX4 98))) (by decide +kernel))
    | 5, 10, _, _, _ => exact Or.inl (hs (.not (.eq (.string RX9 89) (.string RX4 100))) (by decide +kernel))
    | 5, 11, _, _, _ => exact Or.inl (hs (.not (.eq (.string RX9 89) (.string RX4 102))) (by decide +kernel))
    | 5, 12, _, _, _ => exact Or.inl (hs (.not (.eq (.string RX9 89) (.string RX4 104))) (by decide +kernel))
    | 6, 0, _, _, _ => exact Or.inr (hs (.not (.eq (.string RX9 75) (.string RX9 91))) (by decide +kernel))
    | 6, 1, _, _, _ => exact Or.inr (hs (.not (.eq (.string RX9 81) (.string RX9 91))) (by decide +kernel))
    | 6, 2, _, _, _ => exact Or.inr (hs (.not (.eq (.string RX9 83) (.string RX9 91))) (by decide +kernel))
    | 6, 3, _, _, _ => exact Or.inr (hs (.not (.eq (.string RX9 85) (.string RX9 91))) (by decide +kernel))
    | 6, 4, _, _, _ => exact Or.inr (hs (.not (.eq (.string RX9 87) (.string RX9 91))) (by decide +kernel))
    | 6, 5, _, _, _ => exact Or.inr (hs (.not (.eq (.string RX9 89) (.string RX9 91))) (by decide +kernel))
    | 6, 6, _, _, h => exact absurd rfl h
    | 6, 7, _, _, _ => exact Or.inl (hs (.not (.eq (.string RX9 91) (.string RX4 90))) (by decide +kernel))
    | 6, 8, _, _, _ => exact Or.inl (hs (.not (.eq (.string RX9 91) (.string RX4 96))) (by decide +kernel))
    | 6, 9, _, _, _ => exact Or.inl (hs (.not (.eq (.string RX9 91) (.string RX4 98))) (by decide +kernel))
    | 6, 10, _, _, _ => exact Or.inl (hs (.not (.eq (.string RX9 91) (.string RX4 100))) (by decide +kernel))
    | 6, 11, _, _, _ => exact Or.inl (hs (.not (.eq (.string RX9 91) (.string RX4 102))) (by decide +kernel))
    | 6, 12, _, _, _ => exact Or.inl (hs (.not (.eq (.string RX9 91) (.string RX4 104))) (by decide +kernel))
    | 7, 0, _, _, _ => exact Or.inr (hs (.not (.eq (.string RX9 75) (.string RX4 90))) (by decide +kernel))
    | 7, 1, _, _, _ => exact Or.inr (hs (.not (.eq (.string RX9 81) (.string RX4 90))) (by decide +kernel))
    | 7, 2, _, _, _ => exact Or.inr (hs (.not (.eq (.string RX9 83) (.string RX4 90))) (by decide +kernel))
    | 7, 3, _, _, _ => exact Or.inr (hs (.not (.eq (.string RX9 85) (.string RX4 90))) (by decide +kernel))
    | 7, 4, _, _, _ => exact Or.inr (hs (.not (.eq (.string RX9 87) (.string RX4 90))) (by decide +kernel))
    | 7, 5, _, _, _ => exact Or.inr (hs (.not (.eq (.string RX9 89) (.string RX4 90))) (by decide +kernel))
    | 7, 6, _, _, _ => exact Or.inr (hs (.not (.eq (.string RX9 91) (.string RX4 90))) (by decide +kernel))
    | 7, 7, _, _, h => exact absurd rfl h
    | 7, 8, _, _, _ => exact Or.inl (hs (.not (.eq (.string RX4 90) (.string RX4 96))) (by decide +kernel))
    | 7, 9, _, _, _ => exact Or.inl (hs (.not (.eq (.string RX4 90) (.string RX4 98))) (by decide +kernel))
    | 7, 10, _, _, _ => exact Or.inl (hs (.not (.eq (.string RX4 90) (.string RX4 100))) (by decide +kernel))
    | 7, 11, _, _, _ => exact Or.inl (hs (.not (.eq (.string RX4 90) (.string RX4 102))) (by decide +kernel))
    | 7, 12, _, _, _ => exact Or.inl (hs (.not (.eq (.string RX4 90) (.string RX4 104))) (by decide +kernel))
    | 8, 0, _, _, _ => exact Or.inr (hs (.not (.eq (.string RX9 75) (.string RX4 96))) (by decide +kernel))
    | 8, 1, _, _, _ => exact Or.inr (hs (.not (.eq (.string RX9 81) (.string RX4 96))) (by decide +kernel))
    | 8, 2, _, _, _ => exact Or.inr (hs (.not (.eq (.string RX9 83) (.string RX4 96))) (by decide +kernel))
    | 8, 3, _, _, _ => exact Or.inr (hs (.not (.eq (.string RX9 85) (.string RX4 96))) (by decide +kernel))
    | 8, 4, _, _, _ => exact Or.inr (hs (.not (.eq (.string RX9 87) (.string RX4 96))) (by decide +kernel))
    | 8, 5, _, _, _ => exact Or.inr (hs (.not (.eq (.string RX9 89) (.string RX4 96))) (by decide +kernel))
    | 8, 6, _, _, _ => exact Or.inr (hs (.not (.eq (.string RX9 91) (.string RX4 96))) (by decide +kernel))
    | 8, 7, _, _, _ => exact Or.inr (hs (.not (.eq (.string RX4 90) (.string RX4 96))) (by decide +kernel))
    | 8, 8, _, _, h => exact absurd rfl h
    | 8, 9, _, _, _ => exact Or.inl (hs (.not (.eq (.string RX4 96) (.string RX4 98))) (by decide +kernel))
    | 8, 10, _, _, _ => exact Or.inl (hs (.not (.eq (.string RX4 96) (.string RX4 100))) (by decide +kernel))
    | 8, 11, _, _, _ => exact Or.inl (hs (.not (.eq (.string RX4 96) (.string RX4 102))) (by decide +kernel))
    | 8, 12, _, _, _ => exact Or.inl (hs (.not (.eq (.string RX4 96) (.string RX4 104))) (by decide +kernel))
    | 9, 0, _, _, _ => exact Or.inr (hs (.not (.eq (.string RX9 75) (.string RX4 98))) (by decide +kernel))
    | 9, 1, _, _, _ => exact Or.inr (hs (.not (.eq (.string RX9 81) (.string RX4 98))) (by decide +kernel))
    | 9, 2, _, _, _ => exact Or.inr (hs (.not (.eq (.string RX9 83) (.string RX4 98))) (by decide +kernel))
    | 9, 3, _, _, _ => exact Or.inr (hs (.not (.eq (.string RX9 85) (.string RX4 98))) (by decide +kernel))
    | 9, 4, _, _, _ => exact Or.inr (hs (.not (.eq (.string RX9 87) (.string RX4 98))) (by decide +kernel))
    | 9, 5, _, _, _ => exact Or.inr (hs (.not (.eq (.string RX9 89) (.string RX4 98))) (by decide +kernel))
    | 9, 6, _, _, _ => exact Or.inr (hs (.not (.eq (.string RX9 91) (.string RX4 98))) (by decide +kernel))
    | 9, 7, _, _, _ => exact Or.inr (hs (.not (.eq (.string RX4 90) (.string RX4 98))) (by decide +kernel))
    | 9, 8, _, _, _ => exact Or.inr (hs (.not (.eq (.string RX4 96) (.string RX4 98))) (by decide +kernel))
    | 9, 9, _, _, h => exact absurd rfl h
    | 9, 10, _, _, _ => exact Or.inl (hs (.not (.eq (.string RX4 98) (.string RX4 100))) (by decide +kernel))
    | 9, 11, _, _, _ => exact Or.inl (hs (.not (.eq (.string RX4 98) (.string RX4 102))) (by decide +kernel))
    | 9, 12, _, _, _ => exact Or.inl (hs (.not (.eq (.string RX4 98) (.string RX4 104))) (by decide +kernel))
    | 10, 0, _, _, _ => exact Or.inr (hs (.not (.eq (.string RX9 75) (.string RX4 100))) (by decide +kernel))
    | 10, 1, _, _, _ => exact Or.inr (hs (.not (.eq (.string RX9 81) (.string RX4 100))) (by decide +kernel))
    | 10, 2, _, _, _ => exact Or.inr (hs (.not (.eq (.string RX9 83) (.string RX4 100))) (by decide +kernel))
    | 10, 3, _, _, _ => exact Or.inr (hs (.not (.eq (.string RX9 85) (.string RX4 100))) (by decide +kernel))
    | 10, 4, _, _, _ => exact Or.inr (hs (.not (.eq (.string RX9 87) (.string RX4 100))) (by decide +kernel))
    | 10, 5, _, _, _ => exact Or.inr (hs (.not (.eq (.string RX9 89) (.string RX4 100))) (by decide +kernel))
    | 10, 6, _, _, _ => exact Or.inr (hs (.not (.eq (.string RX9 91) (.string RX4 100))) (by decide +kernel))
    | 10, 7, _, _, _ => exact Or.inr (hs (.not (.eq (.string RX4 90) (.string RX4 100))) (by decide +kernel))
    | 10, 8, _, _, _ => exact Or.inr (hs (.not (.eq (.string RX4 96) (.string RX4 100))) (by decide +kernel))
    | 10, 9, _, _, _ => exact Or.inr (hs (.not (.eq (.string RX4 98) (.string RX4 100))) (by decide +kernel))
    | 10, 10, _, _, h => exact absurd rfl h
    | 10, 11, _, _, _ => exact Or.inl (hs (.not (.eq (.string RX4 100) (.string RX4 102))) (by decide +kernel))
    | 10, 12, _, _, _ => exact Or.inl (hs (.not (.eq (.string RX4 100) (.string RX4 104))) (by decide +kernel))
    | 11, 0, _, _, _ => exact Or.inr (hs (.not (.eq (.string RX9 75) (.string RX4 102))) (by decide +kernel))
    | 11, 1, _, _, _ => exact Or.inr (hs (.not (.eq (.string RX9 81) (.string RX4 102))) (by decide +kernel))
    | 11, 2, _, _, _ => exact Or.inr (hs (.not (.eq (.string RX9 83) (.string RX4 102))) (by decide +kernel))
    | 11, 3, _, _, _ => exact Or.inr (hs (.not (.eq (.string RX9 85) (.string RX4 102))) (by decide +kernel))
    | 11, 4, _, _, _ => exact Or.inr (hs (.not (.eq (.string RX9 87) (.string RX4 102))) (by decide +kernel))
    | 11, 5, _, _, _ => exact Or.inr (hs (.not (.eq (.string RX9 89) (.string RX4 102))) (by decide +kernel))
    | 11, 6, _, _, _ => exact Or.inr (hs (.not (.eq (.string RX9 91) (.string RX4 102))) (by decide +kernel))
    | 11, 7, _, _, _ => exact Or.inr (hs (.not (.eq (.string RX4 90) (.string RX4 102))) (by decide +kernel))
    | 11, 8, _, _, _ => exact Or.inr (hs (.not (.eq (.string RX4 96) (.string RX4 102))) (by decide +kernel))
    | 11, 9, _, _, _ => exact Or.inr (hs (.not (.eq (.string RX4 98) (.string RX4 102))) (by decide +kernel))
    | 11, 10, _, _, _ => exact Or.inr (hs (.not (.eq (.string RX4 100) (.string RX4 102))) (by decide +kernel))
    | 11, 11, _, _, h => exact absurd rfl h
    | 11, 12, _, _, _ => exact Or.inl (hs (.not (.eq (.string RX4 102) (.string RX4 104))) (by decide +kernel))
    | 12, 0, _, _, _ => exact Or.inr (hs (.not (.eq (.string RX9 75) (.string RX4 104))) (by decide +kernel))
    | 12, 1, _, _, _ => exact Or.inr (hs (.not (.eq (.string RX9 81) (.string RX4 104))) (by decide +kernel))
    | 12, 2, _, _, _ => exact Or.inr (hs (.not (.eq (.string RX9 83) (.string RX4 104))) (by decide +kernel))
    | 12, 3, _, _, _ => exact Or.inr (hs (.not (.eq (.string RX9 85) (.string RX4 104))) (by decide +kernel))
    | 12, 4, _, _, _ => exact Or.inr (hs (.not (.eq (.string RX9 87) (.string RX4 104))) (by decide +kernel))
    | 12, 5, _, _, _ => exact Or.inr (hs (.not (.eq (.string RX9 89) (.string RX4 104))) (by decide +kernel))
    | 12, 6, _, _, _ => exact Or.inr (hs (.not (.eq (.string RX9 91) (.string RX4 104))) (by decide +kernel))
    | 12, 7, _, _, _ => exact Or.inr (hs (.not (.eq (.string RX4 90) (.string RX4 104))) (by decide +kernel))
    | 12, 8, _, _, _ => exact Or.inr (hs (.not (.eq (.string RX4 96) (.string RX4 104))) (by decide +kernel))
    | 12, 9, _, _, _ => exact Or.inr (hs (.not (.eq (.string RX4 98) (.string RX4 104))) (by decide +kernel))
    | 12, 10, _, _, _ => exact Or.inr (hs (.not (.eq (.string RX4 100) (.string RX4 104))) (by decide +kernel))
    | 12, 11, _, _, _ => exact Or.inr (hs (.not (.eq (.string RX4 102) (.string RX4 104))) (by decide +kernel))
    | 12, 12, _, _, h => exact absurd rfl h
    | n + 13, _, h, _, _ => exact absurd h (by omega)
    | _, n + 13, _, h, _ => exact absurd h (by omega)) (fun a h => Nat.not_le.mpr h)
theorem zstart {args : Array Value} {s : State} (hts : ∀ w ∈ lw_tbl, w.before args s = true) (hgv : (Jvm.Cond.and given_1 narrow_1).before args s = true) : ∃ adK adV : Nat → Nat, zenv adK s ∧ zst adK adV (fun q : Nat => s.heap.size ≤ q) s s.heap := by
  have hs := flat_of_before _ hgv
  obtain ⟨aK, adV, hS, hev0⟩ := zstrs hgv
  obtain ⟨t13, ht13⟩ : ∃ t : Nat, va_Z "jdk/internal/util/Preconditions" "SIOOBE_FORMATTER" "Ljava/util/function/BiFunction;" (match t with | 0 => Value.null | t + 1 => Value.ref t) (fun q : Nat => s.heap.size ≤ q) s s.heap := by
    rcases va_Zqof (A := fun q : Nat => s.heap.size ≤ q) (hts (.laysStatic "jdk/internal/util/Preconditions" "SIOOBE_FORMATTER" "Ljava/util/function/BiFunction;") (zml3 94 rfl)) (hts (.initialized "jdk/internal/util/Preconditions") (by decide +kernel)) (hs (.isRef (.static "jdk/internal/util/Preconditions" "SIOOBE_FORMATTER" "Ljava/util/function/BiFunction;")) (by decide +kernel)) (fun a h => Nat.not_le.mpr h) with h | ⟨t, h⟩
    · exact ⟨0, h⟩
    · exact ⟨t + 1, h⟩
  obtain ⟨adK, hadK⟩ : ∃ z : Nat → Nat, z = fun i => if i = 13 then t13 else aK i := ⟨_, rfl⟩
  have e13 : adK 13 = t13 := by rw [hadK]; exact if_pos rfl
  have eK : ∀ i, i < 13 → adK i = aK i := fun i hi => by rw [hadK]; exact if_neg (by omega)
  have hev : ∀ i : Nat, i < 13 → ((fun i => ([.string RX9 75, .string RX9 81, .string RX9 83, .string RX9 85, .string RX9 87, .string RX9 89, .string RX9 91, .string RX4 90, .string RX4 96, .string RX4 98, .string RX4 100, .string RX4 102, .string RX4 104] : List Term).getD i (.string RX9 75)) i).eval args s none [] s = some (.ref (adK i)) := fun i hi => by rw [eK i hi]; exact hev0 i hi
  refine ⟨adK, adV, ⟨va_Nw.of rfl (hts (.methodLinkNest RX11 11 yX9_init "GammaShelf") (zml1 37 rfl)),
    va_Nw.of rfl (hts (.methodLinkNest RX11 30 yX0_init "GammaShelf") (zml1 90 rfl)),
    va_Nw.of rfl (hts (.methodLinkNest RX11 37 yX6_init "GammaShelf") (zml1 116 rfl)),
    va_Nw.of rfl (hts (.methodLinkNest RX11 62 yX7_init "GammaShelf") (zml1 233 rfl)),
    va_Nw.of rfl (hts (.methodLinkNest RX1 17 yX5_init "GammaShelf") (zml2 86 rfl)),
    va_Nw.of rfl (hts (.methodLinkNest RX6 59 yX11_binaryDigits "GammaShelf") (zml3 181 rfl)),
    va_Nw.of rfl (hts (.methodLinkNest RX1 181 yX11_rarity "GammaShelf") (zml6 28 rfl)),
    vk_R.of (hts (.stringRef RX9 75 "ies") (zml3 64 rfl)) (hev 0 (by decide)),
    vk_R.of (hts (.stringRef RX9 81 "ing") (zml3 117 rfl)) (hev 1 (by decide)),
    vk_R.of (hts (.stringRef RX9 83 "ed") (zml3 118 rfl)) (hev 2 (by decide)),
    vk_R.of (hts (.stringRef RX9 85 "s") (zml3 119 rfl)) (hev 3 (by decide)),
    vk_R.of (hts (.stringRef RX9 87 "ss") (zml3 120 rfl)) (hev 4 (by decide)),
    vk_R.of (hts (.stringRef RX9 89 "us") (zml3 121 rfl)) (hev 5 (by decide)),
    vk_R.of (hts (.stringRef RX9 91 "is") (zml3 122 rfl)) (hev 6 (by decide)),
    vk_R.of (hts (.stringRef RX4 90 "or") (zml4 194 rfl)) (hev 7 (by decide)),
    vk_R.of (hts (.stringRef RX4 96 "and") (zml4 199 rfl)) (hev 8 (by decide)),
    vk_R.of (hts (.stringRef RX4 98 "not") (zml4 200 rfl)) (hev 9 (by decide)),
    vk_R.of (hts (.stringRef RX4 100 "near") (zml4 201 rfl)) (hev 10 (by decide)),
    vk_R.of (hts (.stringRef RX4 102 "title") (zml4 202 rfl)) (hev 11 (by decide)),
    vk_R.of (hts (.stringRef RX4 104 "body") (zml4 203 rfl)) (hev 12 (by decide)),
    by obtain ⟨b9, _, _, _, h9, -⟩ := Cond.exactly_spec (hs (.exactly (.string RX11 184) "java/lang/String") (by decide +kernel)); exact ⟨b9, vk_R.of (hts (.stringRef RX11 184 "no such document") (zml6 123 rfl)) h9⟩,
    by obtain ⟨b9, _, _, _, h9, -⟩ := Cond.exactly_spec (hs (.exactly (.string RX11 220) "java/lang/String") (by decide +kernel)); exact ⟨b9, vk_R.of (hts (.stringRef RX11 220 "no such bit") (zml6 163 rfl)) h9⟩,
    by obtain ⟨b9, _, _, _, h9, -⟩ := Cond.exactly_spec (hs (.exactly (.string RX11 232) "java/lang/String") (by decide +kernel)); exact ⟨b9, vk_R.of (hts (.stringRef RX11 232 "no such letter") (zml6 178 rfl)) h9⟩,
    by obtain ⟨b9, _, _, _, h9, -⟩ := Cond.exactly_spec (hs (.exactly (.string RX11 251) "java/lang/String") (by decide +kernel)); exact ⟨b9, vk_R.of (hts (.stringRef RX11 251 "a hit below 0") (zml6 189 rfl)) h9⟩,
    by obtain ⟨b9, _, _, _, h9, -⟩ := Cond.exactly_spec (hs (.exactly (.string RX11 256) "java/lang/String") (by decide +kernel)); exact ⟨b9, vk_R.of (hts (.stringRef RX11 256 "no such rank") (zml6 201 rfl)) h9⟩,
    by obtain ⟨b9, _, _, _, h9, -⟩ := Cond.exactly_spec (hs (.exactly (.string RX11 267) "java/lang/String") (by decide +kernel)); exact ⟨b9, vk_R.of (hts (.stringRef RX11 267 "a step below 0") (zml6 221 rfl)) h9⟩,
    by obtain ⟨b9, _, _, _, h9, -⟩ := Cond.exactly_spec (hs (.exactly (.string RX11 284) "java/lang/String") (by decide +kernel)); exact ⟨b9, vk_R.of (hts (.stringRef RX11 284 "no such document on the shelf") (zml6 230 rfl)) h9⟩,
    fun w hw => va_Nw.of (zkind_tab (zNG_kind w hw)) (hts w (zAT_lw w (List.mem_filter.mp hw).1)),
    va_Nw.of rfl (hts (.castable RX12 RX12) (by decide +kernel)),
    va_AO.of (hts (.arrayOver (.object RX5)) (by decide +kernel)),
    va_AO.of (hts (.arrayOver (.object RX8)) (by decide +kernel))⟩, ?_, ?_, ?_, ?_, ?_⟩
  · exact vx_Zqof (hts (.laysStatic Bundle.tN "UNASSIGNED_STACK" Bundle.steD) (by decide +kernel)) (hts (.initialized Bundle.tN) (by decide +kernel)) (hs (.isRef (.static Bundle.tN "UNASSIGNED_STACK" Bundle.steD)) (by decide +kernel)) (fun a h => Nat.not_le.mpr h)
  · exact vx_Zqof (hts (.laysStatic Bundle.tN "SUPPRESSED_SENTINEL" Bundle.listD) (by decide +kernel)) (hts (.initialized Bundle.tN) (by decide +kernel)) (hs (.isRef (.static Bundle.tN "SUPPRESSED_SENTINEL" Bundle.listD)) (by decide +kernel)) (fun a h => Nat.not_le.mpr h)
  · exact va_Zof (hts (.laysStatic "java/lang/String" "COMPACT_STRINGS" "Z") (zml3 78 rfl)) (hts (.initialized "java/lang/String") (by decide +kernel)) (va_eqt (hs (.eq (.static "java/lang/String" "COMPACT_STRINGS" "Z") (.int 1)) (by decide +kernel))) (fun a h => Nat.not_le.mpr h)
  · exact ⟨fun i hi => by rw [eK i hi]; exact hS.1 i hi, fun i j hi hj h => hS.2 i j hi hj (by rw [← eK i hi, ← eK j hj]; exact h)⟩
  · unfold zfm
    rw [e13]
    exact ht13
def R_law : String := "GammaShelfLaw"
def lw_P (b : Addr) (xs : List Int32) (args : Array Value) (s : State) : Prop := args = #[.ref b] ∧ s.IntsAt b xs ∧ xs.length ≤ 3072 ∧ (Jvm.Cond.and given_1 narrow_1).before args s = true
def lw_Q (_ : Array Value) (s : State) (o : Outcome) (t : State) : Prop := o = .returned (some (.int 1)) ∧ Framed s o t [] 601024 7293034
def lw_Z (below : List Frame) (a : Array Value) (s : State) : State → Prop := fun t => ∃ o, t.status = .running ∧ Ended t below o ∧ lw_Q a s o t
/-- the law's own end, with 1 on the stack, nothing written that was there before, its room as the claim has it -/
theorem lw_ret {p : Program} {l : Launch} {e : Env} {s : State} {m : MethodId} {below : List Frame} {meth : Method} {c : Code} {b : Nat} (hx : p.tables.exec = Jvm.exec) (hb : c.code = code) (hr : meth.sig.returnType = ret) (hlocks : meth.locks = false) {pc : Nat} {H : Heap} {ls : Array Slot} (hdg : decode code pc = .ok (.ireturn, 1)) : W p l e room_1 s m #[Value.ref b] below meth c H [] 601024 7293034 (lw_Z below #[Value.ref b] s) (F0 m pc ls [.int 1]) := by
  intro T hT X
  obtain ⟨fs, hret, hrun, hended, hW, hframe⟩ := X.leave (v := some (.int 1)) (hlocks := hlocks) (fun h => by rw [hr] at h; cases h)
  have hmeth' : T.vm.method? m = some meth := X.method'
  refine ⟨T.setFrames fs, ?_, .returned (some (.int 1)), hrun, hended, rfl, ⟨_, rfl⟩, hW, hframe⟩
  jvm_step X.here [X.here.top, hx, hb, hdg, hmeth', hr, ret, narrow_b1]
  (try refine ⟨rfl, ?_⟩); (try refine ⟨rfl, ?_⟩)
  first | (intro acts; rw [hret _ acts rfl rfl rfl]) | rw [hret _ _ rfl rfl rfl]
  exact Steps.refl _
/-- what holds at the law's entry: the machine, the code, the tables' words (any of lw_tbl by 'hts w (by decide +kernel)'), the script of L ints xs at the cell b, what the Statement gives of the start (any of its parts by flat_of_before) -/
def lw_At (p : Program) (s : State) (m : MethodId) (meth : Method) (c : Code) (b L : Nat) (xs : Nat → Int32) : Prop :=
  p.tables.exec = Jvm.exec ∧ c.code = code ∧ meth.sig.returnType = ret ∧ c.maxLocals = 7 ∧ s.vm.findClass R_law = some m.cls ∧ (∀ w ∈ lw_tbl, w.before #[Value.ref b] s = true) ∧ va_X b L xs s s.heap ∧ b < s.heap.size ∧ meth.locks = false ∧ (Jvm.Cond.and given_1 narrow_1).before #[Value.ref b] s = true
/-- what every case of the law's walk takes along -/
def zLaw (p : Program) (s : State) (m : MethodId) (meth : Method) (c : Code) (b L : Nat) (xs : Nat → Int32) (A : Nat → Prop) (adK adV : Nat → Nat) : Prop :=
  p.tables.exec = Jvm.exec ∧ c.code = code ∧ meth.sig.returnType = ret ∧ c.maxLocals = 7 ∧ s.vm.findClass RL = some m.cls ∧ (∀ w ∈ zG, w.before #[Value.ref b] s = true) ∧ zenv adK s ∧ zst adK adV A s s.heap ∧ (∀ q : Nat, s.heap.size ≤ q → A q) ∧ A = (fun q : Nat => s.heap.size ≤ q) ∧ va_X b L xs s s.heap ∧ b < s.heap.size ∧ ¬ A b ∧ meth.locks = false
theorem zK_same2 {D : va_G} {cl : List vw_C} {tys : List (ClassId × FieldType)} {s : State} {i j : Nat} {k k' : ClassId} (hK : va_K D cl tys s) (hi : tys[i]? = some (k, .int)) (hj : tys[j]? = some (k', .int)) : k' = k := by
  have h3 : s.vm.findClass ("[" ++ FieldType.int.toString) = some k := (hK.2 i _ hi).2
  have h4 : s.vm.findClass ("[" ++ FieldType.int.toString) = some k' := (hK.2 j _ hj).2
  exact Option.some.inj (h4.symm.trans h3)
abbrev zInv (dC : Nat → ClassId) (dI : Nat → Nat → Nat) (A : Nat → Prop) (s : State) (b : Nat) (h0 : Nat) (h1 : Nat) (h2 : Nat) (h69 : Nat) (q69 : Nat → Nat) (h18 : Nat) (h4 : Nat) (h7 : Nat) (h6 : Nat) (h5 : Nat) (h33 : Nat) (h39 : Nat) (h37 : Nat) (h35 : Nat) (h38 : Nat) (h3 : Nat) (h11 : Nat) (h12 : Nat) (h34 : Nat) (h36 : Nat) (h23 : Nat) (h29 : Nat) (h31 : Nat) (h24 : Nat) (h25 : Nat) (h26 : Nat) (h27 : Nat) (h28 : Nat) (h30 : Nat) (h19 : Nat) (h20 : Nat) (h22 : Nat) (h21 : Nat) (h32 : Nat) (h51 : Nat) (h61 : Nat) (h56 : Nat) (h13 : Nat) (h14 : Nat) (h119 : Nat) (h48 : Nat) (h40 : Nat) (h46 : Nat) (h41 : Nat) (h42 : Nat) (h43 : Nat) (h44 : Nat) (h45 : Nat) (h47 : Nat) (h49 : Nat) (h50 : Nat) (h52 : Nat) (h53 : Nat) (h68 : Nat) (h55 : Nat) (h54 : Nat) (h59 : Nat) (h60 : Nat) (h57 : Nat) (h58 : Nat) (h62 : Nat) (h63 : Nat) (h64 : Nat) (h65 : Nat) (h8 : Nat) (h9 : Nat) (h10 : Nat) (h66 : Nat) (h67 : Nat) (h15 : Nat) (h16 : Nat) (h17 : Nat) (k2 : ClassId) (k70 : ClassId) (k7 : ClassId) (k6 : ClassId) (k5 : ClassId) (k39 : ClassId) (k37 : ClassId) (k35 : ClassId) (k38 : ClassId) (k3 : ClassId) (k12 : ClassId) (k34 : ClassId) (k36 : ClassId) (k29 : ClassId) (k31 : ClassId) (k24 : ClassId) (k25 : ClassId) (k26 : ClassId) (k27 : ClassId) (k28 : ClassId) (k30 : ClassId) (k19 : ClassId) (k20 : ClassId) (k22 : ClassId) (k21 : ClassId) (k79 : ClassId) (k84 : ClassId) (k82 : ClassId) (k81 : ClassId) (k72 : ClassId) (k71 : ClassId) (k73 : ClassId) (k80 : ClassId) (k75 : ClassId) (k86 : ClassId) (k87 : ClassId) (k89 : ClassId) (k88 : ClassId) (k74 : ClassId) (k76 : ClassId) (k77 : ClassId) (k78 : ClassId) (k51 : ClassId) (k61 : ClassId) (k56 : ClassId) (k117 : ClassId) (k13 : ClassId) (k14 : ClassId) (k119 : ClassId) (k83 : ClassId) (k85 : ClassId) (k90 : ClassId) (k46 : ClassId) (k41 : ClassId) (k42 : ClassId) (k43 : ClassId) (k44 : ClassId) (k45 : ClassId) (k47 : ClassId) (k52 : ClassId) (k53 : ClassId) (k55 : ClassId) (k54 : ClassId) (k59 : ClassId) (k60 : ClassId) (k58 : ClassId) (k62 : ClassId) (k63 : ClassId) (k64 : ClassId) (k65 : ClassId) (k92 : ClassId) (k93 : ClassId) (k94 : ClassId) (k95 : ClassId) (k96 : ClassId) (k97 : ClassId) (k98 : ClassId) (k104 : ClassId) (k105 : ClassId) (k101 : ClassId) (k100 : ClassId) (k103 : ClassId) (k102 : ClassId) (k99 : ClassId) (k106 : ClassId) (k107 : ClassId) (k108 : ClassId) (k109 : ClassId) (k110 : ClassId) (k112 : ClassId) (k113 : ClassId) (k114 : ClassId) (k111 : ClassId) (k115 : ClassId) (k8 : ClassId) (k9 : ClassId) (k10 : ClassId) (k116 : ClassId) (k66 : ClassId) (k67 : ClassId) (k118 : ClassId) (lw0 : Int64) (v1 : Nat → Int32) (f2 : Nat → Int32) (v69 : Nat → Int32) (f70 : Nat → Int32) (v18 : Nat → Int32) (v4 : Nat → Int32) (f7 : Nat → Int32) (f6 : Nat → Int32) (f5 : Nat → Int64) (v33 : Nat → Int32) (f39 : Nat → Int32) (f37 : Nat → Int32) (f35 : Nat → Int32) (f38 : Nat → Int32) (f3 : Nat → Int32) (v11 : Nat → Int32) (f12 : Nat → Int64) (f34 : Nat → Int32) (f36 : Nat → Int32) (v23 : Nat → Int32) (f29 : Nat → Int32) (f31 : Nat → Int32) (f24 : Nat → Int32) (f25 : Nat → Int32) (f26 : Nat → Int32) (f27 : Nat → Int32) (f28 : Nat → Int32) (f30 : Nat → Int32) (f19 : Nat → Int32) (f20 : Nat → Int32) (f22 : Nat → Int32) (f21 : Nat → Int32) (f79 : Nat → Int32) (f84 : Nat → Int32) (f82 : Nat → Int32) (f81 : Nat → Int32) (f72 : Nat → Int32) (f71 : Nat → Int32) (f73 : Nat → Int32) (f80 : Nat → Int32) (f75 : Nat → Int32) (f86 : Nat → Int32) (f87 : Nat → Int32) (f89 : Nat → Int32) (f88 : Nat → Int32) (f74 : Nat → Int32) (f76 : Nat → Int32) (f77 : Nat → Int32) (f78 : Nat → Int32) (v32 : Nat → Int32) (f51 : Nat → Option Nat) (f61 : Nat → Int32) (f56 : Nat → Option Nat) (f117 : Nat → Int32) (f13 : Nat → Int32) (f14 : Nat → Int32) (f119 : Nat → Int64) (f83 : Nat → Int32) (f85 : Nat → Int32) (f90 : Nat → Int32) (v48 : Nat → Int32) (v40 : Nat → Int32) (f46 : Nat → Int32) (f41 : Nat → Int32) (f42 : Nat → Int32) (f43 : Nat → Int32) (f44 : Nat → Int32) (f45 : Nat → Int32) (f47 : Nat → Int32) (v49 : Nat → Int32) (v50 : Nat → Int32) (f52 : Nat → Int32) (f53 : Nat → Int32) (f68 : Nat → Int32) (f55 : Nat → Int32) (f54 : Nat → Int32) (f59 : Nat → Int32) (f60 : Nat → Int32) (f58 : Nat → Int32) (f62 : Nat → Int32) (f63 : Nat → Int32) (f64 : Nat → Int32) (f65 : Nat → Int32) (f92 : Nat → Int32) (f93 : Nat → Int32) (f94 : Nat → Int32) (f95 : Nat → Int32) (f96 : Nat → Int32) (f97 : Nat → Int32) (f98 : Nat → Int32) (f104 : Nat → Int32) (f105 : Nat → Int32) (sf91 : List Value) (f101 : Nat → Int32) (f100 : Nat → Int32) (f103 : Nat → Int32) (f102 : Nat → Int32) (f99 : Nat → Int32) (f106 : Nat → Int32) (f107 : Nat → Int32) (f108 : Nat → Int32) (f109 : Nat → Int32) (f110 : Nat → Int32) (f112 : Nat → Int32) (f113 : Nat → Int32) (f114 : Nat → Int32) (f111 : Nat → Int32) (f115 : Nat → Int32) (f8 : Nat → Int32) (f9 : Nat → Int32) (f10 : Nat → Int32) (f116 : Nat → Int32) (f66 : Nat → Int32) (f67 : Nat → Int32) (f118 : Nat → Int32) (H : Heap) (locs : List Loc) (ls : Array Slot) (u23_ : Nat → Int32) (w23_ : Nat → Int64) (a23_ : Nat → Nat → Int32) (b23_ : Nat → Nat → Int64) : Prop := ∃ (q23_ : Nat → Nat → Option Nat) (pl23 : va_W) (hw23 nw23 : Nat) (sp23 : Value), nw23 ≤ 4800 ∧ va_P (dC, dI) vwCl ([(h0, .inr (11, mX11 h1 h4 h11 h18 h23 h32 h33 h40 h48 h49 sp23 (w23_ 0))), (h1, .inr (9, mX9 h2 h3 (upd (upd v1 2 (u23_ 60)) 3 (u23_ 61)))), (h2, zi k2 600 (a23_ 90)), (h69, .inr (13, mX13 q69 (upd (upd (upd (upd (upd (upd (upd (upd (upd (upd (upd (upd (upd (upd (upd (upd (upd (upd (upd (upd (upd (upd (upd (upd (upd (upd v69 1 (u23_ 6)) 4 (u23_ 7)) 13 (u23_ 8)) 16 (u23_ 9)) 18 (u23_ 10)) 20 (u23_ 11)) 21 (u23_ 12)) 23 (u23_ 13)) 24 (u23_ 14)) 30 (u23_ 15)) 32 (u23_ 16)) 33 (u23_ 17)) 34 (u23_ 18)) 35 (u23_ 19)) 36 (u23_ 20)) 37 (u23_ 21)) 42 (u23_ 22)) 47 (u23_ 23)) 50 (u23_ 24)) 51 (u23_ 25)) 53 (u23_ 26)) 54 (u23_ 27)) 55 (u23_ 28)) 59 (u23_ 29)) 60 (u23_ 30)) 71 (u23_ 31)))), ((q69 0), zi k70 600 (a23_ 20)), (h18, .inr (0, mX0 h19 h20 h21 h22 (upd (upd v18 4 (u23_ 1)) 5 (u23_ 2)))), (h4, .inr (10, mX10 h5 h6 h7 h8 h9 h10 (upd v4 7 (u23_ 62)))), (h7, zi k7 400 (a23_ 93)), (h6, zi k6 400 (a23_ 92)), (h5, .inl (k5, 400, .inr (.inl (b23_ 2)))), (h33, .inr (2, mX2 h1 h4 h11 h34 h35 h36 h37 h38 h39 (upd (upd v33 9 (u23_ 4)) 10 (u23_ 5)))), (h39, zi k39 400 (a23_ 19)), (h37, zi k37 400 (a23_ 17)), (h35, zi k35 300 (a23_ 15)), (h38, zi k38 400 (a23_ 18)), (h3, zi k3 12 (a23_ 91)), (h11, .inr (10, mX10 h12 h13 h14 h15 h16 h17 (upd v11 7 (u23_ 59)))), (h12, .inl (k12, 10, .inr (.inl (b23_ 1)))), (h34, zi k34 300 (a23_ 14)), (h36, zi k36 300 (a23_ 16)), (h23, .inr (6, mX6 h24 h25 h26 h27 h28 h29 h30 h31 (upd (upd (upd (upd v23 8 (u23_ 42)) 9 (u23_ 43)) 10 (u23_ 44)) 11 (u23_ 45)))), (h29, zi k29 400 (a23_ 77)), (h31, zi k31 400 (a23_ 79)), (h24, zi k24 1250 (a23_ 72)), (h25, zi k25 833 (a23_ 73)), (h26, zi k26 833 (a23_ 74)), (h27, zi k27 400 (a23_ 75)), (h28, zi k28 400 (a23_ 76)), (h30, zi k30 400 (a23_ 78)), (h19, zi k19 120 (a23_ 0)), (h20, zi k20 120 (a23_ 1)), (h22, zi k22 120 (a23_ 3)), (h21, zi k21 120 (a23_ 2)), ((q69 11), zi k79 120 (a23_ 22)), ((q69 19), zi k84 12 (a23_ 27)), ((q69 15), zi k82 10 (a23_ 25)), ((q69 14), zi k81 120 (a23_ 24)), ((q69 3), zi k72 400 (a23_ 35)), ((q69 2), zi k71 4800 (a23_ 28)), ((q69 5), zi k73 122880 (a23_ 46)), ((q69 12), zi k80 120 (a23_ 23)), ((q69 7), zi k75 120 (a23_ 61)), ((q69 25), zi k86 400 (a23_ 30)), ((q69 26), zi k87 400 (a23_ 31)), ((q69 28), zi k89 400 (a23_ 33)), ((q69 27), zi k88 400 (a23_ 32)), ((q69 6), zi k74 120 (a23_ 51)), ((q69 8), zi k76 120 (a23_ 66)), ((q69 9), zi k77 120 (a23_ 67)), ((q69 10), zi k78 120 (a23_ 21)), (h32, .inr (8, mX8 h23 (upd (upd (upd (upd (upd (upd (upd (upd v32 1 (u23_ 51)) 2 (u23_ 52)) 3 (u23_ 53)) 4 (u23_ 54)) 5 (u23_ 55)) 6 (u23_ 56)) 7 (u23_ 57)) 8 (u23_ 58)))), (h51, .inl (k51, 400, .inr (.inr (.inr (.inr (q23_ 1)))))), (h61, zi k61 40 (a23_ 12)), (h56, .inl (k56, 40, .inr (.inr (.inr (.inr (q23_ 0)))))), ((q69 73), zi k117 400 (a23_ 64)), (h13, zi k13 10 (a23_ 88)), (h14, zi k14 10 (a23_ 89)), (h119, .inl (k119, 1, .inr (.inl (b23_ 0)))), ((q69 17), zi k83 12 (a23_ 26)), ((q69 22), zi k85 40000 (a23_ 29)), ((q69 29), zi k90 400 (a23_ 34)), (h48, .inr (4, mX4 h1 h4 h11 h40 (upd (upd (upd (upd (upd (upd (upd (upd v48 4 (u23_ 34)) 5 (u23_ 35)) 6 (u23_ 36)) 7 (u23_ 37)) 8 (u23_ 38)) 9 (u23_ 39)) 10 (u23_ 40)) 11 (u23_ 41)))), (h40, .inr (7, mX7 h41 h42 h43 h44 h45 h46 h47 (upd (upd (upd (upd (upd v40 7 (u23_ 46)) 8 (u23_ 47)) 9 (u23_ 48)) 10 (u23_ 49)) 11 (u23_ 50)))), (h46, zi k46 160 (a23_ 85)), (h41, zi k41 40 (a23_ 80)), (h42, zi k42 40 (a23_ 81)), (h43, zi k43 40 (a23_ 82)), (h44, zi k44 40 (a23_ 83)), (h45, zi k45 40 (a23_ 84)), (h47, zi k47 270 (a23_ 86)), (h49, .inr (1, mX1 h18 h4 h40 h50 h56 h57 h59 h60 h61 h62 h63 h64 h65 h66 h67 hw23 (upd v49 16 (u23_ 3)))), (h50, .inr (3, mX3 h4 h23 h40 h51 h52 h53 h54 h55 (upd (upd v50 8 (u23_ 32)) 9 (u23_ 33)))), (h52, zi k52 400 (a23_ 68)), (h53, zi k53 400 (a23_ 69)), (hw23, zi k61 nw23 (a23_ 9)), (h55, zi k55 300 (a23_ 71)), (h54, zi k54 832 (a23_ 70)), (h59, zi k59 40 (a23_ 10)), (h60, zi k60 40 (a23_ 11)), (h57, .inr (5, mX5 h58)), (h58, zi k58 26 (a23_ 87)), (h62, zi k62 120 (a23_ 13)), (h63, zi k63 120 (a23_ 4)), (h64, zi k64 120 (a23_ 5)), (h65, zi k65 120 (a23_ 6)), ((q69 38), zi k92 1300 (a23_ 36)), ((q69 39), zi k93 1300 (a23_ 37)), ((q69 40), zi k94 1300 (a23_ 38)), ((q69 41), zi k95 1300 (a23_ 39)), ((q69 43), zi k96 40 (a23_ 40)), ((q69 44), zi k97 40 (a23_ 41)), ((q69 45), zi k98 40 (a23_ 42)), ((q69 57), zi k104 168 (a23_ 49)), ((q69 58), zi k105 168 (a23_ 50)), ((q69 31), .inr (12, sf91)), ((q69 49), zi k101 200 (a23_ 45)), ((q69 48), zi k100 2400 (a23_ 44)), ((q69 56), zi k103 1300 (a23_ 48)), ((q69 52), zi k102 1300 (a23_ 47)), ((q69 46), zi k99 40 (a23_ 43)), ((q69 61), zi k106 200 (a23_ 52)), ((q69 62), zi k107 16000 (a23_ 53)), ((q69 63), zi k108 40 (a23_ 54)), ((q69 64), zi k109 40 (a23_ 55)), ((q69 65), zi k110 40 (a23_ 56)), ((q69 67), zi k112 120 (a23_ 58)), ((q69 68), zi k113 120 (a23_ 59)), ((q69 69), zi k114 120 (a23_ 60)), ((q69 66), zi k111 1034 (a23_ 57)), ((q69 70), zi k115 120 (a23_ 62)), (h8, zi k8 12 (a23_ 94)), (h9, zi k9 12 (a23_ 95)), (h10, zi k10 13 (a23_ 96)), ((q69 72), zi k116 13 (a23_ 63)), (h66, zi k66 120 (a23_ 7)), (h67, zi k67 120 (a23_ 8)), ((q69 74), zi k118 400 (a23_ 65))] ++ pl23) H ∧ va_D A ([(h0, .inr (11, mX11 h1 h4 h11 h18 h23 h32 h33 h40 h48 h49 sp23 (w23_ 0))), (h1, .inr (9, mX9 h2 h3 (upd (upd v1 2 (u23_ 60)) 3 (u23_ 61)))), (h2, zi k2 600 (a23_ 90)), (h69, .inr (13, mX13 q69 (upd (upd (upd (upd (upd (upd (upd (upd (upd (upd (upd (upd (upd (upd (upd (upd (upd (upd (upd (upd (upd (upd (upd (upd (upd (upd v69 1 (u23_ 6)) 4 (u23_ 7)) 13 (u23_ 8)) 16 (u23_ 9)) 18 (u23_ 10)) 20 (u23_ 11)) 21 (u23_ 12)) 23 (u23_ 13)) 24 (u23_ 14)) 30 (u23_ 15)) 32 (u23_ 16)) 33 (u23_ 17)) 34 (u23_ 18)) 35 (u23_ 19)) 36 (u23_ 20)) 37 (u23_ 21)) 42 (u23_ 22)) 47 (u23_ 23)) 50 (u23_ 24)) 51 (u23_ 25)) 53 (u23_ 26)) 54 (u23_ 27)) 55 (u23_ 28)) 59 (u23_ 29)) 60 (u23_ 30)) 71 (u23_ 31)))), ((q69 0), zi k70 600 (a23_ 20)), (h18, .inr (0, mX0 h19 h20 h21 h22 (upd (upd v18 4 (u23_ 1)) 5 (u23_ 2)))), (h4, .inr (10, mX10 h5 h6 h7 h8 h9 h10 (upd v4 7 (u23_ 62)))), (h7, zi k7 400 (a23_ 93)), (h6, zi k6 400 (a23_ 92)), (h5, .inl (k5, 400, .inr (.inl (b23_ 2)))), (h33, .inr (2, mX2 h1 h4 h11 h34 h35 h36 h37 h38 h39 (upd (upd v33 9 (u23_ 4)) 10 (u23_ 5)))), (h39, zi k39 400 (a23_ 19)), (h37, zi k37 400 (a23_ 17)), (h35, zi k35 300 (a23_ 15)), (h38, zi k38 400 (a23_ 18)), (h3, zi k3 12 (a23_ 91)), (h11, .inr (10, mX10 h12 h13 h14 h15 h16 h17 (upd v11 7 (u23_ 59)))), (h12, .inl (k12, 10, .inr (.inl (b23_ 1)))), (h34, zi k34 300 (a23_ 14)), (h36, zi k36 300 (a23_ 16)), (h23, .inr (6, mX6 h24 h25 h26 h27 h28 h29 h30 h31 (upd (upd (upd (upd v23 8 (u23_ 42)) 9 (u23_ 43)) 10 (u23_ 44)) 11 (u23_ 45)))), (h29, zi k29 400 (a23_ 77)), (h31, zi k31 400 (a23_ 79)), (h24, zi k24 1250 (a23_ 72)), (h25, zi k25 833 (a23_ 73)), (h26, zi k26 833 (a23_ 74)), (h27, zi k27 400 (a23_ 75)), (h28, zi k28 400 (a23_ 76)), (h30, zi k30 400 (a23_ 78)), (h19, zi k19 120 (a23_ 0)), (h20, zi k20 120 (a23_ 1)), (h22, zi k22 120 (a23_ 3)), (h21, zi k21 120 (a23_ 2)), ((q69 11), zi k79 120 (a23_ 22)), ((q69 19), zi k84 12 (a23_ 27)), ((q69 15), zi k82 10 (a23_ 25)), ((q69 14), zi k81 120 (a23_ 24)), ((q69 3), zi k72 400 (a23_ 35)), ((q69 2), zi k71 4800 (a23_ 28)), ((q69 5), zi k73 122880 (a23_ 46)), ((q69 12), zi k80 120 (a23_ 23)), ((q69 7), zi k75 120 (a23_ 61)), ((q69 25), zi k86 400 (a23_ 30)), ((q69 26), zi k87 400 (a23_ 31)), ((q69 28), zi k89 400 (a23_ 33)), ((q69 27), zi k88 400 (a23_ 32)), ((q69 6), zi k74 120 (a23_ 51)), ((q69 8), zi k76 120 (a23_ 66)), ((q69 9), zi k77 120 (a23_ 67)), ((q69 10), zi k78 120 (a23_ 21)), (h32, .inr (8, mX8 h23 (upd (upd (upd (upd (upd (upd (upd (upd v32 1 (u23_ 51)) 2 (u23_ 52)) 3 (u23_ 53)) 4 (u23_ 54)) 5 (u23_ 55)) 6 (u23_ 56)) 7 (u23_ 57)) 8 (u23_ 58)))), (h51, .inl (k51, 400, .inr (.inr (.inr (.inr (q23_ 1)))))), (h61, zi k61 40 (a23_ 12)), (h56, .inl (k56, 40, .inr (.inr (.inr (.inr (q23_ 0)))))), ((q69 73), zi k117 400 (a23_ 64)), (h13, zi k13 10 (a23_ 88)), (h14, zi k14 10 (a23_ 89)), (h119, .inl (k119, 1, .inr (.inl (b23_ 0)))), ((q69 17), zi k83 12 (a23_ 26)), ((q69 22), zi k85 40000 (a23_ 29)), ((q69 29), zi k90 400 (a23_ 34)), (h48, .inr (4, mX4 h1 h4 h11 h40 (upd (upd (upd (upd (upd (upd (upd (upd v48 4 (u23_ 34)) 5 (u23_ 35)) 6 (u23_ 36)) 7 (u23_ 37)) 8 (u23_ 38)) 9 (u23_ 39)) 10 (u23_ 40)) 11 (u23_ 41)))), (h40, .inr (7, mX7 h41 h42 h43 h44 h45 h46 h47 (upd (upd (upd (upd (upd v40 7 (u23_ 46)) 8 (u23_ 47)) 9 (u23_ 48)) 10 (u23_ 49)) 11 (u23_ 50)))), (h46, zi k46 160 (a23_ 85)), (h41, zi k41 40 (a23_ 80)), (h42, zi k42 40 (a23_ 81)), (h43, zi k43 40 (a23_ 82)), (h44, zi k44 40 (a23_ 83)), (h45, zi k45 40 (a23_ 84)), (h47, zi k47 270 (a23_ 86)), (h49, .inr (1, mX1 h18 h4 h40 h50 h56 h57 h59 h60 h61 h62 h63 h64 h65 h66 h67 hw23 (upd v49 16 (u23_ 3)))), (h50, .inr (3, mX3 h4 h23 h40 h51 h52 h53 h54 h55 (upd (upd v50 8 (u23_ 32)) 9 (u23_ 33)))), (h52, zi k52 400 (a23_ 68)), (h53, zi k53 400 (a23_ 69)), (hw23, zi k61 nw23 (a23_ 9)), (h55, zi k55 300 (a23_ 71)), (h54, zi k54 832 (a23_ 70)), (h59, zi k59 40 (a23_ 10)), (h60, zi k60 40 (a23_ 11)), (h57, .inr (5, mX5 h58)), (h58, zi k58 26 (a23_ 87)), (h62, zi k62 120 (a23_ 13)), (h63, zi k63 120 (a23_ 4)), (h64, zi k64 120 (a23_ 5)), (h65, zi k65 120 (a23_ 6)), ((q69 38), zi k92 1300 (a23_ 36)), ((q69 39), zi k93 1300 (a23_ 37)), ((q69 40), zi k94 1300 (a23_ 38)), ((q69 41), zi k95 1300 (a23_ 39)), ((q69 43), zi k96 40 (a23_ 40)), ((q69 44), zi k97 40 (a23_ 41)), ((q69 45), zi k98 40 (a23_ 42)), ((q69 57), zi k104 168 (a23_ 49)), ((q69 58), zi k105 168 (a23_ 50)), ((q69 31), .inr (12, sf91)), ((q69 49), zi k101 200 (a23_ 45)), ((q69 48), zi k100 2400 (a23_ 44)), ((q69 56), zi k103 1300 (a23_ 48)), ((q69 52), zi k102 1300 (a23_ 47)), ((q69 46), zi k99 40 (a23_ 43)), ((q69 61), zi k106 200 (a23_ 52)), ((q69 62), zi k107 16000 (a23_ 53)), ((q69 63), zi k108 40 (a23_ 54)), ((q69 64), zi k109 40 (a23_ 55)), ((q69 65), zi k110 40 (a23_ 56)), ((q69 67), zi k112 120 (a23_ 58)), ((q69 68), zi k113 120 (a23_ 59)), ((q69 69), zi k114 120 (a23_ 60)), ((q69 66), zi k111 1034 (a23_ 57)), ((q69 70), zi k115 120 (a23_ 62)), (h8, zi k8 12 (a23_ 94)), (h9, zi k9 12 (a23_ 95)), (h10, zi k10 13 (a23_ 96)), ((q69 72), zi k116 13 (a23_ 63)), (h66, zi k66 120 (a23_ 7)), (h67, zi k67 120 (a23_ 8)), ((q69 74), zi k118 400 (a23_ 65))] ++ pl23) ∧ va_S A s.heap H locs ∧ lv_has ls 7 [(0, .ref b), (1, .ref h0), (2, .ref h69), (3, .ref h119), (4, .int (u23_ 0))] ∧ zA 0 300 (a23_ 1) ∧ zA 0 119 (a23_ 6) ∧ zA 0 4914 (a23_ 9) ∧ zA 0 119 (a23_ 13) ∧ zA (-1) 299 (a23_ 15) ∧ zA 0 399 (a23_ 16) ∧ zA 0 299 (a23_ 17) ∧ zA 0 299 (a23_ 18) ∧ zA 0 512 (a23_ 22) ∧ zA 0 512 (a23_ 23) ∧ zA 0 12 (a23_ 25) ∧ zA (-1) 119 (a23_ 31) ∧ zA (-1) 1023 (a23_ 32) ∧ zA 0 399 (a23_ 34) ∧ zA 0 12 (a23_ 35) ∧ zA (-1) 1299 (a23_ 37) ∧ zA (-1) 1299 (a23_ 38) ∧ zA 0 12 (a23_ 45) ∧ zA 0 400 (a23_ 46) ∧ zA 0 600 (a23_ 66) ∧ zA 0 399 (a23_ 68) ∧ zA 0 831 (a23_ 71) ∧ zA 0 1250 (a23_ 73) ∧ zA 0 832 (a23_ 76) ∧ zA 0 12000 (a23_ 86) ∧ zA 0 9 (a23_ 88) ∧ zA (-1) 9 (a23_ 89) ∧ zA 0 399 (a23_ 92) ∧ zA (-1) 399 (a23_ 93) ∧ (0 ≤ (u23_ 0).toInt ∧ (u23_ 0).toInt ≤ 3072) ∧ (0 ≤ (u23_ 1).toInt ∧ (u23_ 1).toInt ≤ 120) ∧ (0 ≤ (u23_ 3).toInt ∧ (u23_ 3).toInt ≤ 120) ∧ (0 ≤ (u23_ 4).toInt ∧ (u23_ 4).toInt ≤ 300) ∧ (0 ≤ (u23_ 5).toInt ∧ (u23_ 5).toInt ≤ 300) ∧ (0 ≤ (u23_ 6).toInt ∧ (u23_ 6).toInt ≤ 600) ∧ (0 ≤ (u23_ 7).toInt ∧ (u23_ 7).toInt ≤ 400) ∧ (0 ≤ (u23_ 8).toInt ∧ (u23_ 8).toInt ≤ 120) ∧ (0 ≤ (u23_ 9).toInt ∧ (u23_ 9).toInt ≤ 10) ∧ ((-1) ≤ (u23_ 10).toInt ∧ (u23_ 10).toInt ≤ 12) ∧ (0 ≤ (u23_ 11).toInt ∧ (u23_ 11).toInt ≤ 12) ∧ (0 ≤ (u23_ 14).toInt ∧ (u23_ 14).toInt ≤ 1) ∧ (0 ≤ (u23_ 15).toInt ∧ (u23_ 15).toInt ≤ 1) ∧ (0 ≤ (u23_ 18).toInt ∧ (u23_ 18).toInt ≤ 600) ∧ (0 ≤ (u23_ 19).toInt ∧ (u23_ 19).toInt ≤ 600) ∧ (0 ≤ (u23_ 20).toInt ∧ (u23_ 20).toInt ≤ 3) ∧ (0 ≤ (u23_ 21).toInt ∧ (u23_ 21).toInt ≤ 600) ∧ (0 ≤ (u23_ 22).toInt ∧ (u23_ 22).toInt ≤ 1300) ∧ (0 ≤ (u23_ 23).toInt ∧ (u23_ 23).toInt ≤ 40) ∧ (0 ≤ (u23_ 24).toInt ∧ (u23_ 24).toInt ≤ 200) ∧ (0 ≤ (u23_ 25).toInt ∧ (u23_ 25).toInt ≤ 160) ∧ (0 ≤ (u23_ 26).toInt ∧ (u23_ 26).toInt ≤ 1300) ∧ (0 ≤ (u23_ 27).toInt ∧ (u23_ 27).toInt ≤ 12) ∧ (0 ≤ (u23_ 28).toInt ∧ (u23_ 28).toInt ≤ 1) ∧ (0 ≤ (u23_ 29).toInt ∧ (u23_ 29).toInt ≤ 168) ∧ (0 ≤ (u23_ 31).toInt ∧ (u23_ 31).toInt ≤ 120) ∧ (0 ≤ (u23_ 32).toInt ∧ (u23_ 32).toInt ≤ 400) ∧ (0 ≤ (u23_ 33).toInt ∧ (u23_ 33).toInt ≤ 300) ∧ (0 ≤ (u23_ 39).toInt ∧ (u23_ 39).toInt ≤ 1) ∧ (0 ≤ (u23_ 41).toInt ∧ (u23_ 41).toInt ≤ 12) ∧ (0 ≤ (u23_ 42).toInt ∧ (u23_ 42).toInt ≤ 833) ∧ (0 ≤ (u23_ 43).toInt ∧ (u23_ 43).toInt ≤ 1250) ∧ (0 ≤ (u23_ 46).toInt ∧ (u23_ 46).toInt ≤ 40) ∧ (0 ≤ (u23_ 47).toInt ∧ (u23_ 47).toInt ≤ 160) ∧ (0 ≤ (u23_ 48).toInt ∧ (u23_ 48).toInt ≤ 270) ∧ (0 ≤ (u23_ 59).toInt ∧ (u23_ 59).toInt ≤ 10) ∧ (0 ≤ (u23_ 60).toInt ∧ (u23_ 60).toInt ≤ 600) ∧ (0 ≤ (u23_ 61).toInt ∧ (u23_ 61).toInt ≤ 12) ∧ (0 ≤ (u23_ 62).toInt ∧ (u23_ 62).toInt ≤ 400) ∧ ((u23_ 60).toInt = (u23_ 6).toInt) ∧ (zPhi (a23_ 73) (a23_ 76) (a23_ 77) (u23_ 43).toInt (u23_ 42).toInt) ∧ (zJ (a23_ 46) (a23_ 61) (u23_ 7).toInt (u23_ 8).toInt) ∧ (zRd h23 (q23_ 1) pl23) ∧ (zPs k61 (q23_ 0) pl23) ∧ (zSp k24 sp23 pl23) ∧ (zTe (a23_ 90) (a23_ 20) (u23_ 60).toInt) ∧ (zTi (b23_ 1) (a23_ 88) (a23_ 89) (u23_ 59).toInt (a23_ 24) (a23_ 25) (u23_ 9).toInt) ∧ (H.size + zNl (q23_ 1) 400 + 2 * zNl (q23_ 0) 40 ≤ s.heap.size + 600 + 2 * ((u23_ 0).toInt).toNat) ∧ (zTiq (b23_ 2) (a23_ 92) (a23_ 93) (u23_ 62).toInt (a23_ 72) (a23_ 73) (a23_ 74) (a23_ 75) (a23_ 76) (a23_ 77) (u23_ 42).toInt (u23_ 43).toInt (u23_ 44).toInt (u23_ 45).toInt (a23_ 78) (a23_ 79) (u23_ 1).toInt (a23_ 0) (a23_ 1) (a23_ 2) (a23_ 3) (u23_ 2).toInt (a23_ 28) (a23_ 35) (u23_ 7).toInt (a23_ 46) (a23_ 61) (u23_ 8).toInt (a23_ 51) (a23_ 66) (a23_ 67) (a23_ 21) (a23_ 22) (a23_ 23)) ∧ (zPgT (q23_ 1) (a23_ 68) (a23_ 69) (u23_ 32).toInt (a23_ 70) (a23_ 71) (u23_ 33).toInt) ∧ (zHtq (a23_ 13) (u23_ 3).toInt (a23_ 58) (u23_ 31).toInt) ∧ (zRkT (a23_ 13) (a23_ 5) (a23_ 4) (a23_ 6) (u23_ 3).toInt (a23_ 59) (a23_ 60) (a23_ 62) (u23_ 31).toInt)
set_option maxHeartbeats 40000000 in
set_option maxRecDepth 100000 in
theorem zInvE {R : Prop} {dC : Nat → ClassId} {dI : Nat → Nat → Nat} {A : Nat → Prop} {s : State} {b : Nat} {h0 : Nat} {h1 : Nat} {h2 : Nat} {h69 : Nat} {q69 : Nat → Nat} {h18 : Nat} {h4 : Nat} {h7 : Nat} {h6 : Nat} {h5 : Nat} {h33 : Nat} {h39 : Nat} {h37 : Nat} {h35 : Nat} {h38 : Nat} {h3 : Nat} {h11 : Nat} {h12 : Nat} {h34 : Nat} {h36 : Nat} {h23 : Nat} {h29 : Nat} {h31 : Nat} {h24 : Nat} {h25 : Nat} {h26 : Nat} {h27 : Nat} {h28 : Nat} {h30 : Nat} {h19 : Nat} {h20 : Nat} {h22 : Nat} {h21 : Nat} {h32 : Nat} {h51 : Nat} {h61 : Nat} {h56 : Nat} {h13 : Nat} {h14 : Nat} {h119 : Nat} {h48 : Nat} {h40 : Nat} {h46 : Nat} {h41 : Nat} {h42 : Nat} {h43 : Nat} {h44 : Nat} {h45 : Nat} {h47 : Nat} {h49 : Nat} {h50 : Nat} {h52 : Nat} {h53 : Nat} {h68 : Nat} {h55 : Nat} {h54 : Nat} {h59 : Nat} {h60 : Nat} {h57 : Nat} {h58 : Nat} {h62 : Nat} {h63 : Nat} {h64 : Nat} {h65 : Nat} {h8 : Nat} {h9 : Nat} {h10 : Nat} {h66 : Nat} {h67 : Nat} {h15 : Nat} {h16 : Nat} {h17 : Nat} {k2 : ClassId} {k70 : ClassId} {k7 : ClassId} {k6 : ClassId} {k5 : ClassId} {k39 : ClassId} {k37 : ClassId} {k35 : ClassId} {k38 : ClassId} {k3 : ClassId} {k12 : ClassId} {k34 : ClassId} {k36 : ClassId} {k29 : ClassId} {k31 : ClassId} {k24 : ClassId} {k25 : ClassId} {k26 : ClassId} {k27 : ClassId} {k28 : ClassId} {k30 : ClassId} {k19 : ClassId} {k20 : ClassId} {k22 : ClassId} {k21 : ClassId} {k79 : ClassId} {k84 : ClassId} {k82 : ClassId} {k81 : ClassId} {k72 : ClassId} {k71 : ClassId} {k73 : ClassId} {k80 : ClassId} {k75 : ClassId} {k86 : ClassId} {k87 : ClassId} {k89 : ClassId} {k88 : ClassId} {k74 : ClassId} {k76 : ClassId} {k77 : ClassId} {k78 : ClassId} {k51 : ClassId} {k61 : ClassId} {k56 : ClassId} {k117 : ClassId} {k13 : ClassId} {k14 : ClassId} {k119 : ClassId} {k83 : ClassId} {k85 : ClassId} {k90 : ClassId} {k46 : ClassId} {k41 : ClassId} {k42 : ClassId} {k43 : ClassId} {k44 : ClassId} {k45 : ClassId} {k47 : ClassId} {k52 : ClassId} {k53 : ClassId} {k55 : ClassId} {k54 : ClassId} {k59 : ClassId} {k60 : ClassId} {k58 : ClassId} {k62 : ClassId} {k63 : ClassId} {k64 : ClassId} {k65 : ClassId} {k92 : ClassId} {k93 : ClassId} {k94 : ClassId} {k95 : ClassId} {k96 : ClassId} {k97 : ClassId} {k98 : ClassId} {k104 : ClassId} {k105 : ClassId} {k101 : ClassId} {k100 : ClassId} {k103 : ClassId} {k102 : ClassId} {k99 : ClassId} {k106 : ClassId} {k107 : ClassId} {k108 : ClassId} {k109 : ClassId} {k110 : ClassId} {k112 : ClassId} {k113 : ClassId} {k114 : ClassId} {k111 : ClassId} {k115 : ClassId} {k8 : ClassId} {k9 : ClassId} {k10 : ClassId} {k116 : ClassId} {k66 : ClassId} {k67 : ClassId} {k118 : ClassId} {lw0 : Int64} {v1 : Nat → Int32} {f2 : Nat → Int32} {v69 : Nat → Int32} {f70 : Nat → Int32} {v18 : Nat → Int32} {v4 : Nat → Int32} {f7 : Nat → Int32} {f6 : Nat → Int32} {f5 : Nat → Int64} {v33 : Nat → Int32} {f39 : Nat → Int32} {f37 : Nat → Int32} {f35 : Nat → Int32} {f38 : Nat → Int32} {f3 : Nat → Int32} {v11 : Nat → Int32} {f12 : Nat → Int64} {f34 : Nat → Int32} {f36 : Nat → Int32} {v23 : Nat → Int32} {f29 : Nat → Int32} {f31 : Nat → Int32} {f24 : Nat → Int32} {f25 : Nat → Int32} {f26 : Nat → Int32} {f27 : Nat → Int32} {f28 : Nat → Int32} {f30 : Nat → Int32} {f19 : Nat → Int32} {f20 : Nat → Int32} {f22 : Nat → Int32} {f21 : Nat → Int32} {f79 : Nat → Int32} {f84 : Nat → Int32} {f82 : Nat → Int32} {f81 : Nat → Int32} {f72 : Nat → Int32} {f71 : Nat → Int32} {f73 : Nat → Int32} {f80 : Nat → Int32} {f75 : Nat → Int32} {f86 : Nat → Int32} {f87 : Nat → Int32} {f89 : Nat → Int32} {f88 : Nat → Int32} {f74 : Nat → Int32} {f76 : Nat → Int32} {f77 : Nat → Int32} {f78 : Nat → Int32} {v32 : Nat → Int32} {f51 : Nat → Option Nat} {f61 : Nat → Int32} {f56 : Nat → Option Nat} {f117 : Nat → Int32} {f13 : Nat → Int32} {f14 : Nat → Int32} {f119 : Nat → Int64} {f83 : Nat → Int32} {f85 : Nat → Int32} {f90 : Nat → Int32} {v48 : Nat → Int32} {v40 : Nat → Int32} {f46 : Nat → Int32} {f41 : Nat → Int32} {f42 : Nat → Int32} {f43 : Nat → Int32} {f44 : Nat → Int32} {f45 : Nat → Int32} {f47 : Nat → Int32} {v49 : Nat → Int32} {v50 : Nat → Int32} {f52 : Nat → Int32} {f53 : Nat → Int32} {f68 : Nat → Int32} {f55 : Nat → Int32} {f54 : Nat → Int32} {f59 : Nat → Int32} {f60 : Nat → Int32} {f58 : Nat → Int32} {f62 : Nat → Int32} {f63 : Nat → Int32} {f64 : Nat → Int32} {f65 : Nat → Int32} {f92 : Nat → Int32} {f93 : Nat → Int32} {f94 : Nat → Int32} {f95 : Nat → Int32} {f96 : Nat → Int32} {f97 : Nat → Int32} {f98 : Nat → Int32} {f104 : Nat → Int32} {f105 : Nat → Int32} {sf91 : List Value} {f101 : Nat → Int32} {f100 : Nat → Int32} {f103 : Nat → Int32} {f102 : Nat → Int32} {f99 : Nat → Int32} {f106 : Nat → Int32} {f107 : Nat → Int32} {f108 : Nat → Int32} {f109 : Nat → Int32} {f110 : Nat → Int32} {f112 : Nat → Int32} {f113 : Nat → Int32} {f114 : Nat → Int32} {f111 : Nat → Int32} {f115 : Nat → Int32} {f8 : Nat → Int32} {f9 : Nat → Int32} {f10 : Nat → Int32} {f116 : Nat → Int32} {f66 : Nat → Int32} {f67 : Nat → Int32} {f118 : Nat → Int32} {H : Heap} {locs : List Loc} {ls : Array Slot} {u23_ : Nat → Int32} {w23_ : Nat → Int64} {a23_ : Nat → Nat → Int32} {b23_ : Nat → Nat → Int64} (h : zInv dC dI A s b h0 h1 h2 h69 q69 h18 h4 h7 h6 h5 h33 h39 h37 h35 h38 h3 h11 h12 h34 h36 h23 h29 h31 h24 h25 h26 h27 h28 h30 h19 h20 h22 h21 h32 h51 h61 h56 h13 h14 h119 h48 h40 h46 h41 h42 h43 h44 h45 h47 h49 h50 h52 h53 h68 h55 h54 h59 h60 h57 h58 h62 h63 h64 h65 h8 h9 h10 h66 h67 h15 h16 h17 k2 k70 k7 k6 k5 k39 k37 k35 k38 k3 k12 k34 k36 k29 k31 k24 k25 k26 k27 k28 k30 k19 k20 k22 k21 k79 k84 k82 k81 k72 k71 k73 k80 k75 k86 k87 k89 k88 k74 k76 k77 k78 k51 k61 k56 k117 k13 k14 k119 k83 k85 k90 k46 k41 k42 k43 k44 k45 k47 k52 k53 k55 k54 k59 k60 k58 k62 k63 k64 k65 k92 k93 k94 k95 k96 k97 k98 k104 k105 k101 k100 k103 k102 k99 k106 k107 k108 k109 k110 k112 k113 k114 k111 k115 k8 k9 k10 k116 k66 k67 k118 lw0 v1 f2 v69 f70 v18 v4 f7 f6 f5 v33 f39 f37 f35 f38 f3 v11 f12 f34 f36 v23 f29 f31 f24 f25 f26 f27 f28 f30 f19 f20 f22 f21 f79 f84 f82 f81 f72 f71 f73 f80 f75 f86 f87 f89 f88 f74 f76 f77 f78 v32 f51 f61 f56 f117 f13 f14 f119 f83 f85 f90 v48 v40 f46 f41 f42 f43 f44 f45 f47 v49 v50 f52 f53 f68 f55 f54 f59 f60 f58 f62 f63 f64 f65 f92 f93 f94 f95 f96 f97 f98 f104 f105 sf91 f101 f100 f103 f102 f99 f106 f107 f108 f109 f110 f112 f113 f114 f111 f115 f8 f9 f10 f116 f66 f67 f118 H locs ls u23_ w23_ a23_ b23_) (k : ∀ (q23_ : Nat → Nat → Option Nat) (pl23 : va_W) (hw23 nw23 : Nat) (sp23 : Value), (nw23 ≤ 4800) → (va_P (dC, dI) vwCl ([(h0, .inr (11, mX11 h1 h4 h11 h18 h23 h32 h33 h40 h48 h49 sp23 (w23_ 0))), (h1, .inr (9, mX9 h2 h3 (upd (upd v1 2 (u23_ 60)) 3 (u23_ 61)))), (h2, zi k2 600 (a23_ 90)), (h69, .inr (13, mX13 q69 (upd (upd (upd (upd (upd (upd (upd (upd (upd (upd (upd (upd (upd (upd (upd (upd (upd (upd (upd (upd (upd (upd (upd (upd (upd (upd v69 1 (u23_ 6)) 4 (u23_ 7)) 13 (u23_ 8)) 16 (u23_ 9)) 18 (u23_ 10)) 20 (u23_ 11)) 21 (u23_ 12)) 23 (u23_ 13)) 24 (u23_ 14)) 30 (u23_ 15)) 32 (u23_ 16)) 33 (u23_ 17)) 34 (u23_ 18)) 35 (u23_ 19)) 36 (u23_ 20)) 37 (u23_ 21)) 42 (u23_ 22)) 47 (u23_ 23)) 50 (u23_ 24)) 51 (u23_ 25)) 53 (u23_ 26)) 54 (u23_ 27)) 55 (u23_ 28)) 59 (u23_ 29)) 60 (u23_ 30)) 71 (u23_ 31)))), ((q69 0), zi k70 600 (a23_ 20)), (h18, .inr (0, mX0 h19 h20 h21 h22 (upd (upd v18 4 (u23_ 1)) 5 (u23_ 2)))), (h4, .inr (10, mX10 h5 h6 h7 h8 h9 h10 (upd v4 7 (u23_ 62)))), (h7, zi k7 400 (a23_ 93)), (h6, zi k6 400 (a23_ 92)), (h5, .inl (k5, 400, .inr (.inl (b23_ 2)))), (h33, .inr (2, mX2 h1 h4 h11 h34 h35 h36 h37 h38 h39 (upd (upd v33 9 (u23_ 4)) 10 (u23_ 5)))), (h39, zi k39 400 (a23_ 19)), (h37, zi k37 400 (a23_ 17)), (h35, zi k35 300 (a23_ 15)), (h38, zi k38 400 (a23_ 18)), (h3, zi k3 12 (a23_ 91)), (h11, .inr (10, mX10 h12 h13 h14 h15 h16 h17 (upd v11 7 (u23_ 59)))), (h12, .inl (k12, 10, .inr (.inl (b23_ 1)))), (h34, zi k34 300 (a23_ 14)), (h36, zi k36 300 (a23_ 16)), (h23, .inr (6, mX6 h24 h25 h26 h27 h28 h29 h30 h31 (upd (upd (upd (upd v23 8 (u23_ 42)) 9 (u23_ 43)) 10 (u23_ 44)) 11 (u23_ 45)))), (h29, zi k29 400 (a23_ 77)), (h31, zi k31 400 (a23_ 79)), (h24, zi k24 1250 (a23_ 72)), (h25, zi k25 833 (a23_ 73)), (h26, zi k26 833 (a23_ 74)), (h27, zi k27 400 (a23_ 75)), (h28, zi k28 400 (a23_ 76)), (h30, zi k30 400 (a23_ 78)), (h19, zi k19 120 (a23_ 0)), (h20, zi k20 120 (a23_ 1)), (h22, zi k22 120 (a23_ 3)), (h21, zi k21 120 (a23_ 2)), ((q69 11), zi k79 120 (a23_ 22)), ((q69 19), zi k84 12 (a23_ 27)), ((q69 15), zi k82 10 (a23_ 25)), ((q69 14), zi k81 120 (a23_ 24)), ((q69 3), zi k72 400 (a23_ 35)), ((q69 2), zi k71 4800 (a23_ 28)), ((q69 5), zi k73 122880 (a23_ 46)), ((q69 12), zi k80 120 (a23_ 23)), ((q69 7), zi k75 120 (a23_ 61)), ((q69 25), zi k86 400 (a23_ 30)), ((q69 26), zi k87 400 (a23_ 31)), ((q69 28), zi k89 400 (a23_ 33)), ((q69 27), zi k88 400 (a23_ 32)), ((q69 6), zi k74 120 (a23_ 51)), ((q69 8), zi k76 120 (a23_ 66)), ((q69 9), zi k77 120 (a23_ 67)), ((q69 10), zi k78 120 (a23_ 21)), (h32, .inr (8, mX8 h23 (upd (upd (upd (upd (upd (upd (upd (upd v32 1 (u23_ 51)) 2 (u23_ 52)) 3 (u23_ 53)) 4 (u23_ 54)) 5 (u23_ 55)) 6 (u23_ 56)) 7 (u23_ 57)) 8 (u23_ 58)))), (h51, .inl (k51, 400, .inr (.inr (.inr (.inr (q23_ 1)))))), (h61, zi k61 40 (a23_ 12)), (h56, .inl (k56, 40, .inr (.inr (.inr (.inr (q23_ 0)))))), ((q69 73), zi k117 400 (a23_ 64)), (h13, zi k13 10 (a23_ 88)), (h14, zi k14 10 (a23_ 89)), (h119, .inl (k119, 1, .inr (.inl (b23_ 0)))), ((q69 17), zi k83 12 (a23_ 26)), ((q69 22), zi k85 40000 (a23_ 29)), ((q69 29), zi k90 400 (a23_ 34)), (h48, .inr (4, mX4 h1 h4 h11 h40 (upd (upd (upd (upd (upd (upd (upd (upd v48 4 (u23_ 34)) 5 (u23_ 35)) 6 (u23_ 36)) 7 (u23_ 37)) 8 (u23_ 38)) 9 (u23_ 39)) 10 (u23_ 40)) 11 (u23_ 41)))), (h40, .inr (7, mX7 h41 h42 h43 h44 h45 h46 h47 (upd (upd (upd (upd (upd v40 7 (u23_ 46)) 8 (u23_ 47)) 9 (u23_ 48)) 10 (u23_ 49)) 11 (u23_ 50)))), (h46, zi k46 160 (a23_ 85)), (h41, zi k41 40 (a23_ 80)), (h42, zi k42 40 (a23_ 81)), (h43, zi k43 40 (a23_ 82)), (h44, zi k44 40 (a23_ 83)), (h45, zi k45 40 (a23_ 84)), (h47, zi k47 270 (a23_ 86)), (h49, .inr (1, mX1 h18 h4 h40 h50 h56 h57 h59 h60 h61 h62 h63 h64 h65 h66 h67 hw23 (upd v49 16 (u23_ 3)))), (h50, .inr (3, mX3 h4 h23 h40 h51 h52 h53 h54 h55 (upd (upd v50 8 (u23_ 32)) 9 (u23_ 33)))), (h52, zi k52 400 (a23_ 68)), (h53, zi k53 400 (a23_ 69)), (hw23, zi k61 nw23 (a23_ 9)), (h55, zi k55 300 (a23_ 71)), (h54, zi k54 832 (a23_ 70)), (h59, zi k59 40 (a23_ 10)), (h60, zi k60 40 (a23_ 11)), (h57, .inr (5, mX5 h58)), (h58, zi k58 26 (a23_ 87)), (h62, zi k62 120 (a23_ 13)), (h63, zi k63 120 (a23_ 4)), (h64, zi k64 120 (a23_ 5)), (h65, zi k65 120 (a23_ 6)), ((q69 38), zi k92 1300 (a23_ 36)), ((q69 39), zi k93 1300 (a23_ 37)), ((q69 40), zi k94 1300 (a23_ 38)), ((q69 41), zi k95 1300 (a23_ 39)), ((q69 43), zi k96 40 (a23_ 40)), ((q69 44), zi k97 40 (a23_ 41)), ((q69 45), zi k98 40 (a23_ 42)), ((q69 57), zi k104 168 (a23_ 49)), ((q69 58), zi k105 168 (a23_ 50)), ((q69 31), .inr (12, sf91)), ((q69 49), zi k101 200 (a23_ 45)), ((q69 48), zi k100 2400 (a23_ 44)), ((q69 56), zi k103 1300 (a23_ 48)), ((q69 52), zi k102 1300 (a23_ 47)), ((q69 46), zi k99 40 (a23_ 43)), ((q69 61), zi k106 200 (a23_ 52)), ((q69 62), zi k107 16000 (a23_ 53)), ((q69 63), zi k108 40 (a23_ 54)), ((q69 64), zi k109 40 (a23_ 55)), ((q69 65), zi k110 40 (a23_ 56)), ((q69 67), zi k112 120 (a23_ 58)), ((q69 68), zi k113 120 (a23_ 59)), ((q69 69), zi k114 120 (a23_ 60)), ((q69 66), zi k111 1034 (a23_ 57)), ((q69 70), zi k115 120 (a23_ 62)), (h8, zi k8 12 (a23_ 94)), (h9, zi k9 12 (a23_ 95)), (h10, zi k10 13 (a23_ 96)), ((q69 72), zi k116 13 (a23_ 63)), (h66, zi k66 120 (a23_ 7)), (h67, zi k67 120 (a23_ 8)), ((q69 74), zi k118 400 (a23_ 65))] ++ pl23) H) → (va_D A ([(h0, .inr (11, mX11 h1 h4 h11 h18 h23 h32 h33 h40 h48 h49 sp23 (w23_ 0))), (h1, .inr (9, mX9 h2 h3 (upd (upd v1 2 (u23_ 60)) 3 (u23_ 61)))), (h2, zi k2 600 (a23_ 90)), (h69, .inr (13, mX13 q69 (upd (upd (upd (upd (upd (upd (upd (upd (upd (upd (upd (upd (upd (upd (upd (upd (upd (upd (upd (upd (upd (upd (upd (upd (upd (upd v69 1 (u23_ 6)) 4 (u23_ 7)) 13 (u23_ 8)) 16 (u23_ 9)) 18 (u23_ 10)) 20 (u23_ 11)) 21 (u23_ 12)) 23 (u23_ 13)) 24 (u23_ 14)) 30 (u23_ 15)) 32 (u23_ 16)) 33 (u23_ 17)) 34 (u23_ 18)) 35 (u23_ 19)) 36 (u23_ 20)) 37 (u23_ 21)) 42 (u23_ 22)) 47 (u23_ 23)) 50 (u23_ 24)) 51 (u23_ 25)) 53 (u23_ 26)) 54 (u23_ 27)) 55 (u23_ 28)) 59 (u23_ 29)) 60 (u23_ 30)) 71 (u23_ 31)))), ((q69 0), zi k70 600 (a23_ 20)), (h18, .inr (0, mX0 h19 h20 h21 h22 (upd (upd v18 4 (u23_ 1)) 5 (u23_ 2)))), (h4, .inr (10, mX10 h5 h6 h7 h8 h9 h10 (upd v4 7 (u23_ 62)))), (h7, zi k7 400 (a23_ 93)), (h6, zi k6 400 (a23_ 92)), (h5, .inl (k5, 400, .inr (.inl (b23_ 2)))), (h33, .inr (2, mX2 h1 h4 h11 h34 h35 h36 h37 h38 h39 (upd (upd v33 9 (u23_ 4)) 10 (u23_ 5)))), (h39, zi k39 400 (a23_ 19)), (h37, zi k37 400 (a23_ 17)), (h35, zi k35 300 (a23_ 15)), (h38, zi k38 400 (a23_ 18)), (h3, zi k3 12 (a23_ 91)), (h11, .inr (10, mX10 h12 h13 h14 h15 h16 h17 (upd v11 7 (u23_ 59)))), (h12, .inl (k12, 10, .inr (.inl (b23_ 1)))), (h34, zi k34 300 (a23_ 14)), (h36, zi k36 300 (a23_ 16)), (h23, .inr (6, mX6 h24 h25 h26 h27 h28 h29 h30 h31 (upd (upd (upd (upd v23 8 (u23_ 42)) 9 (u23_ 43)) 10 (u23_ 44)) 11 (u23_ 45)))), (h29, zi k29 400 (a23_ 77)), (h31, zi k31 400 (a23_ 79)), (h24, zi k24 1250 (a23_ 72)), (h25, zi k25 833 (a23_ 73)), (h26, zi k26 833 (a23_ 74)), (h27, zi k27 400 (a23_ 75)), (h28, zi k28 400 (a23_ 76)), (h30, zi k30 400 (a23_ 78)), (h19, zi k19 120 (a23_ 0)), (h20, zi k20 120 (a23_ 1)), (h22, zi k22 120 (a23_ 3)), (h21, zi k21 120 (a23_ 2)), ((q69 11), zi k79 120 (a23_ 22)), ((q69 19), zi k84 12 (a23_ 27)), ((q69 15), zi k82 10 (a23_ 25)), ((q69 14), zi k81 120 (a23_ 24)), ((q69 3), zi k72 400 (a23_ 35)), ((q69 2), zi k71 4800 (a23_ 28)), ((q69 5), zi k73 122880 (a23_ 46)), ((q69 12), zi k80 120 (a23_ 23)), ((q69 7), zi k75 120 (a23_ 61)), ((q69 25), zi k86 400 (a23_ 30)), ((q69 26), zi k87 400 (a23_ 31)), ((q69 28), zi k89 400 (a23_ 33)), ((q69 27), zi k88 400 (a23_ 32)), ((q69 6), zi k74 120 (a23_ 51)), ((q69 8), zi k76 120 (a23_ 66)), ((q69 9), zi k77 120 (a23_ 67)), ((q69 10), zi k78 120 (a23_ 21)), (h32, .inr (8, mX8 h23 (upd (upd (upd (upd (upd (upd (upd (upd v32 1 (u23_ 51)) 2 (u23_ 52)) 3 (u23_ 53)) 4 (u23_ 54)) 5 (u23_ 55)) 6 (u23_ 56)) 7 (u23_ 57)) 8 (u23_ 58)))), (h51, .inl (k51, 400, .inr (.inr (.inr (.inr (q23_ 1)))))), (h61, zi k61 40 (a23_ 12)), (h56, .inl (k56, 40, .inr (.inr (.inr (.inr (q23_ 0)))))), ((q69 73), zi k117 400 (a23_ 64)), (h13, zi k13 10 (a23_ 88)), (h14, zi k14 10 (a23_ 89)), (h119, .inl (k119, 1, .inr (.inl (b23_ 0)))), ((q69 17), zi k83 12 (a23_ 26)), ((q69 22), zi k85 40000 (a23_ 29)), ((q69 29), zi k90 400 (a23_ 34)), (h48, .inr (4, mX4 h1 h4 h11 h40 (upd (upd (upd (upd (upd (upd (upd (upd v48 4 (u23_ 34)) 5 (u23_ 35)) 6 (u23_ 36)) 7 (u23_ 37)) 8 (u23_ 38)) 9 (u23_ 39)) 10 (u23_ 40)) 11 (u23_ 41)))), (h40, .inr (7, mX7 h41 h42 h43 h44 h45 h46 h47 (upd (upd (upd (upd (upd v40 7 (u23_ 46)) 8 (u23_ 47)) 9 (u23_ 48)) 10 (u23_ 49)) 11 (u23_ 50)))), (h46, zi k46 160 (a23_ 85)), (h41, zi k41 40 (a23_ 80)), (h42, zi k42 40 (a23_ 81)), (h43, zi k43 40 (a23_ 82)), (h44, zi k44 40 (a23_ 83)), (h45, zi k45 40 (a23_ 84)), (h47, zi k47 270 (a23_ 86)), (h49, .inr (1, mX1 h18 h4 h40 h50 h56 h57 h59 h60 h61 h62 h63 h64 h65 h66 h67 hw23 (upd v49 16 (u23_ 3)))), (h50, .inr (3, mX3 h4 h23 h40 h51 h52 h53 h54 h55 (upd (upd v50 8 (u23_ 32)) 9 (u23_ 33)))), (h52, zi k52 400 (a23_ 68)), (h53, zi k53 400 (a23_ 69)), (hw23, zi k61 nw23 (a23_ 9)), (h55, zi k55 300 (a23_ 71)), (h54, zi k54 832 (a23_ 70)), (h59, zi k59 40 (a23_ 10)), (h60, zi k60 40 (a23_ 11)), (h57, .inr (5, mX5 h58)), (h58, zi k58 26 (a23_ 87)), (h62, zi k62 120 (a23_ 13)), (h63, zi k63 120 (a23_ 4)), (h64, zi k64 120 (a23_ 5)), (h65, zi k65 120 (a23_ 6)), ((q69 38), zi k92 1300 (a23_ 36)), ((q69 39), zi k93 1300 (a23_ 37)), ((q69 40), zi k94 1300 (a23_ 38)), ((q69 41), zi k95 1300 (a23_ 39)), ((q69 43), zi k96 40 (a23_ 40)), ((q69 44), zi k97 40 (a23_ 41)), ((q69 45), zi k98 40 (a23_ 42)), ((q69 57), zi k104 168 (a23_ 49)), ((q69 58), zi k105 168 (a23_ 50)), ((q69 31), .inr (12, sf91)), ((q69 49), zi k101 200 (a23_ 45)), ((q69 48), zi k100 2400 (a23_ 44)), ((q69 56), zi k103 1300 (a23_ 48)), ((q69 52), zi k102 1300 (a23_ 47)), ((q69 46), zi k99 40 (a23_ 43)), ((q69 61), zi k106 200 (a23_ 52)), ((q69 62), zi k107 16000 (a23_ 53)), ((q69 63), zi k108 40 (a23_ 54)), ((q69 64), zi k109 40 (a23_ 55)), ((q69 65), zi k110 40 (a23_ 56)), ((q69 67), zi k112 120 (a23_ 58)), ((q69 68), zi k113 120 (a23_ 59)), ((q69 69), zi k114 120 (a23_ 60)), ((q69 66), zi k111 1034 (a23_ 57)), ((q69 70), zi k115 120 (a23_ 62)), (h8, zi k8 12 (a23_ 94)), (h9, zi k9 12 (a23_ 95)), (h10, zi k10 13 (a23_ 96)), ((q69 72), zi k116 13 (a23_ 63)), (h66, zi k66 120 (a23_ 7)), (h67, zi k67 120 (a23_ 8)), ((q69 74), zi k118 400 (a23_ 65))] ++ pl23)) → (va_S A s.heap H locs) → (lv_has ls 7 [(0, .ref b), (1, .ref h0), (2, .ref h69), (3, .ref h119), (4, .int (u23_ 0))]) → (zA 0 300 (a23_ 1)) → (zA 0 119 (a23_ 6)) → (zA 0 4914 (a23_ 9)) → (zA 0 119 (a23_ 13)) → (zA (-1) 299 (a23_ 15)) → (zA 0 399 (a23_ 16)) → (zA 0 299 (a23_ 17)) → (zA 0 299 (a23_ 18)) → (zA 0 512 (a23_ 22)) → (zA 0 512 (a23_ 23)) → (zA 0 12 (a23_ 25)) → (zA (-1) 119 (a23_ 31)) → (zA (-1) 1023 (a23_ 32)) → (zA 0 399 (a23_ 34)) → (zA 0 12 (a23_ 35)) → (zA (-1) 1299 (a23_ 37)) → (zA (-1) 1299 (a23_ 38)) → (zA 0 12 (a23_ 45)) → (zA 0 400 (a23_ 46)) → (zA 0 600 (a23_ 66)) → (zA 0 399 (a23_ 68)) → (zA 0 831 (a23_ 71)) → (zA 0 1250 (a23_ 73)) → (zA 0 832 (a23_ 76)) → (zA 0 12000 (a23_ 86)) → (zA 0 9 (a23_ 88)) → (zA (-1) 9 (a23_ 89)) → (zA 0 399 (a23_ 92)) → (zA (-1) 399 (a23_ 93)) → ((0 ≤ (u23_ 0).toInt ∧ (u23_ 0).toInt ≤ 3072)) → ((0 ≤ (u23_ 1).toInt ∧ (u23_ 1).toInt ≤ 120)) → ((0 ≤ (u23_ 3).toInt ∧ (u23_ 3).toInt ≤ 120)) → ((0 ≤ (u23_ 4).toInt ∧ (u23_ 4).toInt ≤ 300)) → ((0 ≤ (u23_ 5).toInt ∧ (u23_ 5).toInt ≤ 300)) → ((0 ≤ (u23_ 6).toInt ∧ (u23_ 6).toInt ≤ 600)) → ((0 ≤ (u23_ 7).toInt ∧ (u23_ 7).toInt ≤ 400)) → ((0 ≤ (u23_ 8).toInt ∧ (u23_ 8).toInt ≤ 120)) → ((0 ≤ (u23_ 9).toInt ∧ (u23_ 9).toInt ≤ 10)) → (((-1) ≤ (u23_ 10).toInt ∧ (u23_ 10).toInt ≤ 12)) → ((0 ≤ (u23_ 11).toInt ∧ (u23_ 11).toInt ≤ 12)) → ((0 ≤ (u23_ 14).toInt ∧ (u23_ 14).toInt ≤ 1)) → ((0 ≤ (u23_ 15).toInt ∧ (u23_ 15).toInt ≤ 1)) → ((0 ≤ (u23_ 18).toInt ∧ (u23_ 18).toInt ≤ 600)) → ((0 ≤ (u23_ 19).toInt ∧ (u23_ 19).toInt ≤ 600)) → ((0 ≤ (u23_ 20).toInt ∧ (u23_ 20).toInt ≤ 3)) → ((0 ≤ (u23_ 21).toInt ∧ (u23_ 21).toInt ≤ 600)) → ((0 ≤ (u23_ 22).toInt ∧ (u23_ 22).toInt ≤ 1300)) → ((0 ≤ (u23_ 23).toInt ∧ (u23_ 23).toInt ≤ 40)) → ((0 ≤ (u23_ 24).toInt ∧ (u23_ 24).toInt ≤ 200)) → ((0 ≤ (u23_ 25).toInt ∧ (u23_ 25).toInt ≤ 160)) → ((0 ≤ (u23_ 26).toInt ∧ (u23_ 26).toInt ≤ 1300)) → ((0 ≤ (u23_ 27).toInt ∧ (u23_ 27).toInt ≤ 12)) → ((0 ≤ (u23_ 28).toInt ∧ (u23_ 28).toInt ≤ 1)) → ((0 ≤ (u23_ 29).toInt ∧ (u23_ 29).toInt ≤ 168)) → ((0 ≤ (u23_ 31).toInt ∧ (u23_ 31).toInt ≤ 120)) → ((0 ≤ (u23_ 32).toInt ∧ (u23_ 32).toInt ≤ 400)) → ((0 ≤ (u23_ 33).toInt ∧ (u23_ 33).toInt ≤ 300)) → ((0 ≤ (u23_ 39).toInt ∧ (u23_ 39).toInt ≤ 1)) → ((0 ≤ (u23_ 41).toInt ∧ (u23_ 41).toInt ≤ 12)) → ((0 ≤ (u23_ 42).toInt ∧ (u23_ 42).toInt ≤ 833)) → ((0 ≤ (u23_ 43).toInt ∧ (u23_ 43).toInt ≤ 1250)) → ((0 ≤ (u23_ 46).toInt ∧ (u23_ 46).toInt ≤ 40)) → ((0 ≤ (u23_ 47).toInt ∧ (u23_ 47).toInt ≤ 160)) → ((0 ≤ (u23_ 48).toInt ∧ (u23_ 48).toInt ≤ 270)) → ((0 ≤ (u23_ 59).toInt ∧ (u23_ 59).toInt ≤ 10)) → ((0 ≤ (u23_ 60).toInt ∧ (u23_ 60).toInt ≤ 600)) → ((0 ≤ (u23_ 61).toInt ∧ (u23_ 61).toInt ≤ 12)) → ((0 ≤ (u23_ 62).toInt ∧ (u23_ 62).toInt ≤ 400)) → (((u23_ 60).toInt = (u23_ 6).toInt)) → ((zPhi (a23_ 73) (a23_ 76) (a23_ 77) (u23_ 43).toInt (u23_ 42).toInt)) → ((zJ (a23_ 46) (a23_ 61) (u23_ 7).toInt (u23_ 8).toInt)) → ((zRd h23 (q23_ 1) pl23)) → ((zPs k61 (q23_ 0) pl23)) → ((zSp k24 sp23 pl23)) → ((zTe (a23_ 90) (a23_ 20) (u23_ 60).toInt)) → ((zTi (b23_ 1) (a23_ 88) (a23_ 89) (u23_ 59).toInt (a23_ 24) (a23_ 25) (u23_ 9).toInt)) → ((H.size + zNl (q23_ 1) 400 + 2 * zNl (q23_ 0) 40 ≤ s.heap.size + 600 + 2 * ((u23_ 0).toInt).toNat)) → ((zTiq (b23_ 2) (a23_ 92) (a23_ 93) (u23_ 62).toInt (a23_ 72) (a23_ 73) (a23_ 74) (a23_ 75) (a23_ 76) (a23_ 77) (u23_ 42).toInt (u23_ 43).toInt (u23_ 44).toInt (u23_ 45).toInt (a23_ 78) (a23_ 79) (u23_ 1).toInt (a23_ 0) (a23_ 1) (a23_ 2) (a23_ 3) (u23_ 2).toInt (a23_ 28) (a23_ 35) (u23_ 7).toInt (a23_ 46) (a23_ 61) (u23_ 8).toInt (a23_ 51) (a23_ 66) (a23_ 67) (a23_ 21) (a23_ 22) (a23_ 23))) → ((zPgT (q23_ 1) (a23_ 68) (a23_ 69) (u23_ 32).toInt (a23_ 70) (a23_ 71) (u23_ 33).toInt)) → ((zHtq (a23_ 13) (u23_ 3).toInt (a23_ 58) (u23_ 31).toInt)) → ((zRkT (a23_ 13) (a23_ 5) (a23_ 4) (a23_ 6) (u23_ 3).toInt (a23_ 59) (a23_ 60) (a23_ 62) (u23_ 31).toInt)) → R) : R := by
  obtain ⟨q23_, pl23, hw23, nw23, sp23, e0, e1, e2, e3, e4, e5, e6, e7, e8, e9, e10, e11, e12, e13, e14, e15, e16, e17, e18, e19, e20, e21, e22, e23, e24, e25, e26, e27, e28, e29, e30, e31, e32, e33, e34, e35, e36, e37, e38, e39, e40, e41, e42, e43, e44, e45, e46, e47, e48, e49, e50, e51, e52, e53, e54, e55, e56, e57, e58, e59, e60, e61, e62, e63, e64, e65, e66, e67, e68, e69, e70, e71, e72, e73, e74, e75, e76, e77, e78, e79, e80, e81, e82, e83, e84, e85⟩ := h
  exact k q23_ pl23 hw23 nw23 sp23 e0 e1 e2 e3 e4 e5 e6 e7 e8 e9 e10 e11 e12 e13 e14 e15 e16 e17 e18 e19 e20 e21 e22 e23 e24 e25 e26 e27 e28 e29 e30 e31 e32 e33 e34 e35 e36 e37 e38 e39 e40 e41 e42 e43 e44 e45 e46 e47 e48 e49 e50 e51 e52 e53 e54 e55 e56 e57 e58 e59 e60 e61 e62 e63 e64 e65 e66 e67 e68 e69 e70 e71 e72 e73 e74 e75 e76 e77 e78 e79 e80 e81 e82 e83 e84 e85
