theorem zmulX {x y z : Int32} {M N : Int} (e : z = x * y) (h1 : 0 ≤ x.toInt ∧ x.toInt ≤ M) (h2 : 0 ≤ y.toInt ∧ y.toInt ≤ N) (h3 : M * N ≤ 2147483647) : z.toInt = x.toInt * y.toInt := by
  have a := Int.mul_nonneg h1.1 h2.1
  have b := Int.mul_le_mul h1.2 h2.2 h2.1 (Int.le_trans h1.1 h1.2)
  exact zmul rfl rfl e (by omega) (by omega)
theorem zpq_z {p : Nat → Bool} : ∀ n : Nat, (∀ j : Nat, j < n → p j = false) → zpq p n = 0 := by
  intro n
  induction n with
  | zero => intro _; rfl
  | succ n ih =>
    intro h
    show zpq p n + (if p n then 1 else 0) = 0
    rw [ih (fun j hj => h j (by omega)), h n (by omega)]
    rfl
theorem zCnR_q {P : Nat → Prop} {p : Nat → Bool} : ∀ n : Nat, (∀ j : Nat, j < n → (p j = true ↔ P j)) → zCnR P n (zpq p n : Int) := by
  intro n
  induction n with
  | zero => intro _; exact rfl
  | succ n ih =>
    intro h
    have k := ih (fun j hj => h j (by omega))
    have e : zpq p (n + 1) = zpq p n + (if p n then 1 else 0) := rfl
    by_cases c : p n = true
    · refine Or.inl ⟨(h n (by omega)).mp c, ?_⟩
      rw [e, if_pos c, show ((zpq p n + 1 : Nat) : Int) - 1 = (zpq p n : Int) from by omega]
      exact k
    · refine Or.inr ⟨fun q => c ((h n (by omega)).mpr q), ?_⟩
      rw [e, if_neg c, Nat.add_zero]
      exact k
theorem z64_lo {x : Int32} {y z : Int64} (e1 : y = x.toInt64) (e2 : z = y &&& 4294967295) (i : Nat) (hi : i < 64) : z.toBitVec.getLsbD i = (decide (i < 32) && x.toBitVec.getLsbD i) := by
  have key : ∀ i : Nat, i < 64 → (4294967295 : Int64).toBitVec.getLsbD i = decide (i < 32) := by decide +kernel
  have h1 : z.toBitVec = y.toBitVec &&& (4294967295 : Int64).toBitVec := by rw [e2]; rfl
  have h3 : y.toBitVec = x.toBitVec.signExtend 64 := by rw [e1]; rfl
  rw [h1, BitVec.getLsbD_and, key i hi, h3, BitVec.getLsbD_signExtend]
  by_cases c : i < 32
  · simp [c, hi]
  · simp [c]
theorem z64_hi {x : Int32} {y z : Int64} (e1 : y = x.toInt64) (e2 : z = y <<< ((32 : Int32).toInt64 &&& 63)) (i : Nat) (hi : i < 64) : z.toBitVec.getLsbD i = (decide (32 ≤ i) && x.toBitVec.getLsbD (i - 32)) := by
  have h2 : ((32 : Int32).toInt64 &&& 63).toBitVec.smod 64 = 32#64 := by decide +kernel
  have h1 : z.toBitVec = y.toBitVec <<< (((32 : Int32).toInt64 &&& 63).toBitVec.smod 64) := by rw [e2]; rfl
  have h3 : y.toBitVec = x.toBitVec.signExtend 64 := by rw [e1]; rfl
  have h4 : y.toBitVec <<< (32#64) = y.toBitVec <<< (32 : Nat) := rfl
  rw [h1, h2, h4, BitVec.getLsbD_shiftLeft, h3, BitVec.getLsbD_signExtend]
  by_cases c : 32 ≤ i
  · have c1 : i - 32 < 32 := by omega
    have c2 : i - 32 < 64 := by omega
    have c3 : ¬ i < 32 := by omega
    simp [c, c1, c2, c3, hi]
  · have c3 : i < 32 := by omega
    simp [c, c3]
theorem z64_sr {w z : Int64} {s : Int32} (e : z = (w.toUInt64 >>> (s.toInt64.toUInt64 &&& Int64.toUInt64 63)).toInt64) (h0 : 0 ≤ s.toInt) (h1 : s.toInt ≤ 31) (i : Nat) : z.toBitVec.getLsbD i = w.toBitVec.getLsbD (s.toInt.toNat + i) := by
  have key : ∀ k : Nat, k ≤ 31 → (((Int32.ofNat k).toInt64.toUInt64 &&& Int64.toUInt64 63).toBitVec % 64).toNat = k := by decide +kernel
  have q2 : ∀ k : Nat, k ≤ 31 → (Int32.ofNat k).toInt = (k : Int) := by decide
  have es : s = Int32.ofNat s.toInt.toNat := zeqi.mpr (by rw [q2 _ (by omega)]; omega)
  have h3 : ((s.toInt64.toUInt64 &&& Int64.toUInt64 63).toBitVec % 64).toNat = s.toInt.toNat := by
    have q := key s.toInt.toNat (by omega)
    rw [← es] at q
    exact q
  have h2 : z.toBitVec = w.toBitVec >>> (((s.toInt64.toUInt64 &&& Int64.toUInt64 63).toBitVec % 64).toNat) := by rw [e]; rfl
  rw [h2, h3, BitVec.getLsbD_ushiftRight]
theorem z64_ti {w : Int64} {z y : Int32} (e1 : z = w.toInt32) (e2 : y = z &&& 1023) (i : Nat) (hi : i < 32) : y.toBitVec.getLsbD i = (decide (i < 10) && w.toBitVec.getLsbD i) := by
  have key : ∀ i : Nat, i < 32 → (1023 : Int32).toBitVec.getLsbD i = decide (i < 10) := by decide +kernel
  have h1 : y.toBitVec = z.toBitVec &&& (1023 : Int32).toBitVec := by rw [e2]; rfl
  have h2 : z.toBitVec = w.toBitVec.signExtend 32 := by rw [e1]; rfl
  rw [h1, BitVec.getLsbD_and, key i hi, h2, BitVec.getLsbD_signExtend]
  have c : i < 64 := by omega
  simp [hi, c, Bool.and_comm]
def zTfr (row : Nat → Int32) (p : Int) (y : Int32) : Prop := ∀ j : Nat, j < 32 → (y.toBitVec.getLsbD j = true ↔ j < 10 ∧ p.toNat + j < 832 ∧ zpb row (p.toNat + j) = true)
section ZTF
variable {row : Nat → Int32} {p : Int} {X Y S I J z y : Int32} {y1 y2 y3 y4 y5 y6 : Int64}
theorem zTfr_1 (eX : X = row I.toNatClampNeg) (hI : I.toInt = p / 32) (hl : 26 ≤ p / 32 + 1) (e1 : y1 = X.toInt64) (e2 : y2 = y1 &&& 4294967295) (hS : S.toInt = p % 32) (e3 : y3 = (y2.toUInt64 >>> (S.toInt64.toUInt64 &&& Int64.toUInt64 63)).toInt64) (e4 : z = y3.toInt32) (e5 : y = z &&& 1023) (p0 : 0 ≤ p) (p8 : p ≤ 831) : zTfr row p y := fun j hj => by
  have eI : I.toNatClampNeg = 25 := by have : I.toNatClampNeg = I.toInt.toNat := rfl; omega
  rw [z64_ti e4 e5 j hj]
  by_cases c : j < 10
  · rw [z64_sr e3 (by omega) (by omega) j, z64_lo e1 e2 (S.toInt.toNat + j) (by omega), eX, eI]
    obtain ⟨k, hk⟩ : ∃ k : Nat, S.toInt.toNat = k := ⟨_, rfl⟩
    rw [hk]
    by_cases d : k + j < 32
    · have e : zpb row (p.toNat + j) = (row 25).toBitVec.getLsbD (k + j) := by
        unfold zpb
        rw [show (p.toNat + j) / 32 = 25 from by omega, show (p.toNat + j) % 32 = k + j from by omega]
      rw [e, decide_eq_true c, decide_eq_true d]
      simp only [Bool.true_and]
      exact ⟨fun g => ⟨c, by omega, g⟩, fun g => g.2.2⟩
    · rw [decide_eq_true c, decide_eq_false d]
      simp only [Bool.true_and, Bool.false_and]
      exact ⟨fun g => absurd g (by decide), fun g => absurd g.2.1 (by omega)⟩
  · rw [decide_eq_false c]
    simp only [Bool.false_and]
    exact ⟨fun g => absurd g (by decide), fun g => absurd g.1 c⟩
theorem zTfr_2 (eX : X = row I.toNatClampNeg) (hI : I.toInt = p / 32) (hl : p / 32 + 1 < 26) (e1 : y1 = X.toInt64) (e2 : y2 = y1 &&& 4294967295) (eY : Y = row J.toNatClampNeg) (hJ : J.toInt = p / 32 + 1) (e6 : y4 = Y.toInt64) (e7 : y5 = y4 <<< ((32 : Int32).toInt64 &&& 63)) (e8 : y6 = y2 ||| y5) (hS : S.toInt = p % 32) (e3 : y3 = (y6.toUInt64 >>> (S.toInt64.toUInt64 &&& Int64.toUInt64 63)).toInt64) (e4 : z = y3.toInt32) (e5 : y = z &&& 1023) (p0 : 0 ≤ p) (p8 : p ≤ 831) : zTfr row p y := fun j hj => by
  have eI : I.toNatClampNeg = p.toNat / 32 := by have : I.toNatClampNeg = I.toInt.toNat := rfl; omega
  have eJ : J.toNatClampNeg = p.toNat / 32 + 1 := by have : J.toNatClampNeg = J.toInt.toNat := rfl; omega
  have h8 : y6.toBitVec = y2.toBitVec ||| y5.toBitVec := by rw [e8]; rfl
  rw [z64_ti e4 e5 j hj]
  by_cases c : j < 10
  · rw [z64_sr e3 (by omega) (by omega) j, h8, BitVec.getLsbD_or, z64_lo e1 e2 (S.toInt.toNat + j) (by omega), z64_hi e6 e7 (S.toInt.toNat + j) (by omega), eX, eI, eY, eJ]
    obtain ⟨k, hk⟩ : ∃ k : Nat, S.toInt.toNat = k := ⟨_, rfl⟩
    rw [hk]
    by_cases d : k + j < 32
    · have d2 : ¬ 32 ≤ k + j := by omega
      have e : zpb row (p.toNat + j) = (row (p.toNat / 32)).toBitVec.getLsbD (k + j) := by
        unfold zpb
        rw [show (p.toNat + j) / 32 = p.toNat / 32 from by omega, show (p.toNat + j) % 32 = k + j from by omega]
      rw [e, decide_eq_true c, decide_eq_true d, decide_eq_false d2]
      simp only [Bool.true_and, Bool.false_and, Bool.or_false]
      exact ⟨fun g => ⟨c, by omega, g⟩, fun g => g.2.2⟩
    · have d2 : 32 ≤ k + j := by omega
      have e : zpb row (p.toNat + j) = (row (p.toNat / 32 + 1)).toBitVec.getLsbD (k + j - 32) := by
        unfold zpb
        rw [show (p.toNat + j) / 32 = p.toNat / 32 + 1 from by omega, show (p.toNat + j) % 32 = k + j - 32 from by omega]
      rw [e, decide_eq_true c, decide_eq_false d, decide_eq_true d2]
      simp only [Bool.true_and, Bool.false_and, Bool.false_or]
      exact ⟨fun g => ⟨c, by omega, g⟩, fun g => g.2.2⟩
  · rw [decide_eq_false c]
    simp only [Bool.false_and]
    exact ⟨fun g => absurd g (by decide), fun g => absurd g.1 c⟩
theorem zTen_i {r : Int} (h : zTfr row p y) (hr : r = (zbcx y : Int)) : zTen row p r := by
  have e : zbcx y = zpq (fun j => y.toBitVec.getLsbD j) 10 + zpq (fun j => y.toBitVec.getLsbD (10 + j)) 22 := zpq_a (p := fun j => y.toBitVec.getLsbD j) (a := 10) 22
  have z : zpq (fun j => y.toBitVec.getLsbD (10 + j)) 22 = 0 := zpq_z 22 (fun j hj => by
    have q := h (10 + j) (by omega)
    cases g : y.toBitVec.getLsbD (10 + j)
    · rfl
    · have := (q.mp g).1
      omega)
  rw [hr, e, z, Nat.add_zero]
  exact zCnR_q 10 (fun j hj => ⟨fun g => ((h j (by omega)).mp g).2, fun g => (h j (by omega)).mpr ⟨hj, g⟩⟩)
end ZTF
def zFuP (P : Nat → Prop) (r : Int) : Prop := ∃ m : Int, zBst (fun q => q < 832 ∧ P q) 832 r m
def zShU (kk : ClassId) (rf : Nat → Option Nat) (pl : va_W) (ct : Nat → Int32) (L : Int) (q : Nat) : Prop := ∃ a : Nat, (a : Int) < L ∧ (ct a).toInt ≠ 0 ∧ ∃ R : Nat → Int32, zPrw kk rf pl a R ∧ zpb R q = true
def zShI (kk : ClassId) (rf : Nat → Option Nat) (pl : va_W) (ct row : Nat → Int32) (L : Int) : Prop := ∀ q : Nat, q < 832 → (zpb row q = true ↔ zShU kk rf pl ct L q)
def zKps (kk : ClassId) (rf : Nat → Option Nat) (pl : va_W) (ct : Nat → Int32) (L f0 : Int) (sh0 sh : Nat → Int32) : Prop := f0 < 120 → ∃ X : Int32, sh = upd sh0 f0.toNat X ∧ zFuP (zShU kk rf pl ct L) X.toInt
section ZSH
variable {kk : ClassId} {rf : Nat → Option Nat} {pl pl1 p X : va_W} {A : Nat → Prop} {ct row row' f sh sh0 : Nat → Int32} {L L' f0 r : Int} {a b : Nat}
theorem zFuP_c {P P' : Nat → Prop} (h : zFuP P r) (hP : ∀ q : Nat, q < 832 → (P q ↔ P' q)) : zFuP P' r := by
  obtain ⟨m, h⟩ := h
  exact ⟨m, zBst_c h (fun j _ => ⟨fun ⟨j1, j2⟩ => ⟨j1, (hP j j1).mp j2⟩, fun ⟨j1, j2⟩ => ⟨j1, (hP j j1).mpr j2⟩⟩)⟩
theorem zFuP_u {P : Nat → Prop} {r' : Int} (h : zFuP P r) (h' : zFuP P r') : r = r' := by
  obtain ⟨m, h⟩ := h
  obtain ⟨m', h'⟩ := h'
  exact (zBst_u h h').1
theorem zCt_i {X Z : Int32} (e : Z = f X.toNatClampNeg) (h : (r ≠ 0 ∧ Z.toInt ≠ 0) ∨ (r = 0 ∧ Z.toInt = 0)) : r ≠ 0 ↔ (f X.toNatClampNeg).toInt ≠ 0 := by
  rw [← e]
  rcases h with ⟨h1, h2⟩ | ⟨h1, h2⟩
  · exact ⟨fun _ => h2, fun _ => h1⟩
  · exact ⟨fun q => absurd h1 q, fun q => absurd h2 q⟩
theorem zShI_0 (h : ∀ q : Nat, q < 832 → zpb row q = false) (hL : L ≤ 0) : zShI kk rf pl ct row L := fun q hq => ⟨fun c => absurd c (by rw [h q hq]; decide), fun ⟨a, ha, _⟩ => by omega⟩
theorem zShI_n {I : Int32} (h : zShI kk rf pl ct row I.toInt) (i0 : 0 ≤ I.toInt) (hn : (ct I.toNatClampNeg).toInt = 0 ∨ rf I.toNatClampNeg = none) (e : L = I.toInt + 1) : zShI kk rf pl ct row L := fun q hq => by
  have eI : I.toNatClampNeg = I.toInt.toNat := rfl
  rw [h q hq]
  constructor
  · rintro ⟨a, h1, h2⟩
    exact ⟨a, by omega, h2⟩
  · rintro ⟨a, h1, h2, R, ⟨x, y, h3, h4⟩, h5⟩
    by_cases c : a = I.toNatClampNeg
    · rw [c] at h2 h3
      rcases hn with hn | hn
      · exact absurd hn h2
      · rw [hn] at h3
        cases h3
    · exact ⟨a, by omega, h2, R, ⟨x, y, h3, h4⟩, h5⟩
theorem zShI_c {I : Int32} {r1 : Int} (h : zShI kk rf pl ct row I.toInt) (i0 : 0 ≤ I.toInt) (i1 : I.toInt ≤ 39) (hr : 0 ≤ I.toInt ∧ I.toInt ≤ 39 → (r1 ≠ 0 ↔ (ct I.toNatClampNeg).toInt ≠ 0)) (r0 : r1 = 0) (e : L = I.toInt + 1) : zShI kk rf pl ct row L := zShI_n h i0 (Or.inl (by
  have q := hr ⟨i0, i1⟩
  by_cases c : (ct I.toNatClampNeg).toInt = 0
  · exact c
  · exact absurd r0 (q.mpr c))) e
theorem zShI_s {I : Int32} {r1 : Int} (h : zShI kk rf pl ct row I.toInt) (i0 : 0 ≤ I.toInt) (i1 : I.toInt ≤ 39) (pe : zPe pl pl1) (hD : va_D A (X ++ pl1)) (ep : pl1 = (a, zPo b) :: (b, zPa kk f) :: p) (ha : rf I.toNatClampNeg = some a) (hu : ∀ q : Nat, q < 832 → zpb row' q = (zpb row q || zpb f q)) (hr : 0 ≤ I.toInt ∧ I.toInt ≤ 39 → (r1 ≠ 0 ↔ (ct I.toNatClampNeg).toInt ≠ 0)) (r0 : r1 ≠ 0) (e : L = I.toInt + 1) : zShI kk rf pl ct row' L := fun q hq => by
  have eI : I.toNatClampNeg = I.toInt.toNat := rfl
  have w := zPrw_self ha ep
  have w0 : zPrw kk rf pl I.toNatClampNeg f := (zPrw_pe pe).mp w
  have c1 := (hr ⟨i0, i1⟩).mp r0
  rw [hu q hq, Bool.or_eq_true, h q hq]
  constructor
  · rintro (⟨a', h1, h2⟩ | g)
    · exact ⟨a', by omega, h2⟩
    · exact ⟨I.toNatClampNeg, by omega, c1, f, w0, g⟩
  · rintro ⟨a', h1, h2, R, h3, h5⟩
    by_cases c : a' = I.toNatClampNeg
    · subst c
      refine Or.inr ?_
      rw [zPrw_u hD ((zPrw_pe pe).mpr h3) w] at h5
      exact h5
    · exact Or.inl ⟨a', by omega, h2, R, h3, h5⟩
theorem zKps_n (h : 120 ≤ f0) : zKps kk rf pl ct L f0 sh0 sh := fun q => by omega
theorem zKps_y {F X : Int32} {k : Int} (h : zShI kk rf pl ct row k) (h1 : k ≤ L) (h2 : L ≤ k) (hf : zFuP (fun q => zpb row q = true) X.toInt) (es : sh = upd sh0 F.toNatClampNeg X) (hF : F.toInt = f0) : zKps kk rf pl ct L f0 sh0 sh := fun _ => by
  refine ⟨X, by rw [es, ← hF]; rfl, zFuP_c hf ?_⟩
  rw [show L = k from by omega]
  exact h
end ZSH
def zrr (os k : Int) : Int := if 0 < k then zdig (16 * os / k) else 0
theorem zrr_b {os k : Int} (o0 : 0 ≤ os) (o1 : os ≤ 120) : 0 ≤ zrr os k ∧ zrr os k ≤ 31 := by
  unfold zrr
  by_cases c : 0 < k
  · rw [if_pos c]
    refine ⟨zdig_n _, ?_⟩
    have q := Int.ediv_le_self k (show 0 ≤ 16 * os by omega)
    by_cases d : 0 < 16 * os / k
    · have := zdig_lt (k := 31) d (by omega)
      omega
    · rw [zdig_0 (by omega)]; omega
  · rw [if_neg c]; omega
theorem zRt_1 {A K M Q : Int32} {r : Int} (hk : 0 < K.toInt) (eM : M = 16 * A) (eQ : Q = M / K) (hb : 0 < Q.toInt → r = (zbd Q.toInt.toNat : Int)) : zW (0 ≤ A.toInt → A.toInt ≤ 120 → K.toInt ≤ A.toInt → r = zrr A.toInt K.toInt) := fun a0 a1 ka => by
  have m := zmul (x := 16) (y := A) (show (16 : Int32).toInt = 16 from by decide) rfl eM (by omega) (by omega)
  have q := zdiv (x := M) (y := K) m rfl eQ (by omega) hk
  have p : 1 ≤ 16 * A.toInt / K.toInt := Int.le_ediv_of_mul_le hk (by omega)
  have e := hb (by omega)
  have z1 := zdig_p (x := 16 * A.toInt / K.toInt) (by omega)
  have z2 := zbd_p (n := Q.toInt.toNat) (by omega)
  rw [q] at z2 e
  unfold zrr
  rw [if_pos hk]
  omega
theorem zRt_0 {a k r : Int} (hk : k ≤ 0) (hr : r = 0) : zW (0 ≤ a → a ≤ 120 → k ≤ a → r = zrr a k) := fun _ _ _ => by
  unfold zrr
  rw [if_neg (by omega)]
  exact hr
def zMwv (std sn kd lo hi ph sd : Nat → Int32) (pw cnt : Int) (rf : Nat → Option Nat) (wl lv d : Int) (w0 w h0 h : Nat → Int32) (L : Int) : Prop := (∀ a : Nat, (a : Int) < lv → rf a ≠ none) → 120 * lv ≤ wl → 0 ≤ d → d < 120 → (∀ a : Nat, (a : Int) < L → (kd a).toInt ≠ 4 → ∃ row : Nat → Int32, zGh std sn kd lo hi ph sd pw cnt a row ∧ (w (120 * a + d.toNat)).toInt = (zwq row 832 : Int) ∧ (0 ≤ (h0 a).toInt → (h0 a).toInt < 1000 → (h a).toInt = (h0 a).toInt + (if 0 < zwq row 832 then 1 else 0))) ∧ (∀ a : Nat, L ≤ (a : Int) ∨ (kd a).toInt = 4 → h a = h0 a) ∧ (∀ j : Nat, j % 120 ≠ d.toNat ∨ 120 * L ≤ (j : Int) → w j = w0 j)
section ZMW
variable {hp : Nat} {kk : ClassId} {rf : Nat → Option Nat} {pl pl1 : va_W} {std sn kd lo hi ph sd m m' w0 w w' h0 h h' : Nat → Int32} {pw cnt wl lv d L L' : Int}
theorem zMwv_0 (hL : L = 0) : zMwv std sn kd lo hi ph sd pw cnt rf wl lv d w w h h L := fun _ _ _ _ => ⟨fun a ha => by omega, fun _ _ => rfl, fun _ _ => rfl⟩
theorem zMwv_m {A : Int32} {k : Int} (g : zMwv std sn kd lo hi ph sd pw cnt rf wl lv d w0 w h0 h A.toInt) (a0 : 0 ≤ A.toInt) (hk : k = (kd A.toNatClampNeg).toInt) (k4 : k = 4) (hL : L' = A.toInt + 1) : zMwv std sn kd lo hi ph sd pw cnt rf wl lv d w0 w h0 h L' := fun p1 p2 p3 p4 => by
  obtain ⟨g1, g2, g3⟩ := g p1 p2 p3 p4
  have e1 : A.toNatClampNeg = A.toInt.toNat := rfl
  refine ⟨fun a ha ka => ?_, fun a ha => g2 a ?_, fun j hj => g3 j ?_⟩
  · by_cases c : a = A.toNatClampNeg
    · subst c; omega
    · exact g1 a (by omega) ka
  · rcases ha with ha | ha
    · exact Or.inl (by omega)
    · exact Or.inr ha
  · rcases hj with hj | hj
    · exact Or.inl hj
    · exact Or.inr (by omega)
theorem zMwv_p {A : Int32} {k idx : Int} (g : zMwv std sn kd lo hi ph sd pw cnt rf wl lv d w0 w h0 h A.toInt) (a0 : 0 ≤ A.toInt) (a1 : A.toInt < lv) (hk : k = (kd A.toNatClampNeg).toInt) (k4 : k ≠ 4) (hq : zMp hp kk rf pl pl1 std sn kd lo hi ph sd pw cnt A.toNatClampNeg idx wl m m' w w' h h') (hx : idx = 120 * A.toInt + d) (hL : L' = A.toInt + 1) : zMwv std sn kd lo hi ph sd pw cnt rf wl lv d w0 w' h0 h' L' := fun p1 p2 p3 p4 => by
  obtain ⟨g1, g2, g3⟩ := g p1 p2 p3 p4
  have e1 : A.toNatClampNeg = A.toInt.toNat := rfl
  rcases hq with ⟨q1 | q1, _⟩ | ⟨_, _, row, _, q4, ⟨W, q5, q6⟩, _, N, q7, q8⟩
  · exact absurd q1 (p1 _ (by omega))
  · omega
  · have eh : h A.toNatClampNeg = h0 A.toNatClampNeg := g2 _ (Or.inl (by omega))
    rw [eh] at q8
    refine ⟨fun a ha ka => ?_, fun a ha => ?_, fun j hj => ?_⟩
    · by_cases c : a = A.toNatClampNeg
      · subst c
        refine ⟨row, q4, ?_, fun u1 u2 => ?_⟩
        · rw [q6, show 120 * A.toNatClampNeg + d.toNat = idx.toNat from by omega, pk_us]
          exact q5
        · rw [q7, pk_us]
          exact q8 u1 u2
      · obtain ⟨row', r1, r2, r3⟩ := g1 a (by omega) ka
        refine ⟨row', r1, ?_, fun u1 u2 => ?_⟩
        · rw [q6, pk_un (by omega)]
          exact r2
        · rw [q7, pk_un c]
          exact r3 u1 u2
    · have ne : a ≠ A.toNatClampNeg := fun c => by
        rcases ha with ha | ha
        · omega
        · rw [c] at ha; omega
      rw [q7, pk_un ne]
      refine g2 a ?_
      rcases ha with ha | ha
      · exact Or.inl (by omega)
      · exact Or.inr ha
    · have ne : j ≠ idx.toNat := fun c => by rcases hj with hj | hj <;> omega
      rw [q6, pk_un ne]
      refine g3 j ?_
      rcases hj with hj | hj
      · exact Or.inl hj
      · exact Or.inr (by omega)
theorem zMwv_e (g : zMwv std sn kd lo hi ph sd pw cnt rf wl lv d w0 w h0 h L) (e1 : L ≤ lv) (e2 : lv ≤ L) : zMwv std sn kd lo hi ph sd pw cnt rf wl lv d w0 w h0 h lv := by
  have e : lv = L := by omega
  subst e
  exact g
end ZMW
def zHv0 (h : Nat → Int32) (L : Int) : Prop := ∀ a : Nat, (a : Int) < L → (h a).toInt = 0
theorem zHv0_0 {h : Nat → Int32} {L : Int} (hL : L ≤ 0) : zHv0 h L := fun a ha => by omega
theorem zHv0_s {h h' : Nat → Int32} {I Z : Int32} {L : Int} (g : zHv0 h I.toInt) (i0 : 0 ≤ I.toInt) (e : h' = upd h I.toNatClampNeg Z) (hz : Z.toInt = 0) (hL : L = I.toInt + 1) : zHv0 h' L := fun a ha => by
  have e1 : I.toNatClampNeg = I.toInt.toNat := rfl
  by_cases c : a = I.toNatClampNeg
  · rw [e, c, pk_us]; exact hz
  · rw [e, pk_un c]; exact g a (by omega)
theorem zHv0_e {h : Nat → Int32} {L L' : Int} (g : zHv0 h L) (e : L' ≤ L) : zHv0 h L' := fun a ha => g a (by omega)
def zsc1 (f ln os hv : Int) : Int := 100 * f / (f + 1 + ln / 8) * zrr os hv
def zscS (ct w hv : Nat → Int32) (ln os : Int) (d : Nat) : Nat → Int
  | 0 => 0
  | a + 1 => zscS ct w hv ln os d a + (if (ct a).toInt ≠ 0 then zsc1 (w (120 * a + d)).toInt ln os (hv a).toInt else 0)
def zScI (ct w hv : Nat → Int32) (ln os d wl lv s k : Int) : Prop := 120 * lv ≤ wl → 0 ≤ os → os ≤ 120 → 0 ≤ d → d < 120 → (∀ a : Nat, (a : Int) < lv → (hv a).toInt ≤ os) → s = zscS ct w hv ln os d.toNat k.toNat ∧ 0 ≤ s ∧ s ≤ 16000000 * k
section ZSC
variable {ct w hv : Nat → Int32} {ln os d wl lv s s' k : Int}
theorem zScI_0 (hs : s = 0) (hk : k = 0) : zScI ct w hv ln os d wl lv s k := fun _ _ _ _ _ _ => by
  subst hs; subst hk
  exact ⟨rfl, by omega, by omega⟩
theorem zScI_n {A : Int32} {r : Int} (g : zScI ct w hv ln os d wl lv s A.toInt) (a0 : 0 ≤ A.toInt) (a1 : A.toInt ≤ 39) (hr : 0 ≤ A.toInt ∧ A.toInt ≤ 39 → (r ≠ 0 ↔ (ct A.toNatClampNeg).toInt ≠ 0)) (r0 : r = 0) (hs : s' = s) (hk : k = A.toInt + 1) : zScI ct w hv ln os d wl lv s' k := fun p1 p2 p3 p4 p5 p6 => by
  obtain ⟨g1, g2, g3⟩ := g p1 p2 p3 p4 p5 p6
  have c : ¬ (ct A.toInt.toNat).toInt ≠ 0 := fun q => (hr ⟨a0, a1⟩).mpr q r0
  refine ⟨?_, by omega, by omega⟩
  rw [show k.toNat = A.toInt.toNat + 1 from by omega, hs, g1]
  show _ = zscS ct w hv ln os d.toNat A.toInt.toNat + _
  rw [if_neg c, Int.add_zero]
theorem zScI_x {A : Int32} (a1 : A.toInt < lv) (d1 : d < 120) (hx : wl ≤ 120 * A.toInt + d) : zScI ct w hv ln os d wl lv s k := fun p1 _ _ _ _ _ => by omega
theorem zScI_s {A I F H M N Q S S' T : Int32} {l8 r ra ol : Int} (g : zScI ct w hv ln os d wl lv S.toInt A.toInt) (a0 : 0 ≤ A.toInt) (a1 : A.toInt < lv) (l4 : lv ≤ 40) (hr : 0 ≤ A.toInt ∧ A.toInt ≤ 39 → (r ≠ 0 ↔ (ct A.toNatClampNeg).toInt ≠ 0)) (r0 : r ≠ 0) (eF : F = w I.toNatClampNeg) (hI : I.toInt = 120 * A.toInt + d) (f0 : 0 ≤ F.toInt) (f1 : F.toInt ≤ 4914) (hM : M.toInt = 100 * F.toInt) (hl : l8 = ln / 8) (n0 : 0 ≤ ln) (hN : N.toInt = F.toInt + 1 + l8) (hQ : Q.toInt = M.toInt / N.toInt) (q1 : Q.toInt ≤ 491400) (ho : ol = os) (eH : H = hv A.toNatClampNeg) (hra : zW (0 ≤ ol → ol ≤ 120 → H.toInt ≤ ol → ra = zrr ol H.toInt)) (b0 : 0 ≤ ra) (b1 : ra ≤ 32) (hT : T.toInt = Q.toInt * ra) (eS : S' = S + T) (hk : k = A.toInt + 1) : zScI ct w hv ln os d wl lv S'.toInt k := fun p1 p2 p3 p4 p5 p6 => by
  obtain ⟨g1, g2, g3⟩ := g p1 p2 p3 p4 p5 p6
  subst ho
  have c : (ct A.toInt.toNat).toInt ≠ 0 := (hr ⟨a0, by omega⟩).mp r0
  have eI : I.toNatClampNeg = 120 * A.toInt.toNat + d.toNat := by have : I.toNatClampNeg = I.toInt.toNat := rfl; omega
  have eA : H = hv A.toInt.toNat := eH
  have ez := hra p2 p3 (by rw [eA]; exact p6 _ (by omega))
  have q0 : 0 ≤ Q.toInt := by rw [hQ]; exact Int.ediv_nonneg (by omega) (by omega)
  have t0 : 0 ≤ T.toInt := by rw [hT]; exact Int.mul_nonneg q0 b0
  have t1 : T.toInt ≤ 491400 * 32 := by rw [hT]; exact Int.mul_le_mul q1 b1 b0 (by decide)
  have es := zadd rfl rfl eS (by omega) (by omega)
  have et : T.toInt = zsc1 (w (120 * A.toInt.toNat + d.toNat)).toInt ln ol (hv A.toInt.toNat).toInt := by
    unfold zsc1
    rw [hT, hQ, hM, hN, hl, ez, ← eA, ← eI, ← eF]
  refine ⟨?_, by omega, by omega⟩
  rw [show k.toNat = A.toInt.toNat + 1 from by omega, es, g1]
  show _ = zscS ct w hv ln ol d.toNat A.toInt.toNat + _
  rw [if_pos c, et]
theorem zScI_e (g : zScI ct w hv ln os d wl lv s k) (e1 : k ≤ lv) (e2 : lv ≤ k) (hs : s' = s) : zScI ct w hv ln os d wl lv s' lv := by
  have e : lv = k := by omega
  subst e
  rw [hs]
  exact g
end ZSC
def zScT (ct w hv ln : Nat → Int32) (os D wl lv : Int) (nums sc : Nat → Int32) (i : Int) : Prop := ∀ t : Nat, (t : Int) < i → zScI ct w hv (zMk ln D (nums t).toInt) os (nums t).toInt wl lv (sc t).toInt lv
theorem zScT_0 {ct w hv ln nums sc : Nat → Int32} {os D wl lv i : Int} (h : i ≤ 0) : zScT ct w hv ln os D wl lv nums sc i := fun t ht => by omega
theorem zScT_s {ct w hv ln nums sc sc' : Nat → Int32} {os D wl lv i : Int} {I Z R : Int32} (g : zScT ct w hv ln os D wl lv nums sc I.toInt) (i0 : 0 ≤ I.toInt) (eZ : Z = nums I.toNatClampNeg) (h : zScI ct w hv (zMk ln D Z.toInt) os Z.toInt wl lv R.toInt lv) (es : sc' = upd sc I.toNatClampNeg R) (hi : i = I.toInt + 1) : zScT ct w hv ln os D wl lv nums sc' i := fun t ht => by
  have e1 : I.toNatClampNeg = I.toInt.toNat := rfl
  by_cases c : t = I.toNatClampNeg
  · rw [c, es, pk_us, ← eZ]; exact h
  · rw [es, pk_un c]; exact g t (by omega)
theorem zScT_e {ct w hv ln nums sc : Nat → Int32} {os D wl lv i j : Int} (g : zScT ct w hv ln os D wl lv nums sc i) (e : j ≤ i) : zScT ct w hv ln os D wl lv nums sc j := fun t ht => g t (by omega)
def zShC (s : Nat → Int64) (n : Int) (kd lo hi ph sd : Nat → Int32) (pw : Int) (ct : Nat → Int32) (L : Int) (t : Nat → Int) (q : Nat) : Prop := ∃ a : Nat, (a : Int) < L ∧ (ct a).toInt ≠ 0 ∧ (kd a).toInt ≠ 4 ∧ zLcc s n kd lo hi ph sd pw t a q
def zWk (s : Nat → Int64) (n : Int) (kd lo hi ph sd : Nat → Int32) (pw L : Int) (T : Nat → Nat → Int) (on w hv : Nat → Int32) (k : Int) : Prop := (∀ a : Nat, (a : Int) < L → (kd a).toInt ≠ 4 → zCnR (fun d => (on d).toInt ≠ 0 ∧ ∃ q : Nat, q < 832 ∧ zLcc s n kd lo hi ph sd pw (T d) a q) k.toNat (hv a).toInt) ∧ (∀ a : Nat, (a : Int) < L → (kd a).toInt = 4 → (hv a).toInt = 0) ∧ ∀ d : Nat, (d : Int) < k → (on d).toInt ≠ 0 → ∀ a : Nat, (a : Int) < L → (kd a).toInt ≠ 4 → zWtR (zLcc s n kd lo hi ph sd pw (T d) a) 832 (w (120 * a + d)).toInt
def zFiw (rf0 : Nat → Option Nat) (s : Nat → Int64) (i fr : Nat → Int32) (n : Int) (ro cs nx fc lc bt : Nat → Int32) (ch ru ab tk : Int) (h l : Nat → Int32) (rk0 wn0 : Nat → Int32) (op0 : Int) (std0 sn0 : Nat → Int32) (cnt0 : Int) (kd lo hi ph sd : Nat → Int32) (pw L : Int) (cd : Nat → Int32) (len : Int) (on : Nat → Int32) (D : Int) (ct w hv nums sh : Nat → Int32) (fd k : Int) : Prop := ∀ (T : Nat → Nat → Int) (V : List Int), zFpre rf0 s i fr n ro cs nx fc lc bt ch ru ab tk h l rk0 wn0 op0 std0 sn0 cnt0 kd lo hi ph pw L cd len D T V → zWk s n kd lo hi ph sd pw L T on w hv k ∧ ((∀ a : Nat, (a : Int) < L → (kd a).toInt = 4 → (ct a).toInt = 0) → ∀ t : Nat, (t : Int) < fd → zFuP (zShC s n kd lo hi ph sd pw ct L (T (nums t).toInt.toNat)) (sh t).toInt)
theorem zWtR_q {P : Nat → Prop} {row : Nat → Int32} : ∀ n : Nat, (∀ j : Nat, j < n → (zpb row j = true ↔ P j)) → zWtR P n (zwq row n : Int) := by
  intro n
  induction n with
  | zero => intro _; exact rfl
  | succ n ih =>
    intro h
    have k := ih (fun j hj => h j (by omega))
    have e : zwq row (n + 1) = zwq row n + (if zpb row n then (if n < 512 then 3 else 1) else 0) := rfl
    by_cases c : zpb row n = true
    · refine Or.inl ⟨(h n (by omega)).mp c, ?_⟩
      rw [e, if_pos c]
      by_cases d : n < 512
      · rw [if_pos d, if_pos d, show ((zwq row n + 3 : Nat) : Int) - 3 = (zwq row n : Int) from by omega]
        exact k
      · rw [if_neg d, if_neg d, show ((zwq row n + 1 : Nat) : Int) - 1 = (zwq row n : Int) from by omega]
        exact k
    · refine Or.inr ⟨fun q => c ((h n (by omega)).mpr q), ?_⟩
      rw [e, if_neg c, Nat.add_zero]
      exact k
section ZFW
variable {hp : Nat} {rf0 rf rfP : Nat → Option Nat} {pl pl1 pl2 pl3 X : va_W} {A : Nat → Prop} {s : Nat → Int64} {i fr ro cs nx fc lc bt h l rk0 wn0 std0 sn0 rk wn std sn std1 sn1 kd lo hi ph sd cd on mr nums nums' m ct w w' hv hv' sh sh' : Nat → Int32} {n ch ru ab tk op0 cnt0 op cnt cnt1 pw L len D fd fd' k k' wl r mk : Int} {kk : ClassId} {T : Nat → Nat → Int} {V : List Int} {K : Int32}
theorem zFic_g (g : zFic hp rf0 s i fr n ro cs nx fc lc bt ch ru ab tk h l rk0 wn0 op0 std0 sn0 cnt0 rf pl rk wn op std sn cnt kd lo hi ph sd pw L cd len on mr D nums fd K.toInt) (k0 : 0 ≤ K.toInt) (k1 : K.toInt < D) (hT : zTu hp rf pl pl1 s i fr n ro cs nx fc lc bt ch ru ab tk h l rk op std sn cnt std1 sn1 cnt1 K.toInt op) (p : zFpre rf0 s i fr n ro cs nx fc lc bt ch ru ab tk h l rk0 wn0 op0 std0 sn0 cnt0 kd lo hi ph pw L cd len D T V) : zPgS std1 sn1 rk cnt1 op n s (T K.toInt.toNat) (zQa kd lo hi ph pw L) ∧ 0 ≤ fd ∧ fd ≤ K.toInt := by
  obtain ⟨⟨o1, o2, o3, o4, o5, ow⟩, c2, ⟨rk1, M1, c3⟩, c4⟩ := g T V p
  obtain ⟨p1, p2, p3, p4, p5, p6⟩ := p
  have l400 := zct_l (f := wn) 400
  have t8 := p4 K.toInt.toNat (by omega)
  obtain ⟨t1, t2, t3⟩ := hT T V D rk1 M1 ⟨p1, o1, by omega, by omega, o3, o4, k0, k1, t8.1⟩ c3 c2
  have hv := p1.1
  have b := zHrr_b c4
  refine ⟨⟨t2, o3, fun w w1 w2 => (o5 w (by have := hv.2.2.1; omega)).mp ((ow w (by have := hv.2.2.1; omega)).mpr ⟨w1, w2⟩), hv.1, fun r hr => p1.2.1 _ ((zVo_m hv).mpr ⟨r, hr, rfl⟩), t8.1.1, t8.2⟩, b.1, by omega⟩
theorem zWk_d (g : zWk s n kd lo hi ph sd pw L T on w hv K.toInt) (hS : zPgS std1 sn1 rk cnt1 op n s (T K.toInt.toNat) (zQa kd lo hi ph pw L)) (hq : zQw n kd lo hi ph pw L) (hM : zMwv std1 sn1 kd lo hi ph sd pw cnt1 rfP wl L K.toInt w w' hv hv' L) (hn : zPnn rfP L) (hwl : 120 * L ≤ wl) (k0 : 0 ≤ K.toInt) (k1 : K.toInt < 120) (on1 : (on K.toInt.toNat).toInt ≠ 0) (hk : k' = K.toInt + 1) : zWk s n kd lo hi ph sd pw L T on w' hv' k' := by
  obtain ⟨g1, g2, g3⟩ := g
  obtain ⟨m1, m2, m3⟩ := hM hn hwl k0 k1
  have ek : k'.toNat = K.toInt.toNat + 1 := by omega
  refine ⟨fun a ha ka => ?_, fun a ha ka => ?_, fun d hd od a ha ka => ?_⟩
  · obtain ⟨row, r1, r2, r3⟩ := m1 a ha ka
    have c := g1 a ha ka
    have b := zCnR_b c
    have e := zGl hS hq ha ka r1
    have r4 := r3 b.1 (by omega)
    have p := zwq_p (row := row) 832
    rw [ek]
    by_cases z : 0 < zwq row 832
    · rw [if_pos z] at r4
      obtain ⟨q, q1, q2⟩ := p.mp z
      refine Or.inl ⟨⟨on1, q, q1, (e q q1).mp q2⟩, ?_⟩
      rw [show (hv' a).toInt - 1 = (hv a).toInt from by omega]
      exact c
    · rw [if_neg z] at r4
      refine Or.inr ⟨fun ⟨_, q, q1, q2⟩ => z (p.mpr ⟨q, q1, (e q q1).mpr q2⟩), ?_⟩
      rw [show (hv' a).toInt = (hv a).toInt from by omega]
      exact c
  · rw [m2 a (Or.inr ka)]
    exact g2 a ha ka
  · by_cases c : d = K.toInt.toNat
    · obtain ⟨row, r1, r2, r3⟩ := m1 a ha ka
      have e := zGl hS hq ha ka r1
      rw [c, r2]
      exact zWtR_q 832 (fun j hj => e j hj)
    · rw [m3 (120 * a + d) (Or.inl (by omega))]
      exact g3 d (by omega) od a ha ka
theorem zWk_o (g : zWk s n kd lo hi ph sd pw L T on w hv K.toInt) (k0 : 0 ≤ K.toInt) (on0 : (on K.toInt.toNat).toInt = 0) (hk : k' = K.toInt + 1) : zWk s n kd lo hi ph sd pw L T on w hv k' := by
  obtain ⟨g1, g2, g3⟩ := g
  have ek : k'.toNat = K.toInt.toNat + 1 := by omega
  refine ⟨fun a ha ka => ?_, g2, fun d hd od a ha ka => ?_⟩
  · rw [ek]
    exact Or.inr ⟨fun q => q.1 on0, g1 a ha ka⟩
  · by_cases c : d = K.toInt.toNat
    · rw [c] at od; exact absurd on0 od
    · exact g3 d (by omega) od a ha ka
theorem zShU_C (hD : va_D A (X ++ pl2)) (hm : ∀ a : Nat, (a : Int) < L → zMvc kk rfP pl2 std sn kd lo hi ph sd pw cnt m mk a) (hS : zPgS std sn rk cnt op n s (T K.toInt.toNat) (zQa kd lo hi ph pw L)) (hq : zQw n kd lo hi ph pw L) (pe : zPe pl2 pl3) (hct : ∀ a : Nat, (a : Int) < L → (kd a).toInt = 4 → (ct a).toInt = 0) (q : Nat) (hq8 : q < 832) : zShU kk rfP pl3 ct L q ↔ zShC s n kd lo hi ph sd pw ct L (T K.toInt.toNat) q := by
  constructor
  · rintro ⟨a, h1, h2, R, h3, h4⟩
    have k4 : (kd a).toInt ≠ 4 := fun c => h2 (hct a h1 c)
    rcases hm a h1 with ⟨c, _⟩ | ⟨_, row, r2, r3, _⟩
    · exact absurd c k4
    · rw [zPrw_u hD ((zPrw_pe pe).mp h3) r2] at h4
      exact ⟨a, h1, h2, k4, (zGl hS hq h1 k4 r3 q hq8).mp h4⟩
  · rintro ⟨a, h1, h2, k4, h4⟩
    rcases hm a h1 with ⟨c, _⟩ | ⟨_, row, r2, r3, _⟩
    · exact absurd c k4
    · exact ⟨a, h1, h2, row, (zPrw_pe pe).mpr r2, (zGl hS hq h1 k4 r3 q hq8).mpr h4⟩
theorem zFiw_0 (hh : zHv0 hv L) (hf : fd = 0) (hk : k = 0) : zFiw rf0 s i fr n ro cs nx fc lc bt ch ru ab tk h l rk0 wn0 op0 std0 sn0 cnt0 kd lo hi ph sd pw L cd len on D ct w hv nums sh fd k := fun T V p => by
  subst hk
  exact ⟨⟨fun a ha _ => hh a ha, fun a ha _ => hh a ha, fun d hd => by omega⟩, fun _ t ht => by omega⟩
theorem zFiw_o (g : zFiw rf0 s i fr n ro cs nx fc lc bt ch ru ab tk h l rk0 wn0 op0 std0 sn0 cnt0 kd lo hi ph sd pw L cd len on D ct w hv nums sh fd K.toInt) (k0 : 0 ≤ K.toInt) (k1 : K.toInt < D) (hr : zIo on D K r) (r0 : r = 0) (hk : k' = K.toInt + 1) : zFiw rf0 s i fr n ro cs nx fc lc bt ch ru ab tk h l rk0 wn0 op0 std0 sn0 cnt0 kd lo hi ph sd pw L cd len on D ct w hv nums sh fd k' := fun T V p => by
  obtain ⟨g1, g2⟩ := g T V p
  exact ⟨zWk_o g1 k0 (zIo_0 hr r0 k0 k1) hk, g2⟩
theorem zFiw_d (gw : zFiw rf0 s i fr n ro cs nx fc lc bt ch ru ab tk h l rk0 wn0 op0 std0 sn0 cnt0 kd lo hi ph sd pw L cd len on D ct w hv nums sh fd K.toInt) (g : zFic hp rf0 s i fr n ro cs nx fc lc bt ch ru ab tk h l rk0 wn0 op0 std0 sn0 cnt0 rf pl rk wn op std sn cnt kd lo hi ph sd pw L cd len on mr D nums fd K.toInt) (k0 : 0 ≤ K.toInt) (k1 : K.toInt < D) (D1 : D ≤ 120) (hr : zIo on D K r) (r1 : r ≠ 0) (hT : zTu hp rf pl pl1 s i fr n ro cs nx fc lc bt ch ru ab tk h l rk op std sn cnt std1 sn1 cnt1 K.toInt op) (hM : zMlv hp kk rfP pl1 pl2 std1 sn1 kd lo hi ph sd pw cnt1 wl L (zMk mr D K.toInt) m L) (hMw : zMwv std1 sn1 kd lo hi ph sd pw cnt1 rfP wl L K.toInt w w' hv hv' L) (hn : zPnn rfP L) (hwl : 120 * L ≤ wl) (hD : va_D A (X ++ pl2)) (pe : zPe pl2 pl3) (hE : (zKpt nums fd K nums' fd' ∧ zKps kk rfP pl3 ct L fd sh sh') ∨ (nums' = nums ∧ fd' = fd ∧ sh' = sh)) (hk : k' = K.toInt + 1) : zFiw rf0 s i fr n ro cs nx fc lc bt ch ru ab tk h l rk0 wn0 op0 std0 sn0 cnt0 kd lo hi ph sd pw L cd len on D ct w' hv' nums' sh' fd' k' := fun T V p => by
  obtain ⟨g1, g2⟩ := gw T V p
  obtain ⟨hS, f0, f1⟩ := zFic_g g k0 k1 hT p
  have p5 := p.2.2.2.2.1
  refine ⟨zWk_d g1 hS p5 hMw hn hwl k0 (by omega) (zIo_1 hr r1) hk, fun hct t ht => ?_⟩
  rcases hE with ⟨q1, q2⟩ | ⟨q1, q2, q3⟩
  · obtain ⟨a1, a2⟩ := q1 (by omega)
    obtain ⟨Y, x1, x2⟩ := q2 (by omega)
    by_cases c : t = fd.toNat
    · rw [a1, x1, c, pk_us, pk_us]
      exact zFuP_c x2 (fun q hq8 => zShU_C hD (hM hn hwl).2 hS p5 pe hct q hq8)
    · rw [a1, x1, pk_un c, pk_un c]
      exact g2 hct t (by omega)
  · rw [q1, q3]
    exact g2 hct t (by omega)
theorem zFiw_e (g : zFiw rf0 s i fr n ro cs nx fc lc bt ch ru ab tk h l rk0 wn0 op0 std0 sn0 cnt0 kd lo hi ph sd pw L cd len on D ct w hv nums sh fd k) (hx : (0 < len ∧ k = D) ∨ (len ≤ 0 ∧ k = 0)) : zFiw rf0 s i fr n ro cs nx fc lc bt ch ru ab tk h l rk0 wn0 op0 std0 sn0 cnt0 kd lo hi ph sd pw L cd len on D ct w hv nums sh fd (if 0 < len then D else 0) := by
  rcases hx with ⟨h1, h2⟩ | ⟨h1, h2⟩
  · rw [if_pos h1]; rw [h2] at g; exact g
  · rw [if_neg (by omega)]; rw [h2] at g; exact g
end ZFW
def zRna (x : Int × Int × Int) (w : Int) : Int := if w = 0 then x.1 else if w = 1 then x.2.1 else if w = 2 then x.2.2 else -1
theorem zRna_0 {x : Int × Int × Int} {w r : Int} (h : w = 0) (hr : r = x.1) : r = zRna x w := by
  unfold zRna
  rw [if_pos h]
  exact hr
theorem zRna_1 {x : Int × Int × Int} {w r : Int} (h : w = 1) (hr : r = x.2.1) : r = zRna x w := by
  unfold zRna
  rw [if_neg (by omega), if_pos h]
  exact hr
theorem zRna_2 {x : Int × Int × Int} {w r : Int} (h : w = 2) (hr : r = x.2.2) : r = zRna x w := by
  unfold zRna
  rw [if_neg (by omega), if_neg (by omega), if_pos h]
  exact hr
theorem zRna_3 {x : Int × Int × Int} {w r : Int} (h : w ≠ 0 ∧ w ≠ 1 ∧ w ≠ 2) (hr : r = -1) : r = zRna x w := by
  unfold zRna
  rw [if_neg h.1, if_neg h.2.1, if_neg h.2.2]
  exact hr
theorem zRna_L {x : Int × Int × Int} {w : Int} {f f0 : Nat → Int64} {y : Int64} {R : Int32} (ef : f = vp_updL f0 (0 : Int32).toNatClampNeg y) (ey : y = R.toInt64) (h : R.toInt = zRna x w) : (f 0).toInt = zRna x w := by
  have q : f 0 = R.toInt64 := by rw [ef, ← ey]; rfl
  rw [q, Int32.toInt_toInt64]
  exact h
def zMcP (on ta wh fr mn me ib lo ti bo : Nat → Int32) (l : Int) : Nat → Prop := fun d => (on d).toInt ≠ 0 ∧ zWd ta wh fr mn me ib lo ti bo l (d : Int)
def zMcI (ma co on ta wh fr mn me ib lo ti bo : Nat → Int32) (docs L : Int) : Prop := ∀ a : Nat, (a : Int) < L → (co a).toInt ≠ 0 → zCnR (zMcP on ta wh fr mn me ib lo ti bo (a : Int)) docs.toNat (ma a).toInt
def zMcO (co on ta wh fr mn me ib lo ti bo : Nat → Int32) (l D n : Int) : Prop := (co l.toNat).toInt ≠ 0 → zCnR (zMcP on ta wh fr mn me ib lo ti bo l) D.toNat n
section ZMC
variable {ma ma' co on ta wh fr mn me ib lo ti bo : Nat → Int32} {docs L L' l D D' n n' : Int}
theorem zMcI_0 (h : L ≤ 0) : zMcI ma co on ta wh fr mn me ib lo ti bo docs L := fun a ha => by omega
theorem zMcO_0 (h : D = 0) (hn : n = 0) : zMcO co on ta wh fr mn me ib lo ti bo l D n := fun _ => by subst h; exact hn
theorem zMcO_y (g : zMcO co on ta wh fr mn me ib lo ti bo l D n) (d0 : 0 ≤ D) (ho : (on D.toNat).toInt ≠ 0) (hw : zWd ta wh fr mn me ib lo ti bo l D) (e : n' = n + 1) (e' : D' = D + 1) : zMcO co on ta wh fr mn me ib lo ti bo l D' n' := fun hc => by
  rw [show D'.toNat = D.toNat + 1 from by omega]
  refine Or.inl ⟨⟨ho, by rw [show ((D.toNat : Nat) : Int) = D from by omega]; exact hw⟩, ?_⟩
  rw [show n' - 1 = n from by omega]
  exact g hc
theorem zMcO_n (g : zMcO co on ta wh fr mn me ib lo ti bo l D n) (d0 : 0 ≤ D) (hd : (on D.toNat).toInt = 0 ∨ ¬ zWd ta wh fr mn me ib lo ti bo l D) (e : n' = n) (e' : D' = D + 1) : zMcO co on ta wh fr mn me ib lo ti bo l D' n' := fun hc => by
  rw [show D'.toNat = D.toNat + 1 from by omega, e]
  refine Or.inr ⟨fun q => ?_, g hc⟩
  rcases hd with hd | hd
  · exact q.1 hd
  · have q2 := q.2
    rw [show ((D.toNat : Nat) : Int) = D from by omega] at q2
    exact hd q2
theorem zMcO_c (g : zMcO co on ta wh fr mn me ib lo ti bo l D n) (e1 : docs ≤ D) (e2 : D ≤ docs) : zMcO co on ta wh fr mn me ib lo ti bo l docs n := by
  have e : docs = D := by omega
  subst e
  exact g
theorem zMcI_c (g : zMcI ma co on ta wh fr mn me ib lo ti bo docs L) (e : L' ≤ L) : zMcI ma co on ta wh fr mn me ib lo ti bo docs L' := fun a ha => g a (by omega)
theorem zMcI_s (g : zMcI ma co on ta wh fr mn me ib lo ti bo docs L) (l0 : 0 ≤ L) (ho : (co L.toNat).toInt = 0 ∨ zMcO co on ta wh fr mn me ib lo ti bo L docs (ma' L.toNat).toInt) (hk : ∀ j : Nat, (j : Int) < L → ma' j = ma j) (e : L' = L + 1) : zMcI ma' co on ta wh fr mn me ib lo ti bo docs L' := fun a ha hc => by
  by_cases c : a = L.toNat
  · subst c
    rcases ho with ho | ho
    · exact absurd ho hc
    · have q := ho hc
      rw [show ((L.toNat : Nat) : Int) = L from by omega]
      exact q
  · rw [hk a (by omega)]
    exact g a (by omega) hc
end ZMC
def zSrR (C : Nat → Prop) (Wt : Nat → Int → Prop) (Mt : Nat → Int) (ln n : Int) : Nat → Int → Prop
  | 0, s => s = 0
  | a + 1, s => (C a ∧ ∃ f : Int, Wt a f ∧ zSrR C Wt Mt ln n a (s - zsc1 f ln n (Mt a))) ∨ (¬ C a ∧ zSrR C Wt Mt ln n a s)
section ZSR
variable {C C' : Nat → Prop} {Wt Wt' : Nat → Int → Prop} {Mt Mt' : Nat → Int} {ln ln' n n' : Int}
theorem zSrR_u : ∀ {k : Nat} {s s' : Int}, (∀ a : Nat, a < k → C a → ∀ f f' : Int, Wt a f → Wt a f' → f = f') → zSrR C Wt Mt ln n k s → zSrR C Wt Mt ln n k s' → s = s' := by
  intro k
  induction k with
  | zero => intro s s' _ h h'; have a : s = 0 := h; have b : s' = 0 := h'; omega
  | succ k ih =>
    intro s s' hw h h'
    rcases h with ⟨h1, f, h2, h3⟩ | ⟨h1, h3⟩ <;> rcases h' with ⟨g1, f', g2, g3⟩ | ⟨g1, g3⟩
    · have e := hw k (by omega) h1 f f' h2 g2
      subst e
      have := ih (fun a ha => hw a (by omega)) h3 g3
      omega
    · exact absurd h1 g1
    · exact absurd g1 h1
    · exact ih (fun a ha => hw a (by omega)) h3 g3
theorem zSrR_c : ∀ {k : Nat} {s : Int}, (∀ a : Nat, a < k → (C a ↔ C' a)) → (∀ a : Nat, a < k → C a → ∀ f : Int, Wt a f → Wt' a f) → (∀ a : Nat, a < k → C a → ∀ f : Int, Wt a f → zsc1 f ln n (Mt a) = zsc1 f ln' n' (Mt' a)) → zSrR C Wt Mt ln n k s → zSrR C' Wt' Mt' ln' n' k s := by
  intro k
  induction k with
  | zero => intro s _ _ _ h; exact h
  | succ k ih =>
    intro s hc hw hm h
    rcases h with ⟨h1, f, h2, h3⟩ | ⟨h1, h3⟩
    · refine Or.inl ⟨(hc k (by omega)).mp h1, f, hw k (by omega) h1 f h2, ?_⟩
      rw [← hm k (by omega) h1 f h2]
      exact ih (fun a ha => hc a (by omega)) (fun a ha => hw a (by omega)) (fun a ha => hm a (by omega)) h3
    · exact Or.inr ⟨fun q => h1 ((hc k (by omega)).mpr q), ih (fun a ha => hc a (by omega)) (fun a ha => hw a (by omega)) (fun a ha => hm a (by omega)) h3⟩
theorem zsc1_0 {ln n m : Int} : zsc1 0 ln n m = 0 := by
  unfold zsc1
  rw [Int.mul_zero, Int.zero_ediv, Int.zero_mul]
theorem zSrR_S {ct w hv : Nat → Int32} {d : Nat} : ∀ k : Nat, (∀ a : Nat, a < k → (ct a).toInt ≠ 0 → Wt a (w (120 * a + d)).toInt) → zSrR (fun a => (ct a).toInt ≠ 0) Wt (fun a => (hv a).toInt) ln n k (zscS ct w hv ln n d k) := by
  intro k
  induction k with
  | zero => intro _; exact rfl
  | succ k ih =>
    intro h
    have g := ih (fun a ha => h a (by omega))
    have e : zscS ct w hv ln n d (k + 1) = zscS ct w hv ln n d k + (if (ct k).toInt ≠ 0 then zsc1 (w (120 * k + d)).toInt ln n (hv k).toInt else 0) := rfl
    by_cases c : (ct k).toInt ≠ 0
    · refine Or.inl ⟨c, _, h k (by omega) c, ?_⟩
      rw [e, if_pos c, Int.add_sub_cancel]
      exact g
    · refine Or.inr ⟨c, ?_⟩
      rw [e, if_neg c, Int.add_zero]
      exact g
end ZSR
def zSrW (ta wh fr mn me ib lo ti bo : Nat → Int32) (d : Int) : Nat → Int → Prop := fun a f => zWtR (zWgP (ti d.toNat).toInt (bo d.toNat).toInt (zHt ta wh fr mn me ib lo (a : Int) d)) 1024 f
def zSrI (co ta wh fr mn me ib lo ti bo ma ln2 : Nat → Int32) (d n s k : Int) : Prop := 0 ≤ n → n ≤ 120 → zSrR (fun a => (co a).toInt ≠ 0) (zSrW ta wh fr mn me ib lo ti bo d) (fun a => (ma a).toInt) (ln2 d.toNat).toInt n k.toNat s ∧ 0 ≤ s ∧ s ≤ 6400000 * k
section ZSI
variable {co ta wh fr mn me ib lo ti bo ma ln2 : Nat → Int32} {d n s s' k k' r : Int}
theorem zSrI_0 (hs : s = 0) (hk : k = 0) : zSrI co ta wh fr mn me ib lo ti bo ma ln2 d n s k := fun _ _ => by
  subst hs; subst hk
  exact ⟨rfl, by omega, by omega⟩
theorem zSrI_n {A Z : Int32} (g : zSrI co ta wh fr mn me ib lo ti bo ma ln2 d n s A.toInt) (a0 : 0 ≤ A.toInt) (eZ : Z = co A.toNatClampNeg) (hz : Z.toInt = 0) (hs : s' = s) (hk : k = A.toInt + 1) : zSrI co ta wh fr mn me ib lo ti bo ma ln2 d n s' k := fun p1 p2 => by
  obtain ⟨g1, g2, g3⟩ := g p1 p2
  have c : (co A.toInt.toNat).toInt = 0 := by rw [← hz, eZ]; rfl
  refine ⟨?_, by omega, by omega⟩
  rw [show k.toNat = A.toInt.toNat + 1 from by omega, hs]
  exact Or.inr ⟨fun q => q c, g1⟩
theorem zSrI_z {A Z : Int32} (g : zSrI co ta wh fr mn me ib lo ti bo ma ln2 d n s A.toInt) (a0 : 0 ≤ A.toInt) (eZ : Z = co A.toNatClampNeg) (hz : Z.toInt ≠ 0) (hW : zWtR (zWgP (ti d.toNat).toInt (bo d.toNat).toInt (zHt ta wh fr mn me ib lo A.toInt d)) 1024 r) (r0 : r = 0) (hs : s' = s) (hk : k = A.toInt + 1) : zSrI co ta wh fr mn me ib lo ti bo ma ln2 d n s' k := fun p1 p2 => by
  obtain ⟨g1, g2, g3⟩ := g p1 p2
  have c : (co A.toInt.toNat).toInt ≠ 0 := by
    have q : Z = co A.toInt.toNat := eZ
    rw [← q]; exact hz
  refine ⟨?_, by omega, by omega⟩
  rw [show k.toNat = A.toInt.toNat + 1 from by omega, hs]
  refine Or.inl ⟨c, r, ?_, ?_⟩
  · show zWtR (zWgP _ _ (zHt ta wh fr mn me ib lo ((A.toInt.toNat : Nat) : Int) d)) 1024 r
    rw [show ((A.toInt.toNat : Nat) : Int) = A.toInt from by omega]
    exact hW
  · rw [r0, zsc1_0, Int.sub_zero]
    exact g1
theorem zSrI_s {A Z F H K M N Q S S' T X G : Int32} {l8 ra : Int} (g : zSrI co ta wh fr mn me ib lo ti bo ma ln2 d n S.toInt A.toInt) (a0 : 0 ≤ A.toInt) (a1 : A.toInt ≤ 39) (eZ : Z = co A.toNatClampNeg) (hz : Z.toInt ≠ 0) (hW : zWtR (zWgP (ti d.toNat).toInt (bo d.toNat).toInt (zHt ta wh fr mn me ib lo A.toInt d)) 1024 F.toInt) (f0 : 0 ≤ F.toInt) (hM : M.toInt = 100 * F.toInt) (hl : l8 = (ln2 d.toNat).toInt / 8) (n0 : 0 ≤ (ln2 d.toNat).toInt) (hN : N.toInt = F.toInt + 1 + l8) (hQ : Q.toInt = M.toInt / N.toInt) (q1 : Q.toInt ≤ 204800) (hX : X.toInt = n) (eK : K = 16 * X) (eH : H = ma A.toNatClampNeg) (h1 : 1 ≤ H.toInt) (eG : G = K / H) (hra : ra = zdig G.toInt) (b0 : 0 ≤ ra) (b1 : ra ≤ 31) (hT : T.toInt = Q.toInt * ra) (eS : S' = S + T) (hk : k = A.toInt + 1) : zSrI co ta wh fr mn me ib lo ti bo ma ln2 d n S'.toInt k := fun p1 p2 => by
  obtain ⟨g1, g2, g3⟩ := g p1 p2
  have c : (co A.toInt.toNat).toInt ≠ 0 := by
    have q : Z = co A.toInt.toNat := eZ
    rw [← q]; exact hz
  have eM : H = ma A.toInt.toNat := eH
  have m := zmul (x := 16) (y := X) (show (16 : Int32).toInt = 16 from by decide) hX eK (by omega) (by omega)
  have q := zdiv (x := K) (y := H) m rfl eG (by omega) (by omega)
  have q0 : 0 ≤ Q.toInt := by rw [hQ]; exact Int.ediv_nonneg (by omega) (by omega)
  have t0 : 0 ≤ T.toInt := by rw [hT]; exact Int.mul_nonneg q0 b0
  have t1 : T.toInt ≤ 204800 * 31 := by rw [hT]; exact Int.mul_le_mul q1 b1 b0 (by decide)
  have es := zadd rfl rfl eS (by omega) (by omega)
  have et : T.toInt = zsc1 F.toInt (ln2 d.toNat).toInt n (ma A.toInt.toNat).toInt := by
    unfold zsc1 zrr
    rw [hT, hQ, hM, hN, hl, hra, q, ← eM, if_pos (by omega)]
  refine ⟨?_, by omega, by omega⟩
  rw [show k.toNat = A.toInt.toNat + 1 from by omega]
  refine Or.inl ⟨c, F.toInt, ?_, ?_⟩
  · show zWtR (zWgP _ _ (zHt ta wh fr mn me ib lo ((A.toInt.toNat : Nat) : Int) d)) 1024 F.toInt
    rw [show ((A.toInt.toNat : Nat) : Int) = A.toInt from by omega]
    exact hW
  · rw [← et, show S'.toInt - T.toInt = S.toInt from by omega]
    exact g1
theorem zSrI_e (g : zSrI co ta wh fr mn me ib lo ti bo ma ln2 d n s k) (e1 : k ≤ k') (e2 : k' ≤ k) (hs : s' = s) : zSrI co ta wh fr mn me ib lo ti bo ma ln2 d n s' k' := by
  have e : k' = k := by omega
  subst e
  rw [hs]
  exact g
end ZSI
def zIsR (co ta wh fr mn me ib lo : Nat → Int32) (L d p : Int) : Prop := ∃ a : Nat, (a : Int) < L ∧ (co a).toInt ≠ 0 ∧ zHt ta wh fr mn me ib lo (a : Int) d p
def zIsN (co ta wh fr mn me ib lo : Nat → Int32) (L d p : Int) : Prop := ¬ zIsR co ta wh fr mn me ib lo L d p
section ZIS
variable {co ta wh fr mn me ib lo : Nat → Int32} {L d p r : Int} {A Z : Int32}
theorem zIsN_0 (h : L ≤ 0) : zIsN co ta wh fr mn me ib lo L d p := fun ⟨a, ha, _⟩ => by omega
theorem zIsN_c (g : zIsN co ta wh fr mn me ib lo A.toInt d p) (a0 : 0 ≤ A.toInt) (hn : (co A.toNatClampNeg).toInt = 0 ∨ ¬ zHt ta wh fr mn me ib lo A.toInt d p) (e : L = A.toInt + 1) : zIsN co ta wh fr mn me ib lo L d p := fun ⟨a, h1, h2, h3⟩ => by
  have e1 : A.toNatClampNeg = A.toInt.toNat := rfl
  by_cases c : a = A.toInt.toNat
  · subst c
    rw [show ((A.toInt.toNat : Nat) : Int) = A.toInt from by omega] at h3
    rcases hn with hn | hn
    · exact h2 hn
    · exact hn h3
  · exact g ⟨a, by omega, h2, h3⟩
theorem zIsN_n (g : zIsN co ta wh fr mn me ib lo A.toInt d p) (a0 : 0 ≤ A.toInt) (eZ : Z = co A.toNatClampNeg) (hz : Z.toInt = 0) (e : L = A.toInt + 1) : zIsN co ta wh fr mn me ib lo L d p := zIsN_c g a0 (Or.inl (by rw [← eZ]; exact hz)) e
theorem zIsR_n (g : zIsN co ta wh fr mn me ib lo r d p) (e : L ≤ r) {x : Int} (hx : x = 0) : x = 1 ↔ zIsR co ta wh fr mn me ib lo L d p := ⟨fun q => by omega, fun ⟨a, h1, h2⟩ => absurd ⟨a, by omega, h2⟩ g⟩
theorem zIsR_y (a0 : 0 ≤ A.toInt) (a1 : A.toInt < L) (eZ : Z = co A.toNatClampNeg) (hz : Z.toInt ≠ 0) (h : zHt ta wh fr mn me ib lo A.toInt d p) {x : Int} (hx : x = 1) : x = 1 ↔ zIsR co ta wh fr mn me ib lo L d p := ⟨fun _ => ⟨A.toInt.toNat, by omega, by have q : Z = co A.toInt.toNat := eZ; rw [← q]; exact hz, by rw [show ((A.toInt.toNat : Nat) : Int) = A.toInt from by omega]; exact h⟩, fun _ => hx⟩
end ZIS
def zShP (tt bd : Int) (co ta wh fr mn me ib lo : Nat → Int32) (L d : Int) : Nat → Prop := fun q => zPrd tt bd q ∧ zIsR co ta wh fr mn me ib lo L d (q : Int)
def zMdI (P : Nat → Prop) (mk : Nat → Int32) (k : Int) : Prop := ∀ q : Nat, (q : Int) < k → ((mk q).toInt ≠ 0 ↔ P q)
def zSpr (P : Nat → Prop) : Prop := ∀ q : Nat, q < 1024 → P q → q < 832
def zBsJ (P : Nat → Prop) (p b m : Int) : Prop := zSpr P → zBst (fun q => q < 1024 ∧ P q) p.toNat b m
def zCwI (P : Nat → Prop) (p n k : Int) : Prop := zSpr P → zCnR (fun j => p.toNat + j < 1024 ∧ P (p.toNat + j)) k.toNat n
def zShR (P : Nat → Prop) (r : Int) : Prop := zSpr P → zFuP P r
section ZMD
variable {P : Nat → Prop} {mk mk' : Nat → Int32} {k k' p p' b b' m m' n n' r : Int}
theorem zMdI_0 (h : k ≤ 0) : zMdI P mk k := fun q hq => by omega
theorem zMdI_s {K B : Int32} (g : zMdI P mk K.toInt) (k0 : 0 ≤ K.toInt) (hE : (B.toInt = 1 ∧ P K.toInt.toNat) ∨ (B.toInt = 0 ∧ ¬ P K.toInt.toNat)) (e : mk' = upd mk K.toNatClampNeg (vp_nar .boolean B)) (hk : k = K.toInt + 1) : zMdI P mk' k := fun q hq => by
  have e1 : K.toNatClampNeg = K.toInt.toNat := rfl
  by_cases c : q = K.toNatClampNeg
  · rw [e, c, pk_us, e1]
    rcases hE with ⟨h1, h2⟩ | ⟨h1, h2⟩
    · rw [znar (by omega) (by omega)]
      exact ⟨fun _ => h2, fun _ => by omega⟩
    · rw [znar (by omega) (by omega)]
      exact ⟨fun q => absurd h1 q, fun q => absurd q h2⟩
  · rw [e, pk_un c]
    exact g q (by omega)
theorem zMdI_e (g : zMdI P mk k) (e1 : k' ≤ k) (e2 : k ≤ k') : zMdI P mk k' := fun q hq => g q (by omega)
section ZMDS
variable {tt bd L d : Int} {co ta wh fr mn me ib lo : Nat → Int32}
theorem zMdI_y {K B : Int32} (g : zMdI (zShP tt bd co ta wh fr mn me ib lo L d) mk K.toInt) (k0 : 0 ≤ K.toInt) (hp : K.toInt < tt ∨ (512 ≤ K.toInt ∧ K.toInt < 512 + bd)) (hs : zIsR co ta wh fr mn me ib lo L d K.toInt) (hb : B.toInt = 1) (e : mk' = upd mk K.toNatClampNeg (vp_nar .boolean B)) (hk : k = K.toInt + 1) : zMdI (zShP tt bd co ta wh fr mn me ib lo L d) mk' k := by
  refine zMdI_s g k0 (Or.inl ⟨hb, ?_, ?_⟩) e hk
  · rcases hp with c | c
    · exact Or.inl (by omega)
    · exact Or.inr ⟨by omega, by omega⟩
  · rw [show ((K.toInt.toNat : Nat) : Int) = K.toInt from by omega]
    exact hs
theorem zMdI_n {K B : Int32} (g : zMdI (zShP tt bd co ta wh fr mn me ib lo L d) mk K.toInt) (k0 : 0 ≤ K.toInt) (hn : ¬ (K.toInt < tt ∨ (512 ≤ K.toInt ∧ K.toInt < 512 + bd)) ∨ ¬ zIsR co ta wh fr mn me ib lo L d K.toInt) (hb : B.toInt = 0) (e : mk' = upd mk K.toNatClampNeg (vp_nar .boolean B)) (hk : k = K.toInt + 1) : zMdI (zShP tt bd co ta wh fr mn me ib lo L d) mk' k := by
  refine zMdI_s g k0 (Or.inr ⟨hb, fun q => ?_⟩) e hk
  obtain ⟨q1, q2⟩ := q
  rw [show ((K.toInt.toNat : Nat) : Int) = K.toInt from by omega] at q2
  rcases hn with c | c
  · refine c ?_
    rcases q1 with q1 | q1
    · exact Or.inl (by omega)
    · exact Or.inr ⟨by omega, by omega⟩
  · exact c q2
end ZMDS
theorem zBsJ_0 (hp : p = 0) (hb : b = -1) (hm : m = 0) : zBsJ P p b m := fun _ => by
  subst hp; subst hb; subst hm
  exact ⟨rfl, rfl⟩
theorem zBsJ_n {Q Z : Int32} (g : zBsJ P Q.toInt b m) (h : zMdI P mk k) (q0 : 0 ≤ Q.toInt) (qk : Q.toInt < k) (eZ : Z = mk Q.toNatClampNeg) (hz : Z.toInt = 0) (hb : b' = b) (hm : m' = m) (hp : p = Q.toInt + 1) : zBsJ P p b' m' := fun hS => by
  have e1 : Q.toNatClampNeg = Q.toInt.toNat := rfl
  have w := h Q.toInt.toNat (by omega)
  rw [show p.toNat = Q.toInt.toNat + 1 from by omega, hb, hm]
  refine Or.inr ⟨fun q => w.mpr q.2 ?_, g hS⟩
  rw [← hz, eZ]; rfl
theorem zBsJ_y {Q Z : Int32} {c : Int} (g : zBsJ P Q.toInt b m) (h : zMdI P mk k) (q0 : 0 ≤ Q.toInt) (qk : Q.toInt < k) (k1 : k ≤ 1024) (eZ : Z = mk Q.toNatClampNeg) (hz : Z.toInt ≠ 0) (hc : zCwI P Q.toInt n c) (c1 : c = 10) (hE : (m < n ∧ b' = Q.toInt ∧ m' = n) ∨ (n ≤ m ∧ b' = b ∧ m' = m)) (hp : p = Q.toInt + 1) : zBsJ P p b' m' := fun hS => by
  have e1 : Z = mk Q.toInt.toNat := eZ
  have w := (h Q.toInt.toNat (by omega)).mp (by rw [← e1]; exact hz)
  have q := hc hS
  rw [c1] at q
  rw [show p.toNat = Q.toInt.toNat + 1 from by omega]
  refine Or.inl ⟨⟨by omega, w⟩, n, b, m, q, g hS, ?_⟩
  rcases hE with c | c
  · exact Or.inl ⟨c.1, by omega, c.2.2⟩
  · exact Or.inr c
theorem zCwI_0 (hk : k = 0) (hn : n = 0) : zCwI P p n k := fun _ => by
  subst hk; subst hn
  exact rfl
theorem zCwI_s {Q K N N' I Z B Y : Int32} (g : zCwI P Q.toInt N.toInt K.toInt) (h : zMdI P mk k) (k1 : 1024 ≤ k) (q0 : 0 ≤ Q.toInt) (k0 : 0 ≤ K.toInt) (k9 : K.toInt < 10) (eY : Y = mk Q.toNatClampNeg) (hy : Y.toInt ≠ 0) (hQ : Q.toInt < 1024) (eZ : Z = mk I.toNatClampNeg) (hI : I.toInt = Q.toInt + K.toInt) (hB : (Z.toInt ≠ 0 ∧ B.toInt = 1) ∨ (Z.toInt = 0 ∧ B.toInt = 0)) (eN : N' = N + B) (hk : k' = K.toInt + 1) : zCwI P Q.toInt N'.toInt k' := fun hS => by
  have e1 : Y = mk Q.toInt.toNat := eY
  have w := (h Q.toInt.toNat (by omega)).mp (by rw [← e1]; exact hy)
  have q8 := hS _ (by omega) w
  have c := g hS
  have b := zCnR_b c
  have en := zadd rfl rfl eN (by omega) (by omega)
  have e2 : Z = mk (Q.toInt.toNat + K.toInt.toNat) := by rw [eZ]; exact congrArg mk (by have : I.toNatClampNeg = I.toInt.toNat := rfl; omega)
  have w2 := h (Q.toInt.toNat + K.toInt.toNat) (by omega)
  rw [← e2] at w2
  rw [show k'.toNat = K.toInt.toNat + 1 from by omega]
  rcases hB with ⟨h1, h2⟩ | ⟨h1, h2⟩
  · refine Or.inl ⟨⟨by omega, w2.mp h1⟩, ?_⟩
    rw [show N'.toInt - 1 = N.toInt from by omega]
    exact c
  · refine Or.inr ⟨fun q => w2.mpr q.2 h1, ?_⟩
    rw [show N'.toInt = N.toInt from by omega]
    exact c
theorem zShR_i (g : zBsJ P p b m) (hp : 1024 ≤ p) (hp2 : p ≤ 1024) (hr : r = b) : zShR P r := fun hS => by
  have e : p = 1024 := by omega
  subst e
  have q := g hS
  have q1 : zBst (fun q => q < 1024 ∧ P q) 1024 b m := q
  rw [hr]
  have key : ∀ j : Nat, ∀ b m : Int, zBst (fun q => q < 1024 ∧ P q) (832 + j) b m → zBst (fun q => q < 1024 ∧ P q) 832 b m := by
    intro j
    induction j with
    | zero => intro b m h; exact h
    | succ j ih =>
      intro b m h
      rcases h with ⟨h1, _⟩ | ⟨_, h1⟩
      · have z : 832 + j < 832 := hS _ h1.1 h1.2
        omega
      · exact ih b m h1
  refine ⟨m, zBst_c (key 192 b m q1) (fun j _ => ⟨fun h => ⟨hS j h.1 h.2, h.2⟩, fun h => ⟨by omega, h.2⟩⟩)⟩
end ZMD
def zTkR (P : Nat → Prop) (rk0 sc0 pl0 rk sc pl : Nat → Int32) (m d s : Int) : Prop := ∃ p : Int, zShR P p ∧ zTkE rk0 sc0 pl0 rk sc pl m d s p
def zFrX (SC SH : Int → Int → Prop) (rk sc pl hits : Nat → Int32) (fd : Int) : Prop := ∃ X : Nat → Int × Int × Int, zRkr rk sc pl X fd ∧ ∀ t : Nat, (t : Int) < fd → (X t).1 = (hits t).toInt ∧ SC (X t).1 (X t).2.1 ∧ SH (X t).1 (X t).2.2
section ZFX
variable {SC SH : Int → Int → Prop} {rk sc pl hits rk' sc' pl' hits' : Nat → Int32} {fd fd' d s : Int} {P : Nat → Prop}
theorem zFrX_0 (h : fd = 0) : zFrX SC SH rk sc pl hits fd := ⟨fun _ => (0, 0, 0), fun j hj => by omega, fun t ht => by omega⟩
theorem zFrX_s {D S : Int32} (g : zFrX SC SH rk sc pl hits fd) (f0 : 0 ≤ fd) (f1 : fd < 120) (hs : SC D.toInt S.toInt) (ht : zTkR P rk sc pl rk' sc' pl' fd D.toInt S.toInt) (hP : ∀ p : Int, zShR P p → SH D.toInt p) (hK : zKpt hits fd D hits' fd') : zFrX SC SH rk' sc' pl' hits' fd' := by
  obtain ⟨X, x1, x2⟩ := g
  obtain ⟨p, p1, p2⟩ := ht
  obtain ⟨k1, k2⟩ := hK f1
  refine ⟨zuf X fd.toNat (D.toInt, S.toInt, p), zRkr_s x1 f0 p2 (fun j hj => zuf_n (by omega)) (zuf_s) k2, fun t ht => ?_⟩
  by_cases c : t = fd.toNat
  · rw [c, zuf_s, k1, pk_us]
    exact ⟨rfl, hs, hP p p1⟩
  · rw [zuf_n c, k1, pk_un c]
    exact x2 t (by omega)
end ZFX
def zStn (on : Nat → Int32) (j s : Int) : Prop := s = (zsu (fun d => if (on d).toInt ≠ 0 then 1 else 0) j.toNat : Nat)
theorem zStn_0 {on : Nat → Int32} {j s : Int} (h : j = 0) (h2 : s = 0) : zStn on j s := by unfold zStn; subst h; rw [h2]; rfl
theorem zStn_s {on : Nat → Int32} {j s j' s' : Int} {i z : Int32} (h : zStn on j s) (hi : i.toInt = j) (h0 : 0 ≤ j) (ez : z = on i.toNatClampNeg) (hs : (z.toInt ≠ 0 ∧ s' = s + 1) ∨ (z.toInt = 0 ∧ s' = s)) (e : j' = j + 1) : zStn on j' s' := by
  have ei : i.toNatClampNeg = j.toNat := by have : i.toNatClampNeg = i.toInt.toNat := rfl; omega
  rw [ei] at ez
  unfold zStn at h ⊢
  rw [show j'.toNat = j.toNat + 1 from by omega]
  show s' = ((zsu (fun d => if (on d).toInt ≠ 0 then 1 else 0) j.toNat + (if (on j.toNat).toInt ≠ 0 then 1 else 0) : Nat) : Int)
  rw [← ez]
  rcases hs with ⟨a, b⟩ | ⟨a, b⟩
  · rw [if_pos a]; omega
  · rw [if_neg (fun q => q a)]; omega
theorem zStn_e {on : Nat → Int32} {j s j' s' : Int} (h : zStn on j s) (e : j' = j) (e2 : s' = s) : zStn on j' s' := by rw [e, e2]; exact h
theorem zNoR_r {wh lf rt nm c l c1 l1 : Nat → Int32} {u w N : Int} {R : Int32} (h : zNoR wh lf rt nm R.toNatClampNeg u w c l c1 l1) (e : R.toInt = N - 1) (hu : u = 0) (hw : w = 0) : zNoR wh lf rt nm (N - 1).toNat 0 0 c l c1 l1 := by
  have q : R.toNatClampNeg = (N - 1).toNat := by rw [← e]; rfl
  rw [q, hu, hw] at h
  exact h
def zxLv (f : Nat → Int32) (n cn lv : Int) (cd : zqMs) : Prop := zqTy f n → 1 ≤ cn → ∃ K, zPaL f n K lv ∧ zCm cd cn K
theorem zxLv_0 {f : Nat → Int32} {n cn lv : Int} {cd : zqMs} (h : cn = 0) : zxLv f n cn lv cd := fun _ h1 => by omega
theorem zxLv_y {D : Nat} {f : Nat → Int32} {n c h1 b1 p q r lv' qt' cn' lv9 z0 z1 z2 z3 n2 : Int} {cd cd' cd2 : zqMs} {P : Bool → Prop} (hd : D = 12) (k1 : zBl f n z0 c) (e0 : z0 = 0) (m1 : zMl f n c h1 b1) (hq : zxS (zQry f n D 1) f n c h1 b1 z1 z2 z3 cd p q r lv' qt' n2 cd2 P) (e1 : z1 = 0) (e2 : z2 = 0) (e3 : z3 = 0) (hp : 0 ≤ p) (o1 : q = 0) (o2 : cn' = n2) (o3 : cd' = cd2) (hl : lv9 = lv') : zxLv f n cn' lv9 cd' := fun tb _ => by
  subst e0; subst e1; subst e2; subst e3; subst hd
  obtain ⟨a, b⟩ := hq tb m1
  obtain ⟨K, pl, x, y, z⟩ := b [] (zCm_0 rfl)
  rw [o2, o3, hl]
  exact ⟨K, ⟨c, _, _, _, k1, x, (zm_end hp a).mp o1⟩, y⟩
theorem zPaL_p {f : Nat → Int32} {n lv : Int} {K : List Int} (h : zPaL f n K lv) : zPar f n K := by
  obtain ⟨a, q, qt, pl, h1, h2, h3⟩ := h
  exact ⟨a, _, h1, h2, Or.inr ⟨q, lv, qt, K, pl, rfl, Or.inr ⟨h3, rfl⟩⟩⟩
