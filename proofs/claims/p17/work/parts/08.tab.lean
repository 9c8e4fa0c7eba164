def rg_Tape : Nat → Int × Int := fun k => match k with
  | 2 => (0, 600)
  | 3 => (0, 12)
  | _ => (-2147483648, 2147483647)
def rg_Words400 : Nat → Int × Int := fun k => match k with
  | 0 => (400, 400)
  | 7 => (0, 400)
  | _ => (-2147483648, 2147483647)
def rg_Words10 : Nat → Int × Int := fun k => match k with
  | 0 => (10, 10)
  | 7 => (0, 10)
  | _ => (-2147483648, 2147483647)
def rg_Documents : Nat → Int × Int := fun k => match k with
  | 4 => (0, 120)
  | _ => (-2147483648, 2147483647)
def rg_Postings : Nat → Int × Int := fun k => match k with
  | 8 => (0, 833)
  | 9 => (0, 1250)
  | _ => (-2147483648, 2147483647)
def rg_Intake : Nat → Int × Int := fun k => match k with
  | 9 => (0, 300)
  | 10 => (0, 300)
  | _ => (-2147483648, 2147483647)
def rg_Query : Nat → Int × Int := fun k => match k with
  | 7 => (0, 40)
  | 8 => (0, 160)
  | 9 => (0, 270)
  | _ => (-2147483648, 2147483647)
def rg_Parser : Nat → Int × Int := fun k => match k with
  | 9 => (0, 1)
  | 11 => (0, 12)
  | _ => (-2147483648, 2147483647)
def rg_Page : Nat → Int × Int := fun k => match k with
  | 8 => (0, 400)
  | 9 => (0, 300)
  | _ => (-2147483648, 2147483647)
def rg_Finder : Nat → Int × Int := fun k => match k with
  | 16 => (0, 120)
  | _ => (-2147483648, 2147483647)
def rg_Model : Nat → Int × Int := fun k => match k with
  | 1 => (0, 600)
  | 4 => (0, 400)
  | 13 => (0, 120)
  | 16 => (0, 10)
  | 18 => ((-1), 12)
  | 20 => (0, 12)
  | 24 => (0, 1)
  | 30 => (0, 1)
  | 34 => (0, 600)
  | 35 => (0, 600)
  | 36 => (0, 3)
  | 37 => (0, 600)
  | 42 => (0, 1300)
  | 47 => (0, 40)
  | 50 => (0, 200)
  | 51 => (0, 160)
  | 53 => (0, 1300)
  | 54 => (0, 12)
  | 55 => (0, 1)
  | 59 => (0, 168)
  | 71 => (0, 120)
  | _ => (-2147483648, 2147483647)
abbrev mX0 (r0 : Nat) (r1 : Nat) (r2 : Nat) (r3 : Nat) (v : Nat → Int32) : List Value := [.ref r0, .ref r1, .ref r2, .ref r3, .int (v 4), .int (v 5)]
abbrev mX1 (r0 : Nat) (r1 : Nat) (r2 : Nat) (r3 : Nat) (r4 : Nat) (r5 : Nat) (r6 : Nat) (r7 : Nat) (r8 : Nat) (r9 : Nat) (r10 : Nat) (r11 : Nat) (r12 : Nat) (r13 : Nat) (r14 : Nat) (r15 : Nat) (v : Nat → Int32) : List Value := [.ref r0, .ref r1, .ref r2, .ref r3, .ref r4, .ref r5, .ref r6, .ref r7, .ref r8, .ref r9, .ref r10, .ref r11, .ref r12, .ref r13, .ref r14, .ref r15, .int (v 16)]
abbrev mX2 (r0 : Nat) (r1 : Nat) (r2 : Nat) (r3 : Nat) (r4 : Nat) (r5 : Nat) (r6 : Nat) (r7 : Nat) (r8 : Nat) (v : Nat → Int32) : List Value := [.ref r0, .ref r1, .ref r2, .ref r3, .ref r4, .ref r5, .ref r6, .ref r7, .ref r8, .int (v 9), .int (v 10)]
abbrev mX3 (r0 : Nat) (r1 : Nat) (r2 : Nat) (r3 : Nat) (r4 : Nat) (r5 : Nat) (r6 : Nat) (r7 : Nat) (v : Nat → Int32) : List Value := [.ref r0, .ref r1, .ref r2, .ref r3, .ref r4, .ref r5, .ref r6, .ref r7, .int (v 8), .int (v 9)]
abbrev mX4 (r0 : Nat) (r1 : Nat) (r2 : Nat) (r3 : Nat) (v : Nat → Int32) : List Value := [.ref r0, .ref r1, .ref r2, .ref r3, .int (v 4), .int (v 5), .int (v 6), .int (v 7), .int (v 8), .int (v 9), .int (v 10), .int (v 11)]
abbrev mX5 (r0 : Nat) : List Value := [.ref r0]
abbrev mX6 (r0 : Nat) (r1 : Nat) (r2 : Nat) (r3 : Nat) (r4 : Nat) (r5 : Nat) (r6 : Nat) (r7 : Nat) (v : Nat → Int32) : List Value := [.ref r0, .ref r1, .ref r2, .ref r3, .ref r4, .ref r5, .ref r6, .ref r7, .int (v 8), .int (v 9), .int (v 10), .int (v 11)]
abbrev mX7 (r0 : Nat) (r1 : Nat) (r2 : Nat) (r3 : Nat) (r4 : Nat) (r5 : Nat) (r6 : Nat) (v : Nat → Int32) : List Value := [.ref r0, .ref r1, .ref r2, .ref r3, .ref r4, .ref r5, .ref r6, .int (v 7), .int (v 8), .int (v 9), .int (v 10), .int (v 11)]
abbrev mX8 (r0 : Nat) (v : Nat → Int32) : List Value := [.ref r0, .int (v 1), .int (v 2), .int (v 3), .int (v 4), .int (v 5), .int (v 6), .int (v 7), .int (v 8)]
abbrev mX9 (r0 : Nat) (r1 : Nat) (v : Nat → Int32) : List Value := [.ref r0, .ref r1, .int (v 2), .int (v 3)]
abbrev mX10 (r1 : Nat) (r2 : Nat) (r3 : Nat) (r4 : Nat) (r5 : Nat) (r6 : Nat) (v : Nat → Int32) : List Value := [.int (v 0), .ref r1, .ref r2, .ref r3, .ref r4, .ref r5, .ref r6, .int (v 7)]
abbrev mX11 (r0 : Nat) (r1 : Nat) (r2 : Nat) (r3 : Nat) (r4 : Nat) (r5 : Nat) (r6 : Nat) (r7 : Nat) (r8 : Nat) (r9 : Nat) (sp : Value) (w11 : Int64) : List Value := [.ref r0, .ref r1, .ref r2, .ref r3, .ref r4, .ref r5, .ref r6, .ref r7, .ref r8, .ref r9, sp, .long w11]
abbrev mX13 (q : Nat → Nat) (v : Nat → Int32) : List Value := [.ref (q 0), .int (v 1), .ref (q 2), .ref (q 3), .int (v 4), .ref (q 5), .ref (q 6), .ref (q 7), .ref (q 8), .ref (q 9), .ref (q 10), .ref (q 11), .ref (q 12), .int (v 13), .ref (q 14), .ref (q 15), .int (v 16), .ref (q 17), .int (v 18), .ref (q 19), .int (v 20), .int (v 21), .ref (q 22), .int (v 23), .int (v 24), .ref (q 25), .ref (q 26), .ref (q 27), .ref (q 28), .ref (q 29), .int (v 30), .ref (q 31), .int (v 32), .int (v 33), .int (v 34), .int (v 35), .int (v 36), .int (v 37), .ref (q 38), .ref (q 39), .ref (q 40), .ref (q 41), .int (v 42), .ref (q 43), .ref (q 44), .ref (q 45), .ref (q 46), .int (v 47), .ref (q 48), .ref (q 49), .int (v 50), .int (v 51), .ref (q 52), .int (v 53), .int (v 54), .int (v 55), .ref (q 56), .ref (q 57), .ref (q 58), .int (v 59), .int (v 60), .ref (q 61), .ref (q 62), .ref (q 63), .ref (q 64), .ref (q 65), .ref (q 66), .ref (q 67), .ref (q 68), .ref (q 69), .ref (q 70), .int (v 71), .ref (q 72), .ref (q 73), .ref (q 74)]
theorem zk_m1000 : ((-1000) : Int32).toInt = (-1000) := by decide
theorem zk_m3 : ((-3) : Int32).toInt = (-3) := by decide
theorem zk_m2 : ((-2) : Int32).toInt = (-2) := by decide
theorem zk_m1 : ((-1) : Int32).toInt = (-1) := by decide
theorem zk_0 : (0 : Int32).toInt = 0 := by decide
theorem zk_1 : (1 : Int32).toInt = 1 := by decide
theorem zk_2 : (2 : Int32).toInt = 2 := by decide
theorem zk_3 : (3 : Int32).toInt = 3 := by decide
theorem zk_4 : (4 : Int32).toInt = 4 := by decide
theorem zk_5 : (5 : Int32).toInt = 5 := by decide
theorem zk_6 : (6 : Int32).toInt = 6 := by decide
theorem zk_7 : (7 : Int32).toInt = 7 := by decide
theorem zk_8 : (8 : Int32).toInt = 8 := by decide
theorem zk_9 : (9 : Int32).toInt = 9 := by decide
theorem zk_10 : (10 : Int32).toInt = 10 := by decide
theorem zk_11 : (11 : Int32).toInt = 11 := by decide
theorem zk_12 : (12 : Int32).toInt = 12 := by decide
theorem zk_13 : (13 : Int32).toInt = 13 := by decide
theorem zk_14 : (14 : Int32).toInt = 14 := by decide
theorem zk_15 : (15 : Int32).toInt = 15 := by decide
theorem zk_16 : (16 : Int32).toInt = 16 := by decide
theorem zk_17 : (17 : Int32).toInt = 17 := by decide
theorem zk_18 : (18 : Int32).toInt = 18 := by decide
theorem zk_19 : (19 : Int32).toInt = 19 := by decide
theorem zk_20 : (20 : Int32).toInt = 20 := by decide
theorem zk_21 : (21 : Int32).toInt = 21 := by decide
theorem zk_23 : (23 : Int32).toInt = 23 := by decide
theorem zk_24 : (24 : Int32).toInt = 24 := by decide
theorem zk_25 : (25 : Int32).toInt = 25 := by decide
theorem zk_26 : (26 : Int32).toInt = 26 := by decide
theorem zk_27 : (27 : Int32).toInt = 27 := by decide
theorem zk_29 : (29 : Int32).toInt = 29 := by decide
theorem zk_31 : (31 : Int32).toInt = 31 := by decide
theorem zk_32 : (32 : Int32).toInt = 32 := by decide
theorem zk_34 : (34 : Int32).toInt = 34 := by decide
theorem zk_40 : (40 : Int32).toInt = 40 := by decide
theorem zk_42 : (42 : Int32).toInt = 42 := by decide
theorem zk_45 : (45 : Int32).toInt = 45 := by decide
theorem zk_46 : (46 : Int32).toInt = 46 := by decide
theorem zk_48 : (48 : Int32).toInt = 48 := by decide
theorem zk_57 : (57 : Int32).toInt = 57 := by decide
theorem zk_58 : (58 : Int32).toInt = 58 := by decide
theorem zk_63 : (63 : Int32).toInt = 63 := by decide
theorem zk_64 : (64 : Int32).toInt = 64 := by decide
theorem zk_65 : (65 : Int32).toInt = 65 := by decide
theorem zk_90 : (90 : Int32).toInt = 90 := by decide
theorem zk_91 : (91 : Int32).toInt = 91 := by decide
theorem zk_96 : (96 : Int32).toInt = 96 := by decide
theorem zk_97 : (97 : Int32).toInt = 97 := by decide
theorem zk_100 : (100 : Int32).toInt = 100 := by decide
theorem zk_101 : (101 : Int32).toInt = 101 := by decide
theorem zk_103 : (103 : Int32).toInt = 103 := by decide
theorem zk_105 : (105 : Int32).toInt = 105 := by decide
theorem zk_110 : (110 : Int32).toInt = 110 := by decide
theorem zk_115 : (115 : Int32).toInt = 115 := by decide
theorem zk_117 : (117 : Int32).toInt = 117 := by decide
theorem zk_120 : (120 : Int32).toInt = 120 := by decide
theorem zk_122 : (122 : Int32).toInt = 122 := by decide
theorem zk_160 : (160 : Int32).toInt = 160 := by decide
theorem zk_200 : (200 : Int32).toInt = 200 := by decide
theorem zk_224 : (224 : Int32).toInt = 224 := by decide
theorem zk_255 : (255 : Int32).toInt = 255 := by decide
theorem zk_256 : (256 : Int32).toInt = 256 := by decide
theorem zk_257 : (257 : Int32).toInt = 257 := by decide
theorem zk_258 : (258 : Int32).toInt = 258 := by decide
theorem zk_259 : (259 : Int32).toInt = 259 := by decide
theorem zk_260 : (260 : Int32).toInt = 260 := by decide
theorem zk_261 : (261 : Int32).toInt = 261 := by decide
theorem zk_262 : (262 : Int32).toInt = 262 := by decide
theorem zk_263 : (263 : Int32).toInt = 263 := by decide
theorem zk_264 : (264 : Int32).toInt = 264 := by decide
theorem zk_265 : (265 : Int32).toInt = 265 := by decide
theorem zk_270 : (270 : Int32).toInt = 270 := by decide
theorem zk_300 : (300 : Int32).toInt = 300 := by decide
theorem zk_400 : (400 : Int32).toInt = 400 := by decide
theorem zk_512 : (512 : Int32).toInt = 512 := by decide
theorem zk_600 : (600 : Int32).toInt = 600 := by decide
theorem zk_832 : (832 : Int32).toInt = 832 := by decide
theorem zk_833 : (833 : Int32).toInt = 833 := by decide
theorem zk_1000 : (1000 : Int32).toInt = 1000 := by decide
theorem zk_1023 : (1023 : Int32).toInt = 1023 := by decide
theorem zk_1024 : (1024 : Int32).toInt = 1024 := by decide
theorem zk_1250 : (1250 : Int32).toInt = 1250 := by decide
theorem zk_40000 : (40000 : Int32).toInt = 40000 := by decide
theorem zk_65536 : (65536 : Int32).toInt = 65536 := by decide
theorem zk_252645135 : (252645135 : Int32).toInt = 252645135 := by decide
theorem zk_858993459 : (858993459 : Int32).toInt = 858993459 := by decide
theorem zk_1431655765 : (1431655765 : Int32).toInt = 1431655765 := by decide
theorem zushr1 {x z : Int32} {m : Int} (hx : x.toInt = m) (e : z = (x.toUInt32 >>> ((1 : Int32).toUInt32 &&& Int32.toUInt32 31)).toInt32) (h : 0 ≤ m) : z.toInt = m / 2 := by
  have h1 := pk_ushr x 1 1 (by decide)
  rw [← e] at h1
  have h2 := znat (x := x) (by rw [hx]; exact h)
  have h3 := zhi x
  have h4 := zofnat h1 (by omega)
  omega
theorem zushr2 {x z : Int32} {m : Int} (hx : x.toInt = m) (e : z = (x.toUInt32 >>> ((2 : Int32).toUInt32 &&& Int32.toUInt32 31)).toInt32) (h : 0 ≤ m) : z.toInt = m / 4 := by
  have h1 := pk_ushr x 2 2 (by decide)
  rw [← e] at h1
  have h2 := znat (x := x) (by rw [hx]; exact h)
  have h3 := zhi x
  have h4 := zofnat h1 (by omega)
  omega
theorem zushr4 {x z : Int32} {m : Int} (hx : x.toInt = m) (e : z = (x.toUInt32 >>> ((4 : Int32).toUInt32 &&& Int32.toUInt32 31)).toInt32) (h : 0 ≤ m) : z.toInt = m / 16 := by
  have h1 := pk_ushr x 4 4 (by decide)
  rw [← e] at h1
  have h2 := znat (x := x) (by rw [hx]; exact h)
  have h3 := zhi x
  have h4 := zofnat h1 (by omega)
  omega
theorem zushr8 {x z : Int32} {m : Int} (hx : x.toInt = m) (e : z = (x.toUInt32 >>> ((8 : Int32).toUInt32 &&& Int32.toUInt32 31)).toInt32) (h : 0 ≤ m) : z.toInt = m / 256 := by
  have h1 := pk_ushr x 8 8 (by decide)
  rw [← e] at h1
  have h2 := znat (x := x) (by rw [hx]; exact h)
  have h3 := zhi x
  have h4 := zofnat h1 (by omega)
  omega
theorem zushr16 {x z : Int32} {m : Int} (hx : x.toInt = m) (e : z = (x.toUInt32 >>> ((16 : Int32).toUInt32 &&& Int32.toUInt32 31)).toInt32) (h : 0 ≤ m) : z.toInt = m / 65536 := by
  have h1 := pk_ushr x 16 16 (by decide)
  rw [← e] at h1
  have h2 := znat (x := x) (by rw [hx]; exact h)
  have h3 := zhi x
  have h4 := zofnat h1 (by omega)
  omega
theorem zushrB1 {x z : Int32} (e : z = (x.toUInt32 >>> ((1 : Int32).toUInt32 &&& Int32.toUInt32 31)).toInt32) : 0 ≤ z.toInt ∧ z.toInt ≤ 2147483647 := by
  have h1 := pk_ushr x 1 1 (by decide)
  rw [← e] at h1
  have h2 : x.toBitVec.toNat < 2 ^ 32 := x.toBitVec.isLt
  have h4 := zofnat h1 (by omega)
  omega
theorem zushrB2 {x z : Int32} (e : z = (x.toUInt32 >>> ((2 : Int32).toUInt32 &&& Int32.toUInt32 31)).toInt32) : 0 ≤ z.toInt ∧ z.toInt ≤ 1073741823 := by
  have h1 := pk_ushr x 2 2 (by decide)
  rw [← e] at h1
  have h2 : x.toBitVec.toNat < 2 ^ 32 := x.toBitVec.isLt
  have h4 := zofnat h1 (by omega)
  omega
theorem zushrB24 {x z : Int32} (e : z = (x.toUInt32 >>> ((24 : Int32).toUInt32 &&& Int32.toUInt32 31)).toInt32) : 0 ≤ z.toInt ∧ z.toInt ≤ 255 := by
  have h1 := pk_ushr x 24 24 (by decide)
  rw [← e] at h1
  have h2 : x.toBitVec.toNat < 2 ^ 32 := x.toBitVec.isLt
  have h4 := zofnat h1 (by omega)
  omega
