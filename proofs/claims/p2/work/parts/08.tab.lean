def rg_Tape : Nat → Int × Int := fun k => match k with
  | 2 => (0, 600)
  | 3 => (0, 12)
  | _ => (-2147483648, 2147483647)
def rg_Words400 : Nat → Int × Int := fun k => match k with
  | 0 => (400, 400)
  | 7 => (0, 400)
  | _ => (-2147483648, 2147483647)
def rg_Words10 : Nat → Int × Int := fun k => match k with
  | 0 => (10, 10)
  | 7 => (0, 10)
  | _ => (-2147483648, 2147483647)
def rg_Documents : Nat → Int × Int := fun k => match k with
  | 4 => (0, 120)
  | _ => (-2147483648, 2147483647)
def rg_Postings : Nat → Int × Int := fun k => match k with
  | 8 => (0, 833)
  | 9 => (0, 1250)
  | _ => (-2147483648, 2147483647)
def rg_Intake : Nat → Int × Int := fun k => match k with
  | 9 => (0, 300)
  | 10 => (0, 300)
  | _ => (-2147483648, 2147483647)
def rg_Query : Nat → Int × Int := fun k => match k with
  | 7 => (0, 40)
  | 8 => (0, 160)
  | 9 => (0, 270)
  | _ => (-2147483648, 2147483647)
def rg_Parser : Nat → Int × Int := fun k => match k with
  | 9 => (0, 1)
  | 11 => (0, 12)
  | _ => (-2147483648, 2147483647)
def rg_Page : Nat → Int × Int := fun k => match k with
  | 8 => (0, 400)
  | 9 => (0, 300)
  | _ => (-2147483648, 2147483647)
def rg_Finder : Nat → Int × Int := fun k => match k with
  | 16 => (0, 120)
  | _ => (-2147483648, 2147483647)
abbrev mX0 (r0 : Nat) (r1 : Nat) (r2 : Nat) (r3 : Nat) (v : Nat → Int32) : List Value := [.ref r0, .ref r1, .ref r2, .ref r3, .int (v 4), .int (v 5)]
abbrev mX1 (r0 : Nat) (r1 : Nat) (r2 : Nat) (r3 : Nat) (r4 : Nat) (r5 : Nat) (r6 : Nat) (r7 : Nat) (r8 : Nat) (r9 : Nat) (r10 : Nat) (r11 : Nat) (r12 : Nat) (r13 : Nat) (r14 : Nat) (r15 : Nat) (v : Nat → Int32) : List Value := [.ref r0, .ref r1, .ref r2, .ref r3, .ref r4, .ref r5, .ref r6, .ref r7, .ref r8, .ref r9, .ref r10, .ref r11, .ref r12, .ref r13, .ref r14, .ref r15, .int (v 16)]
abbrev mX2 (r0 : Nat) (r1 : Nat) (r2 : Nat) (r3 : Nat) (r4 : Nat) (r5 : Nat) (r6 : Nat) (r7 : Nat) (r8 : Nat) (v : Nat → Int32) : List Value := [.ref r0, .ref r1, .ref r2, .ref r3, .ref r4, .ref r5, .ref r6, .ref r7, .ref r8, .int (v 9), .int (v 10)]
abbrev mX3 (r0 : Nat) (r1 : Nat) (r2 : Nat) (r3 : Nat) (r4 : Nat) (r5 : Nat) (r6 : Nat) (r7 : Nat) (v : Nat → Int32) : List Value := [.ref r0, .ref r1, .ref r2, .ref r3, .ref r4, .ref r5, .ref r6, .ref r7, .int (v 8), .int (v 9)]
abbrev mX4 (r0 : Nat) (r1 : Nat) (r2 : Nat) (r3 : Nat) (v : Nat → Int32) : List Value := [.ref r0, .ref r1, .ref r2, .ref r3, .int (v 4), .int (v 5), .int (v 6), .int (v 7), .int (v 8), .int (v 9), .int (v 10), .int (v 11)]
abbrev mX5 (r0 : Nat) : List Value := [.ref r0]
abbrev mX6 (r0 : Nat) (r1 : Nat) (r2 : Nat) (r3 : Nat) (r4 : Nat) (r5 : Nat) (r6 : Nat) (r7 : Nat) (v : Nat → Int32) : List Value := [.ref r0, .ref r1, .ref r2, .ref r3, .ref r4, .ref r5, .ref r6, .ref r7, .int (v 8), .int (v 9), .int (v 10), .int (v 11)]
abbrev mX7 (r0 : Nat) (r1 : Nat) (r2 : Nat) (r3 : Nat) (r4 : Nat) (r5 : Nat) (r6 : Nat) (v : Nat → Int32) : List Value := [.ref r0, .ref r1, .ref r2, .ref r3, .ref r4, .ref r5, .ref r6, .int (v 7), .int (v 8), .int (v 9), .int (v 10), .int (v 11)]
abbrev mX8 (r0 : Nat) (v : Nat → Int32) : List Value := [.ref r0, .int (v 1), .int (v 2), .int (v 3), .int (v 4), .int (v 5), .int (v 6), .int (v 7), .int (v 8)]
abbrev mX9 (r0 : Nat) (r1 : Nat) (v : Nat → Int32) : List Value := [.ref r0, .ref r1, .int (v 2), .int (v 3)]
abbrev mX10 (r1 : Nat) (r2 : Nat) (r3 : Nat) (r4 : Nat) (r5 : Nat) (r6 : Nat) (v : Nat → Int32) : List Value := [.int (v 0), .ref r1, .ref r2, .ref r3, .ref r4, .ref r5, .ref r6, .int (v 7)]
abbrev mX11 (r0 : Nat) (r1 : Nat) (r2 : Nat) (r3 : Nat) (r4 : Nat) (r5 : Nat) (r6 : Nat) (r7 : Nat) (r8 : Nat) (r9 : Nat) (sp : Value) (w11 : Int64) : List Value := [.ref r0, .ref r1, .ref r2, .ref r3, .ref r4, .ref r5, .ref r6, .ref r7, .ref r8, .ref r9, sp, .long w11]
abbrev mX13 (q : Nat → Nat) (v : Nat → Int32) : List Value := [.ref (q 0), .int (v 1), .ref (q 2), .ref (q 3), .int (v 4), .ref (q 5), .ref (q 6), .ref (q 7), .ref (q 8), .ref (q 9), .ref (q 10), .ref (q 11), .ref (q 12), .int (v 13), .ref (q 14), .ref (q 15), .int (v 16), .ref (q 17), .int (v 18), .ref (q 19), .int (v 20), .int (v 21), .ref (q 22), .int (v 23), .int (v 24), .ref (q 25), .ref (q 26), .ref (q 27), .ref (q 28), .ref (q 29), .int (v 30), .ref (q 31), .int (v 32), .int (v 33), .int (v 34), .int (v 35), .int (v 36), .int (v 37), .ref (q 38), .ref (q 39), .ref (q 40), .ref (q 41), .int (v 42), .ref (q 43), .ref (q 44), .ref (q 45), .ref (q 46), .int (v 47), .ref (q 48), .ref (q 49), .int (v 50), .int (v 51), .ref (q 52), .int (v 53), .int (v 54), .int (v 55), .ref (q 56), .ref (q 57), .ref (q 58), .int (v 59), .int (v 60), .ref (q 61), .ref (q 62), .ref (q 63), .ref (q 64), .ref (q 65), .ref (q 66), .ref (q 67), .ref (q 68), .ref (q 69), .ref (q 70), .int (v 71), .ref (q 72), .ref (q 73), .ref (q 74)]
theorem zk_m1 : ((-1) : Int32).toInt = (-1) := by decide
theorem zk_0 : (0 : Int32).toInt = 0 := by decide
theorem zk_1 : (1 : Int32).toInt = 1 := by decide
theorem zk_2 : (2 : Int32).toInt = 2 := by decide
theorem zk_3 : (3 : Int32).toInt = 3 := by decide
theorem zk_4 : (4 : Int32).toInt = 4 := by decide
theorem zk_5 : (5 : Int32).toInt = 5 := by decide
theorem zk_6 : (6 : Int32).toInt = 6 := by decide
theorem zk_8 : (8 : Int32).toInt = 8 := by decide
theorem zk_10 : (10 : Int32).toInt = 10 := by decide
theorem zk_11 : (11 : Int32).toInt = 11 := by decide
theorem zk_12 : (12 : Int32).toInt = 12 := by decide
theorem zk_15 : (15 : Int32).toInt = 15 := by decide
theorem zk_16 : (16 : Int32).toInt = 16 := by decide
theorem zk_31 : (31 : Int32).toInt = 31 := by decide
theorem zk_32 : (32 : Int32).toInt = 32 := by decide
theorem zk_48 : (48 : Int32).toInt = 48 := by decide
theorem zk_57 : (57 : Int32).toInt = 57 := by decide
theorem zk_65 : (65 : Int32).toInt = 65 := by decide
theorem zk_90 : (90 : Int32).toInt = 90 := by decide
theorem zk_96 : (96 : Int32).toInt = 96 := by decide
theorem zk_97 : (97 : Int32).toInt = 97 := by decide
theorem zk_122 : (122 : Int32).toInt = 122 := by decide
theorem zk_224 : (224 : Int32).toInt = 224 := by decide
theorem zk_255 : (255 : Int32).toInt = 255 := by decide
theorem zk_256 : (256 : Int32).toInt = 256 := by decide
theorem zk_300 : (300 : Int32).toInt = 300 := by decide
theorem zk_400 : (400 : Int32).toInt = 400 := by decide
theorem zk_512 : (512 : Int32).toInt = 512 := by decide
theorem zk_833 : (833 : Int32).toInt = 833 := by decide
theorem zk_1250 : (1250 : Int32).toInt = 1250 := by decide
theorem zk_40000 : (40000 : Int32).toInt = 40000 := by decide
theorem zk_65536 : (65536 : Int32).toInt = 65536 := by decide
theorem zushr1 {x z : Int32} {m : Int} (hx : x.toInt = m) (e : z = (x.toUInt32 >>> ((1 : Int32).toUInt32 &&& Int32.toUInt32 31)).toInt32) (h : 0 ≤ m) : z.toInt = m / 2 := by
  have h1 := pk_ushr x 1 1 (by decide)
  rw [← e] at h1
  have h2 := znat (x := x) (by rw [hx]; exact h)
  have h3 := zhi x
  have h4 := zofnat h1 (by omega)
  omega
theorem zushr2 {x z : Int32} {m : Int} (hx : x.toInt = m) (e : z = (x.toUInt32 >>> ((2 : Int32).toUInt32 &&& Int32.toUInt32 31)).toInt32) (h : 0 ≤ m) : z.toInt = m / 4 := by
  have h1 := pk_ushr x 2 2 (by decide)
  rw [← e] at h1
  have h2 := znat (x := x) (by rw [hx]; exact h)
  have h3 := zhi x
  have h4 := zofnat h1 (by omega)
  omega
theorem zushr4 {x z : Int32} {m : Int} (hx : x.toInt = m) (e : z = (x.toUInt32 >>> ((4 : Int32).toUInt32 &&& Int32.toUInt32 31)).toInt32) (h : 0 ≤ m) : z.toInt = m / 16 := by
  have h1 := pk_ushr x 4 4 (by decide)
  rw [← e] at h1
  have h2 := znat (x := x) (by rw [hx]; exact h)
  have h3 := zhi x
  have h4 := zofnat h1 (by omega)
  omega
theorem zushr8 {x z : Int32} {m : Int} (hx : x.toInt = m) (e : z = (x.toUInt32 >>> ((8 : Int32).toUInt32 &&& Int32.toUInt32 31)).toInt32) (h : 0 ≤ m) : z.toInt = m / 256 := by
  have h1 := pk_ushr x 8 8 (by decide)
  rw [← e] at h1
  have h2 := znat (x := x) (by rw [hx]; exact h)
  have h3 := zhi x
  have h4 := zofnat h1 (by omega)
  omega
theorem zushr16 {x z : Int32} {m : Int} (hx : x.toInt = m) (e : z = (x.toUInt32 >>> ((16 : Int32).toUInt32 &&& Int32.toUInt32 31)).toInt32) (h : 0 ≤ m) : z.toInt = m / 65536 := by
  have h1 := pk_ushr x 16 16 (by decide)
  rw [← e] at h1
  have h2 := znat (x := x) (by rw [hx]; exact h)
  have h3 := zhi x
  have h4 := zofnat h1 (by omega)
  omega
