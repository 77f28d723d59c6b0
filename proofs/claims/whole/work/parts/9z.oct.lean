/-! products over Int: parity, norm -/
def mI (x y : Nat → Int) : Nat → Int := fun p => match p with
  | 0 => x 0 * y 0 - x 1 * y 1 - x 2 * y 2 - x 3 * y 3 - x 4 * y 4 - x 5 * y 5 - x 6 * y 6 - x 7 * y 7
  | 1 => x 0 * y 1 + x 1 * y 0 + x 2 * y 3 - x 3 * y 2 + x 4 * y 5 - x 5 * y 4 - x 6 * y 7 + x 7 * y 6
  | 2 => x 0 * y 2 - x 1 * y 3 + x 2 * y 0 + x 3 * y 1 + x 4 * y 6 + x 5 * y 7 - x 6 * y 4 - x 7 * y 5
  | 3 => x 0 * y 3 + x 1 * y 2 - x 2 * y 1 + x 3 * y 0 + x 4 * y 7 - x 5 * y 6 + x 6 * y 5 - x 7 * y 4
  | 4 => x 0 * y 4 - x 1 * y 5 - x 2 * y 6 - x 3 * y 7 + x 4 * y 0 + x 5 * y 1 + x 6 * y 2 + x 7 * y 3
  | 5 => x 0 * y 5 + x 1 * y 4 - x 2 * y 7 + x 3 * y 6 - x 4 * y 1 + x 5 * y 0 - x 6 * y 3 + x 7 * y 2
  | 6 => x 0 * y 6 + x 1 * y 7 + x 2 * y 4 - x 3 * y 5 - x 4 * y 2 + x 5 * y 3 + x 6 * y 0 - x 7 * y 1
  | _ => x 0 * y 7 - x 1 * y 6 + x 2 * y 5 + x 3 * y 4 - x 4 * y 3 - x 5 * y 2 + x 6 * y 1 + x 7 * y 0
theorem lt8 {p : Nat} (hp : p < 8) : p = 0 ∨ p = 1 ∨ p = 2 ∨ p = 3 ∨ p = 4 ∨ p = 5 ∨ p = 6 ∨ p = 7 := by omega
theorem mI_c {x y x2 y2 : Nat → Int} (hx : ∀ i, i < 8 → x i = x2 i) (hy : ∀ i, i < 8 → y i = y2 i) {p : Nat} (hp : p < 8) : mI x y p = mI x2 y2 p := by
  rcases lt8 hp with rfl | rfl | rfl | rfl | rfl | rfl | rfl | rfl <;> simp only [mI, hx 0 (by decide), hx 1 (by decide), hx 2 (by decide), hx 3 (by decide), hx 4 (by decide), hx 5 (by decide), hx 6 (by decide), hx 7 (by decide), hy 0 (by decide), hy 1 (by decide), hy 2 (by decide), hy 3 (by decide), hy 4 (by decide), hy 5 (by decide), hy 6 (by decide), hy 7 (by decide)]
theorem degen (x0 x1 x2 x3 x4 x5 x6 x7 y0 y1 y2 y3 y4 y5 y6 y7 : Int) : (x0 * y0 - x1 * y1 - x2 * y2 - x3 * y3 - x4 * y4 - x5 * y5 - x6 * y6 - x7 * y7) * (x0 * y0 - x1 * y1 - x2 * y2 - x3 * y3 - x4 * y4 - x5 * y5 - x6 * y6 - x7 * y7) + (x0 * y1 + x1 * y0 + x2 * y3 - x3 * y2 + x4 * y5 - x5 * y4 - x6 * y7 + x7 * y6) * (x0 * y1 + x1 * y0 + x2 * y3 - x3 * y2 + x4 * y5 - x5 * y4 - x6 * y7 + x7 * y6) + (x0 * y2 - x1 * y3 + x2 * y0 + x3 * y1 + x4 * y6 + x5 * y7 - x6 * y4 - x7 * y5) * (x0 * y2 - x1 * y3 + x2 * y0 + x3 * y1 + x4 * y6 + x5 * y7 - x6 * y4 - x7 * y5) + (x0 * y3 + x1 * y2 - x2 * y1 + x3 * y0 + x4 * y7 - x5 * y6 + x6 * y5 - x7 * y4) * (x0 * y3 + x1 * y2 - x2 * y1 + x3 * y0 + x4 * y7 - x5 * y6 + x6 * y5 - x7 * y4) + (x0 * y4 - x1 * y5 - x2 * y6 - x3 * y7 + x4 * y0 + x5 * y1 + x6 * y2 + x7 * y3) * (x0 * y4 - x1 * y5 - x2 * y6 - x3 * y7 + x4 * y0 + x5 * y1 + x6 * y2 + x7 * y3) + (x0 * y5 + x1 * y4 - x2 * y7 + x3 * y6 - x4 * y1 + x5 * y0 - x6 * y3 + x7 * y2) * (x0 * y5 + x1 * y4 - x2 * y7 + x3 * y6 - x4 * y1 + x5 * y0 - x6 * y3 + x7 * y2) + (x0 * y6 + x1 * y7 + x2 * y4 - x3 * y5 - x4 * y2 + x5 * y3 + x6 * y0 - x7 * y1) * (x0 * y6 + x1 * y7 + x2 * y4 - x3 * y5 - x4 * y2 + x5 * y3 + x6 * y0 - x7 * y1) + (x0 * y7 - x1 * y6 + x2 * y5 + x3 * y4 - x4 * y3 - x5 * y2 + x6 * y1 + x7 * y0) * (x0 * y7 - x1 * y6 + x2 * y5 + x3 * y4 - x4 * y3 - x5 * y2 + x6 * y1 + x7 * y0) = (x0 * x0 + x1 * x1 + x2 * x2 + x3 * x3 + x4 * x4 + x5 * x5 + x6 * x6 + x7 * x7) * (y0 * y0 + y1 * y1 + y2 * y2 + y3 * y3 + y4 * y4 + y5 * y5 + y6 * y6 + y7 * y7) := by
  grind
theorem mI_s0 (w0 w1 w2 w3 w4 w5 w6 w7 a0 a1 a2 a3 a4 a5 a6 a7 v0 v1 v2 v3 v4 v5 v6 v7 b0 b1 b2 b3 b4 b5 b6 b7 : Int) : (w0 + 2 * a0) * (v0 + 2 * b0) - (w1 + 2 * a1) * (v1 + 2 * b1) - (w2 + 2 * a2) * (v2 + 2 * b2) - (w3 + 2 * a3) * (v3 + 2 * b3) - (w4 + 2 * a4) * (v4 + 2 * b4) - (w5 + 2 * a5) * (v5 + 2 * b5) - (w6 + 2 * a6) * (v6 + 2 * b6) - (w7 + 2 * a7) * (v7 + 2 * b7) = (w0 * v0 - w1 * v1 - w2 * v2 - w3 * v3 - w4 * v4 - w5 * v5 - w6 * v6 - w7 * v7) + 2 * ((a0 * v0 - a1 * v1 - a2 * v2 - a3 * v3 - a4 * v4 - a5 * v5 - a6 * v6 - a7 * v7) + (w0 * b0 - w1 * b1 - w2 * b2 - w3 * b3 - w4 * b4 - w5 * b5 - w6 * b6 - w7 * b7)) + 4 * (a0 * b0 - a1 * b1 - a2 * b2 - a3 * b3 - a4 * b4 - a5 * b5 - a6 * b6 - a7 * b7) := by
  grind
theorem mI_s1 (w0 w1 w2 w3 w4 w5 w6 w7 a0 a1 a2 a3 a4 a5 a6 a7 v0 v1 v2 v3 v4 v5 v6 v7 b0 b1 b2 b3 b4 b5 b6 b7 : Int) : (w0 + 2 * a0) * (v1 + 2 * b1) + (w1 + 2 * a1) * (v0 + 2 * b0) + (w2 + 2 * a2) * (v3 + 2 * b3) - (w3 + 2 * a3) * (v2 + 2 * b2) + (w4 + 2 * a4) * (v5 + 2 * b5) - (w5 + 2 * a5) * (v4 + 2 * b4) - (w6 + 2 * a6) * (v7 + 2 * b7) + (w7 + 2 * a7) * (v6 + 2 * b6) = (w0 * v1 + w1 * v0 + w2 * v3 - w3 * v2 + w4 * v5 - w5 * v4 - w6 * v7 + w7 * v6) + 2 * ((a0 * v1 + a1 * v0 + a2 * v3 - a3 * v2 + a4 * v5 - a5 * v4 - a6 * v7 + a7 * v6) + (w0 * b1 + w1 * b0 + w2 * b3 - w3 * b2 + w4 * b5 - w5 * b4 - w6 * b7 + w7 * b6)) + 4 * (a0 * b1 + a1 * b0 + a2 * b3 - a3 * b2 + a4 * b5 - a5 * b4 - a6 * b7 + a7 * b6) := by
  grind
theorem mI_s2 (w0 w1 w2 w3 w4 w5 w6 w7 a0 a1 a2 a3 a4 a5 a6 a7 v0 v1 v2 v3 v4 v5 v6 v7 b0 b1 b2 b3 b4 b5 b6 b7 : Int) : (w0 + 2 * a0) * (v2 + 2 * b2) - (w1 + 2 * a1) * (v3 + 2 * b3) + (w2 + 2 * a2) * (v0 + 2 * b0) + (w3 + 2 * a3) * (v1 + 2 * b1) + (w4 + 2 * a4) * (v6 + 2 * b6) + (w5 + 2 * a5) * (v7 + 2 * b7) - (w6 + 2 * a6) * (v4 + 2 * b4) - (w7 + 2 * a7) * (v5 + 2 * b5) = (w0 * v2 - w1 * v3 + w2 * v0 + w3 * v1 + w4 * v6 + w5 * v7 - w6 * v4 - w7 * v5) + 2 * ((a0 * v2 - a1 * v3 + a2 * v0 + a3 * v1 + a4 * v6 + a5 * v7 - a6 * v4 - a7 * v5) + (w0 * b2 - w1 * b3 + w2 * b0 + w3 * b1 + w4 * b6 + w5 * b7 - w6 * b4 - w7 * b5)) + 4 * (a0 * b2 - a1 * b3 + a2 * b0 + a3 * b1 + a4 * b6 + a5 * b7 - a6 * b4 - a7 * b5) := by
  grind
theorem mI_s3 (w0 w1 w2 w3 w4 w5 w6 w7 a0 a1 a2 a3 a4 a5 a6 a7 v0 v1 v2 v3 v4 v5 v6 v7 b0 b1 b2 b3 b4 b5 b6 b7 : Int) : (w0 + 2 * a0) * (v3 + 2 * b3) + (w1 + 2 * a1) * (v2 + 2 * b2) - (w2 + 2 * a2) * (v1 + 2 * b1) + (w3 + 2 * a3) * (v0 + 2 * b0) + (w4 + 2 * a4) * (v7 + 2 * b7) - (w5 + 2 * a5) * (v6 + 2 * b6) + (w6 + 2 * a6) * (v5 + 2 * b5) - (w7 + 2 * a7) * (v4 + 2 * b4) = (w0 * v3 + w1 * v2 - w2 * v1 + w3 * v0 + w4 * v7 - w5 * v6 + w6 * v5 - w7 * v4) + 2 * ((a0 * v3 + a1 * v2 - a2 * v1 + a3 * v0 + a4 * v7 - a5 * v6 + a6 * v5 - a7 * v4) + (w0 * b3 + w1 * b2 - w2 * b1 + w3 * b0 + w4 * b7 - w5 * b6 + w6 * b5 - w7 * b4)) + 4 * (a0 * b3 + a1 * b2 - a2 * b1 + a3 * b0 + a4 * b7 - a5 * b6 + a6 * b5 - a7 * b4) := by
  grind
theorem mI_s4 (w0 w1 w2 w3 w4 w5 w6 w7 a0 a1 a2 a3 a4 a5 a6 a7 v0 v1 v2 v3 v4 v5 v6 v7 b0 b1 b2 b3 b4 b5 b6 b7 : Int) : (w0 + 2 * a0) * (v4 + 2 * b4) - (w1 + 2 * a1) * (v5 + 2 * b5) - (w2 + 2 * a2) * (v6 + 2 * b6) - (w3 + 2 * a3) * (v7 + 2 * b7) + (w4 + 2 * a4) * (v0 + 2 * b0) + (w5 + 2 * a5) * (v1 + 2 * b1) + (w6 + 2 * a6) * (v2 + 2 * b2) + (w7 + 2 * a7) * (v3 + 2 * b3) = (w0 * v4 - w1 * v5 - w2 * v6 - w3 * v7 + w4 * v0 + w5 * v1 + w6 * v2 + w7 * v3) + 2 * ((a0 * v4 - a1 * v5 - a2 * v6 - a3 * v7 + a4 * v0 + a5 * v1 + a6 * v2 + a7 * v3) + (w0 * b4 - w1 * b5 - w2 * b6 - w3 * b7 + w4 * b0 + w5 * b1 + w6 * b2 + w7 * b3)) + 4 * (a0 * b4 - a1 * b5 - a2 * b6 - a3 * b7 + a4 * b0 + a5 * b1 + a6 * b2 + a7 * b3) := by
  grind
theorem mI_s5 (w0 w1 w2 w3 w4 w5 w6 w7 a0 a1 a2 a3 a4 a5 a6 a7 v0 v1 v2 v3 v4 v5 v6 v7 b0 b1 b2 b3 b4 b5 b6 b7 : Int) : (w0 + 2 * a0) * (v5 + 2 * b5) + (w1 + 2 * a1) * (v4 + 2 * b4) - (w2 + 2 * a2) * (v7 + 2 * b7) + (w3 + 2 * a3) * (v6 + 2 * b6) - (w4 + 2 * a4) * (v1 + 2 * b1) + (w5 + 2 * a5) * (v0 + 2 * b0) - (w6 + 2 * a6) * (v3 + 2 * b3) + (w7 + 2 * a7) * (v2 + 2 * b2) = (w0 * v5 + w1 * v4 - w2 * v7 + w3 * v6 - w4 * v1 + w5 * v0 - w6 * v3 + w7 * v2) + 2 * ((a0 * v5 + a1 * v4 - a2 * v7 + a3 * v6 - a4 * v1 + a5 * v0 - a6 * v3 + a7 * v2) + (w0 * b5 + w1 * b4 - w2 * b7 + w3 * b6 - w4 * b1 + w5 * b0 - w6 * b3 + w7 * b2)) + 4 * (a0 * b5 + a1 * b4 - a2 * b7 + a3 * b6 - a4 * b1 + a5 * b0 - a6 * b3 + a7 * b2) := by
  grind
theorem mI_s6 (w0 w1 w2 w3 w4 w5 w6 w7 a0 a1 a2 a3 a4 a5 a6 a7 v0 v1 v2 v3 v4 v5 v6 v7 b0 b1 b2 b3 b4 b5 b6 b7 : Int) : (w0 + 2 * a0) * (v6 + 2 * b6) + (w1 + 2 * a1) * (v7 + 2 * b7) + (w2 + 2 * a2) * (v4 + 2 * b4) - (w3 + 2 * a3) * (v5 + 2 * b5) - (w4 + 2 * a4) * (v2 + 2 * b2) + (w5 + 2 * a5) * (v3 + 2 * b3) + (w6 + 2 * a6) * (v0 + 2 * b0) - (w7 + 2 * a7) * (v1 + 2 * b1) = (w0 * v6 + w1 * v7 + w2 * v4 - w3 * v5 - w4 * v2 + w5 * v3 + w6 * v0 - w7 * v1) + 2 * ((a0 * v6 + a1 * v7 + a2 * v4 - a3 * v5 - a4 * v2 + a5 * v3 + a6 * v0 - a7 * v1) + (w0 * b6 + w1 * b7 + w2 * b4 - w3 * b5 - w4 * b2 + w5 * b3 + w6 * b0 - w7 * b1)) + 4 * (a0 * b6 + a1 * b7 + a2 * b4 - a3 * b5 - a4 * b2 + a5 * b3 + a6 * b0 - a7 * b1) := by
  grind
theorem mI_s7 (w0 w1 w2 w3 w4 w5 w6 w7 a0 a1 a2 a3 a4 a5 a6 a7 v0 v1 v2 v3 v4 v5 v6 v7 b0 b1 b2 b3 b4 b5 b6 b7 : Int) : (w0 + 2 * a0) * (v7 + 2 * b7) - (w1 + 2 * a1) * (v6 + 2 * b6) + (w2 + 2 * a2) * (v5 + 2 * b5) + (w3 + 2 * a3) * (v4 + 2 * b4) - (w4 + 2 * a4) * (v3 + 2 * b3) - (w5 + 2 * a5) * (v2 + 2 * b2) + (w6 + 2 * a6) * (v1 + 2 * b1) + (w7 + 2 * a7) * (v0 + 2 * b0) = (w0 * v7 - w1 * v6 + w2 * v5 + w3 * v4 - w4 * v3 - w5 * v2 + w6 * v1 + w7 * v0) + 2 * ((a0 * v7 - a1 * v6 + a2 * v5 + a3 * v4 - a4 * v3 - a5 * v2 + a6 * v1 + a7 * v0) + (w0 * b7 - w1 * b6 + w2 * b5 + w3 * b4 - w4 * b3 - w5 * b2 + w6 * b1 + w7 * b0)) + 4 * (a0 * b7 - a1 * b6 + a2 * b5 + a3 * b4 - a4 * b3 - a5 * b2 + a6 * b1 + a7 * b0) := by
  grind
theorem mI_s (w a v b : Nat → Int) {p : Nat} (hp : p < 8) : mI (fun i => w i + 2 * a i) (fun i => v i + 2 * b i) p = mI w v p + 2 * (mI a v p + mI w b p) + 4 * mI a b p := by
  rcases lt8 hp with rfl | rfl | rfl | rfl | rfl | rfl | rfl | rfl
  · exact mI_s0 ..
  · exact mI_s1 ..
  · exact mI_s2 ..
  · exact mI_s3 ..
  · exact mI_s4 ..
  · exact mI_s5 ..
  · exact mI_s6 ..
  · exact mI_s7 ..
theorem degenF (x y : Nat → Int) : mI x y 0 * mI x y 0 + mI x y 1 * mI x y 1 + mI x y 2 * mI x y 2 + mI x y 3 * mI x y 3 + mI x y 4 * mI x y 4 + mI x y 5 * mI x y 5 + mI x y 6 * mI x y 6 + mI x y 7 * mI x y 7 = (x 0 * x 0 + x 1 * x 1 + x 2 * x 2 + x 3 * x 3 + x 4 * x 4 + x 5 * x 5 + x 6 * x 6 + x 7 * x 7) * (y 0 * y 0 + y 1 * y 1 + y 2 * y 2 + y 3 * y 3 + y 4 * y 4 + y 5 * y 5 + y 6 * y 6 + y 7 * y 7) := degen ..
/-- sums of products, signs aside -/
def acc (a v : Nat → Int) : Nat → Nat → Int
  | 0, _ => 0
  | k + 1, p => acc a v k p + a k * v (k ^^^ p)
theorem mI_acc (a v : Nat → Int) {p : Nat} (hp : p < 8) : (mI a v p - acc a v 8 p) % 2 = 0 := by
  rcases lt8 hp with rfl | rfl | rfl | rfl | rfl | rfl | rfl | rfl
  all_goals
    simp only [mI, acc, Nat.reduceXor]
    omega
theorem mI_acc2 (w b : Nat → Int) {p : Nat} (hp : p < 8) : (mI w b p - acc b w 8 p) % 2 = 0 := by
  rcases lt8 hp with rfl | rfl | rfl | rfl | rfl | rfl | rfl | rfl
  all_goals
    simp only [mI, acc, Nat.reduceXor, Int.mul_comm (b _) (w _)]
    omega
/-- where a row is odd -/
def sM (x : Nat → Int) : Nat := zSet (fun p => decide (x p % 2 = 1)) 8
theorem sM_lt (x : Nat → Int) : sM x < 256 := zSet_lt _ 8
def bt (w j : Nat) : Nat := w / 2 ^ j % 2
def bv (b : Bool) : Nat := if b then 1 else 0
theorem zSet_8 (p : Nat → Bool) : zSet p 8 = bv (p 0) + 2 * bv (p 1) + 4 * bv (p 2) + 8 * bv (p 3) + 16 * bv (p 4) + 32 * bv (p 5) + 64 * bv (p 6) + 128 * bv (p 7) := by
  have e : ∀ (b : Bool) n, (if b = true then n else 0) = n * bv b := fun b n => by cases b <;> simp [bv]
  simp only [zSet, e]
  omega
theorem bv_le (b : Bool) : bv b ≤ 1 := by cases b <;> decide
theorem zSet_bt (p : Nat → Bool) {j : Nat} (hj : j < 8) : bt (zSet p 8) j = bv (p j) := by
  rw [zSet_8]
  unfold bt
  have b0 := bv_le (p 0)
  have b1 := bv_le (p 1)
  have b2 := bv_le (p 2)
  have b3 := bv_le (p 3)
  have b4 := bv_le (p 4)
  have b5 := bv_le (p 5)
  have b6 := bv_le (p 6)
  have b7 := bv_le (p 7)
  rcases lt8 hj with rfl | rfl | rfl | rfl | rfl | rfl | rfl | rfl <;> omega
theorem sM_bt (x : Nat → Int) {j : Nat} (hj : j < 8) : ((bt (sM x) j : Nat) : Int) = x j % 2 := by
  unfold sM
  rw [zSet_bt _ hj]
  unfold bv
  by_cases e : x j % 2 = 1
  · rw [if_pos (by rw [decide_eq_true e]), e]; rfl
  · rw [if_neg (by rw [decide_eq_false e]; decide)]; omega
theorem of_xo : ∀ o, o < 8 → ∀ u, u < 256 → ofO o u = true → ∀ v, v < 256 → ofO o v = true → ofO o (zSet (fun j => (bt u j + bt v j) % 2 == 1) 8) = true := by decide +kernel
theorem of_pm : ∀ o, o < 8 → ∀ v, v < 256 → ofO o v = true → ∀ k, k < 8 → ofO o (zSet (fun p => bt v (k ^^^ p) == 1) 8) = true := by decide +kernel
theorem of_0 : ∀ o, o < 8 → ofO o 0 = true := by decide +kernel
def wBt (w : Nat) : Nat → Int := fun j => ((bt w j : Nat) : Int)
def m1B (o w v : Nat) : Bool := (List.range 8).all (fun p => decide (mI (wBt w) (wBt v) p % 2 = 0)) && ofO o (zSet (fun p => decide (mI (wBt w) (wBt v) p / 2 % 2 = 1)) 8)
theorem of_m0 : ∀ o, o < 8 → ∀ w, w < 256 → ofO o w = true → ∀ v, v < 256 → ofO o v = true → m1B o w v = true := by decide +kernel
theorem of_m1 (o : Nat) (ho : o < 8) (w : Nat) (hw : w < 256) (hw2 : ofO o w = true) (v : Nat) (hv : v < 256) (hv2 : ofO o v = true) : (∀ p, p < 8 → mI (wBt w) (wBt v) p % 2 = 0) ∧ ofO o (zSet (fun p => decide (mI (wBt w) (wBt v) p / 2 % 2 = 1)) 8) = true := by
  have := of_m0 o ho w hw hw2 v hv hv2
  unfold m1B at this
  rw [Bool.and_eq_true, List.all_eq_true] at this
  exact ⟨fun p hp => of_decide_eq_true (this.1 p (List.mem_range.mpr hp)), this.2⟩
theorem sM_c {x z : Nat → Int} (h : ∀ p, p < 8 → (z p - x p) % 2 = 0) : sM z = sM x := zSet_cong (fun j hj => by
  have := h j hj
  have : z j % 2 = x j % 2 := by omega
  rw [this])
theorem sM_xo {o : Nat} (ho : o < 8) {x y z : Nat → Int} (hx : ofO o (sM x) = true) (hy : ofO o (sM y) = true) (h : ∀ p, p < 8 → (z p - x p - y p) % 2 = 0) : ofO o (sM z) = true := by
  have e : sM z = zSet (fun j => (bt (sM x) j + bt (sM y) j) % 2 == 1) 8 := zSet_cong (fun j hj => by
    have e1 := sM_bt x hj
    have e2 := sM_bt y hj
    have e3 := h j hj
    by_cases q : (bt (sM x) j + bt (sM y) j) % 2 = 1
    · rw [show ((bt (sM x) j + bt (sM y) j) % 2 == 1) = true from beq_iff_eq.mpr q]
      exact decide_eq_true (by omega)
    · rw [show ((bt (sM x) j + bt (sM y) j) % 2 == 1) = false from beq_eq_false_iff_ne.mpr q]
      exact decide_eq_false (by omega))
  rw [e]
  exact of_xo o ho _ (sM_lt x) hx _ (sM_lt y) hy
theorem sM_0 {o : Nat} (ho : o < 8) {z : Nat → Int} (h : ∀ p, p < 8 → z p % 2 = 0) : ofO o (sM z) = true := by
  have e : sM z = zSet (fun _ => false) 8 := zSet_cong (fun j hj => decide_eq_false (by have := h j hj; omega))
  rw [e]
  exact of_0 o ho
theorem sM_pm {o : Nat} (ho : o < 8) {v : Nat → Int} (hv : ofO o (sM v) = true) {k : Nat} (hk : k < 8) : ofO o (sM (fun p => v (k ^^^ p))) = true := by
  have e : sM (fun p => v (k ^^^ p)) = zSet (fun p => bt (sM v) (k ^^^ p) == 1) 8 := zSet_cong (fun j hj => by
    have e1 := sM_bt v (xor8l k hk j hj).1
    by_cases q : bt (sM v) (k ^^^ j) = 1
    · rw [show (bt (sM v) (k ^^^ j) == 1) = true from beq_iff_eq.mpr q]
      exact decide_eq_true (by show v (k ^^^ j) % 2 = 1; omega)
    · rw [show (bt (sM v) (k ^^^ j) == 1) = false from beq_eq_false_iff_ne.mpr q]
      exact decide_eq_false (by show ¬ v (k ^^^ j) % 2 = 1; omega))
  rw [e]
  exact of_pm o ho _ (sM_lt v) hv k hk
theorem acc_of {o : Nat} (ho : o < 8) (a : Nat → Int) {v : Nat → Int} (hv : ofO o (sM v) = true) : ∀ k, k ≤ 8 → ofO o (sM (acc a v k)) = true
  | 0, _ => sM_0 ho (fun _ _ => rfl)
  | k + 1, hk => by
    have ih := acc_of ho a hv k (by omega)
    rcases (show a k % 2 = 0 ∨ a k % 2 = 1 by omega) with e | e
    · rw [sM_c (x := acc a v k) (fun p hp => by
        show (acc a v k p + a k * v (k ^^^ p) - acc a v k p) % 2 = 0
        have : (a k * v (k ^^^ p)) % 2 = 0 := by rw [Int.mul_emod, e, Int.zero_mul]; rfl
        omega)]
      exact ih
    · refine sM_xo ho ih (sM_pm ho hv (k := k) (by omega)) (fun p hp => ?_)
      show (acc a v k p + a k * v (k ^^^ p) - acc a v k p - v (k ^^^ p)) % 2 = 0
      have : (a k * v (k ^^^ p)) % 2 = v (k ^^^ p) % 2 := by rw [Int.mul_emod, e, Int.one_mul, Int.emod_emod_of_dvd _ (Int.dvd_refl 2)]
      omega
/-- a product of two whole ones is whole -/
theorem cl_par {o : Nat} (ho : o < 8) {F G : Nat → Int} (hF : ofO o (sM F) = true) (hG : ofO o (sM G) = true) : (∀ p, p < 8 → mI F G p % 2 = 0) ∧ ofO o (sM (fun p => mI F G p / 2)) = true := by
  obtain ⟨w, hw⟩ : ∃ w, w = wBt (sM F) := ⟨_, rfl⟩
  obtain ⟨v, hv⟩ : ∃ v, v = wBt (sM G) := ⟨_, rfl⟩
  have w1 : ∀ i, i < 8 → w i = F i % 2 := fun i hi => by rw [hw]; exact sM_bt F hi
  have v1 : ∀ i, i < 8 → v i = G i % 2 := fun i hi => by rw [hv]; exact sM_bt G hi
  obtain ⟨m1, m2⟩ := of_m1 o ho _ (sM_lt F) hF _ (sM_lt G) hG
  rw [← hw, ← hv] at m1 m2
  have dec : ∀ p, p < 8 → mI F G p = mI w v p + 2 * (mI (fun i => F i / 2) v p + mI w (fun i => G i / 2) p) + 4 * mI (fun i => F i / 2) (fun i => G i / 2) p := by
    intro p hp
    rw [← mI_s w (fun i => F i / 2) v (fun i => G i / 2) hp]
    exact mI_c (fun i hi => by have := w1 i hi; omega) (fun i hi => by have := v1 i hi; omega) hp
  have ev : sM v = sM G := sM_c (fun p hp => by have := v1 p hp; omega)
  have ew : sM w = sM F := sM_c (fun p hp => by have := w1 p hp; omega)
  have o2 : ofO o (sM (mI (fun i => F i / 2) v)) = true := by
    rw [sM_c (fun p hp => mI_acc (fun i => F i / 2) v hp)]
    exact acc_of ho _ (by rw [ev]; exact hG) 8 (Nat.le_refl _)
  have o3 : ofO o (sM (mI w (fun i => G i / 2))) = true := by
    rw [sM_c (fun p hp => mI_acc2 w (fun i => G i / 2) hp)]
    exact acc_of ho _ (by rw [ew]; exact hF) 8 (Nat.le_refl _)
  have o1 : ofO o (sM (fun p => mI w v p / 2)) = true := m2
  have o23 : ofO o (sM (fun p => mI (fun i => F i / 2) v p + mI w (fun i => G i / 2) p)) = true := sM_xo ho o2 o3 (fun p _ => by
    show (mI (fun i => F i / 2) v p + mI w (fun i => G i / 2) p - mI (fun i => F i / 2) v p - mI w (fun i => G i / 2) p) % 2 = 0
    omega)
  refine ⟨fun p hp => ?_, sM_xo ho o1 o23 (fun p hp => ?_)⟩
  · have := dec p hp
    have := m1 p hp
    omega
  · have e1 := dec p hp
    have e2 := m1 p hp
    show (mI F G p / 2 - mI w v p / 2 - (mI (fun i => F i / 2) v p + mI w (fun i => G i / 2) p)) % 2 = 0
    omega

