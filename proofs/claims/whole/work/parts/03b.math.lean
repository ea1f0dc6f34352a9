-- NUMBERS: what the class and the reference compute, said once in Int32 and Int64; bounds and the few facts of arithmetic that they rest on
theorem er_bm32 {x : Int} (h1 : -2147483648 ≤ x) (h2 : x < 2147483648) : x.bmod (2 ^ 32) = x := by
  rw [Int.bmod_def]
  split <;> omega
theorem er_bm64 {x : Int} (h1 : -9223372036854775808 ≤ x) (h2 : x < 9223372036854775808) : x.bmod (2 ^ 64) = x := by
  rw [Int.bmod_def]
  split <;> omega
theorem er_sub {x y : Int32} (h1 : -2147483648 ≤ x.toInt - y.toInt) (h2 : x.toInt - y.toInt < 2147483648) : (x - y).toInt = x.toInt - y.toInt := by
  rw [Int32.toInt_sub, er_bm32 h1 h2]
theorem er_add {x y : Int32} (h1 : -2147483648 ≤ x.toInt + y.toInt) (h2 : x.toInt + y.toInt < 2147483648) : (x + y).toInt = x.toInt + y.toInt := by
  rw [Int32.toInt_add, er_bm32 h1 h2]
theorem er_mul {x y : Int32} (h1 : -2147483648 ≤ x.toInt * y.toInt) (h2 : x.toInt * y.toInt < 2147483648) : (x * y).toInt = x.toInt * y.toInt := by
  rw [Int32.toInt_mul, er_bm32 h1 h2]
theorem er_subL {x y : Int64} (h1 : -9223372036854775808 ≤ x.toInt - y.toInt) (h2 : x.toInt - y.toInt < 9223372036854775808) : (x - y).toInt = x.toInt - y.toInt := by
  rw [Int64.toInt_sub, er_bm64 h1 h2]
theorem er_addL {x y : Int64} (h1 : -9223372036854775808 ≤ x.toInt + y.toInt) (h2 : x.toInt + y.toInt < 9223372036854775808) : (x + y).toInt = x.toInt + y.toInt := by
  rw [Int64.toInt_add, er_bm64 h1 h2]
theorem er_mulL {x y : Int64} (h1 : -9223372036854775808 ≤ x.toInt * y.toInt) (h2 : x.toInt * y.toInt < 9223372036854775808) : (x * y).toInt = x.toInt * y.toInt := by
  rw [Int64.toInt_mul, er_bm64 h1 h2]
theorem er_mb {a b : Int} {A B : Nat} (ha : a.natAbs ≤ A) (hb : b.natAbs ≤ B) : (a * b).natAbs ≤ A * B := by
  rw [Int.natAbs_mul]
  exact Nat.mul_le_mul ha hb
-- the triangle
def er_wt (ex ey ea ed px py : Int32) : Int64 := ea.toInt64 * (16 * py + 8 - ey).toInt64 - ed.toInt64 * (16 * px + 8 - ex).toInt64
def er_room (X Y : Nat → Int32) (a b : Nat) (x y : Int32) : Int64 := (X b - X a).toInt64 * (y - Y a).toInt64 - (Y b - Y a).toInt64 * (x - X a).toInt64
def er_ar (X Y : Nat → Int32) : Int64 := er_room X Y 0 1 (X 2) (Y 2)
def er_fr (X Y : Nat → Int32) (j : Nat) : Nat := if er_ar X Y < 0 then (j + 2) % 3 else (j + 1) % 3
def er_to (X Y : Nat → Int32) (j : Nat) : Nat := if er_ar X Y < 0 then (j + 1) % 3 else (j + 2) % 3
def er_ex (X Y : Nat → Int32) (j : Nat) : Int32 := X (er_fr X Y j)
def er_ey (X Y : Nat → Int32) (j : Nat) : Int32 := Y (er_fr X Y j)
def er_ea (X Y : Nat → Int32) (j : Nat) : Int32 := X (er_to X Y j) - X (er_fr X Y j)
def er_ed (X Y : Nat → Int32) (j : Nat) : Int32 := Y (er_to X Y j) - Y (er_fr X Y j)
def er_own (dx dy : Int32) : Bool := decide ((dy = 0 ∧ 0 < dx) ∨ dy < 0)
def er_lw (dx dy : Int32) : Int32 := if er_own dx dy = true then 0 else 1
def er_W (X Y : Nat → Int32) (j : Nat) (px py : Int32) : Int64 := er_room X Y (er_fr X Y j) (er_to X Y j) (16 * px + 8) (16 * py + 8)
def er_in (X Y : Nat → Int32) (j : Nat) (px py : Int32) : Bool := decide (0 < er_W X Y j px py ∨ (er_W X Y j px py = 0 ∧ er_own (er_ea X Y j) (er_ed X Y j) = true))
def er_covj (X Y : Nat → Int32) (px py : Int32) : Nat → Bool
  | 0 => decide (¬ er_ar X Y = 0)
  | j + 1 => er_covj X Y px py j && er_in X Y j px py
def er_cov (X Y : Nat → Int32) (px py : Int32) : Bool := er_covj X Y px py 3
def er_b (b : Bool) : Int32 := if b = true then 1 else 0
theorem er_b_t : er_b true = 1 := rfl
theorem er_b_f : er_b false = 0 := rfl
theorem er_b_0 {b : Bool} : er_b b = 0 ↔ b = false := by cases b <;> simp [er_b]
theorem er_b_1 {b : Bool} : er_b b = 1 ↔ b = true := by cases b <;> simp [er_b]
theorem er_b_n {b : Bool} : ¬ er_b b = 0 ↔ b = true := by cases b <;> simp [er_b]
theorem er_b_nar (b : Bool) : narrow .boolean (.int (er_b b)) = .int (er_b b) := by cases b <;> decide
theorem er_W_wt (X Y : Nat → Int32) (j : Nat) (px py : Int32) : er_wt (er_ex X Y j) (er_ey X Y j) (er_ea X Y j) (er_ed X Y j) px py = er_W X Y j px py := rfl
theorem er_lw_in (X Y : Nat → Int32) (j : Nat) (px py : Int32) : (er_lw (er_ea X Y j) (er_ed X Y j)).toInt64 ≤ er_W X Y j px py ↔ er_in X Y j px py = true := by
  simp only [er_lw, er_in, decide_eq_true_eq, Int64.le_iff_toInt_le, Int64.lt_iff_toInt_lt, ← Int64.toInt_inj]
  by_cases h : er_own (er_ea X Y j) (er_ed X Y j) = true
  · simp only [h, if_true, and_true]
    have : (0 : Int32).toInt64.toInt = 0 := by decide
    have h0 : (0 : Int64).toInt = 0 := by decide
    omega
  · simp only [Bool.not_eq_true] at h
    simp only [h, Bool.false_eq_true, if_false, and_false, or_false]
    have : (1 : Int32).toInt64.toInt = 1 := by decide
    have h0 : (0 : Int64).toInt = 0 := by decide
    omega
-- bounds
def er_BX (X : Nat → Int32) : Prop := ∀ j, j < 3 → -16384 ≤ (X j).toInt ∧ (X j).toInt ≤ 16383
theorem er_fr_lt (X Y : Nat → Int32) (j : Nat) : er_fr X Y j < 3 := by
  unfold er_fr
  split <;> omega
theorem er_to_lt (X Y : Nat → Int32) (j : Nat) : er_to X Y j < 3 := by
  unfold er_to
  split <;> omega
theorem er_mid {px : Int32} (h0 : -1024 ≤ px.toInt) (h1 : px.toInt ≤ 2047) : (16 * px + 8).toInt = 16 * px.toInt + 8 := by
  have e16 : (16 : Int32).toInt = 16 := by decide
  have e8 : (8 : Int32).toInt = 8 := by decide
  have e1 : (16 * px).toInt = 16 * px.toInt := by
    rw [er_mul (by rw [e16]; omega) (by rw [e16]; omega), e16]
  rw [er_add (by rw [e1, e8]; omega) (by rw [e1, e8]; omega), e1, e8]
/-- the room of two corners and a point, in Int -/
theorem er_roomI {X Y : Nat → Int32} (hX : er_BX X) (hY : er_BX Y) {a b : Nat} (ha : a < 3) (hb : b < 3) {x y : Int32} (hx : -17000 ≤ x.toInt ∧ x.toInt ≤ 33000) (hy : -17000 ≤ y.toInt ∧ y.toInt ≤ 33000) :
    (er_room X Y a b x y).toInt = ((X b).toInt - (X a).toInt) * (y.toInt - (Y a).toInt) - ((Y b).toInt - (Y a).toInt) * (x.toInt - (X a).toInt) ∧ (er_room X Y a b x y).toInt.natAbs ≤ 3300000000 := by
  have hXa := hX a ha
  have hXb := hX b hb
  have hYa := hY a ha
  have hYb := hY b hb
  have e1 : (X b - X a).toInt64.toInt = (X b).toInt - (X a).toInt := by rw [Int32.toInt_toInt64, er_sub (by omega) (by omega)]
  have e2 : (y - Y a).toInt64.toInt = y.toInt - (Y a).toInt := by rw [Int32.toInt_toInt64, er_sub (by omega) (by omega)]
  have e3 : (Y b - Y a).toInt64.toInt = (Y b).toInt - (Y a).toInt := by rw [Int32.toInt_toInt64, er_sub (by omega) (by omega)]
  have e4 : (x - X a).toInt64.toInt = x.toInt - (X a).toInt := by rw [Int32.toInt_toInt64, er_sub (by omega) (by omega)]
  have b1 : (((X b).toInt - (X a).toInt) * (y.toInt - (Y a).toInt)).natAbs ≤ 32767 * 49384 := er_mb (by omega) (by omega)
  have b2 : (((Y b).toInt - (Y a).toInt) * (x.toInt - (X a).toInt)).natAbs ≤ 32767 * 49384 := er_mb (by omega) (by omega)
  have m1 : ((X b - X a).toInt64 * (y - Y a).toInt64).toInt = ((X b).toInt - (X a).toInt) * (y.toInt - (Y a).toInt) := by
    rw [er_mulL (by rw [e1, e2]; omega) (by rw [e1, e2]; omega), e1, e2]
  have m2 : ((Y b - Y a).toInt64 * (x - X a).toInt64).toInt = ((Y b).toInt - (Y a).toInt) * (x.toInt - (X a).toInt) := by
    rw [er_mulL (by rw [e3, e4]; omega) (by rw [e3, e4]; omega), e3, e4]
  have e : (er_room X Y a b x y).toInt = ((X b).toInt - (X a).toInt) * (y.toInt - (Y a).toInt) - ((Y b).toInt - (Y a).toInt) * (x.toInt - (X a).toInt) := by
    unfold er_room
    rw [er_subL (by rw [m1, m2]; omega) (by rw [m1, m2]; omega), m1, m2]
  exact ⟨e, by rw [e]; omega⟩
/-- the three weights of a place make up the area -/
theorem er_sum {X Y : Nat → Int32} (hX : er_BX X) (hY : er_BX Y) {px py : Int32} (hx : -1024 ≤ px.toInt ∧ px.toInt ≤ 2047) (hy : -1024 ≤ py.toInt ∧ py.toInt ≤ 2047) :
    (er_W X Y 0 px py).toInt + (er_W X Y 1 px py).toInt + (er_W X Y 2 px py).toInt = if (er_ar X Y).toInt < 0 then -(er_ar X Y).toInt else (er_ar X Y).toInt := by
  have mx := er_mid hx.1 hx.2
  have my := er_mid hy.1 hy.2
  have hX2 := hX 2 (by omega)
  have hY2 := hY 2 (by omega)
  have ea := (er_roomI hX hY (a := 0) (b := 1) (by omega) (by omega) (x := X 2) (y := Y 2) (by omega) (by omega)).1
  have h0 : (0 : Int64).toInt = 0 := by decide
  have g : ∀ a b, a < 3 → b < 3 → (er_room X Y a b (16 * px + 8) (16 * py + 8)).toInt = ((X b).toInt - (X a).toInt) * ((16 * py.toInt + 8) - (Y a).toInt) - ((Y b).toInt - (Y a).toInt) * ((16 * px.toInt + 8) - (X a).toInt) := by
    intro a b ha hb
    rw [(er_roomI hX hY ha hb (x := 16 * px + 8) (y := 16 * py + 8) (by rw [mx]; omega) (by rw [my]; omega)).1, mx, my]
  have g01 := g 0 1 (by omega) (by omega)
  have g12 := g 1 2 (by omega) (by omega)
  have g20 := g 2 0 (by omega) (by omega)
  have g10 := g 1 0 (by omega) (by omega)
  have g21 := g 2 1 (by omega) (by omega)
  have g02 := g 0 2 (by omega) (by omega)
  change (er_ar X Y).toInt = _ at ea
  by_cases hn : er_ar X Y < 0
  · have hn' : (er_ar X Y).toInt < 0 := by rw [Int64.lt_iff_toInt_lt, h0] at hn; exact hn
    have f0 : er_fr X Y 0 = 2 := by simp [er_fr, hn]
    have f1 : er_fr X Y 1 = 0 := by simp [er_fr, hn]
    have f2 : er_fr X Y 2 = 1 := by simp [er_fr, hn]
    have t0 : er_to X Y 0 = 1 := by simp [er_to, hn]
    have t1 : er_to X Y 1 = 2 := by simp [er_to, hn]
    have t2 : er_to X Y 2 = 0 := by simp [er_to, hn]
    rw [if_pos hn']
    unfold er_W
    rw [f0, f1, f2, t0, t1, t2, g21, g02, g10, ea]
    generalize (X 0).toInt = x0, (X 1).toInt = x1, (X 2).toInt = x2, (Y 0).toInt = y0, (Y 1).toInt = y1, (Y 2).toInt = y2, 16 * px.toInt + 8 = x, 16 * py.toInt + 8 = y
    grind
  · have hn' : ¬ (er_ar X Y).toInt < 0 := by rw [Int64.lt_iff_toInt_lt, h0] at hn; exact hn
    have f0 : er_fr X Y 0 = 1 := by simp [er_fr, hn]
    have f1 : er_fr X Y 1 = 2 := by simp [er_fr, hn]
    have f2 : er_fr X Y 2 = 0 := by simp [er_fr, hn]
    have t0 : er_to X Y 0 = 2 := by simp [er_to, hn]
    have t1 : er_to X Y 1 = 0 := by simp [er_to, hn]
    have t2 : er_to X Y 2 = 1 := by simp [er_to, hn]
    rw [if_neg hn']
    unfold er_W
    rw [f0, f1, f2, t0, t1, t2, g12, g20, g01, ea]
    generalize (X 0).toInt = x0, (X 1).toInt = x1, (X 2).toInt = x2, (Y 0).toInt = y0, (Y 1).toInt = y1, (Y 2).toInt = y2, 16 * px.toInt + 8 = x, 16 * py.toInt + 8 = y
    grind
-- division, down
def er_down (a b : Int64) : Int64 := if ¬ (a - a / b * b) = 0 ∧ a < 0 then a / b - 1 else a / b - 0
def er_fd (x y : Int64) : Int64 := if (x ^^^ y) < 0 ∧ ¬ x / y * y = x then x / y - 1 else x / y
theorem er_xor_neg {x y : Int64} (hy : 0 < y) : (x ^^^ y) < 0 ↔ x < 0 := by
  have h0 : (0 : Int64).toInt = 0 := by decide
  have m : ∀ z : Int64, z.toBitVec.msb = decide (z.toInt < 0) := fun z => by rw [BitVec.msb_eq_toInt, Int64.toInt_toBitVec]
  have hm : (x ^^^ y).toBitVec.msb = (x.toBitVec.msb ^^ y.toBitVec.msb) := by rw [Int64.toBitVec_xor, BitVec.msb_xor]
  rw [Int64.lt_iff_toInt_lt, h0] at hy
  rw [Int64.lt_iff_toInt_lt, Int64.lt_iff_toInt_lt, h0]
  rw [m, m, m] at hm
  have hf : decide (y.toInt < 0) = false := by simp; omega
  rw [hf, Bool.xor_false] at hm
  simpa using hm
theorem er_sub0 {a b : Int64} : a - b = 0 ↔ a = b := by
  constructor
  · intro h
    have h1 := congrArg (fun z => z + b) h
    simpa using h1
  · rintro rfl
    simp
theorem er_fd_down {a b : Int64} (hb : 0 < b) : er_fd a b = er_down a b := by
  unfold er_fd er_down
  have e : (¬ a / b * b = a) ↔ ¬ (a - a / b * b) = 0 := by
    constructor
    · intro h h2
      exact h (er_sub0.mp h2).symm
    · intro h h2
      exact h (er_sub0.mpr h2.symm)
  by_cases hn : a < 0
  · simp only [er_xor_neg hb, hn, true_and, and_true, e, Int64.sub_zero]
  · simp only [er_xor_neg hb, hn, false_and, and_false, if_false, Int64.sub_zero]
-- shares
def er_sh (g : Int64) (n : Nat) : Int64 := g >>> ((nI n).toInt64 &&& 63)
theorem er_smc : ∀ n, n < 64 → (((nI n).toInt64 &&& 63).toBitVec.smod 64).toNat = n := by decide +kernel
theorem er_sh_toInt (g : Int64) {n : Nat} (h : n < 64) : (er_sh g n).toInt = g.toInt / 2 ^ n := Jvm.Kit.i64_shr g _ (er_smc n h)
/-- n is the first shift at which g comes below 2^29 -/
def er_first (g : Int64) (n : Nat) : Prop := er_sh g n < 536870912 ∧ ∀ t, t < n → ¬ er_sh g t < 536870912
theorem er_lim : (536870912 : Int64).toInt = 536870912 := by decide
theorem er_sh_34 (g : Int64) : er_sh g 34 < 536870912 := by
  rw [Int64.lt_iff_toInt_lt, er_sh_toInt g (by decide), er_lim]
  have := Int64.toInt_lt g
  omega
theorem er_sh_mono (g : Int64) {m n : Nat} (h : m ≤ n) (hn : n < 64) (hm : er_sh g m < 536870912) : er_sh g n < 536870912 := by
  rw [Int64.lt_iff_toInt_lt, er_lim] at hm ⊢
  rw [er_sh_toInt g (by omega)] at hm
  rw [er_sh_toInt g hn]
  obtain ⟨d, rfl⟩ : ∃ d, n = m + d := ⟨n - m, by omega⟩
  rw [Int.pow_add, ← Int.ediv_ediv_of_nonneg (Int.le_of_lt (Int.pow_pos (by decide)))]
  generalize g.toInt / 2 ^ m = z at hm
  have hp : (0 : Int) < 2 ^ d := Int.pow_pos (by decide)
  by_cases hz : 0 ≤ z
  · exact Int.lt_of_le_of_lt (Int.ediv_le_self _ hz) hm
  · have : z / 2 ^ d < 0 := Int.ediv_neg_of_neg_of_pos (by omega) hp
    omega
/-- shifting keeps the order -/
theorem er_sh_le {g h : Int64} (hh : g ≤ h) {n : Nat} (hn : n < 64) (hm : er_sh h n < 536870912) : er_sh g n < 536870912 := by
  rw [Int64.lt_iff_toInt_lt, er_lim] at hm ⊢
  rw [er_sh_toInt _ hn] at hm ⊢
  rw [Int64.le_iff_toInt_le] at hh
  exact Int.lt_of_le_of_lt (Int.ediv_le_ediv (Int.pow_pos (by decide)) hh) hm
-- counting and searching over the places of a window
def er_cnt (f : Nat → Bool) : Nat → Nat
  | 0 => 0
  | k + 1 => er_cnt f k + (if f k = true then 1 else 0)
theorem er_cnt_le (f : Nat → Bool) (k : Nat) : er_cnt f k ≤ k := by
  induction k with
  | zero => exact Nat.le_refl 0
  | succ k ih =>
    unfold er_cnt
    split <;> omega
/-- r is the first place from k on, below n, that f takes; n if there is none -/
def er_next (f : Nat → Bool) (n k r : Nat) : Prop := k ≤ r ∧ r ≤ n ∧ (∀ t, k ≤ t → t < r → f t = false) ∧ (r < n → f r = true)
theorem er_next_one {f : Nat → Bool} {n k r r' : Nat} (h : er_next f n k r) (h' : er_next f n k r') : r = r' := by
  obtain ⟨a1, a2, a3, a4⟩ := h
  obtain ⟨b1, b2, b3, b4⟩ := h'
  rcases Nat.lt_trichotomy r r' with q | q | q
  · have := b3 r a1 q
    rw [a4 (by omega)] at this
    cases this
  · exact q
  · have := a3 r' b1 q
    rw [b4 (by omega)] at this
    cases this
/-- the places of a window of width c from (a, b) on, in the order of a walk -/
def er_px (a c k : Nat) : Int32 := nI (a + k % c)
def er_py (b c k : Nat) : Int32 := nI (b + k / c)
def er_f (X Y : Nat → Int32) (a b c : Nat) (k : Nat) : Bool := er_cov X Y (er_px a c k) (er_py b c k)
theorem er_kx {c i j : Nat} (h : i < c) : (j * c + i) % c = i := by rw [Nat.add_comm, Nat.add_mul_mod_self_right, Nat.mod_eq_of_lt h]
theorem er_ky {c i j : Nat} (h : i < c) : (j * c + i) / c = j := by rw [Nat.add_comm, Nat.add_mul_div_right _ _ (by omega), Nat.div_eq_of_lt h, Nat.zero_add]
