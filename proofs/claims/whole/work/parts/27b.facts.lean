-- facts of the weights, shares and sizes
def er_sz (X Y : Nat → Int32) : Int64 := if er_ar X Y < 0 then -(er_ar X Y) else er_ar X Y
theorem er_sz_t {X Y : Nat → Int32} (h : ¬ 0 ≤ er_ar X Y) : -(er_ar X Y) = er_sz X Y := by unfold er_sz; rw [if_pos (Int64.not_le.mp h)]
theorem er_sz_n {X Y : Nat → Int32} (h : 0 ≤ er_ar X Y) : er_ar X Y = er_sz X Y := by unfold er_sz; rw [if_neg (Int64.not_lt.mpr h)]
theorem er_ds0 (X Y D : Nat → Int32) (px py : Int32) : er_ds X Y D px py = 0 + er_W X Y 0 px py * (D 0).toInt64 + er_W X Y 1 px py * (D 1).toInt64 + er_W X Y 2 px py * (D 2).toInt64 := by unfold er_ds; rw [Int64.zero_add]
theorem er_ixl (k n : Nat) : nI k + nI n = nI (k + n) := nI_add k n
def er_shs (X Y Q : Nat → Int32) (px py : Int32) (z : Nat) : Int64 := 0 + er_sh (er_nr X Y Q px py 0) z + er_sh (er_nr X Y Q px py 1) z + er_sh (er_nr X Y Q px py 2) z
def er_atM (X Y Q : Nat → Int32) (px py : Int32) (z : Nat) (v0 v1 v2 : Int32) : Int32 :=
  (er_down (0 + er_sh (er_nr X Y Q px py 0) z * v0.toInt64 + er_sh (er_nr X Y Q px py 1) z * v1.toInt64 + er_sh (er_nr X Y Q px py 2) z * v2.toInt64) (er_shs X Y Q px py z)).toInt32
theorem er_mx_l (x y : Int64) : x ≤ er_mx x y := by
  unfold er_mx; split
  · exact Int64.le_refl _
  · rename_i h; exact Int64.not_lt.mp h
theorem er_mx_r (x y : Int64) : y ≤ er_mx x y := by
  unfold er_mx; split
  · rename_i h; exact Int64.le_of_lt h
  · exact Int64.le_refl _
theorem er_mx_or (x y : Int64) : er_mx x y = x ∨ er_mx x y = y := by
  unfold er_mx; split
  · exact Or.inl rfl
  · exact Or.inr rfl
section ErM3
variable {X Y Q : Nat → Int32} {px py : Int32} {z : Nat}
theorem er_m3_le0 : er_nr X Y Q px py 0 ≤ er_m3 X Y Q px py := er_mx_l _ _
theorem er_m3_le1 : er_nr X Y Q px py 1 ≤ er_m3 X Y Q px py := Int64.le_trans (er_mx_l _ _) (er_mx_r _ _)
theorem er_m3_le2 : er_nr X Y Q px py 2 ≤ er_m3 X Y Q px py := Int64.le_trans (er_mx_r _ _) (er_mx_r _ _)
theorem er_m3_lt (h0 : er_sh (er_nr X Y Q px py 0) z < 536870912) (h1 : er_sh (er_nr X Y Q px py 1) z < 536870912) (h2 : er_sh (er_nr X Y Q px py 2) z < 536870912) : er_sh (er_m3 X Y Q px py) z < 536870912 := by
  unfold er_m3
  rcases er_mx_or (er_nr X Y Q px py 0) (er_mx (er_nr X Y Q px py 1) (er_nr X Y Q px py 2)) with e | e
  · rw [e]; exact h0
  · rw [e]
    rcases er_mx_or (er_nr X Y Q px py 1) (er_nr X Y Q px py 2) with e | e
    · rw [e]; exact h1
    · rw [e]; exact h2
theorem er_m3_0 (hz : z < 64) (h : ¬ er_sh (er_nr X Y Q px py 0) z < 536870912) : ¬ er_sh (er_m3 X Y Q px py) z < 536870912 := fun q => h (er_sh_le er_m3_le0 hz q)
theorem er_m3_1 (hz : z < 64) (h : ¬ er_sh (er_nr X Y Q px py 1) z < 536870912) : ¬ er_sh (er_m3 X Y Q px py) z < 536870912 := fun q => h (er_sh_le er_m3_le1 hz q)
theorem er_m3_2 (hz : z < 64) (h : ¬ er_sh (er_nr X Y Q px py 2) z < 536870912) : ¬ er_sh (er_m3 X Y Q px py) z < 536870912 := fun q => h (er_sh_le er_m3_le2 hz q)
end ErM3
theorem er_e_step {g : Int64} {z : Nat} (h : ∀ t, t < z → ¬ er_sh g t < 536870912) (hz : ¬ er_sh g z < 536870912) : ∀ t, t < z + 1 → ¬ er_sh g t < 536870912 := fun t q => by
  rcases Nat.lt_or_ge t z with w | w
  · exact h t w
  · rw [show t = z by omega]; exact hz
