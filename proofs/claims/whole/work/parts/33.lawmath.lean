-- WHAT HOLDS AT A COVERED PLACE: the area is not 0, no weight is below 0, the shares' sum is above 0; so both ways of dividing agree
section ErAt
variable {X Y D Q : Nat → Int32} {px py : Int32}
theorem er_cov_ar (h : er_cov X Y px py = true) : ¬ er_ar X Y = 0 := by
  simp only [er_cov, er_covj, Bool.and_eq_true, decide_eq_true_eq] at h
  exact h.1.1.1
theorem er_cov_in (h : er_cov X Y px py = true) : er_in X Y 0 px py = true ∧ er_in X Y 1 px py = true ∧ er_in X Y 2 px py = true := by
  simp only [er_cov, er_covj, Bool.and_eq_true] at h
  exact ⟨h.1.1.2, h.1.2, h.2⟩
theorem er_z64 : (0 : Int64).toInt = 0 := by decide
theorem er_in_pos {j : Nat} (h : er_in X Y j px py = true) : 0 ≤ (er_W X Y j px py).toInt := by
  rcases of_decide_eq_true h with q | q
  · rw [Int64.lt_iff_toInt_lt, er_z64] at q; omega
  · rw [q.1, er_z64]; exact Int.le_refl _
theorem er_ar_b (hX : er_BX X) (hY : er_BX Y) : (er_ar X Y).toInt.natAbs ≤ 3300000000 := by
  have h2 := hX 2 (by omega)
  have h3 := hY 2 (by omega)
  exact (er_roomI hX hY (a := 0) (b := 1) (by omega) (by omega) (x := X 2) (y := Y 2) (by omega) (by omega)).2
theorem er_neg64 {x : Int64} (h : x.toInt.natAbs ≤ 3300000000) : (-x).toInt = -x.toInt := by
  rw [Int64.toInt_neg, er_bm64 (by omega) (by omega)]
theorem er_ar_n (h : ¬ er_ar X Y = 0) : ¬ (er_ar X Y).toInt = 0 := fun q => h (Int64.toInt_inj.mp (by rw [q, er_z64]))
theorem er_sz_pos (hX : er_BX X) (hY : er_BX Y) (h : ¬ er_ar X Y = 0) : 0 < er_sz X Y := by
  have hb := er_ar_b hX hY
  have hn := er_ar_n h
  unfold er_sz
  by_cases q : er_ar X Y < 0
  · rw [if_pos q, Int64.lt_iff_toInt_lt, er_z64, er_neg64 hb]
    rw [Int64.lt_iff_toInt_lt, er_z64] at q
    omega
  · rw [if_neg q, Int64.lt_iff_toInt_lt, er_z64]
    rw [Int64.lt_iff_toInt_lt, er_z64] at q
    omega
theorem er_abs_sz (h : ¬ er_ar X Y = 0) : er_abs (er_ar X Y) = er_sz X Y := by
  have hn := er_ar_n h
  unfold er_abs er_sz
  by_cases q : er_ar X Y < 0
  · rw [if_pos q, if_neg (fun w => Int64.lt_asymm q w)]
  · rw [if_neg q, if_pos]
    rw [Int64.lt_iff_toInt_lt, er_z64] at q ⊢
    omega
theorem er_dd_down {a b : Int64} (h : 0 < b) : er_dd a b = er_down a b := by
  unfold er_dd; rw [if_pos h, er_fd_down h]
theorem er_depth_eq (hX : er_BX X) (hY : er_BX Y) (h : er_cov X Y px py = true) (v : Int64) : er_dd v (er_abs (er_ar X Y)) = er_down v (er_sz X Y) := by
  rw [er_abs_sz (er_cov_ar h), er_dd_down (er_sz_pos hX hY (er_cov_ar h))]
theorem er_sz_ne (hX : er_BX X) (hY : er_BX Y) (h : er_cov X Y px py = true) : ¬ er_sz X Y = 0 := fun q => by
  have := er_sz_pos hX hY (er_cov_ar h)
  rw [q] at this
  exact Int64.lt_irrefl this
theorem er_first_one {g : Int64} {z w : Nat} (h : er_first g z) (h' : er_first g w) : z = w := by
  rcases Nat.lt_trichotomy z w with q | q | q
  · exact absurd h.1 (h'.2 z q)
  · exact q
  · exact absurd h'.1 (h.2 w q)
theorem er_W_b (hX : er_BX X) (hY : er_BX Y) (hx : -1024 ≤ px.toInt ∧ px.toInt ≤ 2047) (hy : -1024 ≤ py.toInt ∧ py.toInt ≤ 2047) (j : Nat) : (er_W X Y j px py).toInt.natAbs ≤ 3300000000 := by
  have mx := er_mid hx.1 hx.2
  have my := er_mid hy.1 hy.2
  exact (er_roomI hX hY (er_fr_lt X Y j) (er_to_lt X Y j) (x := 16 * px + 8) (y := 16 * py + 8) (by rw [mx]; omega) (by rw [my]; omega)).2
theorem er_nrI {j : Nat} (hW : 0 ≤ (er_W X Y j px py).toInt) (hB : (er_W X Y j px py).toInt.natAbs ≤ 3300000000) (hQ : 1 ≤ (Q j).toInt ∧ (Q j).toInt ≤ 8388608) :
    (er_W X Y j px py).toInt ≤ (er_nr X Y Q px py j).toInt ∧ (er_nr X Y Q px py j).toInt ≤ 30000000000000000 := by
  have e : (Q j).toInt64.toInt = (Q j).toInt := Int32.toInt_toInt64 _
  unfold er_nr
  generalize hw : (er_W X Y j px py).toInt = w at hW hB
  generalize hq : (Q j).toInt = q at hQ
  have h1 : w * 1 ≤ w * q := Int.mul_le_mul_of_nonneg_left hQ.1 hW
  have h2 : w * q ≤ 3300000000 * 8388608 := Int.mul_le_mul (by omega) hQ.2 (by omega) (by omega)
  rw [er_mulL (by rw [e, hw, hq]; omega) (by rw [e, hw, hq]; omega), e, hw, hq]
  omega
theorem er_half {M : Int} {z : Nat} (h : 536870912 ≤ M / 2 ^ z) : 1 ≤ M / 2 ^ (z + 1) := by
  rw [Int.pow_succ, ← Int.ediv_ediv_of_nonneg (Int.le_of_lt (Int.pow_pos (by decide)))]
  omega
theorem er_shs_pos (hX : er_BX X) (hY : er_BX Y) (hQ : ∀ j, j < 3 → 1 ≤ (Q j).toInt ∧ (Q j).toInt ≤ 8388608) (hx : -1024 ≤ px.toInt ∧ px.toInt ≤ 2047) (hy : -1024 ≤ py.toInt ∧ py.toInt ≤ 2047) (hc : er_cov X Y px py = true) {z : Nat} (hz : z ≤ 34) (hf : er_first (er_m3 X Y Q px py) z) : 0 < er_shs X Y Q px py z := by
  obtain ⟨i0, i1, i2⟩ := er_cov_in hc
  have w0 := er_in_pos i0
  have w1 := er_in_pos i1
  have w2 := er_in_pos i2
  have n0 := er_nrI (Q := Q) w0 (er_W_b hX hY hx hy 0) (hQ 0 (by omega))
  have n1 := er_nrI (Q := Q) w1 (er_W_b hX hY hx hy 1) (hQ 1 (by omega))
  have n2 := er_nrI (Q := Q) w2 (er_W_b hX hY hx hy 2) (hQ 2 (by omega))
  have hs := er_sum hX hY hx hy
  have hn := er_ar_n (er_cov_ar hc)
  have hpos : 1 ≤ (er_W X Y 0 px py).toInt + (er_W X Y 1 px py).toInt + (er_W X Y 2 px py).toInt := by
    rw [hs]; split <;> omega
  have l0 := Int64.le_iff_toInt_le.mp (er_m3_le0 (X := X) (Y := Y) (Q := Q) (px := px) (py := py))
  have l1 := Int64.le_iff_toInt_le.mp (er_m3_le1 (X := X) (Y := Y) (Q := Q) (px := px) (py := py))
  have l2 := Int64.le_iff_toInt_le.mp (er_m3_le2 (X := X) (Y := Y) (Q := Q) (px := px) (py := py))
  have hM : 1 ≤ (er_m3 X Y Q px py).toInt := by omega
  have hor : er_m3 X Y Q px py = er_nr X Y Q px py 0 ∨ er_m3 X Y Q px py = er_nr X Y Q px py 1 ∨ er_m3 X Y Q px py = er_nr X Y Q px py 2 := by
    unfold er_m3
    rcases er_mx_or (er_nr X Y Q px py 0) (er_mx (er_nr X Y Q px py 1) (er_nr X Y Q px py 2)) with q | q
    · exact Or.inl q
    · rcases er_mx_or (er_nr X Y Q px py 1) (er_nr X Y Q px py 2) with r | r
      · exact Or.inr (Or.inl (q.trans r))
      · exact Or.inr (Or.inr (q.trans r))
  have hb : 1 ≤ (er_sh (er_m3 X Y Q px py) z).toInt := by
    rcases Nat.eq_zero_or_pos z with q | q
    · rw [q, er_sh_toInt _ (by decide)]; simpa using hM
    · obtain ⟨y, rfl⟩ : ∃ y, z = y + 1 := ⟨z - 1, by omega⟩
      have h1 := hf.2 y (by omega)
      rw [Int64.lt_iff_toInt_lt, er_lim, er_sh_toInt _ (by omega)] at h1
      rw [er_sh_toInt _ (by omega)]
      exact er_half (by omega)
  have sb : ∀ j, 0 ≤ (er_nr X Y Q px py j).toInt → (er_nr X Y Q px py j).toInt ≤ 30000000000000000 → 0 ≤ (er_sh (er_nr X Y Q px py j) z).toInt ∧ (er_sh (er_nr X Y Q px py j) z).toInt ≤ 30000000000000000 := by
    intro j h1 h2
    rw [er_sh_toInt _ (by omega)]
    exact ⟨Int.ediv_nonneg h1 (Int.le_of_lt (Int.pow_pos (by decide))), Int.le_trans (Int.ediv_le_self _ h1) h2⟩
  have s0 := sb 0 (by omega) n0.2
  have s1 := sb 1 (by omega) n1.2
  have s2 := sb 2 (by omega) n2.2
  unfold er_shs
  rw [Int64.lt_iff_toInt_lt, er_z64, Int64.zero_add, er_addL (by rw [er_addL (by omega) (by omega)]; omega) (by rw [er_addL (by omega) (by omega)]; omega), er_addL (by omega) (by omega)]
  rcases hor with q | q | q <;> rw [q] at hb <;> omega
theorem er_at_eq {z : Nat} (h : 0 < er_shs X Y Q px py z) (v0 v1 v2 : Int32) : er_at X Y Q px py z v0 v1 v2 = er_atM X Y Q px py z v0 v1 v2 := by
  unfold er_at er_atM
  rw [← er_dd_down h]
  unfold er_shs
  rw [Int64.zero_add, Int64.zero_add]
theorem er_shs_ne {z : Nat} (h : 0 < er_shs X Y Q px py z) : ¬ er_shs X Y Q px py z = 0 := fun q => by
  rw [q] at h
  exact Int64.lt_irrefl h
end ErAt
theorem er_nx_eq {u n : Nat} {A B C D : Int32} (h : u < n → C = A ∧ D = B) : (if u < n then 65536 * B + A else -1).toInt64 = (if u < n then 65536 * D + C else -1).toInt64 := by
  by_cases q : u < n
  · rw [if_pos q, if_pos q, (h q).1, (h q).2]
  · rw [if_neg q, if_neg q]
theorem er_slot {xs : Nat → Int32} {i k L : Nat} {q : Int32} (hq : q = nI k) (h : i + k < L) (hL : L ≤ 3072) : vp_in (nI i + q) L ∧ xs (nI i + q).toNatClampNeg = xs (i + k) := by
  rw [hq, nI_add]
  exact ⟨vp_in_nI h (by omega), by rw [nI_clamp (by omega)]⟩
theorem er_gSW {own : String} {i : Nat} {y : MethodName} {w : Cond} (h1 : Cond.methodLink own i y ∈ er_big) (h2 : Cond.static y ∈ er_big) (h3 : Cond.initialized y.cls ∈ er_big) (h5 : w ∈ er_big) : GoodIn er_big ([.methodLink own i y, .static y, .initialized y.cls] ++ (w :: er_big)) :=
  er_gA (er_gB h5) (fun x hx => by
    simp only [List.mem_cons, List.not_mem_nil, or_false] at hx
    rcases hx with rfl | rfl | rfl <;> assumption)
