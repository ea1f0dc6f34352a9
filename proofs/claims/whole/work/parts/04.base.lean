-- CONTRACTS' STARTS AND ENDS: a world that is only read (PP), one that is written (PI), what is there behind (EI)
theorem er_hts {w : Cond} {args : Array Value} {s : State} (h : ∀ c ∈ w :: er_big, c.before args s = true) : ∀ c ∈ er_big, c.before args s = true := fun c hc => h c (List.mem_cons_of_mem _ hc)
theorem er_good : ∀ w ∈ er_big, (w.onTables && w.keeps) = true ∨ ∃ ty, w = .arrayClass ty := by
  have h : er_big.all goodWord = true := by decide +kernel
  exact fun w hw => good_of_word (List.all_eq_true.mp h w hw)
theorem er_gB {w : Cond} (h : w ∈ er_big) : GoodIn er_big (w :: er_big) := fun x hx => by
  rcases List.mem_cons.mp hx with rfl | hx
  · exact ⟨h, er_good _ h⟩
  · exact ⟨hx, er_good _ hx⟩
theorem er_gA {ws ws' : List Cond} (h : GoodIn er_big ws') (h' : ∀ w ∈ ws, w ∈ er_big) : GoodIn er_big (ws ++ ws') := fun x hx => by
  rcases List.mem_append.mp hx with hx | hx
  · exact ⟨h' x hx, er_good _ (h' x hx)⟩
  · exact h x hx
theorem er_gV {own C : String} {i : Nat} {y : MethodName} {w : Cond} (h1 : Cond.methodLink own i y ∈ er_big) (h2 : Cond.instanceMethod y ∈ er_big) (h3 : Cond.selects C y y ∈ er_big) (h4 : Cond.initialized C ∈ er_big) (h5 : w ∈ er_big) : GoodIn er_big (wsV own i C y (w :: er_big)) :=
  er_gA (er_gB h5) (fun x hx => by
    simp only [List.mem_cons, List.not_mem_nil, or_false] at hx
    rcases hx with rfl | rfl | rfl | rfl <;> assumption)
theorem er_gS {own : String} {i : Nat} {y : MethodName} {w : Cond} (h1 : Cond.methodLink own i y ∈ er_big) (h2 : Cond.static y ∈ er_big) (h3 : Cond.initialized y.cls ∈ er_big) (h5 : w ∈ er_big) : GoodIn er_big (va_wsS own i y (w :: er_big)) :=
  er_gA (er_gB h5) (fun x hx => by
    simp only [List.mem_cons, List.not_mem_nil, or_false] at hx
    rcases hx with rfl | rfl | rfl <;> assumption)
def er_N (U : State) : Prop := ∀ w ∈ er_nest, va_Nw w U
theorem er_N.call {U : State} {g : JFrame} {mk : MethodId} {a : Array Value} (h : er_N U) : er_N (U.calling g mk a) := fun w hw => va_Nw.same (u := U) (U := U.calling g mk a) (by
  have q : er_nest.all (fun w => w.onTables) = true := by decide +kernel
  exact List.all_eq_true.mp q w hw) rfl (h w hw)
def er_isNest : Cond → Bool
  | .fieldLinkNest .. => true
  | .methodLinkNest .. => true
  | _ => false
theorem er_N.warm {s U : State} (hW : s.WarmedH U.vm) (h : er_N s) : er_N U := fun w hw => by
  have q : er_nest.all er_isNest = true := by decide +kernel
  have q1 := List.all_eq_true.mp q w hw
  have q2 := h w hw
  cases w <;> first | exact va_Nw.warmF hW q2 | exact va_Nw.warmM hW q2 | (simp [er_isNest] at q1)
def PP (dC : Nat → ClassId) (dI : Nat → Nat → Nat) (tys : List (ClassId × FieldType)) (ws : va_W) (U : State) : Prop := er_N U ∧ va_K (dC, dI) classes tys U ∧ va_P (dC, dI) classes ws U.heap
def PI (dC : Nat → ClassId) (dI : Nat → Nat → Nat) (tys : List (ClassId × FieldType)) (ws : va_W) (sz : Nat) (U : State) : Prop := U.heap.size = sz ∧ er_N U ∧ va_K (dC, dI) classes tys U ∧ va_P (dC, dI) classes ws U.heap ∧ va_D (fun _ => True) ws
def EI (dC : Nat → ClassId) (dI : Nat → Nat → Nat) (tys : List (ClassId × FieldType)) (ws : va_W) (A : Nat → Prop) (t : State) : Prop := va_P (dC, dI) classes ws t.heap ∧ va_K (dC, dI) classes tys t ∧ va_D A ws
theorem PP.blind {av : List Value} {dC : Nat → ClassId} {dI : Nat → Nat → Nat} {tys : List (ClassId × FieldType)} {ws : va_W} : FrameBlind (va_Pc av (PP dC dI tys ws)) :=
  fun a U g mk q => ⟨q.1, q.2.1.call, va_K.moved (u := U) (U := U.calling g mk a) (Vm.Alike.refl U.vm) q.2.2.1, q.2.2.2⟩
theorem PP.at {s : State} {H : Heap} {av : List Value} {dC : Nat → ClassId} {dI : Nat → Nat → Nat} {tys : List (ClassId × FieldType)} {ws : va_W} (hN : er_N s) (hK : va_K (dC, dI) classes tys s) (hP : va_P (dC, dI) classes ws H) :
    ∀ U : State, U.heap = H → s.WarmedH U.vm → va_Pc av (PP dC dI tys ws) av.toArray U := fun U hU hW => ⟨rfl, hN.warm hW, va_K.moved hW.alike hK, by rw [hU]; exact hP⟩
theorem PI.blind {av : List Value} {dC : Nat → ClassId} {dI : Nat → Nat → Nat} {tys : List (ClassId × FieldType)} {ws : va_W} {sz : Nat} : FrameBlind (va_Pc av (PI dC dI tys ws sz)) :=
  fun a U g mk q => ⟨q.1, q.2.1, q.2.2.1.call, va_K.moved (u := U) (U := U.calling g mk a) (Vm.Alike.refl U.vm) q.2.2.2.1, q.2.2.2.2⟩
theorem PI.at {s : State} {H : Heap} {av : List Value} {dC : Nat → ClassId} {dI : Nat → Nat → Nat} {tys : List (ClassId × FieldType)} {ws : va_W} {A : Nat → Prop} (hN : er_N s) (hK : va_K (dC, dI) classes tys s) (hP : va_P (dC, dI) classes ws H) (hD : va_D A ws) :
    ∀ U : State, U.heap = H → s.WarmedH U.vm → va_Pc av (PI dC dI tys ws H.size) av.toArray U := fun U hU hW => ⟨rfl, by rw [hU], hN.warm hW, va_K.moved hW.alike hK, by rw [hU]; exact hP, hD.weaken (fun _ _ _ _ => trivial)⟩
-- small facts that the walks' ends ask
def er_win (p lo hi : Int32) : Bool := decide (¬ p < lo ∧ ¬ hi < p)
theorem er_adm0 {x y : Int64} (h : x < y) : (0 : Int32) = er_b (decide (y ≤ x)) := by
  rw [decide_eq_false (lg_lt_not_le h)]; rfl
theorem er_adm1 {x y : Int64} (h : ¬ x < y) : (1 : Int32) = er_b (decide (y ≤ x)) := by
  rw [decide_eq_true (Int64.not_lt.mp h)]; rfl
section ErCov
variable {X Y : Nat → Int32} {px py : Int32}
theorem er_c0 (h : er_ar X Y = 0) : (0 : Int32) = er_b (er_cov X Y px py) := by simp [er_cov, er_covj, h, er_b]
theorem er_cz {j : Nat} (h : decide ((er_lw (er_ea X Y j) (er_ed X Y j)).toInt64 ≤ er_wt (er_ex X Y j) (er_ey X Y j) (er_ea X Y j) (er_ed X Y j) px py) = false) : er_in X Y j px py = false := by
  rw [er_W_wt] at h
  cases q : er_in X Y j px py with
  | false => rfl
  | true => rw [decide_eq_true ((er_lw_in X Y j px py).mpr q)] at h; cases h
theorem er_co {j : Nat} (h : decide ((er_lw (er_ea X Y j) (er_ed X Y j)).toInt64 ≤ er_wt (er_ex X Y j) (er_ey X Y j) (er_ea X Y j) (er_ed X Y j) px py) = true) : er_in X Y j px py = true := by
  rw [er_W_wt] at h
  exact (er_lw_in X Y j px py).mp (of_decide_eq_true h)
theorem er_c1 (h : decide ((er_lw (er_ea X Y 0) (er_ed X Y 0)).toInt64 ≤ er_wt (er_ex X Y 0) (er_ey X Y 0) (er_ea X Y 0) (er_ed X Y 0) px py) = false) : (0 : Int32) = er_b (er_cov X Y px py) := by simp [er_cov, er_covj, er_cz h, er_b]
theorem er_c2 (h : decide ((er_lw (er_ea X Y 1) (er_ed X Y 1)).toInt64 ≤ er_wt (er_ex X Y 1) (er_ey X Y 1) (er_ea X Y 1) (er_ed X Y 1) px py) = false) : (0 : Int32) = er_b (er_cov X Y px py) := by simp [er_cov, er_covj, er_cz h, er_b]
theorem er_c3 (h : decide ((er_lw (er_ea X Y 2) (er_ed X Y 2)).toInt64 ≤ er_wt (er_ex X Y 2) (er_ey X Y 2) (er_ea X Y 2) (er_ed X Y 2) px py) = false) : (0 : Int32) = er_b (er_cov X Y px py) := by simp [er_cov, er_covj, er_cz h, er_b]
theorem er_c4 (h : ¬ er_ar X Y = 0) (h0 : decide ((er_lw (er_ea X Y 0) (er_ed X Y 0)).toInt64 ≤ er_wt (er_ex X Y 0) (er_ey X Y 0) (er_ea X Y 0) (er_ed X Y 0) px py) = true) (h1 : decide ((er_lw (er_ea X Y 1) (er_ed X Y 1)).toInt64 ≤ er_wt (er_ex X Y 1) (er_ey X Y 1) (er_ea X Y 1) (er_ed X Y 1) px py) = true)
    (h2 : decide ((er_lw (er_ea X Y 2) (er_ed X Y 2)).toInt64 ≤ er_wt (er_ex X Y 2) (er_ey X Y 2) (er_ea X Y 2) (er_ed X Y 2) px py) = true) : (1 : Int32) = er_b (er_cov X Y px py) := by simp [er_cov, er_covj, h, er_co h0, er_co h1, er_co h2, er_b]
end ErCov
theorem er_mod3 {j k : Nat} (h : j + k < 100) : nI j + nI k - (nI j + nI k) / nI 3 * nI 3 = nI ((j + k) % 3) := by rw [nI_add, pk_rem (by omega) (by decide) (by decide)]
theorem er_fr_ok2 {X Y : Nat → Int32} {j : Nat} (hj : j < 3) (h : ¬ 0 ≤ er_ar X Y) : nI j + 2 - (nI j + 2) / 3 * 3 = nI (er_fr X Y j) := by
  rw [er_fr, if_pos (Int64.not_le.mp h)]; exact er_mod3 (k := 2) (by omega)
theorem er_fr_ok1 {X Y : Nat → Int32} {j : Nat} (hj : j < 3) (h : 0 ≤ er_ar X Y) : nI j + 1 - (nI j + 1) / 3 * 3 = nI (er_fr X Y j) := by
  rw [er_fr, if_neg (Int64.not_lt.mpr h)]; exact er_mod3 (k := 1) (by omega)
theorem er_to_ok1 {X Y : Nat → Int32} {j : Nat} (hj : j < 3) (h : ¬ 0 ≤ er_ar X Y) : nI j + 1 - (nI j + 1) / 3 * 3 = nI (er_to X Y j) := by
  rw [er_to, if_pos (Int64.not_le.mp h)]; exact er_mod3 (k := 1) (by omega)
theorem er_to_ok2 {X Y : Nat → Int32} {j : Nat} (hj : j < 3) (h : 0 ≤ er_ar X Y) : nI j + 2 - (nI j + 2) / 3 * 3 = nI (er_to X Y j) := by
  rw [er_to, if_neg (Int64.not_lt.mpr h)]; exact er_mod3 (k := 2) (by omega)
theorem er_le {a b : Nat} (h : nI a ≤ nI b) (ha : a < 2 ^ 31) (hb : b < 2 ^ 31) : a ≤ b := (nI_leI ha hb).mp h
theorem er_nle {a b : Nat} (h : ¬ nI a ≤ nI b) (ha : a < 2 ^ 31) (hb : b < 2 ^ 31) : b < a := Nat.lt_of_not_le fun q => h ((nI_leI ha hb).mpr q)
theorem er_lt {a b : Nat} (h : nI a < nI b) (ha : a < 2 ^ 31) (hb : b < 2 ^ 31) : a < b := (nI_ltI ha hb).mp h
theorem er_nlt {a b : Nat} (h : ¬ nI a < nI b) (ha : a < 2 ^ 31) (hb : b < 2 ^ 31) : b ≤ a := Nat.le_of_not_lt fun q => h ((nI_ltI ha hb).mpr q)
theorem er_cvF {X Y : Nat → Int32} {px py : Int32} {j : Nat} (h : j ≤ 3) (hf : er_covj X Y px py j = false) : er_b (er_covj X Y px py j) = er_b (er_cov X Y px py) := by
  have m : ∀ d, er_covj X Y px py (j + d) = false := by
    intro d
    induction d with
    | zero => exact hf
    | succ d ih => show (er_covj X Y px py (j + d) && _) = false; rw [ih]; rfl
  have := m (3 - j)
  rw [show j + (3 - j) = 3 by omega] at this
  rw [er_cov, hf, this]
theorem er_own_ok {dx dy v : Int32} (h : (v = 1 ∧ ((dy = 0 ∧ 0 < dx) ∨ ¬ 0 ≤ dy)) ∨ (v = 0 ∧ (¬ dy = 0 ∨ ¬ 0 < dx) ∧ 0 ≤ dy)) : v = er_b (er_own dx dy) := by
  unfold er_own er_b
  rcases h with ⟨rfl, h⟩ | ⟨rfl, h, h2⟩
  · rw [decide_eq_true (by rcases h with h | h; exact Or.inl h; exact Or.inr (Int32.not_le.mp h))]; rfl
  · rw [decide_eq_false (by rintro (q | q); rcases h with h | h; exact h q.1; exact h q.2; exact Int32.not_lt.mpr h2 q)]; rfl
theorem er_dw0 {a b : Int64} (h : (a - a / b * b) = 0) : a / b - 0 = er_down a b := by
  unfold er_down; rw [if_neg (fun q => q.1 h)]
theorem er_dw1 {a b : Int64} (h : 0 ≤ a) : a / b - 0 = er_down a b := by
  unfold er_down; rw [if_neg (fun q => lg_lt_not_le q.2 h)]
theorem er_dw2 {a b : Int64} (h : ¬ (a - a / b * b) = 0) (h2 : ¬ 0 ≤ a) : a / b - 1 = er_down a b := by
  unfold er_down; rw [if_pos ⟨h, Int64.not_le.mp h2⟩]
def er_dd (a b : Int64) : Int64 := if 0 < b then er_fd a b else 0
theorem er_dd0 {a b : Int64} (h : b ≤ 0) : 0 = er_dd a b := by unfold er_dd; rw [if_neg (lg_le_not_lt h)]
theorem er_dd1 {a b : Int64} (h : ¬ b ≤ 0) : er_fd a b = er_dd a b := by unfold er_dd; rw [if_pos (Int64.not_le.mp h)]
theorem er_ne0 {b : Int64} (h : ¬ b ≤ 0) : ¬ b = 0 := fun q => h (by rw [q]; decide)
theorem er_fd0 {x y : Int64} (h : 0 ≤ x ^^^ y) : x / y = er_fd x y := by unfold er_fd; rw [if_neg (fun q => lg_lt_not_le q.1 h)]
theorem er_fd1 {x y : Int64} (h : x / y * y = x) : x / y = er_fd x y := by unfold er_fd; rw [if_neg (fun q => q.2 h)]
theorem er_fd2 {x y : Int64} (h : ¬ 0 ≤ x ^^^ y) (h2 : ¬ x / y * y = x) : x / y - 1 = er_fd x y := by unfold er_fd; rw [if_pos ⟨Int64.not_le.mp h, h2⟩]
theorem er_sh_step {g : Int64} {n : Nat} (h : n ≤ 34) (hn : ¬ er_sh g n < 536870912) : n + 1 ≤ 34 := by
  rcases Nat.lt_or_ge n 34 with q | q
  · omega
  · exact absurd (show er_sh g n < 536870912 by rw [show n = 34 by omega]; exact er_sh_34 g) hn
theorem er_win_nI {n k : Nat} (h : n ≤ k) (hk : k < 2 ^ 31) : er_win (nI n) 0 (nI k) = true := by
  unfold er_win
  exact decide_eq_true ⟨nI_pos (by omega), nI_nlt h (by omega)⟩
def er_abs (x : Int64) : Int64 := if 0 < x then x else -x
def er_mx (x y : Int64) : Int64 := if y < x then x else y
def er_ds (X Y D : Nat → Int32) (px py : Int32) : Int64 := er_W X Y 0 px py * (D 0).toInt64 + er_W X Y 1 px py * (D 1).toInt64 + er_W X Y 2 px py * (D 2).toInt64
def er_nr (X Y Q : Nat → Int32) (px py : Int32) (j : Nat) : Int64 := er_W X Y j px py * (Q j).toInt64
def er_m3 (X Y Q : Nat → Int32) (px py : Int32) : Int64 := er_mx (er_nr X Y Q px py 0) (er_mx (er_nr X Y Q px py 1) (er_nr X Y Q px py 2))
def er_at (X Y Q : Nat → Int32) (px py : Int32) (z : Nat) (v0 v1 v2 : Int32) : Int32 :=
  (er_dd (er_sh (er_nr X Y Q px py 0) z * v0.toInt64 + er_sh (er_nr X Y Q px py 1) z * v1.toInt64 + er_sh (er_nr X Y Q px py 2) z * v2.toInt64) (er_sh (er_nr X Y Q px py 0) z + er_sh (er_nr X Y Q px py 1) z + er_sh (er_nr X Y Q px py 2) z)).toInt32
theorem er_f_at {X Y : Nat → Int32} {a b c i j : Nat} {v : Bool} (h : i < c) (q : er_cov X Y (nI (a + i)) (nI (b + j)) = v) : er_f X Y a b c (j * c + i) = v := by
  unfold er_f er_px er_py; rw [er_kx h, er_ky h]; exact q
theorem er_cnt_t {f : Nat → Bool} {k : Nat} (h : f k = true) : nI (er_cnt f k) + 1 = nI (er_cnt f (k + 1)) := by
  rw [nI_1, show er_cnt f (k + 1) = er_cnt f k + (if f k = true then 1 else 0) from rfl, if_pos h]
theorem er_cnt_f {f : Nat → Bool} {k : Nat} (h : f k = false) : nI (er_cnt f k) = nI (er_cnt f (k + 1)) := by
  rw [show er_cnt f (k + 1) = er_cnt f k + (if f k = true then 1 else 0) from rfl, if_neg (by rw [h]; decide), Nat.add_zero]
theorem er_lw0 {dx dy : Int32} (h : (dy = 0 ∧ ¬ dx ≤ 0) ∨ ¬ 0 ≤ dy) : er_lw dx dy = 0 := by
  unfold er_lw er_own
  rw [if_pos (decide_eq_true (by rcases h with h | h; exact Or.inl ⟨h.1, Int32.not_le.mp h.2⟩; exact Or.inr (Int32.not_le.mp h)))]
theorem er_lw1 {dx dy : Int32} (h : (¬ dy = 0 ∨ dx ≤ 0) ∧ 0 ≤ dy) : er_lw dx dy = 1 := by
  unfold er_lw er_own
  rw [if_neg]
  intro q
  rcases of_decide_eq_true q with q | q
  · rcases h.1 with h | h
    · exact h q.1
    · exact Int32.not_lt.mpr h q.2
  · exact Int32.not_lt.mpr h.2 q
theorem er_ar_c (X Y : Nat → Int32) : (X 1 - X 0).toInt64 * (Y 2 - Y 0).toInt64 - (X 2 - X 0).toInt64 * (Y 1 - Y 0).toInt64 = er_ar X Y := by
  unfold er_ar er_room; rw [Int64.mul_comm (X 2 - X 0).toInt64]
theorem er_etfr_0 {X Y : Nat → Int32} (h : ¬ 0 ≤ er_ar X Y) : er_fr X Y 0 = 2 := by unfold er_fr; rw [if_pos (Int64.not_le.mp h)]
theorem er_etto_0 {X Y : Nat → Int32} (h : ¬ 0 ≤ er_ar X Y) : er_to X Y 0 = 1 := by unfold er_to; rw [if_pos (Int64.not_le.mp h)]
theorem er_etx_0 {X Y : Nat → Int32} (h : ¬ 0 ≤ er_ar X Y) : er_ex X Y 0 = X 2 := by unfold er_ex; rw [er_etfr_0 h]
theorem er_ety_0 {X Y : Nat → Int32} (h : ¬ 0 ≤ er_ar X Y) : er_ey X Y 0 = Y 2 := by unfold er_ey; rw [er_etfr_0 h]
theorem er_eta_0 {X Y : Nat → Int32} (h : ¬ 0 ≤ er_ar X Y) : er_ea X Y 0 = X 1 - X 2 := by unfold er_ea; rw [er_etfr_0 h, er_etto_0 h]
theorem er_etd_0 {X Y : Nat → Int32} (h : ¬ 0 ≤ er_ar X Y) : er_ed X Y 0 = Y 1 - Y 2 := by unfold er_ed; rw [er_etfr_0 h, er_etto_0 h]
theorem er_etfr_1 {X Y : Nat → Int32} (h : ¬ 0 ≤ er_ar X Y) : er_fr X Y 1 = 0 := by unfold er_fr; rw [if_pos (Int64.not_le.mp h)]
theorem er_etto_1 {X Y : Nat → Int32} (h : ¬ 0 ≤ er_ar X Y) : er_to X Y 1 = 2 := by unfold er_to; rw [if_pos (Int64.not_le.mp h)]
theorem er_etx_1 {X Y : Nat → Int32} (h : ¬ 0 ≤ er_ar X Y) : er_ex X Y 1 = X 0 := by unfold er_ex; rw [er_etfr_1 h]
theorem er_ety_1 {X Y : Nat → Int32} (h : ¬ 0 ≤ er_ar X Y) : er_ey X Y 1 = Y 0 := by unfold er_ey; rw [er_etfr_1 h]
theorem er_eta_1 {X Y : Nat → Int32} (h : ¬ 0 ≤ er_ar X Y) : er_ea X Y 1 = X 2 - X 0 := by unfold er_ea; rw [er_etfr_1 h, er_etto_1 h]
theorem er_etd_1 {X Y : Nat → Int32} (h : ¬ 0 ≤ er_ar X Y) : er_ed X Y 1 = Y 2 - Y 0 := by unfold er_ed; rw [er_etfr_1 h, er_etto_1 h]
theorem er_etfr_2 {X Y : Nat → Int32} (h : ¬ 0 ≤ er_ar X Y) : er_fr X Y 2 = 1 := by unfold er_fr; rw [if_pos (Int64.not_le.mp h)]
theorem er_etto_2 {X Y : Nat → Int32} (h : ¬ 0 ≤ er_ar X Y) : er_to X Y 2 = 0 := by unfold er_to; rw [if_pos (Int64.not_le.mp h)]
theorem er_etx_2 {X Y : Nat → Int32} (h : ¬ 0 ≤ er_ar X Y) : er_ex X Y 2 = X 1 := by unfold er_ex; rw [er_etfr_2 h]
theorem er_ety_2 {X Y : Nat → Int32} (h : ¬ 0 ≤ er_ar X Y) : er_ey X Y 2 = Y 1 := by unfold er_ey; rw [er_etfr_2 h]
theorem er_eta_2 {X Y : Nat → Int32} (h : ¬ 0 ≤ er_ar X Y) : er_ea X Y 2 = X 0 - X 1 := by unfold er_ea; rw [er_etfr_2 h, er_etto_2 h]
theorem er_etd_2 {X Y : Nat → Int32} (h : ¬ 0 ≤ er_ar X Y) : er_ed X Y 2 = Y 0 - Y 1 := by unfold er_ed; rw [er_etfr_2 h, er_etto_2 h]
theorem er_enfr_0 {X Y : Nat → Int32} (h : 0 ≤ er_ar X Y) : er_fr X Y 0 = 1 := by unfold er_fr; rw [if_neg (Int64.not_lt.mpr h)]
theorem er_ento_0 {X Y : Nat → Int32} (h : 0 ≤ er_ar X Y) : er_to X Y 0 = 2 := by unfold er_to; rw [if_neg (Int64.not_lt.mpr h)]
theorem er_enx_0 {X Y : Nat → Int32} (h : 0 ≤ er_ar X Y) : er_ex X Y 0 = X 1 := by unfold er_ex; rw [er_enfr_0 h]
theorem er_eny_0 {X Y : Nat → Int32} (h : 0 ≤ er_ar X Y) : er_ey X Y 0 = Y 1 := by unfold er_ey; rw [er_enfr_0 h]
theorem er_ena_0 {X Y : Nat → Int32} (h : 0 ≤ er_ar X Y) : er_ea X Y 0 = X 2 - X 1 := by unfold er_ea; rw [er_enfr_0 h, er_ento_0 h]
theorem er_end_0 {X Y : Nat → Int32} (h : 0 ≤ er_ar X Y) : er_ed X Y 0 = Y 2 - Y 1 := by unfold er_ed; rw [er_enfr_0 h, er_ento_0 h]
theorem er_enfr_1 {X Y : Nat → Int32} (h : 0 ≤ er_ar X Y) : er_fr X Y 1 = 2 := by unfold er_fr; rw [if_neg (Int64.not_lt.mpr h)]
theorem er_ento_1 {X Y : Nat → Int32} (h : 0 ≤ er_ar X Y) : er_to X Y 1 = 0 := by unfold er_to; rw [if_neg (Int64.not_lt.mpr h)]
theorem er_enx_1 {X Y : Nat → Int32} (h : 0 ≤ er_ar X Y) : er_ex X Y 1 = X 2 := by unfold er_ex; rw [er_enfr_1 h]
theorem er_eny_1 {X Y : Nat → Int32} (h : 0 ≤ er_ar X Y) : er_ey X Y 1 = Y 2 := by unfold er_ey; rw [er_enfr_1 h]
theorem er_ena_1 {X Y : Nat → Int32} (h : 0 ≤ er_ar X Y) : er_ea X Y 1 = X 0 - X 2 := by unfold er_ea; rw [er_enfr_1 h, er_ento_1 h]
theorem er_end_1 {X Y : Nat → Int32} (h : 0 ≤ er_ar X Y) : er_ed X Y 1 = Y 0 - Y 2 := by unfold er_ed; rw [er_enfr_1 h, er_ento_1 h]
theorem er_enfr_2 {X Y : Nat → Int32} (h : 0 ≤ er_ar X Y) : er_fr X Y 2 = 0 := by unfold er_fr; rw [if_neg (Int64.not_lt.mpr h)]
theorem er_ento_2 {X Y : Nat → Int32} (h : 0 ≤ er_ar X Y) : er_to X Y 2 = 1 := by unfold er_to; rw [if_neg (Int64.not_lt.mpr h)]
theorem er_enx_2 {X Y : Nat → Int32} (h : 0 ≤ er_ar X Y) : er_ex X Y 2 = X 0 := by unfold er_ex; rw [er_enfr_2 h]
theorem er_eny_2 {X Y : Nat → Int32} (h : 0 ≤ er_ar X Y) : er_ey X Y 2 = Y 0 := by unfold er_ey; rw [er_enfr_2 h]
theorem er_ena_2 {X Y : Nat → Int32} (h : 0 ≤ er_ar X Y) : er_ea X Y 2 = X 1 - X 0 := by unfold er_ea; rw [er_enfr_2 h, er_ento_2 h]
theorem er_end_2 {X Y : Nat → Int32} (h : 0 ≤ er_ar X Y) : er_ed X Y 2 = Y 1 - Y 0 := by unfold er_ed; rw [er_enfr_2 h, er_ento_2 h]
theorem er_pxa {a c i j : Nat} (h : i < c) : er_px a c (j * c + i) = nI (a + i) := by unfold er_px; rw [er_kx h]
theorem er_pya {b c i j : Nat} (h : i < c) : er_py b c (j * c + i) = nI (b + j) := by unfold er_py; rw [er_ky h]
theorem er_idx {c d i j : Nat} (hj : j < d) (hi : i < c) : j * c + i < d * c := by
  have h1 : (j + 1) * c ≤ d * c := Nat.mul_le_mul_right c hj
  rw [Nat.succ_mul] at h1
  omega
section ErScan
variable {X Y : Nat → Int32} {a b c d i j k y t z : Nat}
theorem er_k9 (h : (j < d ∧ k = j * c + i) ∨ (j = d ∧ k = d * c)) (hi : i ≤ c) : k ≤ d * c := by
  rcases h with ⟨h1, rfl⟩ | ⟨-, rfl⟩
  · have h2 : (j + 1) * c ≤ d * c := Nat.mul_le_mul_right c h1
    rw [Nat.succ_mul] at h2
    omega
  · exact Nat.le_refl _
theorem er_row0 (h : (j < d ∧ k = j * c + i) ∨ (j = d ∧ k = d * c)) : (j < d → k ≤ j * c + i ∧ ∀ z, k ≤ z → z < j * c + i → er_f X Y a b c z = false) ∧ (j = d → ∀ z, k ≤ z → z < d * c → er_f X Y a b c z = false) := by
  rcases h with ⟨h1, rfl⟩ | ⟨rfl, rfl⟩
  · exact ⟨fun _ => ⟨Nat.le_refl _, fun z q1 q2 => absurd q2 (by omega)⟩, fun q => absurd q (by omega)⟩
  · exact ⟨fun q => absurd q (Nat.lt_irrefl _), fun _ z q1 q2 => absurd q2 (by omega)⟩
theorem er_rowz (hz : er_next (fun q => er_cov X Y (nI (a + q)) (nI (b + y))) c t z) {w : Nat} (h1 : y * c + t ≤ w) (h2 : w < y * c + z) : er_f X Y a b c w = false := by
  obtain ⟨q, rfl⟩ : ∃ q, w = y * c + q := ⟨w - y * c, by omega⟩
  have hzc := hz.2.1
  exact er_f_at (by omega) (hz.2.2.1 q (by omega) (by omega))
theorem er_row (h : (y < d → k ≤ y * c + t ∧ ∀ z, k ≤ z → z < y * c + t → er_f X Y a b c z = false) ∧ (y = d → ∀ z, k ≤ z → z < d * c → er_f X Y a b c z = false)) (hy : y < d) (hz : er_next (fun q => er_cov X Y (nI (a + q)) (nI (b + y))) c t z) (hc : a + c ≤ a + z) :
    (y + 1 < d → k ≤ (y + 1) * c + 0 ∧ ∀ z, k ≤ z → z < (y + 1) * c + 0 → er_f X Y a b c z = false) ∧ (y + 1 = d → ∀ z, k ≤ z → z < d * c → er_f X Y a b c z = false) := by
  have h1 := h.1 hy
  have hz2 := hz.1
  have key : ∀ w, k ≤ w → w < (y + 1) * c → er_f X Y a b c w = false := by
    intro w q1 q2
    rw [Nat.succ_mul] at q2
    rcases Nat.lt_or_ge w (y * c + t) with q | q
    · exact h1.2 w q1 q
    · exact er_rowz hz q (by omega)
  refine ⟨fun _ => ⟨?_, fun w q1 q2 => key w q1 (by omega)⟩, fun e w q1 q2 => key w q1 (by rw [e]; exact q2)⟩
  have := h1.1
  rw [Nat.succ_mul]
  have := hz.2.1
  omega
theorem er_found (h : (y < d → k ≤ y * c + t ∧ ∀ z, k ≤ z → z < y * c + t → er_f X Y a b c z = false) ∧ (y = d → ∀ z, k ≤ z → z < d * c → er_f X Y a b c z = false)) (hy : y < d) (hz : er_next (fun q => er_cov X Y (nI (a + q)) (nI (b + y))) c t z) (hc : z < c) :
    er_next (er_f X Y a b c) (d * c) k (y * c + z) := by
  have h1 := h.1 hy
  have hz2 := hz.1
  refine ⟨by omega, Nat.le_of_lt (er_idx hy hc), fun w q1 q2 => ?_, fun _ => er_f_at hc (hz.2.2.2 hc)⟩
  rcases Nat.lt_or_ge w (y * c + t) with q | q
  · exact h1.2 w q1 q
  · exact er_rowz hz q q2
theorem er_none (hk : k ≤ d * c) (h : (y < d → k ≤ y * c + t ∧ ∀ z, k ≤ z → z < y * c + t → er_f X Y a b c z = false) ∧ (y = d → ∀ z, k ≤ z → z < d * c → er_f X Y a b c z = false)) (hy : y = d) : er_next (er_f X Y a b c) (d * c) k (d * c) :=
  ⟨hk, Nat.le_refl _, h.2 hy, fun q => absurd q (Nat.lt_irrefl _)⟩
end ErScan
def er_th (f g : Bool) : Int32 := if f = true then 1 else if g = true then 2 else 0
theorem er_ix28 (j n : Nat) : 28 * nI j + nI n = nI (28 * j + n) := by
  rw [show (28 : Int32) = nI 28 from rfl, pk_mul, nI_add]
theorem er_pxm {a t c : Nat} (h0 : 0 < c) (hc : c < 2 ^ 31) (ht : t < 2 ^ 31) : nI a + (nI t - nI t / nI c * nI c) = er_px a c t := by
  rw [pk_rem ht h0 hc, nI_add]; rfl
theorem er_pym {b t c : Nat} (h0 : 0 < c) (hc : c < 2 ^ 31) (ht : t < 2 ^ 31) : nI b + nI t / nI c = er_py b c t := by
  rw [pk_div ht h0 hc, nI_add]; rfl
theorem er_gen {H : Heap} {locs : List Loc} {P : Heap → Prop} {S G : Heap → List Loc → Prop} (hP : P H) (hS : S H locs) (k : ∀ (H : Heap) (locs : List Loc), P H → S H locs → G H locs) : G H locs := k H locs hP hS
/-- the reference's search: it has looked at the places below t; if the last of them is covered, it is the one -/
def er_S (X Y : Nat → Int32) (a b c n k t : Nat) (cv : Bool) (mx my : Int32) : Prop :=
  (cv = false ∧ ∀ z, k ≤ z → z < t → er_f X Y a b c z = false) ∨ (cv = true ∧ ∃ u, t = u + 1 ∧ u < n ∧ er_next (er_f X Y a b c) n k u ∧ mx = er_px a c u ∧ my = er_py b c u)
section ErS
variable {X Y : Nat → Int32} {a b c n k t : Nat} {cv : Bool} {mx my : Int32}
theorem er_S_t (h : cv = true) (hs : er_S X Y a b c n k t cv mx my) : ∃ u, t = u + 1 ∧ u < n ∧ er_next (er_f X Y a b c) n k u ∧ mx = er_px a c u ∧ my = er_py b c u := by
  rcases hs with ⟨q, -⟩ | ⟨-, q⟩
  · rw [h] at q; cases q
  · exact q
theorem er_S_f (h : cv = false) (hs : er_S X Y a b c n k t cv mx my) (hk : k ≤ n) (ht : n ≤ t) : er_next (er_f X Y a b c) n k n := by
  rcases hs with ⟨-, q⟩ | ⟨q, -⟩
  · exact ⟨hk, Nat.le_refl _, fun z q1 q2 => q z q1 (by omega), fun z => absurd z (Nat.lt_irrefl _)⟩
  · rw [h] at q; cases q
theorem er_S_step (h : cv = false) (hs : er_S X Y a b c n k t cv mx my) (ht : t < n) (hkt : k ≤ t) : er_S X Y a b c n k (t + 1) (er_f X Y a b c t) (er_px a c t) (er_py b c t) := by
  rcases hs with ⟨-, q⟩ | ⟨q, -⟩
  · cases e : er_f X Y a b c t with
    | false => exact Or.inl ⟨rfl, fun z q1 q2 => by rcases Nat.lt_or_ge z t with w | w; exact q z q1 w; rw [show z = t by omega]; exact e⟩
    | true => exact Or.inr ⟨rfl, t, rfl, ht, ⟨hkt, Nat.le_of_lt ht, q, fun _ => e⟩, rfl, rfl⟩
  · rw [h] at q; cases q
end ErS
theorem er_b_fit (b : Bool) : fits .boolean (.int (er_b b)) = true := by cases b <;> rfl
