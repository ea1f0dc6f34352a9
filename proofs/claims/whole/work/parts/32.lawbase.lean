-- THE LAW: what holds between class and reference at its loop's head
def er_ok (X Y Q Vm f0 f1 f2 : Nat → Int32) (a b c9 d : Nat) : Prop :=
  er_BX X ∧ er_BX Y ∧ (∀ j, j < 3 → 1 ≤ (Q j).toInt ∧ (Q j).toInt ≤ 8388608) ∧ (∀ n, n < 28 → f0 n = Vm n ∧ f1 n = Vm (28 + n) ∧ f2 n = Vm (56 + n)) ∧ a ≤ 1023 ∧ b ≤ 1023 ∧ (1 ≤ c9 ∧ c9 ≤ 64) ∧ (1 ≤ d ∧ d ≤ 64)
/-- where a walk stands: the class's last place and the reference's count -/
def er_wk (a b c9 d : Nat) (lx ly lk : Int32) : Prop := ∃ i j k9 : Nat, lk = nI k9 ∧ lx + 1 = nI (a + i) ∧ ly = nI (b + j) ∧ i ≤ c9 ∧ ((j < d ∧ k9 = j * c9 + i) ∨ (j = d ∧ k9 = d * c9))
def er_pl (X Y : Nat → Int32) (lx ly mx my : Int32) : Prop := lx = mx ∧ ly = my ∧ er_cov X Y lx ly = true ∧ (0 ≤ lx.toInt ∧ lx.toInt ≤ 1100) ∧ (0 ≤ ly.toInt ∧ ly.toInt ≤ 1100)
def er_I (X Y Q Vm f0 f1 f2 : Nat → Int32) (a b c9 d : Nat) (wk cv : Bool) (lx ly mx my lk : Int32) : Prop :=
  er_ok X Y Q Vm f0 f1 f2 a b c9 d ∧ (wk = true → er_wk a b c9 d lx ly lk) ∧ ((wk && cv) = true → er_pl X Y lx ly mx my)
theorem er_toIntN {k : Nat} (h : k < 2 ^ 31) : (nI k).toInt = (k : Int) := nI_toInt h
theorem er_win_of {p : Int32} {k : Nat} (hk : k < 2 ^ 31) (h : er_win p 0 (nI k) = true) : ∃ n, n ≤ k ∧ p = nI n := by
  have h2 := of_decide_eq_true h
  exact nI_of2 (nI_toInt hk) h2.1 (Int32.not_lt.mp h2.2)
theorem er_win_of1 {p : Int32} {k : Nat} (hk : k < 2 ^ 31) (h : er_win p 1 (nI k) = true) : ∃ n, 1 ≤ n ∧ n ≤ k ∧ p = nI n := by
  have h2 := of_decide_eq_true h
  have h3 : ¬ p < 0 := fun q => h2.1 (by
    rw [Int32.lt_iff_toInt_lt] at q ⊢
    have e0 : (0 : Int32).toInt = 0 := by decide
    have e1 : (1 : Int32).toInt = 1 := by decide
    omega)
  obtain ⟨n, hn, rfl⟩ := nI_of2 (nI_toInt hk) h3 (Int32.not_lt.mp h2.2)
  refine ⟨n, ?_, hn, rfl⟩
  rcases Nat.lt_or_ge n 1 with q | q
  · exact absurd (show nI n < 1 by rw [show n = 0 by omega]; decide) h2.1
  · exact q
theorem er_win_in {p lo hi : Int32} (h : er_win p lo hi = true) : lo.toInt ≤ p.toInt ∧ p.toInt ≤ hi.toInt := by
  have h2 := of_decide_eq_true h
  exact ⟨Int32.le_iff_toInt_le.mp (Int32.not_lt.mp h2.1), Int32.le_iff_toInt_le.mp (Int32.not_lt.mp h2.2)⟩
theorem er_BX_upd {X : Nat → Int32} {j : Nat} {p : Int32} (h : er_BX X) (hp : er_win p (-16384) 16383 = true) : er_BX (upd X j p) := by
  intro q hq
  have h2 := er_win_in hp
  have e1 : (-16384 : Int32).toInt = -16384 := by decide
  have e2 : (16383 : Int32).toInt = 16383 := by decide
  rw [e1, e2] at h2
  by_cases e : q = j
  · rw [e, pk_us]; exact h2
  · rw [pk_un e]; exact h q hq
section ErInv
variable {X Y D Q Vm f0 f1 f2 : Nat → Int32} {a b c9 d : Nat} {wk cv : Bool} {lx ly mx my lk : Int32}
theorem er_I.off (h : er_I X Y Q Vm f0 f1 f2 a b c9 d wk cv lx ly mx my lk) : er_I X Y Q Vm f0 f1 f2 a b c9 d false cv lx ly mx my lk := ⟨h.1, (fun q => by cases q), (fun q => by simp at q)⟩
theorem er_I.corner (h : er_I X Y Q Vm f0 f1 f2 a b c9 d wk cv lx ly mx my lk) {j : Nat} {p1 p2 p4 : Int32} (u1 : er_win p1 (-16384) 16383 = true) (u2 : er_win p2 (-16384) 16383 = true) (u4 : er_win p4 1 8388608 = true) : er_I (upd X j p1) (upd Y j p2) (upd Q j p4) Vm f0 f1 f2 a b c9 d false cv lx ly mx my lk := by
  obtain ⟨⟨h1, h2, h3, h4⟩, -, -⟩ := h
  refine ⟨⟨er_BX_upd h1 u1, er_BX_upd h2 u2, fun q hq => ?_, h4⟩, (fun q => by cases q), (fun q => by simp at q)⟩
  have h5 := er_win_in u4
  have e1 : (1 : Int32).toInt = 1 := by decide
  have e2 : (8388608 : Int32).toInt = 8388608 := by decide
  rw [e1, e2] at h5
  by_cases e : q = j
  · rw [e, pk_us]; exact h5
  · rw [pk_un e]; exact h3 q hq
theorem er_I.value (h : er_I X Y Q Vm f0 f1 f2 a b c9 d wk cv lx ly mx my lk) {g0 g1 g2 W : Nat → Int32} (hg : ∀ n, n < 28 → g0 n = W n ∧ g1 n = W (28 + n) ∧ g2 n = W (56 + n)) : er_I X Y Q W g0 g1 g2 a b c9 d false cv lx ly mx my lk :=
  ⟨⟨h.1.1, h.1.2.1, h.1.2.2.1, hg, h.1.2.2.2.2⟩, (fun q => by cases q), (fun q => by simp at q)⟩
theorem er_val0 (h : ∀ n, n < 28 → f0 n = Vm n ∧ f1 n = Vm (28 + n) ∧ f2 n = Vm (56 + n)) {n : Nat} (hn : n < 28) (p : Int32) : ∀ q, q < 28 → upd f0 n p q = upd Vm (28 * 0 + n) p q ∧ f1 q = upd Vm (28 * 0 + n) p (28 + q) ∧ f2 q = upd Vm (28 * 0 + n) p (56 + q) := by
  intro q hq
  refine ⟨?_, by rw [pk_un (by omega)]; exact (h q hq).2.1, by rw [pk_un (by omega)]; exact (h q hq).2.2⟩
  by_cases e : q = n
  · subst e; rw [pk_us, show 28 * 0 + q = q by omega, pk_us]
  · rw [pk_un e, pk_un (by omega)]; exact (h q hq).1
theorem er_val1 (h : ∀ n, n < 28 → f0 n = Vm n ∧ f1 n = Vm (28 + n) ∧ f2 n = Vm (56 + n)) {n : Nat} (hn : n < 28) (p : Int32) : ∀ q, q < 28 → f0 q = upd Vm (28 * 1 + n) p q ∧ upd f1 n p q = upd Vm (28 * 1 + n) p (28 + q) ∧ f2 q = upd Vm (28 * 1 + n) p (56 + q) := by
  intro q hq
  refine ⟨by rw [pk_un (by omega)]; exact (h q hq).1, ?_, by rw [pk_un (by omega)]; exact (h q hq).2.2⟩
  by_cases e : q = n
  · subst e; rw [pk_us, show 28 * 1 + q = 28 + q by omega, pk_us]
  · rw [pk_un e, pk_un (by omega)]; exact (h q hq).2.1
theorem er_val2 (h : ∀ n, n < 28 → f0 n = Vm n ∧ f1 n = Vm (28 + n) ∧ f2 n = Vm (56 + n)) {n : Nat} (hn : n < 28) (p : Int32) : ∀ q, q < 28 → f0 q = upd Vm (28 * 2 + n) p q ∧ f1 q = upd Vm (28 * 2 + n) p (28 + q) ∧ upd f2 n p q = upd Vm (28 * 2 + n) p (56 + q) := by
  intro q hq
  refine ⟨by rw [pk_un (by omega)]; exact (h q hq).1, by rw [pk_un (by omega)]; exact (h q hq).2.1, ?_⟩
  by_cases e : q = n
  · subst e; rw [pk_us, show 28 * 2 + q = 56 + q by omega, pk_us]
  · rw [pk_un e, pk_un (by omega)]; exact (h q hq).2.2
theorem er_I.window (h : er_I X Y Q Vm f0 f1 f2 a b c9 d wk cv lx ly mx my lk) {a2 b2 c2 d2 : Nat} (ha : a2 ≤ 1023) (hb : b2 ≤ 1023) (hc : 1 ≤ c2 ∧ c2 ≤ 64) (hd : 1 ≤ d2 ∧ d2 ≤ 64) : er_I X Y Q Vm f0 f1 f2 a2 b2 c2 d2 false cv lx ly mx my lk :=
  ⟨⟨h.1.1, h.1.2.1, h.1.2.2.1, h.1.2.2.2.1, ha, hb, hc, hd⟩, (fun q => by cases q), (fun q => by simp at q)⟩
theorem er_I.walk (h : er_I X Y Q Vm f0 f1 f2 a b c9 d wk cv lx ly mx my lk) : er_I X Y Q Vm f0 f1 f2 a b c9 d true false (nI a - 1) (nI b) mx my 0 :=
  ⟨h.1, fun _ => ⟨0, 0, 0, rfl, by rw [Int32.sub_add_cancel]; rfl, rfl, Nat.zero_le _, Or.inl ⟨h.1.2.2.2.2.2.2.2.1, by omega⟩⟩, fun q => by simp at q⟩
theorem er_I.next (h : er_I X Y Q Vm f0 f1 f2 a b c9 d wk cv lx ly mx my lk) {u k9 : Nat} {mx2 my2 : Int32} (hlx : ∃ i, lx + 1 = nI (a + i) ∧ i ≤ c9) (hn : er_next (er_f X Y a b c9) (d * c9) k9 u) (hm : u < d * c9 → mx2 = er_px a c9 u ∧ my2 = er_py b c9 u) :
    er_I X Y Q Vm f0 f1 f2 a b c9 d true (decide (u < d * c9)) (if u < d * c9 then er_px a c9 u else lx) (if u < d * c9 then er_py b c9 u else nI (b + d)) mx2 my2 (if u < d * c9 then nI (u + 1) else nI (d * c9)) := by
  have hok := h.1
  obtain ⟨-, -, -, -, ha, hb, hc, hd⟩ := hok
  have hcp : 0 < c9 := hc.1
  refine ⟨h.1, fun _ => ?_, fun q => ?_⟩
  · by_cases hu : u < d * c9
    · rw [if_pos hu, if_pos hu, if_pos hu]
      have hj : u / c9 < d := (Nat.div_lt_iff_lt_mul hcp).mpr hu
      have hm := Nat.mod_lt u hcp
      have hdm := Nat.div_add_mod u c9
      refine ⟨u % c9 + 1, u / c9, u + 1, rfl, ?_, rfl, hm, Or.inl ⟨hj, ?_⟩⟩
      · unfold er_px; rw [nI_1]; rfl
      · rw [Nat.mul_comm]; omega
    · rw [if_neg hu, if_neg hu, if_neg hu]
      obtain ⟨i, h1, h2⟩ := hlx
      exact ⟨i, d, d * c9, rfl, h1, rfl, h2, Or.inr ⟨rfl, rfl⟩⟩
  · have hu : u < d * c9 := by simpa using q
    rw [if_pos hu, if_pos hu]
    have h2 := hm hu
    have hj : u / c9 < d := (Nat.div_lt_iff_lt_mul hcp).mpr hu
    have hmd := Nat.mod_lt u hcp
    refine ⟨h2.1.symm, h2.2.symm, hn.2.2.2 hu, ?_, ?_⟩
    · unfold er_px; rw [nI_toInt (by omega)]; omega
    · unfold er_py; generalize u / c9 = w9 at hj; rw [nI_toInt (by omega)]; omega
end ErInv
