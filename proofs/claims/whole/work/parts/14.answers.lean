set_option maxHeartbeats 1000000 in
set_option maxRecDepth 100000 in
theorem c_E_covers (l : Launch) (dC : Nat → ClassId) (dI : Nat → Nat → Nat) (h0 h1 h2 h3 v0 v1 v2 : Nat) (X Y D Q : Nat → Int32) (wx wy ww wh wk on lx ly : Int32) (p0 p1 : Int32) (u1 : er_win p0 (-1024) 2047 = true) (u2 : er_win p1 (-1024) 2047 = true) : Met l y_E_covers w_E_covers ({ frames := 6, cells := 0, slots := 0, locals := 82 }) (va_Pc [.ref h0, .int p0, .int p1] (PP dC dI [] [(h0, .inr (1, [.ref h1, .ref h2, .ref h3, .long (er_ar X Y), .int wx, .int wy, .int ww, .int wh, .int wk, .int on, .int lx, .int ly])), (h1, .inr (0, [.int (X 0), .int (Y 0), .int (D 0), .int (Q 0), .ref v0, .int (er_ex X Y 0), .int (er_ey X Y 0), .int (er_ea X Y 0), .int (er_ed X Y 0), .int (er_lw (er_ea X Y 0) (er_ed X Y 0))])), (h2, .inr (0, [.int (X 1), .int (Y 1), .int (D 1), .int (Q 1), .ref v1, .int (er_ex X Y 1), .int (er_ey X Y 1), .int (er_ea X Y 1), .int (er_ed X Y 1), .int (er_lw (er_ea X Y 1) (er_ed X Y 1))])), (h3, .inr (0, [.int (X 2), .int (Y 2), .int (D 2), .int (Q 2), .ref v2, .int (er_ex X Y 2), .int (er_ey X Y 2), .int (er_ea X Y 2), .int (er_ed X Y 2), .int (er_lw (er_ea X Y 2) (er_ed X Y 2))]))])) (vp_Si (fun r : Int32 => r = er_b (er_cov X Y p0 p1))) 0 0 (fun _ => False) := by
  refine Met.ofW (cc := b_E_covers) (maxL := 3) (ret := (some .boolean)) (by decide +kernel) rfl ?_
  intro p e s m args below meth c s₁ B hml hv
  obtain ⟨rfl, hN, hK, hP⟩ := hv
  have hx := B.exec
  have hb := B.bytes
  have hr := B.returns
  have hts := er_hts (atoms_spec (ws := w_E_covers) B.pre)
  have hown : s.vm.findClass R_E = some m.cls := findClass_of_methodNamed B.named
  have hlocks := B.notSynchronized
  have hP : va_P (dC, dI) classes [(h0, .inr (1, [.ref h1, .ref h2, .ref h3, .long (er_ar X Y), .int wx, .int wy, .int ww, .int wh, .int wk, .int on, .int lx, .int ly])), (h1, .inr (0, [.int (X 0), .int (Y 0), .int (D 0), .int (Q 0), .ref v0, .int (er_ex X Y 0), .int (er_ey X Y 0), .int (er_ea X Y 0), .int (er_ed X Y 0), .int (er_lw (er_ea X Y 0) (er_ed X Y 0))])), (h2, .inr (0, [.int (X 1), .int (Y 1), .int (D 1), .int (Q 1), .ref v1, .int (er_ex X Y 1), .int (er_ey X Y 1), .int (er_ea X Y 1), .int (er_ed X Y 1), .int (er_lw (er_ea X Y 1) (er_ed X Y 1))])), (h3, .inr (0, [.int (X 2), .int (Y 2), .int (D 2), .int (Q 2), .ref v2, .int (er_ex X Y 2), .int (er_ey X Y 2), .int (er_ea X Y 2), .int (er_ed X Y 2), .int (er_lw (er_ea X Y 2) (er_ed X Y 2))]))] s.heap := hP
  have hl := lv_entry ([.ref h0, .int p0, .int p1]) (n := 3) (Nat.le_of_ble_eq_true rfl)
  rw [lg_entry_eq]
  generalize (lg_sl ([.ref h0, .int p0, .int p1]) ++ List.replicate (3 - (lg_sl ([.ref h0, .int p0, .int p1])).length) Slot.unset).toArray = ls at hl ⊢
  have hl : lv_has ls 3 [(0, .ref h0), (1, .int p0), (2, .int p1)] := hl
  refine lv_iload_n hx hb d_E_covers_0 rfl (lv_at hl 1 rfl) ?_
  refine lv_sipush (v := (-1024)) hx hb d_E_covers_1 (by decide) ?_
  refine lv_sipush (v := 2047) hx hb d_E_covers_4 (by decide) ?_
  have hPc := hP.sub (ws' := []) [] rfl
  have hKc := hK.sub (tys' := []) [] rfl
  refine vp_callSi (va_runS (As := [.int p0, .int (-1024), .int 2047]) (rest := []) ⟨hx, hb, hml, hown, hts⟩ (c_E_within l dC dI p0 (-1024) 2047) (va_cwS 3 hts (er_gS k_140 k_141 k_18 k_142) rfl rfl rfl (by decide +kernel) ⟨Nat.le_of_ble_eq_true rfl, Nat.le_of_ble_eq_true rfl⟩) ⟨PP.blind, PP.at hN hKc hPc⟩ rfl rfl hl.1 rfl (lv_room (Nat.le_of_ble_eq_true rfl)) d_E_covers_7 ⟨Nat.zero_le _, Nat.zero_le _⟩).run (fun r_1 hr_1 => ?_)
  obtain rfl : er_b (er_win p0 (-1024) 2047) = r_1 := Eq.symm hr_1
  refine lv_if_eq (tgt := 26) hx hb d_E_covers_10 (by decide) (fun c_2 => ?_) (fun c_2 => ?_)
  · have c_2 := er_b_0.mp c_2
    exact absurd c_2 (by simp_all)
  · have c_2 := er_b_n.mp c_2
    refine lv_iload_n hx hb d_E_covers_13 rfl (lv_at hl 2 rfl) ?_
    refine lv_sipush (v := (-1024)) hx hb d_E_covers_14 (by decide) ?_
    refine lv_sipush (v := 2047) hx hb d_E_covers_17 (by decide) ?_
    have hPc := hP.sub (ws' := []) [] rfl
    have hKc := hK.sub (tys' := []) [] rfl
    refine vp_callSi (va_runS (As := [.int p1, .int (-1024), .int 2047]) (rest := []) ⟨hx, hb, hml, hown, hts⟩ (c_E_within l dC dI p1 (-1024) 2047) (va_cwS 3 hts (er_gS k_140 k_141 k_18 k_142) rfl rfl rfl (by decide +kernel) ⟨Nat.le_of_ble_eq_true rfl, Nat.le_of_ble_eq_true rfl⟩) ⟨PP.blind, PP.at hN hKc hPc⟩ rfl rfl hl.1 rfl (lv_room (Nat.le_of_ble_eq_true rfl)) d_E_covers_20 ⟨Nat.zero_le _, Nat.zero_le _⟩).run (fun r_3 hr_3 => ?_)
    obtain rfl : er_b (er_win p1 (-1024) 2047) = r_3 := Eq.symm hr_3
    refine lv_if_ne (tgt := 36) hx hb d_E_covers_23 (by decide) (fun c_4 => ?_) (fun c_4 => ?_)
    · have c_4 := er_b_n.mp c_4
      refine lv_aload_n hx hb d_E_covers_36 rfl (lv_at hl 0 rfl) ?_
      refine lv_iload_n hx hb d_E_covers_37 rfl (lv_at hl 1 rfl) ?_
      refine lv_iload_n hx hb d_E_covers_38 rfl (lv_at hl 2 rfl) ?_
      have hPc := hP.sub (ws' := [(h0, .inr (1, [.ref h1, .ref h2, .ref h3, .long (er_ar X Y), .int wx, .int wy, .int ww, .int wh, .int wk, .int on, .int lx, .int ly])), (h1, .inr (0, [.int (X 0), .int (Y 0), .int (D 0), .int (Q 0), .ref v0, .int (er_ex X Y 0), .int (er_ey X Y 0), .int (er_ea X Y 0), .int (er_ed X Y 0), .int (er_lw (er_ea X Y 0) (er_ed X Y 0))])), (h2, .inr (0, [.int (X 1), .int (Y 1), .int (D 1), .int (Q 1), .ref v1, .int (er_ex X Y 1), .int (er_ey X Y 1), .int (er_ea X Y 1), .int (er_ed X Y 1), .int (er_lw (er_ea X Y 1) (er_ed X Y 1))])), (h3, .inr (0, [.int (X 2), .int (Y 2), .int (D 2), .int (Q 2), .ref v2, .int (er_ex X Y 2), .int (er_ey X Y 2), .int (er_ea X Y 2), .int (er_ed X Y 2), .int (er_lw (er_ea X Y 2) (er_ed X Y 2))]))]) [0, 1, 2, 3] rfl
      have hKc := hK.sub (tys' := []) [] rfl
      refine vp_callSi (va_runV (As := [.int p0, .int p1]) (rest := []) ⟨hx, hb, hml, hown, hts⟩ (c_E_isCovered l dC dI h0 h1 h2 h3 v0 v1 v2 X Y D Q wx wy ww wh wk on lx ly p0 p1) (cwV 2 hts (er_gV k_117 k_118 k_0 k_18 k_119) rfl rfl rfl (by decide +kernel) ⟨Nat.le_of_ble_eq_true rfl, Nat.le_of_ble_eq_true rfl⟩) ⟨PP.blind, va_recv hKc hPc (ci := 1) (q0 := 0) rfl rfl, PP.at hN hKc hPc⟩ rfl rfl hl.1 rfl (lv_room (Nat.le_of_ble_eq_true rfl)) d_E_covers_39 ⟨Nat.zero_le _, Nat.zero_le _⟩).run (fun r_5 hr_5 => ?_)
      obtain rfl : er_b (er_cov X Y p0 p1) = r_5 := Eq.symm hr_5
      exact W.zret (v := er_b (er_cov X Y p0 p1)) (ty := .boolean) hx hb hr (er_b_nar _) (fun u9 ht hW => ⟨_, rfl, rfl, ht⟩) (fun q hq => by cases hq) d_E_covers_42
    · have c_4 := er_b_0.mp c_4
      exact absurd c_4 (by simp_all)

set_option maxHeartbeats 1000000 in
set_option maxRecDepth 100000 in
theorem c_E_weight0 (l : Launch) (dC : Nat → ClassId) (dI : Nat → Nat → Nat) (h0 h1 h2 h3 v0 v1 v2 : Nat) (X Y D Q : Nat → Int32) (wx wy ww wh wk lx ly : Int32) : Met l y_E_weight w_E_weight ({ frames := 6, cells := 0, slots := 0, locals := 82 }) (va_Pc [.ref h0, .int 0] (PP dC dI [] [(h0, .inr (1, [.ref h1, .ref h2, .ref h3, .long (er_ar X Y), .int wx, .int wy, .int ww, .int wh, .int wk, .int 1, .int lx, .int ly])), (h1, .inr (0, [.int (X 0), .int (Y 0), .int (D 0), .int (Q 0), .ref v0, .int (er_ex X Y 0), .int (er_ey X Y 0), .int (er_ea X Y 0), .int (er_ed X Y 0), .int (er_lw (er_ea X Y 0) (er_ed X Y 0))])), (h2, .inr (0, [.int (X 1), .int (Y 1), .int (D 1), .int (Q 1), .ref v1, .int (er_ex X Y 1), .int (er_ey X Y 1), .int (er_ea X Y 1), .int (er_ed X Y 1), .int (er_lw (er_ea X Y 1) (er_ed X Y 1))])), (h3, .inr (0, [.int (X 2), .int (Y 2), .int (D 2), .int (Q 2), .ref v2, .int (er_ex X Y 2), .int (er_ey X Y 2), .int (er_ea X Y 2), .int (er_ed X Y 2), .int (er_lw (er_ea X Y 2) (er_ed X Y 2))]))])) (vp_Sl (fun r : Int64 => r = er_W X Y 0 lx ly)) 0 0 (fun _ => False) := by
  refine Met.ofW (cc := b_E_weight) (maxL := 2) (ret := (some .long)) (by decide +kernel) rfl ?_
  intro p e s m args below meth c s₁ B hml hv
  obtain ⟨rfl, hN, hK, hP⟩ := hv
  have hx := B.exec
  have hb := B.bytes
  have hr := B.returns
  have hts := er_hts (atoms_spec (ws := w_E_weight) B.pre)
  have hown : s.vm.findClass R_E = some m.cls := findClass_of_methodNamed B.named
  have hlocks := B.notSynchronized
  have hP : va_P (dC, dI) classes [(h0, .inr (1, [.ref h1, .ref h2, .ref h3, .long (er_ar X Y), .int wx, .int wy, .int ww, .int wh, .int wk, .int 1, .int lx, .int ly])), (h1, .inr (0, [.int (X 0), .int (Y 0), .int (D 0), .int (Q 0), .ref v0, .int (er_ex X Y 0), .int (er_ey X Y 0), .int (er_ea X Y 0), .int (er_ed X Y 0), .int (er_lw (er_ea X Y 0) (er_ed X Y 0))])), (h2, .inr (0, [.int (X 1), .int (Y 1), .int (D 1), .int (Q 1), .ref v1, .int (er_ex X Y 1), .int (er_ey X Y 1), .int (er_ea X Y 1), .int (er_ed X Y 1), .int (er_lw (er_ea X Y 1) (er_ed X Y 1))])), (h3, .inr (0, [.int (X 2), .int (Y 2), .int (D 2), .int (Q 2), .ref v2, .int (er_ex X Y 2), .int (er_ey X Y 2), .int (er_ea X Y 2), .int (er_ed X Y 2), .int (er_lw (er_ea X Y 2) (er_ed X Y 2))]))] s.heap := hP
  have hl := lv_entry ([.ref h0, .int 0]) (n := 2) (Nat.le_of_ble_eq_true rfl)
  rw [lg_entry_eq]
  generalize (lg_sl ([.ref h0, .int 0]) ++ List.replicate (2 - (lg_sl ([.ref h0, .int 0])).length) Slot.unset).toArray = ls at hl ⊢
  have hl : lv_has ls 2 [(0, .ref h0), (1, .int 0)] := hl
  have u1 : er_win 0 0 2 = true := by decide
  refine lv_iload_n hx hb d_E_weight_0 rfl (lv_at hl 1 rfl) ?_
  have hPc := hP.sub (ws' := []) [] rfl
  have hKc := hK.sub (tys' := []) [] rfl
  refine vp_callSi (va_runS (As := [.int 0]) (rest := []) ⟨hx, hb, hml, hown, hts⟩ (c_E_isCorner l dC dI 0) (va_cwS 1 hts (er_gS k_137 k_138 k_18 k_139) rfl rfl rfl (by decide +kernel) ⟨Nat.le_of_ble_eq_true rfl, Nat.le_of_ble_eq_true rfl⟩) ⟨PP.blind, PP.at hN hKc hPc⟩ rfl rfl hl.1 rfl (lv_room (Nat.le_of_ble_eq_true rfl)) d_E_weight_1 ⟨Nat.zero_le _, Nat.zero_le _⟩).run (fun r_1 hr_1 => ?_)
  obtain rfl : er_b (er_win 0 0 2) = r_1 := Eq.symm hr_1
  refine lv_if_ne (tgt := 17) hx hb d_E_weight_4 (by decide) (fun c_2 => ?_) (fun c_2 => ?_)
  · have c_2 := er_b_n.mp c_2
    refine lv_aload_n hx hb d_E_weight_17 rfl (lv_at hl 0 rfl) ?_
    refine va_get (D := (dC, dI)) (ci := 1) (v := .int 1) (C := R_E) (T := F_E) (N := 12) hx hb hts i_E hown hK hP 0 rfl rfl 9 (by decide) (hts _ k_81) (fun _ h9 => h9) rfl d_E_weight_18 ?_
    refine lv_if_ne (tgt := 34) hx hb d_E_weight_21 (by decide) (fun _ => ?_) (fun c_3 => absurd c_3 (by decide))
    refine lv_aload_n hx hb d_E_weight_34 rfl (lv_at hl 0 rfl) ?_
    refine lv_iload_n hx hb d_E_weight_35 rfl (lv_at hl 1 rfl) ?_
    have hPc := hP.sub (ws' := [(h0, .inr (1, [.ref h1, .ref h2, .ref h3, .long (er_ar X Y), .int wx, .int wy, .int ww, .int wh, .int wk, .int 1, .int lx, .int ly]))]) [0] rfl
    have hKc := hK.sub (tys' := []) [] rfl
    refine va_csr (va_runV (As := [.int 0]) (rest := []) ⟨hx, hb, hml, hown, hts⟩ (c_E_cornerOf0 l dC dI h0 h1 h2 h3 (er_ar X Y) wx wy ww wh wk 1 lx ly) (cwV 1 hts (er_gV k_200 k_201 k_4 k_18 k_202) rfl rfl rfl (by decide +kernel) ⟨Nat.le_of_ble_eq_true rfl, Nat.le_of_ble_eq_true rfl⟩) ⟨PP.blind, va_recv hKc hPc (ci := 1) (q0 := 0) rfl rfl, PP.at hN hKc hPc⟩ rfl rfl hl.1 rfl (lv_room (Nat.le_of_ble_eq_true rfl)) d_E_weight_36 ⟨Nat.zero_le _, Nat.zero_le _⟩).run (fun r_4 hr_4 => ?_)
    obtain rfl : h1 = r_4 := Eq.symm hr_4
    refine lv_aload_n hx hb d_E_weight_39 rfl (lv_at hl 0 rfl) ?_
    refine va_get (D := (dC, dI)) (ci := 1) (v := .int lx) (C := R_E) (T := F_E) (N := 12) hx hb hts i_E hown hK hP 0 rfl rfl 10 (by decide) (hts _ k_82) (fun _ h9 => h9) rfl d_E_weight_40 ?_
    refine lv_aload_n hx hb d_E_weight_43 rfl (lv_at hl 0 rfl) ?_
    refine va_get (D := (dC, dI)) (ci := 1) (v := .int ly) (C := R_E) (T := F_E) (N := 12) hx hb hts i_E hown hK hP 0 rfl rfl 11 (by decide) (hts _ k_83) (fun _ h9 => h9) rfl d_E_weight_44 ?_
    have hPc := hP.sub (ws' := [(h1, .inr (0, [.int (X 0), .int (Y 0), .int (D 0), .int (Q 0), .ref v0, .int (er_ex X Y 0), .int (er_ey X Y 0), .int (er_ea X Y 0), .int (er_ed X Y 0), .int (er_lw (er_ea X Y 0) (er_ed X Y 0))]))]) [1] rfl
    have hKc := hK.sub (tys' := []) [] rfl
    refine vp_callSl (va_runVN (As := [.int lx, .int ly]) (rest := []) ⟨hx, hb, hml, hown, hts⟩ (c_C_weightAt l dC dI h1 v0 (X 0) (Y 0) (D 0) (Q 0) (er_ex X Y 0) (er_ey X Y 0) (er_ea X Y 0) (er_ed X Y 0) (er_lw (er_ea X Y 0) (er_ed X Y 0)) lx ly) ⟨va_cnB 2 hts (er_gB k_124) rfl rfl rfl (hN _ kn_8) (hts _ k_19) (by decide +kernel) ⟨Nat.le_of_ble_eq_true rfl, Nat.le_of_ble_eq_true rfl⟩, hts _ k_123, hts _ k_2⟩ ⟨PP.blind, va_recv hKc hPc (ci := 0) (q0 := 0) rfl rfl, PP.at hN hKc hPc⟩ rfl rfl hl.1 rfl (lv_room (Nat.le_of_ble_eq_true rfl)) d_E_weight_47 ⟨Nat.zero_le _, Nat.zero_le _⟩).run (fun r_5 hr_5 => ?_)
    obtain rfl : er_wt (er_ex X Y 0) (er_ey X Y 0) (er_ea X Y 0) (er_ed X Y 0) lx ly = r_5 := Eq.symm hr_5
    exact W.lret (v := er_wt (er_ex X Y 0) (er_ey X Y 0) (er_ea X Y 0) (er_ed X Y 0) lx ly) hx hb hr (fun u9 ht hW => ⟨_, rfl, rfl, ht⟩) (fun q hq => by cases hq) d_E_weight_50
  · have c_2 := er_b_0.mp c_2
    exact absurd c_2 (by simp_all)

set_option maxHeartbeats 1000000 in
set_option maxRecDepth 100000 in
theorem c_E_weight1 (l : Launch) (dC : Nat → ClassId) (dI : Nat → Nat → Nat) (h0 h1 h2 h3 v0 v1 v2 : Nat) (X Y D Q : Nat → Int32) (wx wy ww wh wk lx ly : Int32) : Met l y_E_weight w_E_weight ({ frames := 6, cells := 0, slots := 0, locals := 82 }) (va_Pc [.ref h0, .int 1] (PP dC dI [] [(h0, .inr (1, [.ref h1, .ref h2, .ref h3, .long (er_ar X Y), .int wx, .int wy, .int ww, .int wh, .int wk, .int 1, .int lx, .int ly])), (h1, .inr (0, [.int (X 0), .int (Y 0), .int (D 0), .int (Q 0), .ref v0, .int (er_ex X Y 0), .int (er_ey X Y 0), .int (er_ea X Y 0), .int (er_ed X Y 0), .int (er_lw (er_ea X Y 0) (er_ed X Y 0))])), (h2, .inr (0, [.int (X 1), .int (Y 1), .int (D 1), .int (Q 1), .ref v1, .int (er_ex X Y 1), .int (er_ey X Y 1), .int (er_ea X Y 1), .int (er_ed X Y 1), .int (er_lw (er_ea X Y 1) (er_ed X Y 1))])), (h3, .inr (0, [.int (X 2), .int (Y 2), .int (D 2), .int (Q 2), .ref v2, .int (er_ex X Y 2), .int (er_ey X Y 2), .int (er_ea X Y 2), .int (er_ed X Y 2), .int (er_lw (er_ea X Y 2) (er_ed X Y 2))]))])) (vp_Sl (fun r : Int64 => r = er_W X Y 1 lx ly)) 0 0 (fun _ => False) := by
  refine Met.ofW (cc := b_E_weight) (maxL := 2) (ret := (some .long)) (by decide +kernel) rfl ?_
  intro p e s m args below meth c s₁ B hml hv
  obtain ⟨rfl, hN, hK, hP⟩ := hv
  have hx := B.exec
  have hb := B.bytes
  have hr := B.returns
  have hts := er_hts (atoms_spec (ws := w_E_weight) B.pre)
  have hown : s.vm.findClass R_E = some m.cls := findClass_of_methodNamed B.named
  have hlocks := B.notSynchronized
  have hP : va_P (dC, dI) classes [(h0, .inr (1, [.ref h1, .ref h2, .ref h3, .long (er_ar X Y), .int wx, .int wy, .int ww, .int wh, .int wk, .int 1, .int lx, .int ly])), (h1, .inr (0, [.int (X 0), .int (Y 0), .int (D 0), .int (Q 0), .ref v0, .int (er_ex X Y 0), .int (er_ey X Y 0), .int (er_ea X Y 0), .int (er_ed X Y 0), .int (er_lw (er_ea X Y 0) (er_ed X Y 0))])), (h2, .inr (0, [.int (X 1), .int (Y 1), .int (D 1), .int (Q 1), .ref v1, .int (er_ex X Y 1), .int (er_ey X Y 1), .int (er_ea X Y 1), .int (er_ed X Y 1), .int (er_lw (er_ea X Y 1) (er_ed X Y 1))])), (h3, .inr (0, [.int (X 2), .int (Y 2), .int (D 2), .int (Q 2), .ref v2, .int (er_ex X Y 2), .int (er_ey X Y 2), .int (er_ea X Y 2), .int (er_ed X Y 2), .int (er_lw (er_ea X Y 2) (er_ed X Y 2))]))] s.heap := hP
  have hl := lv_entry ([.ref h0, .int 1]) (n := 2) (Nat.le_of_ble_eq_true rfl)
  rw [lg_entry_eq]
  generalize (lg_sl ([.ref h0, .int 1]) ++ List.replicate (2 - (lg_sl ([.ref h0, .int 1])).length) Slot.unset).toArray = ls at hl ⊢
  have hl : lv_has ls 2 [(0, .ref h0), (1, .int 1)] := hl
  have u1 : er_win 1 0 2 = true := by decide
  refine lv_iload_n hx hb d_E_weight_0 rfl (lv_at hl 1 rfl) ?_
  have hPc := hP.sub (ws' := []) [] rfl
  have hKc := hK.sub (tys' := []) [] rfl
  refine vp_callSi (va_runS (As := [.int 1]) (rest := []) ⟨hx, hb, hml, hown, hts⟩ (c_E_isCorner l dC dI 1) (va_cwS 1 hts (er_gS k_137 k_138 k_18 k_139) rfl rfl rfl (by decide +kernel) ⟨Nat.le_of_ble_eq_true rfl, Nat.le_of_ble_eq_true rfl⟩) ⟨PP.blind, PP.at hN hKc hPc⟩ rfl rfl hl.1 rfl (lv_room (Nat.le_of_ble_eq_true rfl)) d_E_weight_1 ⟨Nat.zero_le _, Nat.zero_le _⟩).run (fun r_1 hr_1 => ?_)
  obtain rfl : er_b (er_win 1 0 2) = r_1 := Eq.symm hr_1
  refine lv_if_ne (tgt := 17) hx hb d_E_weight_4 (by decide) (fun c_2 => ?_) (fun c_2 => ?_)
  · have c_2 := er_b_n.mp c_2
    refine lv_aload_n hx hb d_E_weight_17 rfl (lv_at hl 0 rfl) ?_
    refine va_get (D := (dC, dI)) (ci := 1) (v := .int 1) (C := R_E) (T := F_E) (N := 12) hx hb hts i_E hown hK hP 0 rfl rfl 9 (by decide) (hts _ k_81) (fun _ h9 => h9) rfl d_E_weight_18 ?_
    refine lv_if_ne (tgt := 34) hx hb d_E_weight_21 (by decide) (fun _ => ?_) (fun c_3 => absurd c_3 (by decide))
    refine lv_aload_n hx hb d_E_weight_34 rfl (lv_at hl 0 rfl) ?_
    refine lv_iload_n hx hb d_E_weight_35 rfl (lv_at hl 1 rfl) ?_
    have hPc := hP.sub (ws' := [(h0, .inr (1, [.ref h1, .ref h2, .ref h3, .long (er_ar X Y), .int wx, .int wy, .int ww, .int wh, .int wk, .int 1, .int lx, .int ly]))]) [0] rfl
    have hKc := hK.sub (tys' := []) [] rfl
    refine va_csr (va_runV (As := [.int 1]) (rest := []) ⟨hx, hb, hml, hown, hts⟩ (c_E_cornerOf1 l dC dI h0 h1 h2 h3 (er_ar X Y) wx wy ww wh wk 1 lx ly) (cwV 1 hts (er_gV k_200 k_201 k_4 k_18 k_202) rfl rfl rfl (by decide +kernel) ⟨Nat.le_of_ble_eq_true rfl, Nat.le_of_ble_eq_true rfl⟩) ⟨PP.blind, va_recv hKc hPc (ci := 1) (q0 := 0) rfl rfl, PP.at hN hKc hPc⟩ rfl rfl hl.1 rfl (lv_room (Nat.le_of_ble_eq_true rfl)) d_E_weight_36 ⟨Nat.zero_le _, Nat.zero_le _⟩).run (fun r_4 hr_4 => ?_)
    obtain rfl : h2 = r_4 := Eq.symm hr_4
    refine lv_aload_n hx hb d_E_weight_39 rfl (lv_at hl 0 rfl) ?_
    refine va_get (D := (dC, dI)) (ci := 1) (v := .int lx) (C := R_E) (T := F_E) (N := 12) hx hb hts i_E hown hK hP 0 rfl rfl 10 (by decide) (hts _ k_82) (fun _ h9 => h9) rfl d_E_weight_40 ?_
    refine lv_aload_n hx hb d_E_weight_43 rfl (lv_at hl 0 rfl) ?_
    refine va_get (D := (dC, dI)) (ci := 1) (v := .int ly) (C := R_E) (T := F_E) (N := 12) hx hb hts i_E hown hK hP 0 rfl rfl 11 (by decide) (hts _ k_83) (fun _ h9 => h9) rfl d_E_weight_44 ?_
    have hPc := hP.sub (ws' := [(h2, .inr (0, [.int (X 1), .int (Y 1), .int (D 1), .int (Q 1), .ref v1, .int (er_ex X Y 1), .int (er_ey X Y 1), .int (er_ea X Y 1), .int (er_ed X Y 1), .int (er_lw (er_ea X Y 1) (er_ed X Y 1))]))]) [2] rfl
    have hKc := hK.sub (tys' := []) [] rfl
    refine vp_callSl (va_runVN (As := [.int lx, .int ly]) (rest := []) ⟨hx, hb, hml, hown, hts⟩ (c_C_weightAt l dC dI h2 v1 (X 1) (Y 1) (D 1) (Q 1) (er_ex X Y 1) (er_ey X Y 1) (er_ea X Y 1) (er_ed X Y 1) (er_lw (er_ea X Y 1) (er_ed X Y 1)) lx ly) ⟨va_cnB 2 hts (er_gB k_124) rfl rfl rfl (hN _ kn_8) (hts _ k_19) (by decide +kernel) ⟨Nat.le_of_ble_eq_true rfl, Nat.le_of_ble_eq_true rfl⟩, hts _ k_123, hts _ k_2⟩ ⟨PP.blind, va_recv hKc hPc (ci := 0) (q0 := 0) rfl rfl, PP.at hN hKc hPc⟩ rfl rfl hl.1 rfl (lv_room (Nat.le_of_ble_eq_true rfl)) d_E_weight_47 ⟨Nat.zero_le _, Nat.zero_le _⟩).run (fun r_5 hr_5 => ?_)
    obtain rfl : er_wt (er_ex X Y 1) (er_ey X Y 1) (er_ea X Y 1) (er_ed X Y 1) lx ly = r_5 := Eq.symm hr_5
    exact W.lret (v := er_wt (er_ex X Y 1) (er_ey X Y 1) (er_ea X Y 1) (er_ed X Y 1) lx ly) hx hb hr (fun u9 ht hW => ⟨_, rfl, rfl, ht⟩) (fun q hq => by cases hq) d_E_weight_50
  · have c_2 := er_b_0.mp c_2
    exact absurd c_2 (by simp_all)

set_option maxHeartbeats 1000000 in
set_option maxRecDepth 100000 in
theorem c_E_weight2 (l : Launch) (dC : Nat → ClassId) (dI : Nat → Nat → Nat) (h0 h1 h2 h3 v0 v1 v2 : Nat) (X Y D Q : Nat → Int32) (wx wy ww wh wk lx ly : Int32) : Met l y_E_weight w_E_weight ({ frames := 6, cells := 0, slots := 0, locals := 82 }) (va_Pc [.ref h0, .int 2] (PP dC dI [] [(h0, .inr (1, [.ref h1, .ref h2, .ref h3, .long (er_ar X Y), .int wx, .int wy, .int ww, .int wh, .int wk, .int 1, .int lx, .int ly])), (h1, .inr (0, [.int (X 0), .int (Y 0), .int (D 0), .int (Q 0), .ref v0, .int (er_ex X Y 0), .int (er_ey X Y 0), .int (er_ea X Y 0), .int (er_ed X Y 0), .int (er_lw (er_ea X Y 0) (er_ed X Y 0))])), (h2, .inr (0, [.int (X 1), .int (Y 1), .int (D 1), .int (Q 1), .ref v1, .int (er_ex X Y 1), .int (er_ey X Y 1), .int (er_ea X Y 1), .int (er_ed X Y 1), .int (er_lw (er_ea X Y 1) (er_ed X Y 1))])), (h3, .inr (0, [.int (X 2), .int (Y 2), .int (D 2), .int (Q 2), .ref v2, .int (er_ex X Y 2), .int (er_ey X Y 2), .int (er_ea X Y 2), .int (er_ed X Y 2), .int (er_lw (er_ea X Y 2) (er_ed X Y 2))]))])) (vp_Sl (fun r : Int64 => r = er_W X Y 2 lx ly)) 0 0 (fun _ => False) := by
  refine Met.ofW (cc := b_E_weight) (maxL := 2) (ret := (some .long)) (by decide +kernel) rfl ?_
  intro p e s m args below meth c s₁ B hml hv
  obtain ⟨rfl, hN, hK, hP⟩ := hv
  have hx := B.exec
  have hb := B.bytes
  have hr := B.returns
  have hts := er_hts (atoms_spec (ws := w_E_weight) B.pre)
  have hown : s.vm.findClass R_E = some m.cls := findClass_of_methodNamed B.named
  have hlocks := B.notSynchronized
  have hP : va_P (dC, dI) classes [(h0, .inr (1, [.ref h1, .ref h2, .ref h3, .long (er_ar X Y), .int wx, .int wy, .int ww, .int wh, .int wk, .int 1, .int lx, .int ly])), (h1, .inr (0, [.int (X 0), .int (Y 0), .int (D 0), .int (Q 0), .ref v0, .int (er_ex X Y 0), .int (er_ey X Y 0), .int (er_ea X Y 0), .int (er_ed X Y 0), .int (er_lw (er_ea X Y 0) (er_ed X Y 0))])), (h2, .inr (0, [.int (X 1), .int (Y 1), .int (D 1), .int (Q 1), .ref v1, .int (er_ex X Y 1), .int (er_ey X Y 1), .int (er_ea X Y 1), .int (er_ed X Y 1), .int (er_lw (er_ea X Y 1) (er_ed X Y 1))])), (h3, .inr (0, [.int (X 2), .int (Y 2), .int (D 2), .int (Q 2), .ref v2, .int (er_ex X Y 2), .int (er_ey X Y 2), .int (er_ea X Y 2), .int (er_ed X Y 2), .int (er_lw (er_ea X Y 2) (er_ed X Y 2))]))] s.heap := hP
  have hl := lv_entry ([.ref h0, .int 2]) (n := 2) (Nat.le_of_ble_eq_true rfl)
  rw [lg_entry_eq]
  generalize (lg_sl ([.ref h0, .int 2]) ++ List.replicate (2 - (lg_sl ([.ref h0, .int 2])).length) Slot.unset).toArray = ls at hl ⊢
  have hl : lv_has ls 2 [(0, .ref h0), (1, .int 2)] := hl
  have u1 : er_win 2 0 2 = true := by decide
  refine lv_iload_n hx hb d_E_weight_0 rfl (lv_at hl 1 rfl) ?_
  have hPc := hP.sub (ws' := []) [] rfl
  have hKc := hK.sub (tys' := []) [] rfl
  refine vp_callSi (va_runS (As := [.int 2]) (rest := []) ⟨hx, hb, hml, hown, hts⟩ (c_E_isCorner l dC dI 2) (va_cwS 1 hts (er_gS k_137 k_138 k_18 k_139) rfl rfl rfl (by decide +kernel) ⟨Nat.le_of_ble_eq_true rfl, Nat.le_of_ble_eq_true rfl⟩) ⟨PP.blind, PP.at hN hKc hPc⟩ rfl rfl hl.1 rfl (lv_room (Nat.le_of_ble_eq_true rfl)) d_E_weight_1 ⟨Nat.zero_le _, Nat.zero_le _⟩).run (fun r_1 hr_1 => ?_)
  obtain rfl : er_b (er_win 2 0 2) = r_1 := Eq.symm hr_1
  refine lv_if_ne (tgt := 17) hx hb d_E_weight_4 (by decide) (fun c_2 => ?_) (fun c_2 => ?_)
  · have c_2 := er_b_n.mp c_2
    refine lv_aload_n hx hb d_E_weight_17 rfl (lv_at hl 0 rfl) ?_
    refine va_get (D := (dC, dI)) (ci := 1) (v := .int 1) (C := R_E) (T := F_E) (N := 12) hx hb hts i_E hown hK hP 0 rfl rfl 9 (by decide) (hts _ k_81) (fun _ h9 => h9) rfl d_E_weight_18 ?_
    refine lv_if_ne (tgt := 34) hx hb d_E_weight_21 (by decide) (fun _ => ?_) (fun c_3 => absurd c_3 (by decide))
    refine lv_aload_n hx hb d_E_weight_34 rfl (lv_at hl 0 rfl) ?_
    refine lv_iload_n hx hb d_E_weight_35 rfl (lv_at hl 1 rfl) ?_
    have hPc := hP.sub (ws' := [(h0, .inr (1, [.ref h1, .ref h2, .ref h3, .long (er_ar X Y), .int wx, .int wy, .int ww, .int wh, .int wk, .int 1, .int lx, .int ly]))]) [0] rfl
    have hKc := hK.sub (tys' := []) [] rfl
    refine va_csr (va_runV (As := [.int 2]) (rest := []) ⟨hx, hb, hml, hown, hts⟩ (c_E_cornerOf2 l dC dI h0 h1 h2 h3 (er_ar X Y) wx wy ww wh wk 1 lx ly) (cwV 1 hts (er_gV k_200 k_201 k_4 k_18 k_202) rfl rfl rfl (by decide +kernel) ⟨Nat.le_of_ble_eq_true rfl, Nat.le_of_ble_eq_true rfl⟩) ⟨PP.blind, va_recv hKc hPc (ci := 1) (q0 := 0) rfl rfl, PP.at hN hKc hPc⟩ rfl rfl hl.1 rfl (lv_room (Nat.le_of_ble_eq_true rfl)) d_E_weight_36 ⟨Nat.zero_le _, Nat.zero_le _⟩).run (fun r_4 hr_4 => ?_)
    obtain rfl : h3 = r_4 := Eq.symm hr_4
    refine lv_aload_n hx hb d_E_weight_39 rfl (lv_at hl 0 rfl) ?_
    refine va_get (D := (dC, dI)) (ci := 1) (v := .int lx) (C := R_E) (T := F_E) (N := 12) hx hb hts i_E hown hK hP 0 rfl rfl 10 (by decide) (hts _ k_82) (fun _ h9 => h9) rfl d_E_weight_40 ?_
    refine lv_aload_n hx hb d_E_weight_43 rfl (lv_at hl 0 rfl) ?_
    refine va_get (D := (dC, dI)) (ci := 1) (v := .int ly) (C := R_E) (T := F_E) (N := 12) hx hb hts i_E hown hK hP 0 rfl rfl 11 (by decide) (hts _ k_83) (fun _ h9 => h9) rfl d_E_weight_44 ?_
    have hPc := hP.sub (ws' := [(h3, .inr (0, [.int (X 2), .int (Y 2), .int (D 2), .int (Q 2), .ref v2, .int (er_ex X Y 2), .int (er_ey X Y 2), .int (er_ea X Y 2), .int (er_ed X Y 2), .int (er_lw (er_ea X Y 2) (er_ed X Y 2))]))]) [3] rfl
    have hKc := hK.sub (tys' := []) [] rfl
    refine vp_callSl (va_runVN (As := [.int lx, .int ly]) (rest := []) ⟨hx, hb, hml, hown, hts⟩ (c_C_weightAt l dC dI h3 v2 (X 2) (Y 2) (D 2) (Q 2) (er_ex X Y 2) (er_ey X Y 2) (er_ea X Y 2) (er_ed X Y 2) (er_lw (er_ea X Y 2) (er_ed X Y 2)) lx ly) ⟨va_cnB 2 hts (er_gB k_124) rfl rfl rfl (hN _ kn_8) (hts _ k_19) (by decide +kernel) ⟨Nat.le_of_ble_eq_true rfl, Nat.le_of_ble_eq_true rfl⟩, hts _ k_123, hts _ k_2⟩ ⟨PP.blind, va_recv hKc hPc (ci := 0) (q0 := 0) rfl rfl, PP.at hN hKc hPc⟩ rfl rfl hl.1 rfl (lv_room (Nat.le_of_ble_eq_true rfl)) d_E_weight_47 ⟨Nat.zero_le _, Nat.zero_le _⟩).run (fun r_5 hr_5 => ?_)
    obtain rfl : er_wt (er_ex X Y 2) (er_ey X Y 2) (er_ea X Y 2) (er_ed X Y 2) lx ly = r_5 := Eq.symm hr_5
    exact W.lret (v := er_wt (er_ex X Y 2) (er_ey X Y 2) (er_ea X Y 2) (er_ed X Y 2) lx ly) hx hb hr (fun u9 ht hW => ⟨_, rfl, rfl, ht⟩) (fun q hq => by cases hq) d_E_weight_50
  · have c_2 := er_b_0.mp c_2
    exact absurd c_2 (by simp_all)

set_option maxHeartbeats 1000000 in
set_option maxRecDepth 100000 in
theorem c_E_depth (l : Launch) (dC : Nat → ClassId) (dI : Nat → Nat → Nat) (h0 h1 h2 h3 v0 v1 v2 : Nat) (X Y D Q : Nat → Int32) (wx wy ww wh wk lx ly : Int32) : Met l y_E_depth w_E_depth ({ frames := 6, cells := 0, slots := 0, locals := 100 }) (va_Pc [.ref h0] (PP dC dI [] [(h0, .inr (1, [.ref h1, .ref h2, .ref h3, .long (er_ar X Y), .int wx, .int wy, .int ww, .int wh, .int wk, .int 1, .int lx, .int ly])), (h1, .inr (0, [.int (X 0), .int (Y 0), .int (D 0), .int (Q 0), .ref v0, .int (er_ex X Y 0), .int (er_ey X Y 0), .int (er_ea X Y 0), .int (er_ed X Y 0), .int (er_lw (er_ea X Y 0) (er_ed X Y 0))])), (h2, .inr (0, [.int (X 1), .int (Y 1), .int (D 1), .int (Q 1), .ref v1, .int (er_ex X Y 1), .int (er_ey X Y 1), .int (er_ea X Y 1), .int (er_ed X Y 1), .int (er_lw (er_ea X Y 1) (er_ed X Y 1))])), (h3, .inr (0, [.int (X 2), .int (Y 2), .int (D 2), .int (Q 2), .ref v2, .int (er_ex X Y 2), .int (er_ey X Y 2), .int (er_ea X Y 2), .int (er_ed X Y 2), .int (er_lw (er_ea X Y 2) (er_ed X Y 2))]))])) (vp_Si (fun r : Int32 => r = (er_dd (er_ds X Y D lx ly) (er_abs (er_ar X Y))).toInt32)) 0 0 (fun _ => False) := by
  refine Met.ofW (cc := b_E_depth) (maxL := 3) (ret := (some .int)) (by decide +kernel) rfl ?_
  intro p e s m args below meth c s₁ B hml hv
  obtain ⟨rfl, hN, hK, hP⟩ := hv
  have hx := B.exec
  have hb := B.bytes
  have hr := B.returns
  have hts := er_hts (atoms_spec (ws := w_E_depth) B.pre)
  have hown : s.vm.findClass R_E = some m.cls := findClass_of_methodNamed B.named
  have hlocks := B.notSynchronized
  have hP : va_P (dC, dI) classes [(h0, .inr (1, [.ref h1, .ref h2, .ref h3, .long (er_ar X Y), .int wx, .int wy, .int ww, .int wh, .int wk, .int 1, .int lx, .int ly])), (h1, .inr (0, [.int (X 0), .int (Y 0), .int (D 0), .int (Q 0), .ref v0, .int (er_ex X Y 0), .int (er_ey X Y 0), .int (er_ea X Y 0), .int (er_ed X Y 0), .int (er_lw (er_ea X Y 0) (er_ed X Y 0))])), (h2, .inr (0, [.int (X 1), .int (Y 1), .int (D 1), .int (Q 1), .ref v1, .int (er_ex X Y 1), .int (er_ey X Y 1), .int (er_ea X Y 1), .int (er_ed X Y 1), .int (er_lw (er_ea X Y 1) (er_ed X Y 1))])), (h3, .inr (0, [.int (X 2), .int (Y 2), .int (D 2), .int (Q 2), .ref v2, .int (er_ex X Y 2), .int (er_ey X Y 2), .int (er_ea X Y 2), .int (er_ed X Y 2), .int (er_lw (er_ea X Y 2) (er_ed X Y 2))]))] s.heap := hP
  have hl := lv_entry ([.ref h0]) (n := 3) (Nat.le_of_ble_eq_true rfl)
  rw [lg_entry_eq]
  generalize (lg_sl ([.ref h0]) ++ List.replicate (3 - (lg_sl ([.ref h0])).length) Slot.unset).toArray = ls at hl ⊢
  have hl : lv_has ls 3 [(0, .ref h0)] := hl
  refine lv_aload_n hx hb d_E_depth_0 rfl (lv_at hl 0 rfl) ?_
  refine va_get (D := (dC, dI)) (ci := 1) (v := .int 1) (C := R_E) (T := F_E) (N := 12) hx hb hts i_E hown hK hP 0 rfl rfl 9 (by decide) (hts _ k_81) (fun _ h9 => h9) rfl d_E_depth_1 ?_
  refine lv_if_ne (tgt := 17) hx hb d_E_depth_4 (by decide) (fun _ => ?_) (fun c_1 => absurd c_1 (by decide))
  refine lv_aload_n hx hb d_E_depth_17 rfl (lv_at hl 0 rfl) ?_
  refine va_get (D := (dC, dI)) (ci := 1) (v := .ref h1) (C := R_E) (T := F_E) (N := 12) hx hb hts i_E hown hK hP 0 rfl rfl 0 (by decide) (hts _ k_72) (fun _ h9 => h9) rfl d_E_depth_18 ?_
  refine lv_aload_n hx hb d_E_depth_21 rfl (lv_at hl 0 rfl) ?_
  refine va_get (D := (dC, dI)) (ci := 1) (v := .int lx) (C := R_E) (T := F_E) (N := 12) hx hb hts i_E hown hK hP 0 rfl rfl 10 (by decide) (hts _ k_82) (fun _ h9 => h9) rfl d_E_depth_22 ?_
  refine lv_aload_n hx hb d_E_depth_25 rfl (lv_at hl 0 rfl) ?_
  refine va_get (D := (dC, dI)) (ci := 1) (v := .int ly) (C := R_E) (T := F_E) (N := 12) hx hb hts i_E hown hK hP 0 rfl rfl 11 (by decide) (hts _ k_83) (fun _ h9 => h9) rfl d_E_depth_26 ?_
  have hPc := hP.sub (ws' := [(h1, .inr (0, [.int (X 0), .int (Y 0), .int (D 0), .int (Q 0), .ref v0, .int (er_ex X Y 0), .int (er_ey X Y 0), .int (er_ea X Y 0), .int (er_ed X Y 0), .int (er_lw (er_ea X Y 0) (er_ed X Y 0))]))]) [1] rfl
  have hKc := hK.sub (tys' := []) [] rfl
  refine vp_callSl (va_runVN (As := [.int lx, .int ly]) (rest := []) ⟨hx, hb, hml, hown, hts⟩ (c_C_weightAt l dC dI h1 v0 (X 0) (Y 0) (D 0) (Q 0) (er_ex X Y 0) (er_ey X Y 0) (er_ea X Y 0) (er_ed X Y 0) (er_lw (er_ea X Y 0) (er_ed X Y 0)) lx ly) ⟨va_cnB 2 hts (er_gB k_124) rfl rfl rfl (hN _ kn_8) (hts _ k_19) (by decide +kernel) ⟨Nat.le_of_ble_eq_true rfl, Nat.le_of_ble_eq_true rfl⟩, hts _ k_123, hts _ k_2⟩ ⟨PP.blind, va_recv hKc hPc (ci := 0) (q0 := 0) rfl rfl, PP.at hN hKc hPc⟩ rfl rfl hl.1 rfl (lv_room (Nat.le_of_ble_eq_true rfl)) d_E_depth_29 ⟨Nat.zero_le _, Nat.zero_le _⟩).run (fun r_2 hr_2 => ?_)
  obtain rfl : er_wt (er_ex X Y 0) (er_ey X Y 0) (er_ea X Y 0) (er_ed X Y 0) lx ly = r_2 := Eq.symm hr_2
  refine lv_aload_n hx hb d_E_depth_32 rfl (lv_at hl 0 rfl) ?_
  refine va_get (D := (dC, dI)) (ci := 1) (v := .ref h1) (C := R_E) (T := F_E) (N := 12) hx hb hts i_E hown hK hP 0 rfl rfl 0 (by decide) (hts _ k_72) (fun _ h9 => h9) rfl d_E_depth_33 ?_
  refine va_getN (D := (dC, dI)) (ci := 0) (v := .int (D 0)) (C := R_C) (T := F_C) (N := 10) hx hb hts i_C hown hK hP 1 rfl rfl 2 (by decide) (va_Nw.use rfl (hN _ kn_3)) (fun _ h9 => h9) rfl d_E_depth_36 ?_
  refine lv_i2l (v := (D 0).toInt64) hx hb d_E_depth_39 rfl ?_
  refine lv_lmul hx hb d_E_depth_40 ?_
  refine lv_aload_n hx hb d_E_depth_41 rfl (lv_at hl 0 rfl) ?_
  refine va_get (D := (dC, dI)) (ci := 1) (v := .ref h2) (C := R_E) (T := F_E) (N := 12) hx hb hts i_E hown hK hP 0 rfl rfl 1 (by decide) (hts _ k_73) (fun _ h9 => h9) rfl d_E_depth_42 ?_
  refine lv_aload_n hx hb d_E_depth_45 rfl (lv_at hl 0 rfl) ?_
  refine va_get (D := (dC, dI)) (ci := 1) (v := .int lx) (C := R_E) (T := F_E) (N := 12) hx hb hts i_E hown hK hP 0 rfl rfl 10 (by decide) (hts _ k_82) (fun _ h9 => h9) rfl d_E_depth_46 ?_
  refine lv_aload_n hx hb d_E_depth_49 rfl (lv_at hl 0 rfl) ?_
  refine va_get (D := (dC, dI)) (ci := 1) (v := .int ly) (C := R_E) (T := F_E) (N := 12) hx hb hts i_E hown hK hP 0 rfl rfl 11 (by decide) (hts _ k_83) (fun _ h9 => h9) rfl d_E_depth_50 ?_
  have hPc := hP.sub (ws' := [(h2, .inr (0, [.int (X 1), .int (Y 1), .int (D 1), .int (Q 1), .ref v1, .int (er_ex X Y 1), .int (er_ey X Y 1), .int (er_ea X Y 1), .int (er_ed X Y 1), .int (er_lw (er_ea X Y 1) (er_ed X Y 1))]))]) [2] rfl
  have hKc := hK.sub (tys' := []) [] rfl
  refine vp_callSl (va_runVN (As := [.int lx, .int ly]) (rest := [.long ((er_wt (er_ex X Y 0) (er_ey X Y 0) (er_ea X Y 0) (er_ed X Y 0) lx ly) * ((D 0).toInt64))]) ⟨hx, hb, hml, hown, hts⟩ (c_C_weightAt l dC dI h2 v1 (X 1) (Y 1) (D 1) (Q 1) (er_ex X Y 1) (er_ey X Y 1) (er_ea X Y 1) (er_ed X Y 1) (er_lw (er_ea X Y 1) (er_ed X Y 1)) lx ly) ⟨va_cnB 2 hts (er_gB k_124) rfl rfl rfl (hN _ kn_8) (hts _ k_19) (by decide +kernel) ⟨Nat.le_of_ble_eq_true rfl, Nat.le_of_ble_eq_true rfl⟩, hts _ k_123, hts _ k_2⟩ ⟨PP.blind, va_recv hKc hPc (ci := 0) (q0 := 0) rfl rfl, PP.at hN hKc hPc⟩ rfl rfl hl.1 rfl (lv_room (Nat.le_of_ble_eq_true rfl)) d_E_depth_53 ⟨Nat.zero_le _, Nat.zero_le _⟩).run (fun r_3 hr_3 => ?_)
  obtain rfl : er_wt (er_ex X Y 1) (er_ey X Y 1) (er_ea X Y 1) (er_ed X Y 1) lx ly = r_3 := Eq.symm hr_3
  refine lv_aload_n hx hb d_E_depth_56 rfl (lv_at hl 0 rfl) ?_
  refine va_get (D := (dC, dI)) (ci := 1) (v := .ref h2) (C := R_E) (T := F_E) (N := 12) hx hb hts i_E hown hK hP 0 rfl rfl 1 (by decide) (hts _ k_73) (fun _ h9 => h9) rfl d_E_depth_57 ?_
  refine va_getN (D := (dC, dI)) (ci := 0) (v := .int (D 1)) (C := R_C) (T := F_C) (N := 10) hx hb hts i_C hown hK hP 2 rfl rfl 2 (by decide) (va_Nw.use rfl (hN _ kn_3)) (fun _ h9 => h9) rfl d_E_depth_60 ?_
  refine lv_i2l (v := (D 1).toInt64) hx hb d_E_depth_63 rfl ?_
  refine lv_lmul hx hb d_E_depth_64 ?_
  refine lv_ladd hx hb d_E_depth_65 ?_
  refine lv_aload_n hx hb d_E_depth_66 rfl (lv_at hl 0 rfl) ?_
  refine va_get (D := (dC, dI)) (ci := 1) (v := .ref h3) (C := R_E) (T := F_E) (N := 12) hx hb hts i_E hown hK hP 0 rfl rfl 2 (by decide) (hts _ k_74) (fun _ h9 => h9) rfl d_E_depth_67 ?_
  refine lv_aload_n hx hb d_E_depth_70 rfl (lv_at hl 0 rfl) ?_
  refine va_get (D := (dC, dI)) (ci := 1) (v := .int lx) (C := R_E) (T := F_E) (N := 12) hx hb hts i_E hown hK hP 0 rfl rfl 10 (by decide) (hts _ k_82) (fun _ h9 => h9) rfl d_E_depth_71 ?_
  refine lv_aload_n hx hb d_E_depth_74 rfl (lv_at hl 0 rfl) ?_
  refine va_get (D := (dC, dI)) (ci := 1) (v := .int ly) (C := R_E) (T := F_E) (N := 12) hx hb hts i_E hown hK hP 0 rfl rfl 11 (by decide) (hts _ k_83) (fun _ h9 => h9) rfl d_E_depth_75 ?_
  have hPc := hP.sub (ws' := [(h3, .inr (0, [.int (X 2), .int (Y 2), .int (D 2), .int (Q 2), .ref v2, .int (er_ex X Y 2), .int (er_ey X Y 2), .int (er_ea X Y 2), .int (er_ed X Y 2), .int (er_lw (er_ea X Y 2) (er_ed X Y 2))]))]) [3] rfl
  have hKc := hK.sub (tys' := []) [] rfl
  refine vp_callSl (va_runVN (As := [.int lx, .int ly]) (rest := [.long (((er_wt (er_ex X Y 0) (er_ey X Y 0) (er_ea X Y 0) (er_ed X Y 0) lx ly) * ((D 0).toInt64)) + ((er_wt (er_ex X Y 1) (er_ey X Y 1) (er_ea X Y 1) (er_ed X Y 1) lx ly) * ((D 1).toInt64)))]) ⟨hx, hb, hml, hown, hts⟩ (c_C_weightAt l dC dI h3 v2 (X 2) (Y 2) (D 2) (Q 2) (er_ex X Y 2) (er_ey X Y 2) (er_ea X Y 2) (er_ed X Y 2) (er_lw (er_ea X Y 2) (er_ed X Y 2)) lx ly) ⟨va_cnB 2 hts (er_gB k_124) rfl rfl rfl (hN _ kn_8) (hts _ k_19) (by decide +kernel) ⟨Nat.le_of_ble_eq_true rfl, Nat.le_of_ble_eq_true rfl⟩, hts _ k_123, hts _ k_2⟩ ⟨PP.blind, va_recv hKc hPc (ci := 0) (q0 := 0) rfl rfl, PP.at hN hKc hPc⟩ rfl rfl hl.1 rfl (lv_room (Nat.le_of_ble_eq_true rfl)) d_E_depth_78 ⟨Nat.zero_le _, Nat.zero_le _⟩).run (fun r_4 hr_4 => ?_)
  obtain rfl : er_wt (er_ex X Y 2) (er_ey X Y 2) (er_ea X Y 2) (er_ed X Y 2) lx ly = r_4 := Eq.symm hr_4
  refine lv_aload_n hx hb d_E_depth_81 rfl (lv_at hl 0 rfl) ?_
  refine va_get (D := (dC, dI)) (ci := 1) (v := .ref h3) (C := R_E) (T := F_E) (N := 12) hx hb hts i_E hown hK hP 0 rfl rfl 2 (by decide) (hts _ k_74) (fun _ h9 => h9) rfl d_E_depth_82 ?_
  refine va_getN (D := (dC, dI)) (ci := 0) (v := .int (D 2)) (C := R_C) (T := F_C) (N := 10) hx hb hts i_C hown hK hP 3 rfl rfl 2 (by decide) (va_Nw.use rfl (hN _ kn_3)) (fun _ h9 => h9) rfl d_E_depth_85 ?_
  refine lv_i2l (v := (D 2).toInt64) hx hb d_E_depth_88 rfl ?_
  refine lv_lmul hx hb d_E_depth_89 ?_
  refine lv_ladd hx hb d_E_depth_90 ?_
  refine lv_lstore_n (lv' := [(1, .long ((((er_wt (er_ex X Y 0) (er_ey X Y 0) (er_ea X Y 0) (er_ed X Y 0) lx ly) * ((D 0).toInt64)) + ((er_wt (er_ex X Y 1) (er_ey X Y 1) (er_ea X Y 1) (er_ed X Y 1) lx ly) * ((D 1).toInt64))) + ((er_wt (er_ex X Y 2) (er_ey X Y 2) (er_ea X Y 2) (er_ed X Y 2) lx ly) * ((D 2).toInt64)))), (0, .ref h0)]) hx hb d_E_depth_91 rfl hl (by decide) rfl (fun ls hl => ?_)
  refine lv_lload_n hx hb d_E_depth_92 rfl (lv_at hl 0 rfl) ?_
  refine lv_aload_n hx hb d_E_depth_93 rfl (lv_at hl 1 rfl) ?_
  refine va_get (D := (dC, dI)) (ci := 1) (v := .long (er_ar X Y)) (C := R_E) (T := F_E) (N := 12) hx hb hts i_E hown hK hP 0 rfl rfl 3 (by decide) (hts _ k_75) (fun _ h9 => h9) rfl d_E_depth_94 ?_
  refine va_mabs_long hx hb (hml.trans hl.1.symm) hown (hts _ k_275) (hts _ k_276) (hts _ k_26) (hts _ k_277) (Nat.le_of_ble_eq_true rfl) (Nat.le_of_ble_eq_true rfl) (Nat.zero_le _) (Nat.zero_le _) d_E_depth_97 ?_
  have hPc := hP.sub (ws' := []) [] rfl
  have hKc := hK.sub (tys' := []) [] rfl
  refine vp_callSl (va_runS (As := [.long ((((er_wt (er_ex X Y 0) (er_ey X Y 0) (er_ea X Y 0) (er_ed X Y 0) lx ly) * ((D 0).toInt64)) + ((er_wt (er_ex X Y 1) (er_ey X Y 1) (er_ea X Y 1) (er_ed X Y 1) lx ly) * ((D 1).toInt64))) + ((er_wt (er_ex X Y 2) (er_ey X Y 2) (er_ea X Y 2) (er_ed X Y 2) lx ly) * ((D 2).toInt64))), .long (if 0 < (er_ar X Y) then (er_ar X Y) else -(er_ar X Y))]) (rest := []) ⟨hx, hb, hml, hown, hts⟩ (c_E_dividedDown l dC dI ((((er_wt (er_ex X Y 0) (er_ey X Y 0) (er_ea X Y 0) (er_ed X Y 0) lx ly) * ((D 0).toInt64)) + ((er_wt (er_ex X Y 1) (er_ey X Y 1) (er_ea X Y 1) (er_ed X Y 1) lx ly) * ((D 1).toInt64))) + ((er_wt (er_ex X Y 2) (er_ey X Y 2) (er_ea X Y 2) (er_ed X Y 2) lx ly) * ((D 2).toInt64))) (if 0 < (er_ar X Y) then (er_ar X Y) else -(er_ar X Y))) (va_cwS 2 hts (er_gS k_278 k_279 k_18 k_280) rfl rfl rfl (by decide +kernel) ⟨Nat.le_of_ble_eq_true rfl, Nat.le_of_ble_eq_true rfl⟩) ⟨PP.blind, PP.at hN hKc hPc⟩ rfl rfl hl.1 rfl (lv_room (Nat.le_of_ble_eq_true rfl)) d_E_depth_100 ⟨Nat.zero_le _, Nat.zero_le _⟩).run (fun r_5 hr_5 => ?_)
  obtain rfl : er_dd ((((er_wt (er_ex X Y 0) (er_ey X Y 0) (er_ea X Y 0) (er_ed X Y 0) lx ly) * ((D 0).toInt64)) + ((er_wt (er_ex X Y 1) (er_ey X Y 1) (er_ea X Y 1) (er_ed X Y 1) lx ly) * ((D 1).toInt64))) + ((er_wt (er_ex X Y 2) (er_ey X Y 2) (er_ea X Y 2) (er_ed X Y 2) lx ly) * ((D 2).toInt64))) (if 0 < (er_ar X Y) then (er_ar X Y) else -(er_ar X Y)) = r_5 := Eq.symm hr_5
  refine lv_l2i (v := (er_dd ((((er_wt (er_ex X Y 0) (er_ey X Y 0) (er_ea X Y 0) (er_ed X Y 0) lx ly) * ((D 0).toInt64)) + ((er_wt (er_ex X Y 1) (er_ey X Y 1) (er_ea X Y 1) (er_ed X Y 1) lx ly) * ((D 1).toInt64))) + ((er_wt (er_ex X Y 2) (er_ey X Y 2) (er_ea X Y 2) (er_ed X Y 2) lx ly) * ((D 2).toInt64))) (if 0 < (er_ar X Y) then (er_ar X Y) else -(er_ar X Y))).toInt32) hx hb d_E_depth_103 rfl ?_
  exact W.iret (v := (er_dd ((((er_wt (er_ex X Y 0) (er_ey X Y 0) (er_ea X Y 0) (er_ed X Y 0) lx ly) * ((D 0).toInt64)) + ((er_wt (er_ex X Y 1) (er_ey X Y 1) (er_ea X Y 1) (er_ed X Y 1) lx ly) * ((D 1).toInt64))) + ((er_wt (er_ex X Y 2) (er_ey X Y 2) (er_ea X Y 2) (er_ed X Y 2) lx ly) * ((D 2).toInt64))) (if 0 < (er_ar X Y) then (er_ar X Y) else -(er_ar X Y))).toInt32) hx hb hr (fun u9 ht hW => ⟨_, rfl, rfl, ht⟩) (fun q hq => by cases hq) d_E_depth_104

set_option maxHeartbeats 1000000 in
set_option maxRecDepth 100000 in
theorem c_E_at (l : Launch) (dC : Nat → ClassId) (dI : Nat → Nat → Nat) (h0 h1 h2 h3 v0 v1 v2 : Nat) (X Y D Q : Nat → Int32) (wx wy ww wh wk lx ly : Int32) (k0 k1 k2 : ClassId) (f0 f1 f2 : Nat → Int32) (n : Nat) (hn : n < 28) : Met l y_E_at w_E_at ({ frames := 6, cells := 0, slots := 0, locals := 100 }) (va_Pc [.ref h0, .int (nI n)] (PP dC dI [(k0, .int), (k1, .int), (k2, .int)] [(h0, .inr (1, [.ref h1, .ref h2, .ref h3, .long (er_ar X Y), .int wx, .int wy, .int ww, .int wh, .int wk, .int 1, .int lx, .int ly])), (h1, .inr (0, [.int (X 0), .int (Y 0), .int (D 0), .int (Q 0), .ref v0, .int (er_ex X Y 0), .int (er_ey X Y 0), .int (er_ea X Y 0), .int (er_ed X Y 0), .int (er_lw (er_ea X Y 0) (er_ed X Y 0))])), (h2, .inr (0, [.int (X 1), .int (Y 1), .int (D 1), .int (Q 1), .ref v1, .int (er_ex X Y 1), .int (er_ey X Y 1), .int (er_ea X Y 1), .int (er_ed X Y 1), .int (er_lw (er_ea X Y 1) (er_ed X Y 1))])), (h3, .inr (0, [.int (X 2), .int (Y 2), .int (D 2), .int (Q 2), .ref v2, .int (er_ex X Y 2), .int (er_ey X Y 2), .int (er_ea X Y 2), .int (er_ed X Y 2), .int (er_lw (er_ea X Y 2) (er_ed X Y 2))])), (v0, .inl (k0, 28, .inl f0)), (v1, .inl (k1, 28, .inl f1)), (v2, .inl (k2, 28, .inl f2))])) (vp_Si (fun r : Int32 => ∃ z : Nat, z ≤ 34 ∧ er_first (er_m3 X Y Q lx ly) z ∧ r = er_at X Y Q lx ly z (f0 n) (f1 n) (f2 n))) 0 0 (fun _ => False) := by
  refine Met.ofW (cc := b_E_at) (maxL := 17) (ret := (some .int)) (by decide +kernel) rfl ?_
  intro p e s m args below meth c s₁ B hml hv
  obtain ⟨rfl, hN, hK, hP⟩ := hv
  have hx := B.exec
  have hb := B.bytes
  have hr := B.returns
  have hts := er_hts (atoms_spec (ws := w_E_at) B.pre)
  have hown : s.vm.findClass R_E = some m.cls := findClass_of_methodNamed B.named
  have hlocks := B.notSynchronized
  have hP : va_P (dC, dI) classes [(h0, .inr (1, [.ref h1, .ref h2, .ref h3, .long (er_ar X Y), .int wx, .int wy, .int ww, .int wh, .int wk, .int 1, .int lx, .int ly])), (h1, .inr (0, [.int (X 0), .int (Y 0), .int (D 0), .int (Q 0), .ref v0, .int (er_ex X Y 0), .int (er_ey X Y 0), .int (er_ea X Y 0), .int (er_ed X Y 0), .int (er_lw (er_ea X Y 0) (er_ed X Y 0))])), (h2, .inr (0, [.int (X 1), .int (Y 1), .int (D 1), .int (Q 1), .ref v1, .int (er_ex X Y 1), .int (er_ey X Y 1), .int (er_ea X Y 1), .int (er_ed X Y 1), .int (er_lw (er_ea X Y 1) (er_ed X Y 1))])), (h3, .inr (0, [.int (X 2), .int (Y 2), .int (D 2), .int (Q 2), .ref v2, .int (er_ex X Y 2), .int (er_ey X Y 2), .int (er_ea X Y 2), .int (er_ed X Y 2), .int (er_lw (er_ea X Y 2) (er_ed X Y 2))])), (v0, .inl (k0, 28, .inl f0)), (v1, .inl (k1, 28, .inl f1)), (v2, .inl (k2, 28, .inl f2))] s.heap := hP
  have hl := lv_entry ([.ref h0, .int (nI n)]) (n := 17) (Nat.le_of_ble_eq_true rfl)
  rw [lg_entry_eq]
  generalize (lg_sl ([.ref h0, .int (nI n)]) ++ List.replicate (17 - (lg_sl ([.ref h0, .int (nI n)])).length) Slot.unset).toArray = ls at hl ⊢
  have hl : lv_has ls 17 [(0, .ref h0), (1, .int (nI n))] := hl
  have u1 : er_win (nI n) 0 27 = true := er_win_nI (k := 27) (by omega) (by decide)
  refine lv_iload_n hx hb d_E_at_0 rfl (lv_at hl 1 rfl) ?_
  have hPc := hP.sub (ws' := []) [] rfl
  have hKc := hK.sub (tys' := []) [] rfl
  refine vp_callSi (va_runS (As := [.int (nI n)]) (rest := []) ⟨hx, hb, hml, hown, hts⟩ (c_E_isValue l dC dI (nI n)) (va_cwS 1 hts (er_gS k_218 k_219 k_18 k_220) rfl rfl rfl (by decide +kernel) ⟨Nat.le_of_ble_eq_true rfl, Nat.le_of_ble_eq_true rfl⟩) ⟨PP.blind, PP.at hN hKc hPc⟩ rfl rfl hl.1 rfl (lv_room (Nat.le_of_ble_eq_true rfl)) d_E_at_1 ⟨Nat.zero_le _, Nat.zero_le _⟩).run (fun r_1 hr_1 => ?_)
  obtain rfl : er_b (er_win (nI n) 0 27) = r_1 := Eq.symm hr_1
  refine lv_if_ne (tgt := 17) hx hb d_E_at_4 (by decide) (fun c_2 => ?_) (fun c_2 => ?_)
  · have c_2 := er_b_n.mp c_2
    refine lv_aload_n hx hb d_E_at_17 rfl (lv_at hl 0 rfl) ?_
    refine va_get (D := (dC, dI)) (ci := 1) (v := .int 1) (C := R_E) (T := F_E) (N := 12) hx hb hts i_E hown hK hP 0 rfl rfl 9 (by decide) (hts _ k_81) (fun _ h9 => h9) rfl d_E_at_18 ?_
    refine lv_if_ne (tgt := 34) hx hb d_E_at_21 (by decide) (fun _ => ?_) (fun c_3 => absurd c_3 (by decide))
    refine lv_aload_n hx hb d_E_at_34 rfl (lv_at hl 0 rfl) ?_
    refine va_get (D := (dC, dI)) (ci := 1) (v := .ref h1) (C := R_E) (T := F_E) (N := 12) hx hb hts i_E hown hK hP 0 rfl rfl 0 (by decide) (hts _ k_72) (fun _ h9 => h9) rfl d_E_at_35 ?_
    refine lv_aload_n hx hb d_E_at_38 rfl (lv_at hl 0 rfl) ?_
    refine va_get (D := (dC, dI)) (ci := 1) (v := .int lx) (C := R_E) (T := F_E) (N := 12) hx hb hts i_E hown hK hP 0 rfl rfl 10 (by decide) (hts _ k_82) (fun _ h9 => h9) rfl d_E_at_39 ?_
    refine lv_aload_n hx hb d_E_at_42 rfl (lv_at hl 0 rfl) ?_
    refine va_get (D := (dC, dI)) (ci := 1) (v := .int ly) (C := R_E) (T := F_E) (N := 12) hx hb hts i_E hown hK hP 0 rfl rfl 11 (by decide) (hts _ k_83) (fun _ h9 => h9) rfl d_E_at_43 ?_
    have hPc := hP.sub (ws' := [(h1, .inr (0, [.int (X 0), .int (Y 0), .int (D 0), .int (Q 0), .ref v0, .int (er_ex X Y 0), .int (er_ey X Y 0), .int (er_ea X Y 0), .int (er_ed X Y 0), .int (er_lw (er_ea X Y 0) (er_ed X Y 0))]))]) [1] rfl
    have hKc := hK.sub (tys' := []) [] rfl
    refine vp_callSl (va_runVN (As := [.int lx, .int ly]) (rest := []) ⟨hx, hb, hml, hown, hts⟩ (c_C_nearWeightAt l dC dI h1 v0 (X 0) (Y 0) (D 0) (Q 0) (er_ex X Y 0) (er_ey X Y 0) (er_ea X Y 0) (er_ed X Y 0) (er_lw (er_ea X Y 0) (er_ed X Y 0)) lx ly) ⟨va_cnB 2 hts (er_gB k_292) rfl rfl rfl (hN _ kn_9) (hts _ k_19) (by decide +kernel) ⟨Nat.le_of_ble_eq_true rfl, Nat.le_of_ble_eq_true rfl⟩, hts _ k_291, hts _ k_9⟩ ⟨PP.blind, va_recv hKc hPc (ci := 0) (q0 := 0) rfl rfl, PP.at hN hKc hPc⟩ rfl rfl hl.1 rfl (lv_room (Nat.le_of_ble_eq_true rfl)) d_E_at_46 ⟨Nat.zero_le _, Nat.zero_le _⟩).run (fun r_4 hr_4 => ?_)
    obtain rfl : er_wt (er_ex X Y 0) (er_ey X Y 0) (er_ea X Y 0) (er_ed X Y 0) lx ly * (Q 0).toInt64 = r_4 := Eq.symm hr_4
    refine lv_lstore_n (lv' := [(2, .long (er_wt (er_ex X Y 0) (er_ey X Y 0) (er_ea X Y 0) (er_ed X Y 0) lx ly * (Q 0).toInt64)), (0, .ref h0), (1, .int (nI n))]) hx hb d_E_at_49 rfl hl (by decide) rfl (fun ls hl => ?_)
    refine lv_aload_n hx hb d_E_at_50 rfl (lv_at hl 1 rfl) ?_
    refine va_get (D := (dC, dI)) (ci := 1) (v := .ref h2) (C := R_E) (T := F_E) (N := 12) hx hb hts i_E hown hK hP 0 rfl rfl 1 (by decide) (hts _ k_73) (fun _ h9 => h9) rfl d_E_at_51 ?_
    refine lv_aload_n hx hb d_E_at_54 rfl (lv_at hl 1 rfl) ?_
    refine va_get (D := (dC, dI)) (ci := 1) (v := .int lx) (C := R_E) (T := F_E) (N := 12) hx hb hts i_E hown hK hP 0 rfl rfl 10 (by decide) (hts _ k_82) (fun _ h9 => h9) rfl d_E_at_55 ?_
    refine lv_aload_n hx hb d_E_at_58 rfl (lv_at hl 1 rfl) ?_
    refine va_get (D := (dC, dI)) (ci := 1) (v := .int ly) (C := R_E) (T := F_E) (N := 12) hx hb hts i_E hown hK hP 0 rfl rfl 11 (by decide) (hts _ k_83) (fun _ h9 => h9) rfl d_E_at_59 ?_
    have hPc := hP.sub (ws' := [(h2, .inr (0, [.int (X 1), .int (Y 1), .int (D 1), .int (Q 1), .ref v1, .int (er_ex X Y 1), .int (er_ey X Y 1), .int (er_ea X Y 1), .int (er_ed X Y 1), .int (er_lw (er_ea X Y 1) (er_ed X Y 1))]))]) [2] rfl
    have hKc := hK.sub (tys' := []) [] rfl
    refine vp_callSl (va_runVN (As := [.int lx, .int ly]) (rest := []) ⟨hx, hb, hml, hown, hts⟩ (c_C_nearWeightAt l dC dI h2 v1 (X 1) (Y 1) (D 1) (Q 1) (er_ex X Y 1) (er_ey X Y 1) (er_ea X Y 1) (er_ed X Y 1) (er_lw (er_ea X Y 1) (er_ed X Y 1)) lx ly) ⟨va_cnB 2 hts (er_gB k_292) rfl rfl rfl (hN _ kn_9) (hts _ k_19) (by decide +kernel) ⟨Nat.le_of_ble_eq_true rfl, Nat.le_of_ble_eq_true rfl⟩, hts _ k_291, hts _ k_9⟩ ⟨PP.blind, va_recv hKc hPc (ci := 0) (q0 := 0) rfl rfl, PP.at hN hKc hPc⟩ rfl rfl hl.1 rfl (lv_room (Nat.le_of_ble_eq_true rfl)) d_E_at_62 ⟨Nat.zero_le _, Nat.zero_le _⟩).run (fun r_5 hr_5 => ?_)
    obtain rfl : er_wt (er_ex X Y 1) (er_ey X Y 1) (er_ea X Y 1) (er_ed X Y 1) lx ly * (Q 1).toInt64 = r_5 := Eq.symm hr_5
    refine lv_lstore (lv' := [(4, .long (er_wt (er_ex X Y 1) (er_ey X Y 1) (er_ea X Y 1) (er_ed X Y 1) lx ly * (Q 1).toInt64)), (2, .long (er_wt (er_ex X Y 0) (er_ey X Y 0) (er_ea X Y 0) (er_ed X Y 0) lx ly * (Q 0).toInt64)), (0, .ref h0), (1, .int (nI n))]) hx hb d_E_at_65 hl (by decide) rfl (fun ls hl => ?_)
    refine lv_aload_n hx hb d_E_at_67 rfl (lv_at hl 2 rfl) ?_
    refine va_get (D := (dC, dI)) (ci := 1) (v := .ref h3) (C := R_E) (T := F_E) (N := 12) hx hb hts i_E hown hK hP 0 rfl rfl 2 (by decide) (hts _ k_74) (fun _ h9 => h9) rfl d_E_at_68 ?_
    refine lv_aload_n hx hb d_E_at_71 rfl (lv_at hl 2 rfl) ?_
    refine va_get (D := (dC, dI)) (ci := 1) (v := .int lx) (C := R_E) (T := F_E) (N := 12) hx hb hts i_E hown hK hP 0 rfl rfl 10 (by decide) (hts _ k_82) (fun _ h9 => h9) rfl d_E_at_72 ?_
    refine lv_aload_n hx hb d_E_at_75 rfl (lv_at hl 2 rfl) ?_
    refine va_get (D := (dC, dI)) (ci := 1) (v := .int ly) (C := R_E) (T := F_E) (N := 12) hx hb hts i_E hown hK hP 0 rfl rfl 11 (by decide) (hts _ k_83) (fun _ h9 => h9) rfl d_E_at_76 ?_
    have hPc := hP.sub (ws' := [(h3, .inr (0, [.int (X 2), .int (Y 2), .int (D 2), .int (Q 2), .ref v2, .int (er_ex X Y 2), .int (er_ey X Y 2), .int (er_ea X Y 2), .int (er_ed X Y 2), .int (er_lw (er_ea X Y 2) (er_ed X Y 2))]))]) [3] rfl
    have hKc := hK.sub (tys' := []) [] rfl
    refine vp_callSl (va_runVN (As := [.int lx, .int ly]) (rest := []) ⟨hx, hb, hml, hown, hts⟩ (c_C_nearWeightAt l dC dI h3 v2 (X 2) (Y 2) (D 2) (Q 2) (er_ex X Y 2) (er_ey X Y 2) (er_ea X Y 2) (er_ed X Y 2) (er_lw (er_ea X Y 2) (er_ed X Y 2)) lx ly) ⟨va_cnB 2 hts (er_gB k_292) rfl rfl rfl (hN _ kn_9) (hts _ k_19) (by decide +kernel) ⟨Nat.le_of_ble_eq_true rfl, Nat.le_of_ble_eq_true rfl⟩, hts _ k_291, hts _ k_9⟩ ⟨PP.blind, va_recv hKc hPc (ci := 0) (q0 := 0) rfl rfl, PP.at hN hKc hPc⟩ rfl rfl hl.1 rfl (lv_room (Nat.le_of_ble_eq_true rfl)) d_E_at_79 ⟨Nat.zero_le _, Nat.zero_le _⟩).run (fun r_6 hr_6 => ?_)
    obtain rfl : er_wt (er_ex X Y 2) (er_ey X Y 2) (er_ea X Y 2) (er_ed X Y 2) lx ly * (Q 2).toInt64 = r_6 := Eq.symm hr_6
    refine lv_lstore (lv' := [(6, .long (er_wt (er_ex X Y 2) (er_ey X Y 2) (er_ea X Y 2) (er_ed X Y 2) lx ly * (Q 2).toInt64)), (4, .long (er_wt (er_ex X Y 1) (er_ey X Y 1) (er_ea X Y 1) (er_ed X Y 1) lx ly * (Q 1).toInt64)), (2, .long (er_wt (er_ex X Y 0) (er_ey X Y 0) (er_ea X Y 0) (er_ed X Y 0) lx ly * (Q 0).toInt64)), (0, .ref h0), (1, .int (nI n))]) hx hb d_E_at_82 hl (by decide) rfl (fun ls hl => ?_)
    refine lv_lload_n hx hb d_E_at_84 rfl (lv_at hl 2 rfl) ?_
    refine lv_lload hx hb d_E_at_85 (lv_at hl 1 rfl) ?_
    refine lv_lload hx hb d_E_at_87 (lv_at hl 0 rfl) ?_
    refine va_mmax_long hx hb (hml.trans hl.1.symm) hown (hts _ k_293) (hts _ k_294) (hts _ k_26) (hts _ k_295) (Nat.le_of_ble_eq_true rfl) (Nat.le_of_ble_eq_true rfl) (Nat.zero_le _) (Nat.zero_le _) d_E_at_89 ?_
    refine lv_topl (fun y9 e9 => ?_)
    obtain rfl : y9 = er_mx (er_wt (er_ex X Y 1) (er_ey X Y 1) (er_ea X Y 1) (er_ed X Y 1) lx ly * (Q 1).toInt64) (er_wt (er_ex X Y 2) (er_ey X Y 2) (er_ea X Y 2) (er_ed X Y 2) lx ly * (Q 2).toInt64) := e9
    refine va_mmax_long hx hb (hml.trans hl.1.symm) hown (hts _ k_293) (hts _ k_294) (hts _ k_26) (hts _ k_295) (Nat.le_of_ble_eq_true rfl) (Nat.le_of_ble_eq_true rfl) (Nat.zero_le _) (Nat.zero_le _) d_E_at_92 ?_
    refine lv_topl (fun y9 e9 => ?_)
    obtain rfl : y9 = er_mx (er_wt (er_ex X Y 0) (er_ey X Y 0) (er_ea X Y 0) (er_ed X Y 0) lx ly * (Q 0).toInt64) (er_mx (er_wt (er_ex X Y 1) (er_ey X Y 1) (er_ea X Y 1) (er_ed X Y 1) lx ly * (Q 1).toInt64) (er_wt (er_ex X Y 2) (er_ey X Y 2) (er_ea X Y 2) (er_ed X Y 2) lx ly * (Q 2).toInt64)) := e9
    have hPc := hP.sub (ws' := []) [] rfl
    have hKc := hK.sub (tys' := []) [] rfl
    refine vp_callSi (va_runS (As := [.long (er_mx (er_wt (er_ex X Y 0) (er_ey X Y 0) (er_ea X Y 0) (er_ed X Y 0) lx ly * (Q 0).toInt64) (er_mx (er_wt (er_ex X Y 1) (er_ey X Y 1) (er_ea X Y 1) (er_ed X Y 1) lx ly * (Q 1).toInt64) (er_wt (er_ex X Y 2) (er_ey X Y 2) (er_ea X Y 2) (er_ed X Y 2) lx ly * (Q 2).toInt64)))]) (rest := []) ⟨hx, hb, hml, hown, hts⟩ (c_E_shareShift l dC dI (er_mx (er_wt (er_ex X Y 0) (er_ey X Y 0) (er_ea X Y 0) (er_ed X Y 0) lx ly * (Q 0).toInt64) (er_mx (er_wt (er_ex X Y 1) (er_ey X Y 1) (er_ea X Y 1) (er_ed X Y 1) lx ly * (Q 1).toInt64) (er_wt (er_ex X Y 2) (er_ey X Y 2) (er_ea X Y 2) (er_ed X Y 2) lx ly * (Q 2).toInt64)))) (va_cwS 1 hts (er_gS k_296 k_297 k_18 k_298) rfl rfl rfl (by decide +kernel) ⟨Nat.le_of_ble_eq_true rfl, Nat.le_of_ble_eq_true rfl⟩) ⟨PP.blind, PP.at hN hKc hPc⟩ rfl rfl hl.1 rfl (lv_room (Nat.le_of_ble_eq_true rfl)) d_E_at_95 ⟨Nat.zero_le _, Nat.zero_le _⟩).run (fun r_7 hr_7 => ?_)
    have hr_7 : ∃ n : Nat, r_7 = nI n ∧ n ≤ 34 ∧ er_first (er_mx (er_wt (er_ex X Y 0) (er_ey X Y 0) (er_ea X Y 0) (er_ed X Y 0) lx ly * (Q 0).toInt64) (er_mx (er_wt (er_ex X Y 1) (er_ey X Y 1) (er_ea X Y 1) (er_ed X Y 1) lx ly * (Q 1).toInt64) (er_wt (er_ex X Y 2) (er_ey X Y 2) (er_ea X Y 2) (er_ed X Y 2) lx ly * (Q 2).toInt64))) n := hr_7
    obtain ⟨z, rfl, hz, hz2⟩ := hr_7
    refine lv_istore (lv' := [(8, .int (nI z)), (6, .long (er_wt (er_ex X Y 2) (er_ey X Y 2) (er_ea X Y 2) (er_ed X Y 2) lx ly * (Q 2).toInt64)), (4, .long (er_wt (er_ex X Y 1) (er_ey X Y 1) (er_ea X Y 1) (er_ed X Y 1) lx ly * (Q 1).toInt64)), (2, .long (er_wt (er_ex X Y 0) (er_ey X Y 0) (er_ea X Y 0) (er_ed X Y 0) lx ly * (Q 0).toInt64)), (0, .ref h0), (1, .int (nI n))]) hx hb d_E_at_98 hl (by decide) rfl (fun ls hl => ?_)
    refine lv_lload_n hx hb d_E_at_100 rfl (lv_at hl 3 rfl) ?_
    refine lv_iload hx hb d_E_at_101 (lv_at hl 0 rfl) ?_
    refine lv_lshr (v := (er_wt (er_ex X Y 0) (er_ey X Y 0) (er_ea X Y 0) (er_ed X Y 0) lx ly * (Q 0).toInt64) >>> ((nI z).toInt64 &&& 63)) hx hb d_E_at_103 rfl ?_
    refine lv_lstore (lv' := [(9, .long ((er_wt (er_ex X Y 0) (er_ey X Y 0) (er_ea X Y 0) (er_ed X Y 0) lx ly * (Q 0).toInt64) >>> ((nI z).toInt64 &&& 63))), (8, .int (nI z)), (6, .long (er_wt (er_ex X Y 2) (er_ey X Y 2) (er_ea X Y 2) (er_ed X Y 2) lx ly * (Q 2).toInt64)), (4, .long (er_wt (er_ex X Y 1) (er_ey X Y 1) (er_ea X Y 1) (er_ed X Y 1) lx ly * (Q 1).toInt64)), (2, .long (er_wt (er_ex X Y 0) (er_ey X Y 0) (er_ea X Y 0) (er_ed X Y 0) lx ly * (Q 0).toInt64)), (0, .ref h0), (1, .int (nI n))]) hx hb d_E_at_104 hl (by decide) rfl (fun ls hl => ?_)
    refine lv_lload hx hb d_E_at_106 (lv_at hl 3 rfl) ?_
    refine lv_iload hx hb d_E_at_108 (lv_at hl 1 rfl) ?_
    refine lv_lshr (v := (er_wt (er_ex X Y 1) (er_ey X Y 1) (er_ea X Y 1) (er_ed X Y 1) lx ly * (Q 1).toInt64) >>> ((nI z).toInt64 &&& 63)) hx hb d_E_at_110 rfl ?_
    refine lv_lstore (lv' := [(11, .long ((er_wt (er_ex X Y 1) (er_ey X Y 1) (er_ea X Y 1) (er_ed X Y 1) lx ly * (Q 1).toInt64) >>> ((nI z).toInt64 &&& 63))), (9, .long ((er_wt (er_ex X Y 0) (er_ey X Y 0) (er_ea X Y 0) (er_ed X Y 0) lx ly * (Q 0).toInt64) >>> ((nI z).toInt64 &&& 63))), (8, .int (nI z)), (6, .long (er_wt (er_ex X Y 2) (er_ey X Y 2) (er_ea X Y 2) (er_ed X Y 2) lx ly * (Q 2).toInt64)), (4, .long (er_wt (er_ex X Y 1) (er_ey X Y 1) (er_ea X Y 1) (er_ed X Y 1) lx ly * (Q 1).toInt64)), (2, .long (er_wt (er_ex X Y 0) (er_ey X Y 0) (er_ea X Y 0) (er_ed X Y 0) lx ly * (Q 0).toInt64)), (0, .ref h0), (1, .int (nI n))]) hx hb d_E_at_111 hl (by decide) rfl (fun ls hl => ?_)
    refine lv_lload hx hb d_E_at_113 (lv_at hl 3 rfl) ?_
    refine lv_iload hx hb d_E_at_115 (lv_at hl 2 rfl) ?_
    refine lv_lshr (v := (er_wt (er_ex X Y 2) (er_ey X Y 2) (er_ea X Y 2) (er_ed X Y 2) lx ly * (Q 2).toInt64) >>> ((nI z).toInt64 &&& 63)) hx hb d_E_at_117 rfl ?_
    refine lv_lstore (lv' := [(13, .long ((er_wt (er_ex X Y 2) (er_ey X Y 2) (er_ea X Y 2) (er_ed X Y 2) lx ly * (Q 2).toInt64) >>> ((nI z).toInt64 &&& 63))), (11, .long ((er_wt (er_ex X Y 1) (er_ey X Y 1) (er_ea X Y 1) (er_ed X Y 1) lx ly * (Q 1).toInt64) >>> ((nI z).toInt64 &&& 63))), (9, .long ((er_wt (er_ex X Y 0) (er_ey X Y 0) (er_ea X Y 0) (er_ed X Y 0) lx ly * (Q 0).toInt64) >>> ((nI z).toInt64 &&& 63))), (8, .int (nI z)), (6, .long (er_wt (er_ex X Y 2) (er_ey X Y 2) (er_ea X Y 2) (er_ed X Y 2) lx ly * (Q 2).toInt64)), (4, .long (er_wt (er_ex X Y 1) (er_ey X Y 1) (er_ea X Y 1) (er_ed X Y 1) lx ly * (Q 1).toInt64)), (2, .long (er_wt (er_ex X Y 0) (er_ey X Y 0) (er_ea X Y 0) (er_ed X Y 0) lx ly * (Q 0).toInt64)), (0, .ref h0), (1, .int (nI n))]) hx hb d_E_at_118 hl (by decide) rfl (fun ls hl => ?_)
    refine lv_lload hx hb d_E_at_120 (lv_at hl 2 rfl) ?_
    refine lv_aload_n hx hb d_E_at_122 rfl (lv_at hl 7 rfl) ?_
    refine va_get (D := (dC, dI)) (ci := 1) (v := .ref h1) (C := R_E) (T := F_E) (N := 12) hx hb hts i_E hown hK hP 0 rfl rfl 0 (by decide) (hts _ k_72) (fun _ h9 => h9) rfl d_E_at_123 ?_
    refine va_getN (D := (dC, dI)) (ci := 0) (v := .ref v0) (C := R_C) (T := F_C) (N := 10) hx hb hts i_C hown hK hP 1 rfl rfl 4 (by decide) (va_Nw.use rfl (hN _ kn_5)) (fun _ h9 => h9) rfl d_E_at_126 ?_
    refine lv_iload_n hx hb d_E_at_129 rfl (lv_at hl 8 rfl) ?_
    refine va_iald (i := nI n) hx hb hK hP 4 0 rfl rfl (vp_in_nI (by omega) (by decide)) d_E_at_130 ?_
    refine lv_topi (x := f0 (nI n).toNatClampNeg) (fun y9 e9 => ?_)
    obtain rfl : y9 = f0 n := by rw [e9, nI_clamp (by omega)]
    refine lv_i2l (v := (f0 n).toInt64) hx hb d_E_at_131 rfl ?_
    refine lv_lmul hx hb d_E_at_132 ?_
    refine lv_lload hx hb d_E_at_133 (lv_at hl 1 rfl) ?_
    refine lv_aload_n hx hb d_E_at_135 rfl (lv_at hl 7 rfl) ?_
    refine va_get (D := (dC, dI)) (ci := 1) (v := .ref h2) (C := R_E) (T := F_E) (N := 12) hx hb hts i_E hown hK hP 0 rfl rfl 1 (by decide) (hts _ k_73) (fun _ h9 => h9) rfl d_E_at_136 ?_
    refine va_getN (D := (dC, dI)) (ci := 0) (v := .ref v1) (C := R_C) (T := F_C) (N := 10) hx hb hts i_C hown hK hP 2 rfl rfl 4 (by decide) (va_Nw.use rfl (hN _ kn_5)) (fun _ h9 => h9) rfl d_E_at_139 ?_
    refine lv_iload_n hx hb d_E_at_142 rfl (lv_at hl 8 rfl) ?_
    refine va_iald (i := nI n) hx hb hK hP 5 1 rfl rfl (vp_in_nI (by omega) (by decide)) d_E_at_143 ?_
    refine lv_topi (x := f1 (nI n).toNatClampNeg) (fun y9 e9 => ?_)
    obtain rfl : y9 = f1 n := by rw [e9, nI_clamp (by omega)]
    refine lv_i2l (v := (f1 n).toInt64) hx hb d_E_at_144 rfl ?_
    refine lv_lmul hx hb d_E_at_145 ?_
    refine lv_ladd hx hb d_E_at_146 ?_
    refine lv_lload hx hb d_E_at_147 (lv_at hl 0 rfl) ?_
    refine lv_aload_n hx hb d_E_at_149 rfl (lv_at hl 7 rfl) ?_
    refine va_get (D := (dC, dI)) (ci := 1) (v := .ref h3) (C := R_E) (T := F_E) (N := 12) hx hb hts i_E hown hK hP 0 rfl rfl 2 (by decide) (hts _ k_74) (fun _ h9 => h9) rfl d_E_at_150 ?_
    refine va_getN (D := (dC, dI)) (ci := 0) (v := .ref v2) (C := R_C) (T := F_C) (N := 10) hx hb hts i_C hown hK hP 3 rfl rfl 4 (by decide) (va_Nw.use rfl (hN _ kn_5)) (fun _ h9 => h9) rfl d_E_at_153 ?_
    refine lv_iload_n hx hb d_E_at_156 rfl (lv_at hl 8 rfl) ?_
    refine va_iald (i := nI n) hx hb hK hP 6 2 rfl rfl (vp_in_nI (by omega) (by decide)) d_E_at_157 ?_
    refine lv_topi (x := f2 (nI n).toNatClampNeg) (fun y9 e9 => ?_)
    obtain rfl : y9 = f2 n := by rw [e9, nI_clamp (by omega)]
    refine lv_i2l (v := (f2 n).toInt64) hx hb d_E_at_158 rfl ?_
    refine lv_lmul hx hb d_E_at_159 ?_
    refine lv_ladd hx hb d_E_at_160 ?_
    refine lv_lstore (lv' := [(15, .long (((((er_wt (er_ex X Y 0) (er_ey X Y 0) (er_ea X Y 0) (er_ed X Y 0) lx ly * (Q 0).toInt64) >>> ((nI z).toInt64 &&& 63)) * ((f0 n).toInt64)) + (((er_wt (er_ex X Y 1) (er_ey X Y 1) (er_ea X Y 1) (er_ed X Y 1) lx ly * (Q 1).toInt64) >>> ((nI z).toInt64 &&& 63)) * ((f1 n).toInt64))) + (((er_wt (er_ex X Y 2) (er_ey X Y 2) (er_ea X Y 2) (er_ed X Y 2) lx ly * (Q 2).toInt64) >>> ((nI z).toInt64 &&& 63)) * ((f2 n).toInt64)))), (13, .long ((er_wt (er_ex X Y 2) (er_ey X Y 2) (er_ea X Y 2) (er_ed X Y 2) lx ly * (Q 2).toInt64) >>> ((nI z).toInt64 &&& 63))), (11, .long ((er_wt (er_ex X Y 1) (er_ey X Y 1) (er_ea X Y 1) (er_ed X Y 1) lx ly * (Q 1).toInt64) >>> ((nI z).toInt64 &&& 63))), (9, .long ((er_wt (er_ex X Y 0) (er_ey X Y 0) (er_ea X Y 0) (er_ed X Y 0) lx ly * (Q 0).toInt64) >>> ((nI z).toInt64 &&& 63))), (8, .int (nI z)), (6, .long (er_wt (er_ex X Y 2) (er_ey X Y 2) (er_ea X Y 2) (er_ed X Y 2) lx ly * (Q 2).toInt64)), (4, .long (er_wt (er_ex X Y 1) (er_ey X Y 1) (er_ea X Y 1) (er_ed X Y 1) lx ly * (Q 1).toInt64)), (2, .long (er_wt (er_ex X Y 0) (er_ey X Y 0) (er_ea X Y 0) (er_ed X Y 0) lx ly * (Q 0).toInt64)), (0, .ref h0), (1, .int (nI n))]) hx hb d_E_at_161 hl (by decide) rfl (fun ls hl => ?_)
    refine lv_lload hx hb d_E_at_163 (lv_at hl 0 rfl) ?_
    refine lv_lload hx hb d_E_at_165 (lv_at hl 3 rfl) ?_
    refine lv_lload hx hb d_E_at_167 (lv_at hl 2 rfl) ?_
    refine lv_ladd hx hb d_E_at_169 ?_
    refine lv_lload hx hb d_E_at_170 (lv_at hl 1 rfl) ?_
    refine lv_ladd hx hb d_E_at_172 ?_
    have hPc := hP.sub (ws' := []) [] rfl
    have hKc := hK.sub (tys' := []) [] rfl
    refine vp_callSl (va_runS (As := [.long (((((er_wt (er_ex X Y 0) (er_ey X Y 0) (er_ea X Y 0) (er_ed X Y 0) lx ly * (Q 0).toInt64) >>> ((nI z).toInt64 &&& 63)) * ((f0 n).toInt64)) + (((er_wt (er_ex X Y 1) (er_ey X Y 1) (er_ea X Y 1) (er_ed X Y 1) lx ly * (Q 1).toInt64) >>> ((nI z).toInt64 &&& 63)) * ((f1 n).toInt64))) + (((er_wt (er_ex X Y 2) (er_ey X Y 2) (er_ea X Y 2) (er_ed X Y 2) lx ly * (Q 2).toInt64) >>> ((nI z).toInt64 &&& 63)) * ((f2 n).toInt64))), .long ((((er_wt (er_ex X Y 0) (er_ey X Y 0) (er_ea X Y 0) (er_ed X Y 0) lx ly * (Q 0).toInt64) >>> ((nI z).toInt64 &&& 63)) + ((er_wt (er_ex X Y 1) (er_ey X Y 1) (er_ea X Y 1) (er_ed X Y 1) lx ly * (Q 1).toInt64) >>> ((nI z).toInt64 &&& 63))) + ((er_wt (er_ex X Y 2) (er_ey X Y 2) (er_ea X Y 2) (er_ed X Y 2) lx ly * (Q 2).toInt64) >>> ((nI z).toInt64 &&& 63)))]) (rest := []) ⟨hx, hb, hml, hown, hts⟩ (c_E_dividedDown l dC dI (((((er_wt (er_ex X Y 0) (er_ey X Y 0) (er_ea X Y 0) (er_ed X Y 0) lx ly * (Q 0).toInt64) >>> ((nI z).toInt64 &&& 63)) * ((f0 n).toInt64)) + (((er_wt (er_ex X Y 1) (er_ey X Y 1) (er_ea X Y 1) (er_ed X Y 1) lx ly * (Q 1).toInt64) >>> ((nI z).toInt64 &&& 63)) * ((f1 n).toInt64))) + (((er_wt (er_ex X Y 2) (er_ey X Y 2) (er_ea X Y 2) (er_ed X Y 2) lx ly * (Q 2).toInt64) >>> ((nI z).toInt64 &&& 63)) * ((f2 n).toInt64))) ((((er_wt (er_ex X Y 0) (er_ey X Y 0) (er_ea X Y 0) (er_ed X Y 0) lx ly * (Q 0).toInt64) >>> ((nI z).toInt64 &&& 63)) + ((er_wt (er_ex X Y 1) (er_ey X Y 1) (er_ea X Y 1) (er_ed X Y 1) lx ly * (Q 1).toInt64) >>> ((nI z).toInt64 &&& 63))) + ((er_wt (er_ex X Y 2) (er_ey X Y 2) (er_ea X Y 2) (er_ed X Y 2) lx ly * (Q 2).toInt64) >>> ((nI z).toInt64 &&& 63)))) (va_cwS 2 hts (er_gS k_278 k_279 k_18 k_280) rfl rfl rfl (by decide +kernel) ⟨Nat.le_of_ble_eq_true rfl, Nat.le_of_ble_eq_true rfl⟩) ⟨PP.blind, PP.at hN hKc hPc⟩ rfl rfl hl.1 rfl (lv_room (Nat.le_of_ble_eq_true rfl)) d_E_at_173 ⟨Nat.zero_le _, Nat.zero_le _⟩).run (fun r_8 hr_8 => ?_)
    obtain rfl : er_dd (((((er_wt (er_ex X Y 0) (er_ey X Y 0) (er_ea X Y 0) (er_ed X Y 0) lx ly * (Q 0).toInt64) >>> ((nI z).toInt64 &&& 63)) * ((f0 n).toInt64)) + (((er_wt (er_ex X Y 1) (er_ey X Y 1) (er_ea X Y 1) (er_ed X Y 1) lx ly * (Q 1).toInt64) >>> ((nI z).toInt64 &&& 63)) * ((f1 n).toInt64))) + (((er_wt (er_ex X Y 2) (er_ey X Y 2) (er_ea X Y 2) (er_ed X Y 2) lx ly * (Q 2).toInt64) >>> ((nI z).toInt64 &&& 63)) * ((f2 n).toInt64))) ((((er_wt (er_ex X Y 0) (er_ey X Y 0) (er_ea X Y 0) (er_ed X Y 0) lx ly * (Q 0).toInt64) >>> ((nI z).toInt64 &&& 63)) + ((er_wt (er_ex X Y 1) (er_ey X Y 1) (er_ea X Y 1) (er_ed X Y 1) lx ly * (Q 1).toInt64) >>> ((nI z).toInt64 &&& 63))) + ((er_wt (er_ex X Y 2) (er_ey X Y 2) (er_ea X Y 2) (er_ed X Y 2) lx ly * (Q 2).toInt64) >>> ((nI z).toInt64 &&& 63))) = r_8 := Eq.symm hr_8
    refine lv_l2i (v := (er_dd (((((er_wt (er_ex X Y 0) (er_ey X Y 0) (er_ea X Y 0) (er_ed X Y 0) lx ly * (Q 0).toInt64) >>> ((nI z).toInt64 &&& 63)) * ((f0 n).toInt64)) + (((er_wt (er_ex X Y 1) (er_ey X Y 1) (er_ea X Y 1) (er_ed X Y 1) lx ly * (Q 1).toInt64) >>> ((nI z).toInt64 &&& 63)) * ((f1 n).toInt64))) + (((er_wt (er_ex X Y 2) (er_ey X Y 2) (er_ea X Y 2) (er_ed X Y 2) lx ly * (Q 2).toInt64) >>> ((nI z).toInt64 &&& 63)) * ((f2 n).toInt64))) ((((er_wt (er_ex X Y 0) (er_ey X Y 0) (er_ea X Y 0) (er_ed X Y 0) lx ly * (Q 0).toInt64) >>> ((nI z).toInt64 &&& 63)) + ((er_wt (er_ex X Y 1) (er_ey X Y 1) (er_ea X Y 1) (er_ed X Y 1) lx ly * (Q 1).toInt64) >>> ((nI z).toInt64 &&& 63))) + ((er_wt (er_ex X Y 2) (er_ey X Y 2) (er_ea X Y 2) (er_ed X Y 2) lx ly * (Q 2).toInt64) >>> ((nI z).toInt64 &&& 63)))).toInt32) hx hb d_E_at_176 rfl ?_
    exact W.iret (v := (er_dd (((((er_wt (er_ex X Y 0) (er_ey X Y 0) (er_ea X Y 0) (er_ed X Y 0) lx ly * (Q 0).toInt64) >>> ((nI z).toInt64 &&& 63)) * ((f0 n).toInt64)) + (((er_wt (er_ex X Y 1) (er_ey X Y 1) (er_ea X Y 1) (er_ed X Y 1) lx ly * (Q 1).toInt64) >>> ((nI z).toInt64 &&& 63)) * ((f1 n).toInt64))) + (((er_wt (er_ex X Y 2) (er_ey X Y 2) (er_ea X Y 2) (er_ed X Y 2) lx ly * (Q 2).toInt64) >>> ((nI z).toInt64 &&& 63)) * ((f2 n).toInt64))) ((((er_wt (er_ex X Y 0) (er_ey X Y 0) (er_ea X Y 0) (er_ed X Y 0) lx ly * (Q 0).toInt64) >>> ((nI z).toInt64 &&& 63)) + ((er_wt (er_ex X Y 1) (er_ey X Y 1) (er_ea X Y 1) (er_ed X Y 1) lx ly * (Q 1).toInt64) >>> ((nI z).toInt64 &&& 63))) + ((er_wt (er_ex X Y 2) (er_ey X Y 2) (er_ea X Y 2) (er_ed X Y 2) lx ly * (Q 2).toInt64) >>> ((nI z).toInt64 &&& 63)))).toInt32) hx hb hr (fun u9 ht hW => ⟨_, rfl, ⟨z, hz, hz2, rfl⟩, ht⟩) (fun q hq => by cases hq) d_E_at_177
  · have c_2 := er_b_0.mp c_2
    exact absurd c_2 (by simp_all)
