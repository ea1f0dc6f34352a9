set_option maxHeartbeats 1000000 in
set_option maxRecDepth 100000 in
theorem t_E_corner (l : Launch) (hT : ∀ e, l.admits e → e.platform.stackTraces = false) (dC : Nat → ClassId) (dI : Nat → Nat → Nat) (h0 : Nat) (p0 p1 p2 p3 p4 : Int32) (hv : (er_win p0 0 2 && (er_win p1 (-16384) 16383 && (er_win p2 (-16384) 16383 && (er_win p3 0 16777215 && er_win p4 1 8388608)))) = false) : er_T l y_E_corner w_E_corner ({ frames := 6, cells := 1, slots := 6, locals := 82 }) (va_Pc [.ref h0, .int p0, .int p1, .int p2, .int p3, .int p4] (PT dC dI [] [])) er_IAE 1 6 := by
  refine er_T.ofW (cc := b_E_corner) (maxL := 7) (ret := none) (by decide +kernel) rfl ?_
  intro p e s m args below meth c s₁ B hml hv
  obtain ⟨rfl, ⟨hN, hK, hP⟩, hX⟩ := hv
  have hx := B.exec
  have hb := B.bytes
  have hno := B.noHandlers (atoms_spec (ws := w_E_corner) B.pre _ List.mem_cons_self)
  have htr := hT e B.admits
  have hts := er_hts (atoms_spec (ws := w_E_corner) B.pre)
  have hown : s.vm.findClass R_E = some m.cls := findClass_of_methodNamed B.named
  have hlocks := B.notSynchronized
  have hP : va_P (dC, dI) classes [] s.heap := hP
  have hl := lv_entry ([.ref h0, .int p0, .int p1, .int p2, .int p3, .int p4]) (n := 7) (Nat.le_of_ble_eq_true rfl)
  rw [lg_entry_eq]
  generalize (lg_sl ([.ref h0, .int p0, .int p1, .int p2, .int p3, .int p4]) ++ List.replicate (7 - (lg_sl ([.ref h0, .int p0, .int p1, .int p2, .int p3, .int p4])).length) Slot.unset).toArray = ls at hl ⊢
  have hl : lv_has ls 7 [(0, .ref h0), (1, .int p0), (2, .int p1), (3, .int p2), (4, .int p3), (5, .int p4)] := hl
  refine lv_iload_n hx hb d_E_corner_0 rfl (lv_at hl 1 rfl) ?_
  have hPc := hP.sub (ws' := []) [] rfl
  have hKc := hK.sub (tys' := []) [] rfl
  refine vp_callSi (va_runS (As := [.int p0]) (rest := []) ⟨hx, hb, hml, hown, hts⟩ (c_E_isCorner l dC dI p0) (va_cwS 1 hts (er_gS k_137 k_138 k_18 k_139) rfl rfl rfl (by decide +kernel) ⟨Nat.le_of_ble_eq_true rfl, Nat.le_of_ble_eq_true rfl⟩) ⟨PP.blind, PP.at hN hKc hPc⟩ rfl rfl hl.1 rfl (lv_room (Nat.le_of_ble_eq_true rfl)) d_E_corner_1 ⟨Nat.zero_le _, Nat.zero_le _⟩).run (fun r_1 hr_1 => ?_)
  obtain rfl : er_b (er_win p0 0 2) = r_1 := Eq.symm hr_1
  refine lv_if_ne (tgt := 17) hx hb d_E_corner_4 (by decide) (fun c_2 => ?_) (fun c_2 => ?_)
  · have c_2 := er_b_n.mp c_2
    refine lv_iload_n hx hb d_E_corner_17 rfl (lv_at hl 2 rfl) ?_
    refine lv_sipush (v := (-16384)) hx hb d_E_corner_18 (by decide) ?_
    refine lv_sipush (v := 16383) hx hb d_E_corner_21 (by decide) ?_
    have hPc := hP.sub (ws' := []) [] rfl
    have hKc := hK.sub (tys' := []) [] rfl
    refine vp_callSi (va_runS (As := [.int p1, .int (-16384), .int 16383]) (rest := []) ⟨hx, hb, hml, hown, hts⟩ (c_E_within l dC dI p1 (-16384) 16383) (va_cwS 3 hts (er_gS k_140 k_141 k_18 k_142) rfl rfl rfl (by decide +kernel) ⟨Nat.le_of_ble_eq_true rfl, Nat.le_of_ble_eq_true rfl⟩) ⟨PP.blind, PP.at hN hKc hPc⟩ rfl rfl hl.1 rfl (lv_room (Nat.le_of_ble_eq_true rfl)) d_E_corner_24 ⟨Nat.zero_le _, Nat.zero_le _⟩).run (fun r_3 hr_3 => ?_)
    obtain rfl : er_b (er_win p1 (-16384) 16383) = r_3 := Eq.symm hr_3
    refine lv_if_eq (tgt := 43) hx hb d_E_corner_27 (by decide) (fun c_4 => ?_) (fun c_4 => ?_)
    · have c_4 := er_b_0.mp c_4
      obtain ⟨q9, hq9⟩ := hX.2.1 (67, "x and y must be -16384 .. 16383") (by decide)
      exact er_throw (names := er_names) hx hb htr hown (by decide +kernel) (by decide +kernel) (fun w h => er_X.words hts hX w (er_ownA w h)) (hts _ k_143) (hts _ k_24) hq9 hno hlocks (hl.1.trans hml.symm) (Nat.le_refl _) d_E_corner_43 d_E_corner_46 d_E_corner_47 d_E_corner_49 d_E_corner_52 (Nat.le_of_ble_eq_true rfl) (Nat.le_of_ble_eq_true rfl) (Nat.le_of_ble_eq_true rfl) (Nat.le_of_ble_eq_true rfl)
    · have c_4 := er_b_n.mp c_4
      refine lv_iload_n hx hb d_E_corner_30 rfl (lv_at hl 3 rfl) ?_
      refine lv_sipush (v := (-16384)) hx hb d_E_corner_31 (by decide) ?_
      refine lv_sipush (v := 16383) hx hb d_E_corner_34 (by decide) ?_
      have hPc := hP.sub (ws' := []) [] rfl
      have hKc := hK.sub (tys' := []) [] rfl
      refine vp_callSi (va_runS (As := [.int p2, .int (-16384), .int 16383]) (rest := []) ⟨hx, hb, hml, hown, hts⟩ (c_E_within l dC dI p2 (-16384) 16383) (va_cwS 3 hts (er_gS k_140 k_141 k_18 k_142) rfl rfl rfl (by decide +kernel) ⟨Nat.le_of_ble_eq_true rfl, Nat.le_of_ble_eq_true rfl⟩) ⟨PP.blind, PP.at hN hKc hPc⟩ rfl rfl hl.1 rfl (lv_room (Nat.le_of_ble_eq_true rfl)) d_E_corner_37 ⟨Nat.zero_le _, Nat.zero_le _⟩).run (fun r_5 hr_5 => ?_)
      obtain rfl : er_b (er_win p2 (-16384) 16383) = r_5 := Eq.symm hr_5
      refine lv_if_ne (tgt := 53) hx hb d_E_corner_40 (by decide) (fun c_6 => ?_) (fun c_6 => ?_)
      · have c_6 := er_b_n.mp c_6
        refine lv_iload hx hb d_E_corner_53 (lv_at hl 4 rfl) ?_
        refine lv_iconst (v := 0) hx hb d_E_corner_55 (by decide) ?_
        refine lv_ldc (v := 16777215) hx hb hown (hts (.constant R_E 69 16777215) (by decide +kernel)) d_E_corner_56 ?_
        have hPc := hP.sub (ws' := []) [] rfl
        have hKc := hK.sub (tys' := []) [] rfl
        refine vp_callSi (va_runS (As := [.int p3, .int 0, .int 16777215]) (rest := []) ⟨hx, hb, hml, hown, hts⟩ (c_E_within l dC dI p3 0 16777215) (va_cwS 3 hts (er_gS k_140 k_141 k_18 k_142) rfl rfl rfl (by decide +kernel) ⟨Nat.le_of_ble_eq_true rfl, Nat.le_of_ble_eq_true rfl⟩) ⟨PP.blind, PP.at hN hKc hPc⟩ rfl rfl hl.1 rfl (lv_room (Nat.le_of_ble_eq_true rfl)) d_E_corner_58 ⟨Nat.zero_le _, Nat.zero_le _⟩).run (fun r_7 hr_7 => ?_)
        obtain rfl : er_b (er_win p3 0 16777215) = r_7 := Eq.symm hr_7
        refine lv_if_ne (tgt := 74) hx hb d_E_corner_61 (by decide) (fun c_8 => ?_) (fun c_8 => ?_)
        · have c_8 := er_b_n.mp c_8
          refine lv_iload hx hb d_E_corner_74 (lv_at hl 5 rfl) ?_
          refine lv_iconst (v := 1) hx hb d_E_corner_76 (by decide) ?_
          refine lv_ldc (v := 8388608) hx hb hown (hts (.constant R_E 72 8388608) (by decide +kernel)) d_E_corner_77 ?_
          have hPc := hP.sub (ws' := []) [] rfl
          have hKc := hK.sub (tys' := []) [] rfl
          refine vp_callSi (va_runS (As := [.int p4, .int 1, .int 8388608]) (rest := []) ⟨hx, hb, hml, hown, hts⟩ (c_E_within l dC dI p4 1 8388608) (va_cwS 3 hts (er_gS k_140 k_141 k_18 k_142) rfl rfl rfl (by decide +kernel) ⟨Nat.le_of_ble_eq_true rfl, Nat.le_of_ble_eq_true rfl⟩) ⟨PP.blind, PP.at hN hKc hPc⟩ rfl rfl hl.1 rfl (lv_room (Nat.le_of_ble_eq_true rfl)) d_E_corner_79 ⟨Nat.zero_le _, Nat.zero_le _⟩).run (fun r_9 hr_9 => ?_)
          obtain rfl : er_b (er_win p4 1 8388608) = r_9 := Eq.symm hr_9
          refine lv_if_ne (tgt := 95) hx hb d_E_corner_82 (by decide) (fun c_10 => ?_) (fun c_10 => ?_)
          · have c_10 := er_b_n.mp c_10
            exfalso
            simp_all
          · have c_10 := er_b_0.mp c_10
            obtain ⟨q9, hq9⟩ := hX.2.1 (73, "q must be 1 .. 2^23") (by decide)
            exact er_throw (names := er_names) hx hb htr hown (by decide +kernel) (by decide +kernel) (fun w h => er_X.words hts hX w (er_ownA w h)) (hts _ k_143) (hts _ k_24) hq9 hno hlocks (hl.1.trans hml.symm) (Nat.le_refl _) d_E_corner_85 d_E_corner_88 d_E_corner_89 d_E_corner_91 d_E_corner_94 (Nat.le_of_ble_eq_true rfl) (Nat.le_of_ble_eq_true rfl) (Nat.le_of_ble_eq_true rfl) (Nat.le_of_ble_eq_true rfl)
        · have c_8 := er_b_0.mp c_8
          obtain ⟨q9, hq9⟩ := hX.2.1 (70, "the depth must be 0 .. 2^24 - 1") (by decide)
          exact er_throw (names := er_names) hx hb htr hown (by decide +kernel) (by decide +kernel) (fun w h => er_X.words hts hX w (er_ownA w h)) (hts _ k_143) (hts _ k_24) hq9 hno hlocks (hl.1.trans hml.symm) (Nat.le_refl _) d_E_corner_64 d_E_corner_67 d_E_corner_68 d_E_corner_70 d_E_corner_73 (Nat.le_of_ble_eq_true rfl) (Nat.le_of_ble_eq_true rfl) (Nat.le_of_ble_eq_true rfl) (Nat.le_of_ble_eq_true rfl)
      · have c_6 := er_b_0.mp c_6
        obtain ⟨q9, hq9⟩ := hX.2.1 (67, "x and y must be -16384 .. 16383") (by decide)
        exact er_throw (names := er_names) hx hb htr hown (by decide +kernel) (by decide +kernel) (fun w h => er_X.words hts hX w (er_ownA w h)) (hts _ k_143) (hts _ k_24) hq9 hno hlocks (hl.1.trans hml.symm) (Nat.le_refl _) d_E_corner_43 d_E_corner_46 d_E_corner_47 d_E_corner_49 d_E_corner_52 (Nat.le_of_ble_eq_true rfl) (Nat.le_of_ble_eq_true rfl) (Nat.le_of_ble_eq_true rfl) (Nat.le_of_ble_eq_true rfl)
  · have c_2 := er_b_0.mp c_2
    obtain ⟨q9, hq9⟩ := hX.2.1 (58, "there is no such corner") (by decide)
    exact er_throw (names := er_names) hx hb htr hown (by decide +kernel) (by decide +kernel) (fun w h => er_X.words hts hX w (er_ownA w h)) (hts _ k_143) (hts _ k_24) hq9 hno hlocks (hl.1.trans hml.symm) (Nat.le_refl _) d_E_corner_7 d_E_corner_10 d_E_corner_11 d_E_corner_13 d_E_corner_16 (Nat.le_of_ble_eq_true rfl) (Nat.le_of_ble_eq_true rfl) (Nat.le_of_ble_eq_true rfl) (Nat.le_of_ble_eq_true rfl)

set_option maxHeartbeats 1000000 in
set_option maxRecDepth 100000 in
theorem t_E_value (l : Launch) (hT : ∀ e, l.admits e → e.platform.stackTraces = false) (dC : Nat → ClassId) (dI : Nat → Nat → Nat) (h0 : Nat) (p0 p1 p2 : Int32) (hv : (er_win p0 0 2 && er_win p1 0 27) = false) : er_T l y_E_value w_E_value ({ frames := 6, cells := 1, slots := 6, locals := 82 }) (va_Pc [.ref h0, .int p0, .int p1, .int p2] (PT dC dI [] [])) er_IAE 1 6 := by
  refine er_T.ofW (cc := b_E_value) (maxL := 4) (ret := none) (by decide +kernel) rfl ?_
  intro p e s m args below meth c s₁ B hml hv
  obtain ⟨rfl, ⟨hN, hK, hP⟩, hX⟩ := hv
  have hx := B.exec
  have hb := B.bytes
  have hno := B.noHandlers (atoms_spec (ws := w_E_value) B.pre _ List.mem_cons_self)
  have htr := hT e B.admits
  have hts := er_hts (atoms_spec (ws := w_E_value) B.pre)
  have hown : s.vm.findClass R_E = some m.cls := findClass_of_methodNamed B.named
  have hlocks := B.notSynchronized
  have hP : va_P (dC, dI) classes [] s.heap := hP
  have hl := lv_entry ([.ref h0, .int p0, .int p1, .int p2]) (n := 4) (Nat.le_of_ble_eq_true rfl)
  rw [lg_entry_eq]
  generalize (lg_sl ([.ref h0, .int p0, .int p1, .int p2]) ++ List.replicate (4 - (lg_sl ([.ref h0, .int p0, .int p1, .int p2])).length) Slot.unset).toArray = ls at hl ⊢
  have hl : lv_has ls 4 [(0, .ref h0), (1, .int p0), (2, .int p1), (3, .int p2)] := hl
  refine lv_iload_n hx hb d_E_value_0 rfl (lv_at hl 1 rfl) ?_
  have hPc := hP.sub (ws' := []) [] rfl
  have hKc := hK.sub (tys' := []) [] rfl
  refine vp_callSi (va_runS (As := [.int p0]) (rest := []) ⟨hx, hb, hml, hown, hts⟩ (c_E_isCorner l dC dI p0) (va_cwS 1 hts (er_gS k_137 k_138 k_18 k_139) rfl rfl rfl (by decide +kernel) ⟨Nat.le_of_ble_eq_true rfl, Nat.le_of_ble_eq_true rfl⟩) ⟨PP.blind, PP.at hN hKc hPc⟩ rfl rfl hl.1 rfl (lv_room (Nat.le_of_ble_eq_true rfl)) d_E_value_1 ⟨Nat.zero_le _, Nat.zero_le _⟩).run (fun r_1 hr_1 => ?_)
  obtain rfl : er_b (er_win p0 0 2) = r_1 := Eq.symm hr_1
  refine lv_if_eq (tgt := 14) hx hb d_E_value_4 (by decide) (fun c_2 => ?_) (fun c_2 => ?_)
  · have c_2 := er_b_0.mp c_2
    obtain ⟨q9, hq9⟩ := hX.2.1 (100, "there is no such corner or value") (by decide)
    exact er_throw (names := er_names) hx hb htr hown (by decide +kernel) (by decide +kernel) (fun w h => er_X.words hts hX w (er_ownA w h)) (hts _ k_143) (hts _ k_24) hq9 hno hlocks (hl.1.trans hml.symm) (Nat.le_refl _) d_E_value_14 d_E_value_17 d_E_value_18 d_E_value_20 d_E_value_23 (Nat.le_of_ble_eq_true rfl) (Nat.le_of_ble_eq_true rfl) (Nat.le_of_ble_eq_true rfl) (Nat.le_of_ble_eq_true rfl)
  · have c_2 := er_b_n.mp c_2
    refine lv_iload_n hx hb d_E_value_7 rfl (lv_at hl 2 rfl) ?_
    have hPc := hP.sub (ws' := []) [] rfl
    have hKc := hK.sub (tys' := []) [] rfl
    refine vp_callSi (va_runS (As := [.int p1]) (rest := []) ⟨hx, hb, hml, hown, hts⟩ (c_E_isValue l dC dI p1) (va_cwS 1 hts (er_gS k_218 k_219 k_18 k_220) rfl rfl rfl (by decide +kernel) ⟨Nat.le_of_ble_eq_true rfl, Nat.le_of_ble_eq_true rfl⟩) ⟨PP.blind, PP.at hN hKc hPc⟩ rfl rfl hl.1 rfl (lv_room (Nat.le_of_ble_eq_true rfl)) d_E_value_8 ⟨Nat.zero_le _, Nat.zero_le _⟩).run (fun r_3 hr_3 => ?_)
    obtain rfl : er_b (er_win p1 0 27) = r_3 := Eq.symm hr_3
    refine lv_if_ne (tgt := 24) hx hb d_E_value_11 (by decide) (fun c_4 => ?_) (fun c_4 => ?_)
    · have c_4 := er_b_n.mp c_4
      exfalso
      simp_all
    · have c_4 := er_b_0.mp c_4
      obtain ⟨q9, hq9⟩ := hX.2.1 (100, "there is no such corner or value") (by decide)
      exact er_throw (names := er_names) hx hb htr hown (by decide +kernel) (by decide +kernel) (fun w h => er_X.words hts hX w (er_ownA w h)) (hts _ k_143) (hts _ k_24) hq9 hno hlocks (hl.1.trans hml.symm) (Nat.le_refl _) d_E_value_14 d_E_value_17 d_E_value_18 d_E_value_20 d_E_value_23 (Nat.le_of_ble_eq_true rfl) (Nat.le_of_ble_eq_true rfl) (Nat.le_of_ble_eq_true rfl) (Nat.le_of_ble_eq_true rfl)

set_option maxHeartbeats 1000000 in
set_option maxRecDepth 100000 in
theorem t_E_window (l : Launch) (hT : ∀ e, l.admits e → e.platform.stackTraces = false) (dC : Nat → ClassId) (dI : Nat → Nat → Nat) (h0 : Nat) (p0 p1 p2 p3 : Int32) (hv : (er_win p0 0 1023 && (er_win p1 0 1023 && (er_win p2 1 64 && er_win p3 1 64))) = false) : er_T l y_E_window w_E_window ({ frames := 6, cells := 1, slots := 6, locals := 82 }) (va_Pc [.ref h0, .int p0, .int p1, .int p2, .int p3] (PT dC dI [] [])) er_IAE 1 6 := by
  refine er_T.ofW (cc := b_E_window) (maxL := 5) (ret := none) (by decide +kernel) rfl ?_
  intro p e s m args below meth c s₁ B hml hv
  obtain ⟨rfl, ⟨hN, hK, hP⟩, hX⟩ := hv
  have hx := B.exec
  have hb := B.bytes
  have hno := B.noHandlers (atoms_spec (ws := w_E_window) B.pre _ List.mem_cons_self)
  have htr := hT e B.admits
  have hts := er_hts (atoms_spec (ws := w_E_window) B.pre)
  have hown : s.vm.findClass R_E = some m.cls := findClass_of_methodNamed B.named
  have hlocks := B.notSynchronized
  have hP : va_P (dC, dI) classes [] s.heap := hP
  have hl := lv_entry ([.ref h0, .int p0, .int p1, .int p2, .int p3]) (n := 5) (Nat.le_of_ble_eq_true rfl)
  rw [lg_entry_eq]
  generalize (lg_sl ([.ref h0, .int p0, .int p1, .int p2, .int p3]) ++ List.replicate (5 - (lg_sl ([.ref h0, .int p0, .int p1, .int p2, .int p3])).length) Slot.unset).toArray = ls at hl ⊢
  have hl : lv_has ls 5 [(0, .ref h0), (1, .int p0), (2, .int p1), (3, .int p2), (4, .int p3)] := hl
  refine lv_iload_n hx hb d_E_window_0 rfl (lv_at hl 1 rfl) ?_
  refine lv_iconst (v := 0) hx hb d_E_window_1 (by decide) ?_
  refine lv_sipush (v := 1023) hx hb d_E_window_2 (by decide) ?_
  have hPc := hP.sub (ws' := []) [] rfl
  have hKc := hK.sub (tys' := []) [] rfl
  refine vp_callSi (va_runS (As := [.int p0, .int 0, .int 1023]) (rest := []) ⟨hx, hb, hml, hown, hts⟩ (c_E_within l dC dI p0 0 1023) (va_cwS 3 hts (er_gS k_140 k_141 k_18 k_142) rfl rfl rfl (by decide +kernel) ⟨Nat.le_of_ble_eq_true rfl, Nat.le_of_ble_eq_true rfl⟩) ⟨PP.blind, PP.at hN hKc hPc⟩ rfl rfl hl.1 rfl (lv_room (Nat.le_of_ble_eq_true rfl)) d_E_window_5 ⟨Nat.zero_le _, Nat.zero_le _⟩).run (fun r_1 hr_1 => ?_)
  obtain rfl : er_b (er_win p0 0 1023) = r_1 := Eq.symm hr_1
  refine lv_if_eq (tgt := 22) hx hb d_E_window_8 (by decide) (fun c_2 => ?_) (fun c_2 => ?_)
  · have c_2 := er_b_0.mp c_2
    obtain ⟨q9, hq9⟩ := hX.2.1 (106, "x0 and y0 must be 0 .. 1023") (by decide)
    exact er_throw (names := er_names) hx hb htr hown (by decide +kernel) (by decide +kernel) (fun w h => er_X.words hts hX w (er_ownA w h)) (hts _ k_143) (hts _ k_24) hq9 hno hlocks (hl.1.trans hml.symm) (Nat.le_refl _) d_E_window_22 d_E_window_25 d_E_window_26 d_E_window_28 d_E_window_31 (Nat.le_of_ble_eq_true rfl) (Nat.le_of_ble_eq_true rfl) (Nat.le_of_ble_eq_true rfl) (Nat.le_of_ble_eq_true rfl)
  · have c_2 := er_b_n.mp c_2
    refine lv_iload_n hx hb d_E_window_11 rfl (lv_at hl 2 rfl) ?_
    refine lv_iconst (v := 0) hx hb d_E_window_12 (by decide) ?_
    refine lv_sipush (v := 1023) hx hb d_E_window_13 (by decide) ?_
    have hPc := hP.sub (ws' := []) [] rfl
    have hKc := hK.sub (tys' := []) [] rfl
    refine vp_callSi (va_runS (As := [.int p1, .int 0, .int 1023]) (rest := []) ⟨hx, hb, hml, hown, hts⟩ (c_E_within l dC dI p1 0 1023) (va_cwS 3 hts (er_gS k_140 k_141 k_18 k_142) rfl rfl rfl (by decide +kernel) ⟨Nat.le_of_ble_eq_true rfl, Nat.le_of_ble_eq_true rfl⟩) ⟨PP.blind, PP.at hN hKc hPc⟩ rfl rfl hl.1 rfl (lv_room (Nat.le_of_ble_eq_true rfl)) d_E_window_16 ⟨Nat.zero_le _, Nat.zero_le _⟩).run (fun r_3 hr_3 => ?_)
    obtain rfl : er_b (er_win p1 0 1023) = r_3 := Eq.symm hr_3
    refine lv_if_ne (tgt := 32) hx hb d_E_window_19 (by decide) (fun c_4 => ?_) (fun c_4 => ?_)
    · have c_4 := er_b_n.mp c_4
      refine lv_iload_n hx hb d_E_window_32 rfl (lv_at hl 3 rfl) ?_
      refine lv_iconst (v := 1) hx hb d_E_window_33 (by decide) ?_
      refine lv_bipush (v := 64) hx hb d_E_window_34 (by decide) ?_
      have hPc := hP.sub (ws' := []) [] rfl
      have hKc := hK.sub (tys' := []) [] rfl
      refine vp_callSi (va_runS (As := [.int p2, .int 1, .int 64]) (rest := []) ⟨hx, hb, hml, hown, hts⟩ (c_E_within l dC dI p2 1 64) (va_cwS 3 hts (er_gS k_140 k_141 k_18 k_142) rfl rfl rfl (by decide +kernel) ⟨Nat.le_of_ble_eq_true rfl, Nat.le_of_ble_eq_true rfl⟩) ⟨PP.blind, PP.at hN hKc hPc⟩ rfl rfl hl.1 rfl (lv_room (Nat.le_of_ble_eq_true rfl)) d_E_window_36 ⟨Nat.zero_le _, Nat.zero_le _⟩).run (fun r_5 hr_5 => ?_)
      obtain rfl : er_b (er_win p2 1 64) = r_5 := Eq.symm hr_5
      refine lv_if_eq (tgt := 53) hx hb d_E_window_39 (by decide) (fun c_6 => ?_) (fun c_6 => ?_)
      · have c_6 := er_b_0.mp c_6
        obtain ⟨q9, hq9⟩ := hX.2.1 (108, "wide and high must be 1 .. 64") (by decide)
        exact er_throw (names := er_names) hx hb htr hown (by decide +kernel) (by decide +kernel) (fun w h => er_X.words hts hX w (er_ownA w h)) (hts _ k_143) (hts _ k_24) hq9 hno hlocks (hl.1.trans hml.symm) (Nat.le_refl _) d_E_window_53 d_E_window_56 d_E_window_57 d_E_window_59 d_E_window_62 (Nat.le_of_ble_eq_true rfl) (Nat.le_of_ble_eq_true rfl) (Nat.le_of_ble_eq_true rfl) (Nat.le_of_ble_eq_true rfl)
      · have c_6 := er_b_n.mp c_6
        refine lv_iload hx hb d_E_window_42 (lv_at hl 4 rfl) ?_
        refine lv_iconst (v := 1) hx hb d_E_window_44 (by decide) ?_
        refine lv_bipush (v := 64) hx hb d_E_window_45 (by decide) ?_
        have hPc := hP.sub (ws' := []) [] rfl
        have hKc := hK.sub (tys' := []) [] rfl
        refine vp_callSi (va_runS (As := [.int p3, .int 1, .int 64]) (rest := []) ⟨hx, hb, hml, hown, hts⟩ (c_E_within l dC dI p3 1 64) (va_cwS 3 hts (er_gS k_140 k_141 k_18 k_142) rfl rfl rfl (by decide +kernel) ⟨Nat.le_of_ble_eq_true rfl, Nat.le_of_ble_eq_true rfl⟩) ⟨PP.blind, PP.at hN hKc hPc⟩ rfl rfl hl.1 rfl (lv_room (Nat.le_of_ble_eq_true rfl)) d_E_window_47 ⟨Nat.zero_le _, Nat.zero_le _⟩).run (fun r_7 hr_7 => ?_)
        obtain rfl : er_b (er_win p3 1 64) = r_7 := Eq.symm hr_7
        refine lv_if_ne (tgt := 63) hx hb d_E_window_50 (by decide) (fun c_8 => ?_) (fun c_8 => ?_)
        · have c_8 := er_b_n.mp c_8
          exfalso
          simp_all
        · have c_8 := er_b_0.mp c_8
          obtain ⟨q9, hq9⟩ := hX.2.1 (108, "wide and high must be 1 .. 64") (by decide)
          exact er_throw (names := er_names) hx hb htr hown (by decide +kernel) (by decide +kernel) (fun w h => er_X.words hts hX w (er_ownA w h)) (hts _ k_143) (hts _ k_24) hq9 hno hlocks (hl.1.trans hml.symm) (Nat.le_refl _) d_E_window_53 d_E_window_56 d_E_window_57 d_E_window_59 d_E_window_62 (Nat.le_of_ble_eq_true rfl) (Nat.le_of_ble_eq_true rfl) (Nat.le_of_ble_eq_true rfl) (Nat.le_of_ble_eq_true rfl)
    · have c_4 := er_b_0.mp c_4
      obtain ⟨q9, hq9⟩ := hX.2.1 (106, "x0 and y0 must be 0 .. 1023") (by decide)
      exact er_throw (names := er_names) hx hb htr hown (by decide +kernel) (by decide +kernel) (fun w h => er_X.words hts hX w (er_ownA w h)) (hts _ k_143) (hts _ k_24) hq9 hno hlocks (hl.1.trans hml.symm) (Nat.le_refl _) d_E_window_22 d_E_window_25 d_E_window_26 d_E_window_28 d_E_window_31 (Nat.le_of_ble_eq_true rfl) (Nat.le_of_ble_eq_true rfl) (Nat.le_of_ble_eq_true rfl) (Nat.le_of_ble_eq_true rfl)

set_option maxHeartbeats 1000000 in
set_option maxRecDepth 100000 in
theorem t_E_covers (l : Launch) (hT : ∀ e, l.admits e → e.platform.stackTraces = false) (dC : Nat → ClassId) (dI : Nat → Nat → Nat) (h0 : Nat) (p0 p1 : Int32) (hv : (er_win p0 (-1024) 2047 && er_win p1 (-1024) 2047) = false) : er_T l y_E_covers w_E_covers ({ frames := 6, cells := 1, slots := 6, locals := 82 }) (va_Pc [.ref h0, .int p0, .int p1] (PT dC dI [] [])) er_IAE 1 6 := by
  refine er_T.ofW (cc := b_E_covers) (maxL := 3) (ret := (some .boolean)) (by decide +kernel) rfl ?_
  intro p e s m args below meth c s₁ B hml hv
  obtain ⟨rfl, ⟨hN, hK, hP⟩, hX⟩ := hv
  have hx := B.exec
  have hb := B.bytes
  have hno := B.noHandlers (atoms_spec (ws := w_E_covers) B.pre _ List.mem_cons_self)
  have htr := hT e B.admits
  have hts := er_hts (atoms_spec (ws := w_E_covers) B.pre)
  have hown : s.vm.findClass R_E = some m.cls := findClass_of_methodNamed B.named
  have hlocks := B.notSynchronized
  have hP : va_P (dC, dI) classes [] s.heap := hP
  have hl := lv_entry ([.ref h0, .int p0, .int p1]) (n := 3) (Nat.le_of_ble_eq_true rfl)
  rw [lg_entry_eq]
  generalize (lg_sl ([.ref h0, .int p0, .int p1]) ++ List.replicate (3 - (lg_sl ([.ref h0, .int p0, .int p1])).length) Slot.unset).toArray = ls at hl ⊢
  have hl : lv_has ls 3 [(0, .ref h0), (1, .int p0), (2, .int p1)] := hl
  refine lv_iload_n hx hb d_E_covers_0 rfl (lv_at hl 1 rfl) ?_
  refine lv_sipush (v := (-1024)) hx hb d_E_covers_1 (by decide) ?_
  refine lv_sipush (v := 2047) hx hb d_E_covers_4 (by decide) ?_
  have hPc := hP.sub (ws' := []) [] rfl
  have hKc := hK.sub (tys' := []) [] rfl
  refine vp_callSi (va_runS (As := [.int p0, .int (-1024), .int 2047]) (rest := []) ⟨hx, hb, hml, hown, hts⟩ (c_E_within l dC dI p0 (-1024) 2047) (va_cwS 3 hts (er_gS k_140 k_141 k_18 k_142) rfl rfl rfl (by decide +kernel) ⟨Nat.le_of_ble_eq_true rfl, Nat.le_of_ble_eq_true rfl⟩) ⟨PP.blind, PP.at hN hKc hPc⟩ rfl rfl hl.1 rfl (lv_room (Nat.le_of_ble_eq_true rfl)) d_E_covers_7 ⟨Nat.zero_le _, Nat.zero_le _⟩).run (fun r_1 hr_1 => ?_)
  obtain rfl : er_b (er_win p0 (-1024) 2047) = r_1 := Eq.symm hr_1
  refine lv_if_eq (tgt := 26) hx hb d_E_covers_10 (by decide) (fun c_2 => ?_) (fun c_2 => ?_)
  · have c_2 := er_b_0.mp c_2
    obtain ⟨q9, hq9⟩ := hX.2.1 (110, "x and y must be -1024 .. 2047") (by decide)
    exact er_throw (names := er_names) hx hb htr hown (by decide +kernel) (by decide +kernel) (fun w h => er_X.words hts hX w (er_ownA w h)) (hts _ k_143) (hts _ k_24) hq9 hno hlocks (hl.1.trans hml.symm) (Nat.le_refl _) d_E_covers_26 d_E_covers_29 d_E_covers_30 d_E_covers_32 d_E_covers_35 (Nat.le_of_ble_eq_true rfl) (Nat.le_of_ble_eq_true rfl) (Nat.le_of_ble_eq_true rfl) (Nat.le_of_ble_eq_true rfl)
  · have c_2 := er_b_n.mp c_2
    refine lv_iload_n hx hb d_E_covers_13 rfl (lv_at hl 2 rfl) ?_
    refine lv_sipush (v := (-1024)) hx hb d_E_covers_14 (by decide) ?_
    refine lv_sipush (v := 2047) hx hb d_E_covers_17 (by decide) ?_
    have hPc := hP.sub (ws' := []) [] rfl
    have hKc := hK.sub (tys' := []) [] rfl
    refine vp_callSi (va_runS (As := [.int p1, .int (-1024), .int 2047]) (rest := []) ⟨hx, hb, hml, hown, hts⟩ (c_E_within l dC dI p1 (-1024) 2047) (va_cwS 3 hts (er_gS k_140 k_141 k_18 k_142) rfl rfl rfl (by decide +kernel) ⟨Nat.le_of_ble_eq_true rfl, Nat.le_of_ble_eq_true rfl⟩) ⟨PP.blind, PP.at hN hKc hPc⟩ rfl rfl hl.1 rfl (lv_room (Nat.le_of_ble_eq_true rfl)) d_E_covers_20 ⟨Nat.zero_le _, Nat.zero_le _⟩).run (fun r_3 hr_3 => ?_)
    obtain rfl : er_b (er_win p1 (-1024) 2047) = r_3 := Eq.symm hr_3
    refine lv_if_ne (tgt := 36) hx hb d_E_covers_23 (by decide) (fun c_4 => ?_) (fun c_4 => ?_)
    · have c_4 := er_b_n.mp c_4
      exfalso
      simp_all
    · have c_4 := er_b_0.mp c_4
      obtain ⟨q9, hq9⟩ := hX.2.1 (110, "x and y must be -1024 .. 2047") (by decide)
      exact er_throw (names := er_names) hx hb htr hown (by decide +kernel) (by decide +kernel) (fun w h => er_X.words hts hX w (er_ownA w h)) (hts _ k_143) (hts _ k_24) hq9 hno hlocks (hl.1.trans hml.symm) (Nat.le_refl _) d_E_covers_26 d_E_covers_29 d_E_covers_30 d_E_covers_32 d_E_covers_35 (Nat.le_of_ble_eq_true rfl) (Nat.le_of_ble_eq_true rfl) (Nat.le_of_ble_eq_true rfl) (Nat.le_of_ble_eq_true rfl)

set_option maxHeartbeats 1000000 in
set_option maxRecDepth 100000 in
theorem t_E_next (l : Launch) (hT : ∀ e, l.admits e → e.platform.stackTraces = false) (dC : Nat → ClassId) (dI : Nat → Nat → Nat) (h0 h1 h2 h3 : Nat) (ar : Int64) (wx wy ww wh on lx ly : Int32) : er_T l y_E_next w_E_next ({ frames := 6, cells := 1, slots := 6, locals := 82 }) (va_Pc [.ref h0] (PT dC dI [] [(h0, .inr (1, [.ref h1, .ref h2, .ref h3, .long ar, .int wx, .int wy, .int ww, .int wh, .int 0, .int on, .int lx, .int ly]))])) er_ISE 1 6 := by
  refine er_T.ofW (cc := b_E_next) (maxL := 4) (ret := (some .int)) (by decide +kernel) rfl ?_
  intro p e s m args below meth c s₁ B hml hv
  obtain ⟨rfl, ⟨hN, hK, hP⟩, hX⟩ := hv
  have hx := B.exec
  have hb := B.bytes
  have hno := B.noHandlers (atoms_spec (ws := w_E_next) B.pre _ List.mem_cons_self)
  have htr := hT e B.admits
  have hts := er_hts (atoms_spec (ws := w_E_next) B.pre)
  have hown : s.vm.findClass R_E = some m.cls := findClass_of_methodNamed B.named
  have hlocks := B.notSynchronized
  have hP : va_P (dC, dI) classes [(h0, .inr (1, [.ref h1, .ref h2, .ref h3, .long ar, .int wx, .int wy, .int ww, .int wh, .int 0, .int on, .int lx, .int ly]))] s.heap := hP
  have hl := lv_entry ([.ref h0]) (n := 4) (Nat.le_of_ble_eq_true rfl)
  rw [lg_entry_eq]
  generalize (lg_sl ([.ref h0]) ++ List.replicate (4 - (lg_sl ([.ref h0])).length) Slot.unset).toArray = ls at hl ⊢
  have hl : lv_has ls 4 [(0, .ref h0)] := hl
  refine lv_aload_n hx hb d_E_next_0 rfl (lv_at hl 0 rfl) ?_
  refine va_get (D := (dC, dI)) (ci := 1) (v := .int 0) (C := R_E) (T := F_E) (N := 12) hx hb hts i_E hown hK hP 0 rfl rfl 8 (by decide) (hts _ k_80) (fun _ h9 => h9) rfl d_E_next_1 ?_
  refine lv_if_ne (tgt := 17) hx hb d_E_next_4 (by decide) (fun c_1 => absurd c_1 (by decide)) (fun _ => ?_)
  obtain ⟨q9, hq9⟩ := hX.2.1 (118, "there is no walk") (by decide)
  exact er_throw (names := er_names) hx hb htr hown (by decide +kernel) (by decide +kernel) (fun w h => er_X.words hts hX w (er_ownS w h)) (hts _ k_243) (hts _ k_25) hq9 hno hlocks (hl.1.trans hml.symm) (Nat.le_refl _) d_E_next_7 d_E_next_10 d_E_next_11 d_E_next_13 d_E_next_16 (Nat.le_of_ble_eq_true rfl) (Nat.le_of_ble_eq_true rfl) (Nat.le_of_ble_eq_true rfl) (Nat.le_of_ble_eq_true rfl)

set_option maxHeartbeats 1000000 in
set_option maxRecDepth 100000 in
theorem t_E_weightA (l : Launch) (hT : ∀ e, l.admits e → e.platform.stackTraces = false) (dC : Nat → ClassId) (dI : Nat → Nat → Nat) (h0 : Nat) (p0 : Int32) (hv : er_win p0 0 2 = false) : er_T l y_E_weight w_E_weight ({ frames := 6, cells := 1, slots := 6, locals := 82 }) (va_Pc [.ref h0, .int p0] (PT dC dI [] [])) er_IAE 1 6 := by
  refine er_T.ofW (cc := b_E_weight) (maxL := 2) (ret := (some .long)) (by decide +kernel) rfl ?_
  intro p e s m args below meth c s₁ B hml hv
  obtain ⟨rfl, ⟨hN, hK, hP⟩, hX⟩ := hv
  have hx := B.exec
  have hb := B.bytes
  have hno := B.noHandlers (atoms_spec (ws := w_E_weight) B.pre _ List.mem_cons_self)
  have htr := hT e B.admits
  have hts := er_hts (atoms_spec (ws := w_E_weight) B.pre)
  have hown : s.vm.findClass R_E = some m.cls := findClass_of_methodNamed B.named
  have hlocks := B.notSynchronized
  have hP : va_P (dC, dI) classes [] s.heap := hP
  have hl := lv_entry ([.ref h0, .int p0]) (n := 2) (Nat.le_of_ble_eq_true rfl)
  rw [lg_entry_eq]
  generalize (lg_sl ([.ref h0, .int p0]) ++ List.replicate (2 - (lg_sl ([.ref h0, .int p0])).length) Slot.unset).toArray = ls at hl ⊢
  have hl : lv_has ls 2 [(0, .ref h0), (1, .int p0)] := hl
  refine lv_iload_n hx hb d_E_weight_0 rfl (lv_at hl 1 rfl) ?_
  have hPc := hP.sub (ws' := []) [] rfl
  have hKc := hK.sub (tys' := []) [] rfl
  refine vp_callSi (va_runS (As := [.int p0]) (rest := []) ⟨hx, hb, hml, hown, hts⟩ (c_E_isCorner l dC dI p0) (va_cwS 1 hts (er_gS k_137 k_138 k_18 k_139) rfl rfl rfl (by decide +kernel) ⟨Nat.le_of_ble_eq_true rfl, Nat.le_of_ble_eq_true rfl⟩) ⟨PP.blind, PP.at hN hKc hPc⟩ rfl rfl hl.1 rfl (lv_room (Nat.le_of_ble_eq_true rfl)) d_E_weight_1 ⟨Nat.zero_le _, Nat.zero_le _⟩).run (fun r_1 hr_1 => ?_)
  obtain rfl : er_b (er_win p0 0 2) = r_1 := Eq.symm hr_1
  refine lv_if_ne (tgt := 17) hx hb d_E_weight_4 (by decide) (fun c_2 => ?_) (fun c_2 => ?_)
  · have c_2 := er_b_n.mp c_2
    exfalso
    simp_all
  · have c_2 := er_b_0.mp c_2
    obtain ⟨q9, hq9⟩ := hX.2.1 (58, "there is no such corner") (by decide)
    exact er_throw (names := er_names) hx hb htr hown (by decide +kernel) (by decide +kernel) (fun w h => er_X.words hts hX w (er_ownA w h)) (hts _ k_143) (hts _ k_24) hq9 hno hlocks (hl.1.trans hml.symm) (Nat.le_refl _) d_E_weight_7 d_E_weight_10 d_E_weight_11 d_E_weight_13 d_E_weight_16 (Nat.le_of_ble_eq_true rfl) (Nat.le_of_ble_eq_true rfl) (Nat.le_of_ble_eq_true rfl) (Nat.le_of_ble_eq_true rfl)

set_option maxHeartbeats 1000000 in
set_option maxRecDepth 100000 in
theorem t_E_weightS (l : Launch) (hT : ∀ e, l.admits e → e.platform.stackTraces = false) (dC : Nat → ClassId) (dI : Nat → Nat → Nat) (h0 h1 h2 h3 : Nat) (ar : Int64) (wx wy ww wh wk lx ly : Int32) (p0 : Int32) (u0 : er_win p0 0 2 = true) : er_T l y_E_weight w_E_weight ({ frames := 6, cells := 1, slots := 6, locals := 82 }) (va_Pc [.ref h0, .int p0] (PT dC dI [] [(h0, .inr (1, [.ref h1, .ref h2, .ref h3, .long ar, .int wx, .int wy, .int ww, .int wh, .int wk, .int 0, .int lx, .int ly]))])) er_ISE 1 6 := by
  refine er_T.ofW (cc := b_E_weight) (maxL := 2) (ret := (some .long)) (by decide +kernel) rfl ?_
  intro p e s m args below meth c s₁ B hml hv
  obtain ⟨rfl, ⟨hN, hK, hP⟩, hX⟩ := hv
  have hx := B.exec
  have hb := B.bytes
  have hno := B.noHandlers (atoms_spec (ws := w_E_weight) B.pre _ List.mem_cons_self)
  have htr := hT e B.admits
  have hts := er_hts (atoms_spec (ws := w_E_weight) B.pre)
  have hown : s.vm.findClass R_E = some m.cls := findClass_of_methodNamed B.named
  have hlocks := B.notSynchronized
  have hP : va_P (dC, dI) classes [(h0, .inr (1, [.ref h1, .ref h2, .ref h3, .long ar, .int wx, .int wy, .int ww, .int wh, .int wk, .int 0, .int lx, .int ly]))] s.heap := hP
  have hl := lv_entry ([.ref h0, .int p0]) (n := 2) (Nat.le_of_ble_eq_true rfl)
  rw [lg_entry_eq]
  generalize (lg_sl ([.ref h0, .int p0]) ++ List.replicate (2 - (lg_sl ([.ref h0, .int p0])).length) Slot.unset).toArray = ls at hl ⊢
  have hl : lv_has ls 2 [(0, .ref h0), (1, .int p0)] := hl
  refine lv_iload_n hx hb d_E_weight_0 rfl (lv_at hl 1 rfl) ?_
  have hPc := hP.sub (ws' := []) [] rfl
  have hKc := hK.sub (tys' := []) [] rfl
  refine vp_callSi (va_runS (As := [.int p0]) (rest := []) ⟨hx, hb, hml, hown, hts⟩ (c_E_isCorner l dC dI p0) (va_cwS 1 hts (er_gS k_137 k_138 k_18 k_139) rfl rfl rfl (by decide +kernel) ⟨Nat.le_of_ble_eq_true rfl, Nat.le_of_ble_eq_true rfl⟩) ⟨PP.blind, PP.at hN hKc hPc⟩ rfl rfl hl.1 rfl (lv_room (Nat.le_of_ble_eq_true rfl)) d_E_weight_1 ⟨Nat.zero_le _, Nat.zero_le _⟩).run (fun r_1 hr_1 => ?_)
  obtain rfl : er_b (er_win p0 0 2) = r_1 := Eq.symm hr_1
  refine lv_if_ne (tgt := 17) hx hb d_E_weight_4 (by decide) (fun c_2 => ?_) (fun c_2 => ?_)
  · have c_2 := er_b_n.mp c_2
    refine lv_aload_n hx hb d_E_weight_17 rfl (lv_at hl 0 rfl) ?_
    refine va_get (D := (dC, dI)) (ci := 1) (v := .int 0) (C := R_E) (T := F_E) (N := 12) hx hb hts i_E hown hK hP 0 rfl rfl 9 (by decide) (hts _ k_81) (fun _ h9 => h9) rfl d_E_weight_18 ?_
    refine lv_if_ne (tgt := 34) hx hb d_E_weight_21 (by decide) (fun c_3 => absurd c_3 (by decide)) (fun _ => ?_)
    obtain ⟨q9, hq9⟩ := hX.2.1 (126, "there is no place that came last") (by decide)
    exact er_throw (names := er_names) hx hb htr hown (by decide +kernel) (by decide +kernel) (fun w h => er_X.words hts hX w (er_ownS w h)) (hts _ k_243) (hts _ k_25) hq9 hno hlocks (hl.1.trans hml.symm) (Nat.le_refl _) d_E_weight_24 d_E_weight_27 d_E_weight_28 d_E_weight_30 d_E_weight_33 (Nat.le_of_ble_eq_true rfl) (Nat.le_of_ble_eq_true rfl) (Nat.le_of_ble_eq_true rfl) (Nat.le_of_ble_eq_true rfl)
  · have c_2 := er_b_0.mp c_2
    exact absurd c_2 (by simp_all)

set_option maxHeartbeats 1000000 in
set_option maxRecDepth 100000 in
theorem t_E_depth (l : Launch) (hT : ∀ e, l.admits e → e.platform.stackTraces = false) (dC : Nat → ClassId) (dI : Nat → Nat → Nat) (h0 h1 h2 h3 : Nat) (ar : Int64) (wx wy ww wh wk lx ly : Int32) : er_T l y_E_depth w_E_depth ({ frames := 6, cells := 1, slots := 6, locals := 82 }) (va_Pc [.ref h0] (PT dC dI [] [(h0, .inr (1, [.ref h1, .ref h2, .ref h3, .long ar, .int wx, .int wy, .int ww, .int wh, .int wk, .int 0, .int lx, .int ly]))])) er_ISE 1 6 := by
  refine er_T.ofW (cc := b_E_depth) (maxL := 3) (ret := (some .int)) (by decide +kernel) rfl ?_
  intro p e s m args below meth c s₁ B hml hv
  obtain ⟨rfl, ⟨hN, hK, hP⟩, hX⟩ := hv
  have hx := B.exec
  have hb := B.bytes
  have hno := B.noHandlers (atoms_spec (ws := w_E_depth) B.pre _ List.mem_cons_self)
  have htr := hT e B.admits
  have hts := er_hts (atoms_spec (ws := w_E_depth) B.pre)
  have hown : s.vm.findClass R_E = some m.cls := findClass_of_methodNamed B.named
  have hlocks := B.notSynchronized
  have hP : va_P (dC, dI) classes [(h0, .inr (1, [.ref h1, .ref h2, .ref h3, .long ar, .int wx, .int wy, .int ww, .int wh, .int wk, .int 0, .int lx, .int ly]))] s.heap := hP
  have hl := lv_entry ([.ref h0]) (n := 3) (Nat.le_of_ble_eq_true rfl)
  rw [lg_entry_eq]
  generalize (lg_sl ([.ref h0]) ++ List.replicate (3 - (lg_sl ([.ref h0])).length) Slot.unset).toArray = ls at hl ⊢
  have hl : lv_has ls 3 [(0, .ref h0)] := hl
  refine lv_aload_n hx hb d_E_depth_0 rfl (lv_at hl 0 rfl) ?_
  refine va_get (D := (dC, dI)) (ci := 1) (v := .int 0) (C := R_E) (T := F_E) (N := 12) hx hb hts i_E hown hK hP 0 rfl rfl 9 (by decide) (hts _ k_81) (fun _ h9 => h9) rfl d_E_depth_1 ?_
  refine lv_if_ne (tgt := 17) hx hb d_E_depth_4 (by decide) (fun c_1 => absurd c_1 (by decide)) (fun _ => ?_)
  obtain ⟨q9, hq9⟩ := hX.2.1 (126, "there is no place that came last") (by decide)
  exact er_throw (names := er_names) hx hb htr hown (by decide +kernel) (by decide +kernel) (fun w h => er_X.words hts hX w (er_ownS w h)) (hts _ k_243) (hts _ k_25) hq9 hno hlocks (hl.1.trans hml.symm) (Nat.le_refl _) d_E_depth_7 d_E_depth_10 d_E_depth_11 d_E_depth_13 d_E_depth_16 (Nat.le_of_ble_eq_true rfl) (Nat.le_of_ble_eq_true rfl) (Nat.le_of_ble_eq_true rfl) (Nat.le_of_ble_eq_true rfl)

set_option maxHeartbeats 1000000 in
set_option maxRecDepth 100000 in
theorem t_E_atA (l : Launch) (hT : ∀ e, l.admits e → e.platform.stackTraces = false) (dC : Nat → ClassId) (dI : Nat → Nat → Nat) (h0 : Nat) (p0 : Int32) (hv : er_win p0 0 27 = false) : er_T l y_E_at w_E_at ({ frames := 6, cells := 1, slots := 6, locals := 82 }) (va_Pc [.ref h0, .int p0] (PT dC dI [] [])) er_IAE 1 6 := by
  refine er_T.ofW (cc := b_E_at) (maxL := 17) (ret := (some .int)) (by decide +kernel) rfl ?_
  intro p e s m args below meth c s₁ B hml hv
  obtain ⟨rfl, ⟨hN, hK, hP⟩, hX⟩ := hv
  have hx := B.exec
  have hb := B.bytes
  have hno := B.noHandlers (atoms_spec (ws := w_E_at) B.pre _ List.mem_cons_self)
  have htr := hT e B.admits
  have hts := er_hts (atoms_spec (ws := w_E_at) B.pre)
  have hown : s.vm.findClass R_E = some m.cls := findClass_of_methodNamed B.named
  have hlocks := B.notSynchronized
  have hP : va_P (dC, dI) classes [] s.heap := hP
  have hl := lv_entry ([.ref h0, .int p0]) (n := 17) (Nat.le_of_ble_eq_true rfl)
  rw [lg_entry_eq]
  generalize (lg_sl ([.ref h0, .int p0]) ++ List.replicate (17 - (lg_sl ([.ref h0, .int p0])).length) Slot.unset).toArray = ls at hl ⊢
  have hl : lv_has ls 17 [(0, .ref h0), (1, .int p0)] := hl
  refine lv_iload_n hx hb d_E_at_0 rfl (lv_at hl 1 rfl) ?_
  have hPc := hP.sub (ws' := []) [] rfl
  have hKc := hK.sub (tys' := []) [] rfl
  refine vp_callSi (va_runS (As := [.int p0]) (rest := []) ⟨hx, hb, hml, hown, hts⟩ (c_E_isValue l dC dI p0) (va_cwS 1 hts (er_gS k_218 k_219 k_18 k_220) rfl rfl rfl (by decide +kernel) ⟨Nat.le_of_ble_eq_true rfl, Nat.le_of_ble_eq_true rfl⟩) ⟨PP.blind, PP.at hN hKc hPc⟩ rfl rfl hl.1 rfl (lv_room (Nat.le_of_ble_eq_true rfl)) d_E_at_1 ⟨Nat.zero_le _, Nat.zero_le _⟩).run (fun r_1 hr_1 => ?_)
  obtain rfl : er_b (er_win p0 0 27) = r_1 := Eq.symm hr_1
  refine lv_if_ne (tgt := 17) hx hb d_E_at_4 (by decide) (fun c_2 => ?_) (fun c_2 => ?_)
  · have c_2 := er_b_n.mp c_2
    exfalso
    simp_all
  · have c_2 := er_b_0.mp c_2
    obtain ⟨q9, hq9⟩ := hX.2.1 (142, "n must be 0 .. 27") (by decide)
    exact er_throw (names := er_names) hx hb htr hown (by decide +kernel) (by decide +kernel) (fun w h => er_X.words hts hX w (er_ownA w h)) (hts _ k_143) (hts _ k_24) hq9 hno hlocks (hl.1.trans hml.symm) (Nat.le_refl _) d_E_at_7 d_E_at_10 d_E_at_11 d_E_at_13 d_E_at_16 (Nat.le_of_ble_eq_true rfl) (Nat.le_of_ble_eq_true rfl) (Nat.le_of_ble_eq_true rfl) (Nat.le_of_ble_eq_true rfl)

set_option maxHeartbeats 1000000 in
set_option maxRecDepth 100000 in
theorem t_E_atS (l : Launch) (hT : ∀ e, l.admits e → e.platform.stackTraces = false) (dC : Nat → ClassId) (dI : Nat → Nat → Nat) (h0 h1 h2 h3 : Nat) (ar : Int64) (wx wy ww wh wk lx ly : Int32) (p0 : Int32) (u0 : er_win p0 0 27 = true) : er_T l y_E_at w_E_at ({ frames := 6, cells := 1, slots := 6, locals := 82 }) (va_Pc [.ref h0, .int p0] (PT dC dI [] [(h0, .inr (1, [.ref h1, .ref h2, .ref h3, .long ar, .int wx, .int wy, .int ww, .int wh, .int wk, .int 0, .int lx, .int ly]))])) er_ISE 1 6 := by
  refine er_T.ofW (cc := b_E_at) (maxL := 17) (ret := (some .int)) (by decide +kernel) rfl ?_
  intro p e s m args below meth c s₁ B hml hv
  obtain ⟨rfl, ⟨hN, hK, hP⟩, hX⟩ := hv
  have hx := B.exec
  have hb := B.bytes
  have hno := B.noHandlers (atoms_spec (ws := w_E_at) B.pre _ List.mem_cons_self)
  have htr := hT e B.admits
  have hts := er_hts (atoms_spec (ws := w_E_at) B.pre)
  have hown : s.vm.findClass R_E = some m.cls := findClass_of_methodNamed B.named
  have hlocks := B.notSynchronized
  have hP : va_P (dC, dI) classes [(h0, .inr (1, [.ref h1, .ref h2, .ref h3, .long ar, .int wx, .int wy, .int ww, .int wh, .int wk, .int 0, .int lx, .int ly]))] s.heap := hP
  have hl := lv_entry ([.ref h0, .int p0]) (n := 17) (Nat.le_of_ble_eq_true rfl)
  rw [lg_entry_eq]
  generalize (lg_sl ([.ref h0, .int p0]) ++ List.replicate (17 - (lg_sl ([.ref h0, .int p0])).length) Slot.unset).toArray = ls at hl ⊢
  have hl : lv_has ls 17 [(0, .ref h0), (1, .int p0)] := hl
  refine lv_iload_n hx hb d_E_at_0 rfl (lv_at hl 1 rfl) ?_
  have hPc := hP.sub (ws' := []) [] rfl
  have hKc := hK.sub (tys' := []) [] rfl
  refine vp_callSi (va_runS (As := [.int p0]) (rest := []) ⟨hx, hb, hml, hown, hts⟩ (c_E_isValue l dC dI p0) (va_cwS 1 hts (er_gS k_218 k_219 k_18 k_220) rfl rfl rfl (by decide +kernel) ⟨Nat.le_of_ble_eq_true rfl, Nat.le_of_ble_eq_true rfl⟩) ⟨PP.blind, PP.at hN hKc hPc⟩ rfl rfl hl.1 rfl (lv_room (Nat.le_of_ble_eq_true rfl)) d_E_at_1 ⟨Nat.zero_le _, Nat.zero_le _⟩).run (fun r_1 hr_1 => ?_)
  obtain rfl : er_b (er_win p0 0 27) = r_1 := Eq.symm hr_1
  refine lv_if_ne (tgt := 17) hx hb d_E_at_4 (by decide) (fun c_2 => ?_) (fun c_2 => ?_)
  · have c_2 := er_b_n.mp c_2
    refine lv_aload_n hx hb d_E_at_17 rfl (lv_at hl 0 rfl) ?_
    refine va_get (D := (dC, dI)) (ci := 1) (v := .int 0) (C := R_E) (T := F_E) (N := 12) hx hb hts i_E hown hK hP 0 rfl rfl 9 (by decide) (hts _ k_81) (fun _ h9 => h9) rfl d_E_at_18 ?_
    refine lv_if_ne (tgt := 34) hx hb d_E_at_21 (by decide) (fun c_3 => absurd c_3 (by decide)) (fun _ => ?_)
    obtain ⟨q9, hq9⟩ := hX.2.1 (126, "there is no place that came last") (by decide)
    exact er_throw (names := er_names) hx hb htr hown (by decide +kernel) (by decide +kernel) (fun w h => er_X.words hts hX w (er_ownS w h)) (hts _ k_243) (hts _ k_25) hq9 hno hlocks (hl.1.trans hml.symm) (Nat.le_refl _) d_E_at_24 d_E_at_27 d_E_at_28 d_E_at_30 d_E_at_33 (Nat.le_of_ble_eq_true rfl) (Nat.le_of_ble_eq_true rfl) (Nat.le_of_ble_eq_true rfl) (Nat.le_of_ble_eq_true rfl)
  · have c_2 := er_b_0.mp c_2
    exact absurd c_2 (by simp_all)
