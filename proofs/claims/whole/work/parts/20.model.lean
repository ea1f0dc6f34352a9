set_option maxHeartbeats 1000000 in
set_option maxRecDepth 100000 in
theorem c_M_in (l : Launch) (dC : Nat → ClassId) (dI : Nat → Nat → Nat) (p0 p1 p2 : Int32) : Met l y_M_in_ w_M_in_ ({ frames := 0, cells := 0, slots := 0, locals := 0 }) (va_Pc [.int p0, .int p1, .int p2] (PP dC dI [] [])) (vp_Si (fun r : Int32 => r = er_b (er_win p0 p1 p2))) 0 0 (fun _ => False) := by
  refine Met.ofW (cc := b_M_in_) (maxL := 3) (ret := (some .boolean)) (by decide +kernel) rfl ?_
  intro p e s m args below meth c s₁ B hml hv
  obtain ⟨rfl, hN, hK, hP⟩ := hv
  have hx := B.exec
  have hb := B.bytes
  have hr := B.returns
  have hts := er_hts (atoms_spec (ws := w_M_in_) B.pre)
  have hown : s.vm.findClass R_M = some m.cls := findClass_of_methodNamed B.named
  have hlocks := B.notSynchronized
  have hP : va_P (dC, dI) classes [] s.heap := hP
  have hl := lv_entry ([.int p0, .int p1, .int p2]) (n := 3) (Nat.le_of_ble_eq_true rfl)
  rw [lg_entry_eq]
  generalize (lg_sl ([.int p0, .int p1, .int p2]) ++ List.replicate (3 - (lg_sl ([.int p0, .int p1, .int p2])).length) Slot.unset).toArray = ls at hl ⊢
  have hl : lv_has ls 3 [(0, .int p0), (1, .int p1), (2, .int p2)] := hl
  refine lv_iload_n hx hb d_M_in__0 rfl (lv_at hl 0 rfl) ?_
  refine lv_iload_n hx hb d_M_in__1 rfl (lv_at hl 1 rfl) ?_
  refine lv_icmp_lt (tgt := 14) hx hb d_M_in__2 (by decide) (fun c_1 => ?_) (fun c_1 => ?_)
  · refine lv_iconst (v := 0) hx hb d_M_in__14 (by decide) ?_
    exact W.zret (v := 0) (ty := .boolean) hx hb hr (by decide) (fun u9 ht hW => ⟨_, rfl, (by simp_all [er_win, er_b]), ht⟩) (fun q hq => by cases hq) d_M_in__15
  · refine lv_iload_n hx hb d_M_in__5 rfl (lv_at hl 0 rfl) ?_
    refine lv_iload_n hx hb d_M_in__6 rfl (lv_at hl 2 rfl) ?_
    refine lv_icmp_gt (tgt := 14) hx hb d_M_in__7 (by decide) (fun c_2 => ?_) (fun c_2 => ?_)
    · refine lv_iconst (v := 0) hx hb d_M_in__14 (by decide) ?_
      exact W.zret (v := 0) (ty := .boolean) hx hb hr (by decide) (fun u9 ht hW => ⟨_, rfl, (by simp_all [er_win, er_b]), ht⟩) (fun q hq => by cases hq) d_M_in__15
    · refine lv_iconst (v := 1) hx hb d_M_in__10 (by decide) ?_
      refine lv_goto (tgt := 15) hx hb d_M_in__11 (by decide) ?_
      exact W.zret (v := 1) (ty := .boolean) hx hb hr (by decide) (fun u9 ht hW => ⟨_, rfl, (by simp_all [er_win, er_b]), ht⟩) (fun q hq => by cases hq) d_M_in__15

set_option maxHeartbeats 1000000 in
set_option maxRecDepth 100000 in
theorem c_M_room (l : Launch) (dC : Nat → ClassId) (dI : Nat → Nat → Nat) (m0 a1 a2 a3 a4 a5 : Nat) (g1 g2 : ClassId) (X Y : Nat → Int32) (th lf tp wd hg ws lk cm mx my : Int32) (i k : Nat) (p2 p3 : Int32) (hi : i < 3) (hk : k < 3) : Met l y_M_room w_M_room ({ frames := 0, cells := 0, slots := 0, locals := 0 }) (va_Pc [.ref m0, .int (nI i), .int (nI k), .int p2, .int p3] (PP dC dI [(g1, .int), (g2, .int)] [(m0, .inr (2, [.int th, .ref a1, .ref a2, .ref a3, .ref a4, .ref a5, .int lf, .int tp, .int wd, .int hg, .int ws, .int lk, .int cm, .int mx, .int my])), (a1, .inl (g1, 3, .inl X)), (a2, .inl (g2, 3, .inl Y))])) (vp_Sl (fun r : Int64 => r = er_room X Y i k p2 p3)) 0 0 (fun _ => False) := by
  refine Met.ofW (cc := b_M_room) (maxL := 9) (ret := (some .long)) (by decide +kernel) rfl ?_
  intro p e s m args below meth c s₁ B hml hv
  obtain ⟨rfl, hN, hK, hP⟩ := hv
  have hx := B.exec
  have hb := B.bytes
  have hr := B.returns
  have hts := er_hts (atoms_spec (ws := w_M_room) B.pre)
  have hown : s.vm.findClass R_M = some m.cls := findClass_of_methodNamed B.named
  have hlocks := B.notSynchronized
  have hP : va_P (dC, dI) classes [(m0, .inr (2, [.int th, .ref a1, .ref a2, .ref a3, .ref a4, .ref a5, .int lf, .int tp, .int wd, .int hg, .int ws, .int lk, .int cm, .int mx, .int my])), (a1, .inl (g1, 3, .inl X)), (a2, .inl (g2, 3, .inl Y))] s.heap := hP
  have hl := lv_entry ([.ref m0, .int (nI i), .int (nI k), .int p2, .int p3]) (n := 9) (Nat.le_of_ble_eq_true rfl)
  rw [lg_entry_eq]
  generalize (lg_sl ([.ref m0, .int (nI i), .int (nI k), .int p2, .int p3]) ++ List.replicate (9 - (lg_sl ([.ref m0, .int (nI i), .int (nI k), .int p2, .int p3])).length) Slot.unset).toArray = ls at hl ⊢
  have hl : lv_has ls 9 [(0, .ref m0), (1, .int (nI i)), (2, .int (nI k)), (3, .int p2), (4, .int p3)] := hl
  refine lv_aload_n hx hb d_M_room_0 rfl (lv_at hl 0 rfl) ?_
  refine va_get (D := (dC, dI)) (ci := 2) (v := .ref a1) (C := R_M) (T := F_M) (N := 15) hx hb hts i_M hown hK hP 0 rfl rfl 1 (by decide) (hts _ k_307) (fun _ h9 => h9) rfl d_M_room_1 ?_
  refine lv_iload_n hx hb d_M_room_4 rfl (lv_at hl 2 rfl) ?_
  refine va_iald (i := nI k) hx hb hK hP 1 0 rfl rfl (vp_in_nI (by omega) (by decide)) d_M_room_5 ?_
  refine lv_topi (x := X (nI k).toNatClampNeg) (fun y9 e9 => ?_)
  obtain rfl : y9 = X k := by rw [e9, nI_clamp (by omega)]
  refine lv_aload_n hx hb d_M_room_6 rfl (lv_at hl 0 rfl) ?_
  refine va_get (D := (dC, dI)) (ci := 2) (v := .ref a1) (C := R_M) (T := F_M) (N := 15) hx hb hts i_M hown hK hP 0 rfl rfl 1 (by decide) (hts _ k_307) (fun _ h9 => h9) rfl d_M_room_7 ?_
  refine lv_iload_n hx hb d_M_room_10 rfl (lv_at hl 1 rfl) ?_
  refine va_iald (i := nI i) hx hb hK hP 1 0 rfl rfl (vp_in_nI (by omega) (by decide)) d_M_room_11 ?_
  refine lv_topi (x := X (nI i).toNatClampNeg) (fun y9 e9 => ?_)
  obtain rfl : y9 = X i := by rw [e9, nI_clamp (by omega)]
  refine lv_isub hx hb d_M_room_12 ?_
  refine lv_i2l (v := ((X k) - (X i)).toInt64) hx hb d_M_room_13 rfl ?_
  refine lv_lstore (lv' := [(5, .long (((X k) - (X i)).toInt64)), (0, .ref m0), (1, .int (nI i)), (2, .int (nI k)), (3, .int p2), (4, .int p3)]) hx hb d_M_room_14 hl (by decide) rfl (fun ls hl => ?_)
  refine lv_aload_n hx hb d_M_room_16 rfl (lv_at hl 1 rfl) ?_
  refine va_get (D := (dC, dI)) (ci := 2) (v := .ref a2) (C := R_M) (T := F_M) (N := 15) hx hb hts i_M hown hK hP 0 rfl rfl 2 (by decide) (hts _ k_308) (fun _ h9 => h9) rfl d_M_room_17 ?_
  refine lv_iload_n hx hb d_M_room_20 rfl (lv_at hl 3 rfl) ?_
  refine va_iald (i := nI k) hx hb hK hP 2 1 rfl rfl (vp_in_nI (by omega) (by decide)) d_M_room_21 ?_
  refine lv_topi (x := Y (nI k).toNatClampNeg) (fun y9 e9 => ?_)
  obtain rfl : y9 = Y k := by rw [e9, nI_clamp (by omega)]
  refine lv_aload_n hx hb d_M_room_22 rfl (lv_at hl 1 rfl) ?_
  refine va_get (D := (dC, dI)) (ci := 2) (v := .ref a2) (C := R_M) (T := F_M) (N := 15) hx hb hts i_M hown hK hP 0 rfl rfl 2 (by decide) (hts _ k_308) (fun _ h9 => h9) rfl d_M_room_23 ?_
  refine lv_iload_n hx hb d_M_room_26 rfl (lv_at hl 2 rfl) ?_
  refine va_iald (i := nI i) hx hb hK hP 2 1 rfl rfl (vp_in_nI (by omega) (by decide)) d_M_room_27 ?_
  refine lv_topi (x := Y (nI i).toNatClampNeg) (fun y9 e9 => ?_)
  obtain rfl : y9 = Y i := by rw [e9, nI_clamp (by omega)]
  refine lv_isub hx hb d_M_room_28 ?_
  refine lv_i2l (v := ((Y k) - (Y i)).toInt64) hx hb d_M_room_29 rfl ?_
  refine lv_lstore (lv' := [(7, .long (((Y k) - (Y i)).toInt64)), (5, .long (((X k) - (X i)).toInt64)), (0, .ref m0), (1, .int (nI i)), (2, .int (nI k)), (3, .int p2), (4, .int p3)]) hx hb d_M_room_30 hl (by decide) rfl (fun ls hl => ?_)
  refine lv_lload hx hb d_M_room_32 (lv_at hl 1 rfl) ?_
  refine lv_iload hx hb d_M_room_34 (lv_at hl 6 rfl) ?_
  refine lv_aload_n hx hb d_M_room_36 rfl (lv_at hl 2 rfl) ?_
  refine va_get (D := (dC, dI)) (ci := 2) (v := .ref a2) (C := R_M) (T := F_M) (N := 15) hx hb hts i_M hown hK hP 0 rfl rfl 2 (by decide) (hts _ k_308) (fun _ h9 => h9) rfl d_M_room_37 ?_
  refine lv_iload_n hx hb d_M_room_40 rfl (lv_at hl 3 rfl) ?_
  refine va_iald (i := nI i) hx hb hK hP 2 1 rfl rfl (vp_in_nI (by omega) (by decide)) d_M_room_41 ?_
  refine lv_topi (x := Y (nI i).toNatClampNeg) (fun y9 e9 => ?_)
  obtain rfl : y9 = Y i := by rw [e9, nI_clamp (by omega)]
  refine lv_isub hx hb d_M_room_42 ?_
  refine lv_i2l (v := (p3 - (Y i)).toInt64) hx hb d_M_room_43 rfl ?_
  refine lv_lmul hx hb d_M_room_44 ?_
  refine lv_lload hx hb d_M_room_45 (lv_at hl 0 rfl) ?_
  refine lv_iload_n hx hb d_M_room_47 rfl (lv_at hl 5 rfl) ?_
  refine lv_aload_n hx hb d_M_room_48 rfl (lv_at hl 2 rfl) ?_
  refine va_get (D := (dC, dI)) (ci := 2) (v := .ref a1) (C := R_M) (T := F_M) (N := 15) hx hb hts i_M hown hK hP 0 rfl rfl 1 (by decide) (hts _ k_307) (fun _ h9 => h9) rfl d_M_room_49 ?_
  refine lv_iload_n hx hb d_M_room_52 rfl (lv_at hl 3 rfl) ?_
  refine va_iald (i := nI i) hx hb hK hP 1 0 rfl rfl (vp_in_nI (by omega) (by decide)) d_M_room_53 ?_
  refine lv_topi (x := X (nI i).toNatClampNeg) (fun y9 e9 => ?_)
  obtain rfl : y9 = X i := by rw [e9, nI_clamp (by omega)]
  refine lv_isub hx hb d_M_room_54 ?_
  refine lv_i2l (v := (p2 - (X i)).toInt64) hx hb d_M_room_55 rfl ?_
  refine lv_lmul hx hb d_M_room_56 ?_
  refine lv_lsub hx hb d_M_room_57 ?_
  exact W.lret (v := ((((X k) - (X i)).toInt64) * ((p3 - (Y i)).toInt64)) - ((((Y k) - (Y i)).toInt64) * ((p2 - (X i)).toInt64))) hx hb hr (fun u9 ht hW => ⟨_, rfl, rfl, ht⟩) (fun q hq => by cases hq) d_M_room_58

set_option maxHeartbeats 1000000 in
set_option maxRecDepth 100000 in
theorem c_M_whole (l : Launch) (dC : Nat → ClassId) (dI : Nat → Nat → Nat) (m0 a1 a2 a3 a4 a5 : Nat) (g1 g2 : ClassId) (X Y : Nat → Int32) (th lf tp wd hg ws lk cm mx my : Int32) : Met l y_M_whole w_M_whole ({ frames := 1, cells := 0, slots := 0, locals := 28 }) (va_Pc [.ref m0] (PP dC dI [(g1, .int), (g2, .int)] [(m0, .inr (2, [.int th, .ref a1, .ref a2, .ref a3, .ref a4, .ref a5, .int lf, .int tp, .int wd, .int hg, .int ws, .int lk, .int cm, .int mx, .int my])), (a1, .inl (g1, 3, .inl X)), (a2, .inl (g2, 3, .inl Y))])) (vp_Sl (fun r : Int64 => r = er_ar X Y)) 0 0 (fun _ => False) := by
  refine Met.ofW (cc := b_M_whole) (maxL := 1) (ret := (some .long)) (by decide +kernel) rfl ?_
  intro p e s m args below meth c s₁ B hml hv
  obtain ⟨rfl, hN, hK, hP⟩ := hv
  have hx := B.exec
  have hb := B.bytes
  have hr := B.returns
  have hts := er_hts (atoms_spec (ws := w_M_whole) B.pre)
  have hown : s.vm.findClass R_M = some m.cls := findClass_of_methodNamed B.named
  have hlocks := B.notSynchronized
  have hP : va_P (dC, dI) classes [(m0, .inr (2, [.int th, .ref a1, .ref a2, .ref a3, .ref a4, .ref a5, .int lf, .int tp, .int wd, .int hg, .int ws, .int lk, .int cm, .int mx, .int my])), (a1, .inl (g1, 3, .inl X)), (a2, .inl (g2, 3, .inl Y))] s.heap := hP
  have hl := lv_entry ([.ref m0]) (n := 1) (Nat.le_of_ble_eq_true rfl)
  rw [lg_entry_eq]
  generalize (lg_sl ([.ref m0]) ++ List.replicate (1 - (lg_sl ([.ref m0])).length) Slot.unset).toArray = ls at hl ⊢
  have hl : lv_has ls 1 [(0, .ref m0)] := hl
  refine lv_aload_n hx hb d_M_whole_0 rfl (lv_at hl 0 rfl) ?_
  refine lv_iconst (v := 0) hx hb d_M_whole_1 (by decide) ?_
  refine lv_iconst (v := 1) hx hb d_M_whole_2 (by decide) ?_
  refine lv_aload_n hx hb d_M_whole_3 rfl (lv_at hl 0 rfl) ?_
  refine va_get (D := (dC, dI)) (ci := 2) (v := .ref a1) (C := R_M) (T := F_M) (N := 15) hx hb hts i_M hown hK hP 0 rfl rfl 1 (by decide) (hts _ k_307) (fun _ h9 => h9) rfl d_M_whole_4 ?_
  refine lv_iconst (v := 2) hx hb d_M_whole_7 (by decide) ?_
  refine va_iald (i := 2) hx hb hK hP 1 0 rfl rfl (vp_in_nI (n := 2) (by decide) (by decide)) d_M_whole_8 ?_
  refine lv_aload_n hx hb d_M_whole_9 rfl (lv_at hl 0 rfl) ?_
  refine va_get (D := (dC, dI)) (ci := 2) (v := .ref a2) (C := R_M) (T := F_M) (N := 15) hx hb hts i_M hown hK hP 0 rfl rfl 2 (by decide) (hts _ k_308) (fun _ h9 => h9) rfl d_M_whole_10 ?_
  refine lv_iconst (v := 2) hx hb d_M_whole_13 (by decide) ?_
  refine va_iald (i := 2) hx hb hK hP 2 1 rfl rfl (vp_in_nI (n := 2) (by decide) (by decide)) d_M_whole_14 ?_
  have hPc := hP.sub (ws' := [(m0, .inr (2, [.int th, .ref a1, .ref a2, .ref a3, .ref a4, .ref a5, .int lf, .int tp, .int wd, .int hg, .int ws, .int lk, .int cm, .int mx, .int my])), (a1, .inl (g1, 3, .inl X)), (a2, .inl (g2, 3, .inl Y))]) [0, 1, 2] rfl
  have hKc := hK.sub (tys' := [(g1, .int), (g2, .int)]) [0, 1] rfl
  refine vp_callSl (va_runV (As := [.int 0, .int 1, .int (X 2), .int (Y 2)]) (rest := []) ⟨hx, hb, hml, hown, hts⟩ (c_M_room l dC dI m0 a1 a2 a3 a4 a5 g1 g2 X Y th lf tp wd hg ws lk cm mx my 0 1 (X 2) (Y 2) (by first | assumption | omega | decide | exact er_fr_lt _ _ _ | exact er_to_lt _ _ _) (by first | assumption | omega | decide | exact er_fr_lt _ _ _ | exact er_to_lt _ _ _)) (cwV 4 hts (er_gV k_383 k_384 k_12 k_20 k_385) rfl rfl rfl (by decide +kernel) ⟨Nat.le_of_ble_eq_true rfl, Nat.le_of_ble_eq_true rfl⟩) ⟨PP.blind, va_recv hKc hPc (ci := 2) (q0 := 0) rfl rfl, PP.at hN hKc hPc⟩ rfl rfl hl.1 rfl (lv_room (Nat.le_of_ble_eq_true rfl)) d_M_whole_15 ⟨Nat.zero_le _, Nat.zero_le _⟩).run (fun r_1 hr_1 => ?_)
  obtain rfl : er_room X Y 0 1 (X 2) (Y 2) = r_1 := Eq.symm hr_1
  exact W.lret (v := er_room X Y 0 1 (X 2) (Y 2)) hx hb hr (fun u9 ht hW => ⟨_, rfl, rfl, ht⟩) (fun q hq => by cases hq) d_M_whole_18

set_option maxHeartbeats 1000000 in
set_option maxRecDepth 100000 in
theorem c_M_from (l : Launch) (dC : Nat → ClassId) (dI : Nat → Nat → Nat) (m0 a1 a2 a3 a4 a5 : Nat) (g1 g2 : ClassId) (X Y : Nat → Int32) (th lf tp wd hg ws lk cm mx my : Int32) (j : Nat) (hj : j < 3) : Met l y_M_from w_M_from ({ frames := 2, cells := 0, slots := 0, locals := 48 }) (va_Pc [.ref m0, .int (nI j)] (PP dC dI [(g1, .int), (g2, .int)] [(m0, .inr (2, [.int th, .ref a1, .ref a2, .ref a3, .ref a4, .ref a5, .int lf, .int tp, .int wd, .int hg, .int ws, .int lk, .int cm, .int mx, .int my])), (a1, .inl (g1, 3, .inl X)), (a2, .inl (g2, 3, .inl Y))])) (vp_Si (fun r : Int32 => r = nI (er_fr X Y j))) 0 0 (fun _ => False) := by
  refine Met.ofW (cc := b_M_from) (maxL := 2) (ret := (some .int)) (by decide +kernel) rfl ?_
  intro p e s m args below meth c s₁ B hml hv
  obtain ⟨rfl, hN, hK, hP⟩ := hv
  have hx := B.exec
  have hb := B.bytes
  have hr := B.returns
  have hts := er_hts (atoms_spec (ws := w_M_from) B.pre)
  have hown : s.vm.findClass R_M = some m.cls := findClass_of_methodNamed B.named
  have hlocks := B.notSynchronized
  have hP : va_P (dC, dI) classes [(m0, .inr (2, [.int th, .ref a1, .ref a2, .ref a3, .ref a4, .ref a5, .int lf, .int tp, .int wd, .int hg, .int ws, .int lk, .int cm, .int mx, .int my])), (a1, .inl (g1, 3, .inl X)), (a2, .inl (g2, 3, .inl Y))] s.heap := hP
  have hl := lv_entry ([.ref m0, .int (nI j)]) (n := 2) (Nat.le_of_ble_eq_true rfl)
  rw [lg_entry_eq]
  generalize (lg_sl ([.ref m0, .int (nI j)]) ++ List.replicate (2 - (lg_sl ([.ref m0, .int (nI j)])).length) Slot.unset).toArray = ls at hl ⊢
  have hl : lv_has ls 2 [(0, .ref m0), (1, .int (nI j))] := hl
  refine lv_aload_n hx hb d_M_from_0 rfl (lv_at hl 0 rfl) ?_
  have hPc := hP.sub (ws' := [(m0, .inr (2, [.int th, .ref a1, .ref a2, .ref a3, .ref a4, .ref a5, .int lf, .int tp, .int wd, .int hg, .int ws, .int lk, .int cm, .int mx, .int my])), (a1, .inl (g1, 3, .inl X)), (a2, .inl (g2, 3, .inl Y))]) [0, 1, 2] rfl
  have hKc := hK.sub (tys' := [(g1, .int), (g2, .int)]) [0, 1] rfl
  refine vp_callSl (va_runV (As := []) (rest := []) ⟨hx, hb, hml, hown, hts⟩ (c_M_whole l dC dI m0 a1 a2 a3 a4 a5 g1 g2 X Y th lf tp wd hg ws lk cm mx my) (cwV 0 hts (er_gV k_380 k_381 k_11 k_20 k_382) rfl rfl rfl (by decide +kernel) ⟨Nat.le_of_ble_eq_true rfl, Nat.le_of_ble_eq_true rfl⟩) ⟨PP.blind, va_recv hKc hPc (ci := 2) (q0 := 0) rfl rfl, PP.at hN hKc hPc⟩ rfl rfl hl.1 rfl (lv_room (Nat.le_of_ble_eq_true rfl)) d_M_from_1 ⟨Nat.zero_le _, Nat.zero_le _⟩).run (fun r_1 hr_1 => ?_)
  obtain rfl : er_ar X Y = r_1 := Eq.symm hr_1
  refine lv_lconst (v := 0) hx hb d_M_from_4 (by decide) ?_
  refine W.lcmp hx hb d_M_from_5 ?_
  refine lv_if_ge (tgt := 17) hx hb d_M_from_6 (by decide) (fun c_2 => ?_) (fun c_2 => ?_)
  · rw [lg_cmp_ge] at c_2
    refine lv_iload_n hx hb d_M_from_17 rfl (lv_at hl 1 rfl) ?_
    refine lv_iconst (v := 1) hx hb d_M_from_18 (by decide) ?_
    refine lv_iadd hx hb d_M_from_19 ?_
    refine lv_iconst (v := 3) hx hb d_M_from_20 (by decide) ?_
    refine lv_irem hx hb d_M_from_21 (by decide) ?_
    exact W.iret (v := ((nI j) + 1) - ((nI j) + 1) / 3 * 3) hx hb hr (fun u9 ht hW => ⟨_, rfl, (er_fr_ok1 hj c_2), ht⟩) (fun q hq => by cases hq) d_M_from_22
  · rw [lg_cmp_ge] at c_2
    refine lv_iload_n hx hb d_M_from_9 rfl (lv_at hl 1 rfl) ?_
    refine lv_iconst (v := 2) hx hb d_M_from_10 (by decide) ?_
    refine lv_iadd hx hb d_M_from_11 ?_
    refine lv_iconst (v := 3) hx hb d_M_from_12 (by decide) ?_
    refine lv_irem hx hb d_M_from_13 (by decide) ?_
    refine lv_goto (tgt := 22) hx hb d_M_from_14 (by decide) ?_
    exact W.iret (v := ((nI j) + 2) - ((nI j) + 2) / 3 * 3) hx hb hr (fun u9 ht hW => ⟨_, rfl, (er_fr_ok2 hj c_2), ht⟩) (fun q hq => by cases hq) d_M_from_22

set_option maxHeartbeats 1000000 in
set_option maxRecDepth 100000 in
theorem c_M_to (l : Launch) (dC : Nat → ClassId) (dI : Nat → Nat → Nat) (m0 a1 a2 a3 a4 a5 : Nat) (g1 g2 : ClassId) (X Y : Nat → Int32) (th lf tp wd hg ws lk cm mx my : Int32) (j : Nat) (hj : j < 3) : Met l y_M_to w_M_to ({ frames := 2, cells := 0, slots := 0, locals := 48 }) (va_Pc [.ref m0, .int (nI j)] (PP dC dI [(g1, .int), (g2, .int)] [(m0, .inr (2, [.int th, .ref a1, .ref a2, .ref a3, .ref a4, .ref a5, .int lf, .int tp, .int wd, .int hg, .int ws, .int lk, .int cm, .int mx, .int my])), (a1, .inl (g1, 3, .inl X)), (a2, .inl (g2, 3, .inl Y))])) (vp_Si (fun r : Int32 => r = nI (er_to X Y j))) 0 0 (fun _ => False) := by
  refine Met.ofW (cc := b_M_to) (maxL := 2) (ret := (some .int)) (by decide +kernel) rfl ?_
  intro p e s m args below meth c s₁ B hml hv
  obtain ⟨rfl, hN, hK, hP⟩ := hv
  have hx := B.exec
  have hb := B.bytes
  have hr := B.returns
  have hts := er_hts (atoms_spec (ws := w_M_to) B.pre)
  have hown : s.vm.findClass R_M = some m.cls := findClass_of_methodNamed B.named
  have hlocks := B.notSynchronized
  have hP : va_P (dC, dI) classes [(m0, .inr (2, [.int th, .ref a1, .ref a2, .ref a3, .ref a4, .ref a5, .int lf, .int tp, .int wd, .int hg, .int ws, .int lk, .int cm, .int mx, .int my])), (a1, .inl (g1, 3, .inl X)), (a2, .inl (g2, 3, .inl Y))] s.heap := hP
  have hl := lv_entry ([.ref m0, .int (nI j)]) (n := 2) (Nat.le_of_ble_eq_true rfl)
  rw [lg_entry_eq]
  generalize (lg_sl ([.ref m0, .int (nI j)]) ++ List.replicate (2 - (lg_sl ([.ref m0, .int (nI j)])).length) Slot.unset).toArray = ls at hl ⊢
  have hl : lv_has ls 2 [(0, .ref m0), (1, .int (nI j))] := hl
  refine lv_aload_n hx hb d_M_to_0 rfl (lv_at hl 0 rfl) ?_
  have hPc := hP.sub (ws' := [(m0, .inr (2, [.int th, .ref a1, .ref a2, .ref a3, .ref a4, .ref a5, .int lf, .int tp, .int wd, .int hg, .int ws, .int lk, .int cm, .int mx, .int my])), (a1, .inl (g1, 3, .inl X)), (a2, .inl (g2, 3, .inl Y))]) [0, 1, 2] rfl
  have hKc := hK.sub (tys' := [(g1, .int), (g2, .int)]) [0, 1] rfl
  refine vp_callSl (va_runV (As := []) (rest := []) ⟨hx, hb, hml, hown, hts⟩ (c_M_whole l dC dI m0 a1 a2 a3 a4 a5 g1 g2 X Y th lf tp wd hg ws lk cm mx my) (cwV 0 hts (er_gV k_380 k_381 k_11 k_20 k_382) rfl rfl rfl (by decide +kernel) ⟨Nat.le_of_ble_eq_true rfl, Nat.le_of_ble_eq_true rfl⟩) ⟨PP.blind, va_recv hKc hPc (ci := 2) (q0 := 0) rfl rfl, PP.at hN hKc hPc⟩ rfl rfl hl.1 rfl (lv_room (Nat.le_of_ble_eq_true rfl)) d_M_to_1 ⟨Nat.zero_le _, Nat.zero_le _⟩).run (fun r_1 hr_1 => ?_)
  obtain rfl : er_ar X Y = r_1 := Eq.symm hr_1
  refine lv_lconst (v := 0) hx hb d_M_to_4 (by decide) ?_
  refine W.lcmp hx hb d_M_to_5 ?_
  refine lv_if_ge (tgt := 17) hx hb d_M_to_6 (by decide) (fun c_2 => ?_) (fun c_2 => ?_)
  · rw [lg_cmp_ge] at c_2
    refine lv_iload_n hx hb d_M_to_17 rfl (lv_at hl 1 rfl) ?_
    refine lv_iconst (v := 2) hx hb d_M_to_18 (by decide) ?_
    refine lv_iadd hx hb d_M_to_19 ?_
    refine lv_iconst (v := 3) hx hb d_M_to_20 (by decide) ?_
    refine lv_irem hx hb d_M_to_21 (by decide) ?_
    exact W.iret (v := ((nI j) + 2) - ((nI j) + 2) / 3 * 3) hx hb hr (fun u9 ht hW => ⟨_, rfl, (er_to_ok2 hj c_2), ht⟩) (fun q hq => by cases hq) d_M_to_22
  · rw [lg_cmp_ge] at c_2
    refine lv_iload_n hx hb d_M_to_9 rfl (lv_at hl 1 rfl) ?_
    refine lv_iconst (v := 1) hx hb d_M_to_10 (by decide) ?_
    refine lv_iadd hx hb d_M_to_11 ?_
    refine lv_iconst (v := 3) hx hb d_M_to_12 (by decide) ?_
    refine lv_irem hx hb d_M_to_13 (by decide) ?_
    refine lv_goto (tgt := 22) hx hb d_M_to_14 (by decide) ?_
    exact W.iret (v := ((nI j) + 1) - ((nI j) + 1) / 3 * 3) hx hb hr (fun u9 ht hW => ⟨_, rfl, (er_to_ok1 hj c_2), ht⟩) (fun q hq => by cases hq) d_M_to_22

set_option maxHeartbeats 1000000 in
set_option maxRecDepth 100000 in
theorem c_M_weightOf (l : Launch) (dC : Nat → ClassId) (dI : Nat → Nat → Nat) (m0 a1 a2 a3 a4 a5 : Nat) (g1 g2 : ClassId) (X Y : Nat → Int32) (th lf tp wd hg ws lk cm mx my : Int32) (j : Nat) (p1 p2 : Int32) (hj : j < 3) : Met l y_M_weightOf w_M_weightOf ({ frames := 3, cells := 0, slots := 0, locals := 69 }) (va_Pc [.ref m0, .int (nI j), .int p1, .int p2] (PP dC dI [(g1, .int), (g2, .int)] [(m0, .inr (2, [.int th, .ref a1, .ref a2, .ref a3, .ref a4, .ref a5, .int lf, .int tp, .int wd, .int hg, .int ws, .int lk, .int cm, .int mx, .int my])), (a1, .inl (g1, 3, .inl X)), (a2, .inl (g2, 3, .inl Y))])) (vp_Sl (fun r : Int64 => r = er_W X Y j p1 p2)) 0 0 (fun _ => False) := by
  refine Met.ofW (cc := b_M_weightOf) (maxL := 4) (ret := (some .long)) (by decide +kernel) rfl ?_
  intro p e s m args below meth c s₁ B hml hv
  obtain ⟨rfl, hN, hK, hP⟩ := hv
  have hx := B.exec
  have hb := B.bytes
  have hr := B.returns
  have hts := er_hts (atoms_spec (ws := w_M_weightOf) B.pre)
  have hown : s.vm.findClass R_M = some m.cls := findClass_of_methodNamed B.named
  have hlocks := B.notSynchronized
  have hP : va_P (dC, dI) classes [(m0, .inr (2, [.int th, .ref a1, .ref a2, .ref a3, .ref a4, .ref a5, .int lf, .int tp, .int wd, .int hg, .int ws, .int lk, .int cm, .int mx, .int my])), (a1, .inl (g1, 3, .inl X)), (a2, .inl (g2, 3, .inl Y))] s.heap := hP
  have hl := lv_entry ([.ref m0, .int (nI j), .int p1, .int p2]) (n := 4) (Nat.le_of_ble_eq_true rfl)
  rw [lg_entry_eq]
  generalize (lg_sl ([.ref m0, .int (nI j), .int p1, .int p2]) ++ List.replicate (4 - (lg_sl ([.ref m0, .int (nI j), .int p1, .int p2])).length) Slot.unset).toArray = ls at hl ⊢
  have hl : lv_has ls 4 [(0, .ref m0), (1, .int (nI j)), (2, .int p1), (3, .int p2)] := hl
  refine lv_aload_n hx hb d_M_weightOf_0 rfl (lv_at hl 0 rfl) ?_
  refine lv_aload_n hx hb d_M_weightOf_1 rfl (lv_at hl 0 rfl) ?_
  refine lv_iload_n hx hb d_M_weightOf_2 rfl (lv_at hl 1 rfl) ?_
  have hPc := hP.sub (ws' := [(m0, .inr (2, [.int th, .ref a1, .ref a2, .ref a3, .ref a4, .ref a5, .int lf, .int tp, .int wd, .int hg, .int ws, .int lk, .int cm, .int mx, .int my])), (a1, .inl (g1, 3, .inl X)), (a2, .inl (g2, 3, .inl Y))]) [0, 1, 2] rfl
  have hKc := hK.sub (tys' := [(g1, .int), (g2, .int)]) [0, 1] rfl
  refine vp_callSi (va_runV (As := [.int (nI j)]) (rest := [.ref m0]) ⟨hx, hb, hml, hown, hts⟩ (c_M_from l dC dI m0 a1 a2 a3 a4 a5 g1 g2 X Y th lf tp wd hg ws lk cm mx my j (by first | assumption | omega | decide | exact er_fr_lt _ _ _ | exact er_to_lt _ _ _)) (cwV 1 hts (er_gV k_396 k_397 k_15 k_20 k_398) rfl rfl rfl (by decide +kernel) ⟨Nat.le_of_ble_eq_true rfl, Nat.le_of_ble_eq_true rfl⟩) ⟨PP.blind, va_recv hKc hPc (ci := 2) (q0 := 0) rfl rfl, PP.at hN hKc hPc⟩ rfl rfl hl.1 rfl (lv_room (Nat.le_of_ble_eq_true rfl)) d_M_weightOf_3 ⟨Nat.zero_le _, Nat.zero_le _⟩).run (fun r_1 hr_1 => ?_)
  obtain rfl : nI (er_fr X Y j) = r_1 := Eq.symm hr_1
  refine lv_aload_n hx hb d_M_weightOf_6 rfl (lv_at hl 0 rfl) ?_
  refine lv_iload_n hx hb d_M_weightOf_7 rfl (lv_at hl 1 rfl) ?_
  have hPc := hP.sub (ws' := [(m0, .inr (2, [.int th, .ref a1, .ref a2, .ref a3, .ref a4, .ref a5, .int lf, .int tp, .int wd, .int hg, .int ws, .int lk, .int cm, .int mx, .int my])), (a1, .inl (g1, 3, .inl X)), (a2, .inl (g2, 3, .inl Y))]) [0, 1, 2] rfl
  have hKc := hK.sub (tys' := [(g1, .int), (g2, .int)]) [0, 1] rfl
  refine vp_callSi (va_runV (As := [.int (nI j)]) (rest := [.int (nI (er_fr X Y j)), .ref m0]) ⟨hx, hb, hml, hown, hts⟩ (c_M_to l dC dI m0 a1 a2 a3 a4 a5 g1 g2 X Y th lf tp wd hg ws lk cm mx my j (by first | assumption | omega | decide | exact er_fr_lt _ _ _ | exact er_to_lt _ _ _)) (cwV 1 hts (er_gV k_399 k_400 k_16 k_20 k_401) rfl rfl rfl (by decide +kernel) ⟨Nat.le_of_ble_eq_true rfl, Nat.le_of_ble_eq_true rfl⟩) ⟨PP.blind, va_recv hKc hPc (ci := 2) (q0 := 0) rfl rfl, PP.at hN hKc hPc⟩ rfl rfl hl.1 rfl (lv_room (Nat.le_of_ble_eq_true rfl)) d_M_weightOf_8 ⟨Nat.zero_le _, Nat.zero_le _⟩).run (fun r_2 hr_2 => ?_)
  obtain rfl : nI (er_to X Y j) = r_2 := Eq.symm hr_2
  refine lv_bipush (v := 16) hx hb d_M_weightOf_11 (by decide) ?_
  refine lv_iload_n hx hb d_M_weightOf_13 rfl (lv_at hl 2 rfl) ?_
  refine lv_imul hx hb d_M_weightOf_14 ?_
  refine lv_bipush (v := 8) hx hb d_M_weightOf_15 (by decide) ?_
  refine lv_iadd hx hb d_M_weightOf_17 ?_
  refine lv_bipush (v := 16) hx hb d_M_weightOf_18 (by decide) ?_
  refine lv_iload_n hx hb d_M_weightOf_20 rfl (lv_at hl 3 rfl) ?_
  refine lv_imul hx hb d_M_weightOf_21 ?_
  refine lv_bipush (v := 8) hx hb d_M_weightOf_22 (by decide) ?_
  refine lv_iadd hx hb d_M_weightOf_24 ?_
  have hPc := hP.sub (ws' := [(m0, .inr (2, [.int th, .ref a1, .ref a2, .ref a3, .ref a4, .ref a5, .int lf, .int tp, .int wd, .int hg, .int ws, .int lk, .int cm, .int mx, .int my])), (a1, .inl (g1, 3, .inl X)), (a2, .inl (g2, 3, .inl Y))]) [0, 1, 2] rfl
  have hKc := hK.sub (tys' := [(g1, .int), (g2, .int)]) [0, 1] rfl
  refine vp_callSl (va_runV (As := [.int (nI (er_fr X Y j)), .int (nI (er_to X Y j)), .int ((16 * p1) + 8), .int ((16 * p2) + 8)]) (rest := []) ⟨hx, hb, hml, hown, hts⟩ (c_M_room l dC dI m0 a1 a2 a3 a4 a5 g1 g2 X Y th lf tp wd hg ws lk cm mx my (er_fr X Y j) (er_to X Y j) ((16 * p1) + 8) ((16 * p2) + 8) (by first | assumption | omega | decide | exact er_fr_lt _ _ _ | exact er_to_lt _ _ _) (by first | assumption | omega | decide | exact er_fr_lt _ _ _ | exact er_to_lt _ _ _)) (cwV 4 hts (er_gV k_383 k_384 k_12 k_20 k_385) rfl rfl rfl (by decide +kernel) ⟨Nat.le_of_ble_eq_true rfl, Nat.le_of_ble_eq_true rfl⟩) ⟨PP.blind, va_recv hKc hPc (ci := 2) (q0 := 0) rfl rfl, PP.at hN hKc hPc⟩ rfl rfl hl.1 rfl (lv_room (Nat.le_of_ble_eq_true rfl)) d_M_weightOf_25 ⟨Nat.zero_le _, Nat.zero_le _⟩).run (fun r_3 hr_3 => ?_)
  obtain rfl : er_room X Y (er_fr X Y j) (er_to X Y j) ((16 * p1) + 8) ((16 * p2) + 8) = r_3 := Eq.symm hr_3
  exact W.lret (v := er_room X Y (er_fr X Y j) (er_to X Y j) ((16 * p1) + 8) ((16 * p2) + 8)) hx hb hr (fun u9 ht hW => ⟨_, rfl, rfl, ht⟩) (fun q hq => by cases hq) d_M_weightOf_28

set_option maxHeartbeats 1000000 in
set_option maxRecDepth 100000 in
theorem c_M_down (l : Launch) (dC : Nat → ClassId) (dI : Nat → Nat → Nat) (p0 p1 : Int64) (hne : ¬ p1 = 0) : Met l y_M_down w_M_down ({ frames := 0, cells := 0, slots := 0, locals := 0 }) (va_Pc [.long p0, .long p1] (PP dC dI [] [])) (vp_Sl (fun r : Int64 => r = er_down p0 p1)) 0 0 (fun _ => False) := by
  refine Met.ofW (cc := b_M_down) (maxL := 4) (ret := (some .long)) (by decide +kernel) rfl ?_
  intro p e s m args below meth c s₁ B hml hv
  obtain ⟨rfl, hN, hK, hP⟩ := hv
  have hx := B.exec
  have hb := B.bytes
  have hr := B.returns
  have hts := er_hts (atoms_spec (ws := w_M_down) B.pre)
  have hown : s.vm.findClass R_M = some m.cls := findClass_of_methodNamed B.named
  have hlocks := B.notSynchronized
  have hP : va_P (dC, dI) classes [] s.heap := hP
  have hl := lv_entry ([.long p0, .long p1]) (n := 4) (Nat.le_of_ble_eq_true rfl)
  rw [lg_entry_eq]
  generalize (lg_sl ([.long p0, .long p1]) ++ List.replicate (4 - (lg_sl ([.long p0, .long p1])).length) Slot.unset).toArray = ls at hl ⊢
  have hl : lv_has ls 4 [(0, .long p0), (2, .long p1)] := hl
  refine lv_lload_n hx hb d_M_down_0 rfl (lv_at hl 0 rfl) ?_
  refine lv_lload_n hx hb d_M_down_1 rfl (lv_at hl 1 rfl) ?_
  refine lv_ldiv hx hb d_M_down_2 hne ?_
  refine lv_lload_n hx hb d_M_down_3 rfl (lv_at hl 0 rfl) ?_
  refine lv_lload_n hx hb d_M_down_4 rfl (lv_at hl 1 rfl) ?_
  refine lv_lrem hx hb d_M_down_5 hne ?_
  refine lv_lconst (v := 0) hx hb d_M_down_6 (by decide) ?_
  refine W.lcmp hx hb d_M_down_7 ?_
  refine lv_if_eq (tgt := 21) hx hb d_M_down_8 (by decide) (fun c_1 => ?_) (fun c_1 => ?_)
  · rw [lg_cmp_eq] at c_1
    refine lv_lconst (v := 0) hx hb d_M_down_21 (by decide) ?_
    refine lv_lsub hx hb d_M_down_22 ?_
    exact W.lret (v := (p0 / p1) - 0) hx hb hr (fun u9 ht hW => ⟨_, rfl, (er_dw0 c_1), ht⟩) (fun q hq => by cases hq) d_M_down_23
  · rw [lg_cmp_eq] at c_1
    refine lv_lload_n hx hb d_M_down_11 rfl (lv_at hl 0 rfl) ?_
    refine lv_lconst (v := 0) hx hb d_M_down_12 (by decide) ?_
    refine W.lcmp hx hb d_M_down_13 ?_
    refine lv_if_ge (tgt := 21) hx hb d_M_down_14 (by decide) (fun c_2 => ?_) (fun c_2 => ?_)
    · rw [lg_cmp_ge] at c_2
      refine lv_lconst (v := 0) hx hb d_M_down_21 (by decide) ?_
      refine lv_lsub hx hb d_M_down_22 ?_
      exact W.lret (v := (p0 / p1) - 0) hx hb hr (fun u9 ht hW => ⟨_, rfl, (er_dw1 c_2), ht⟩) (fun q hq => by cases hq) d_M_down_23
    · rw [lg_cmp_ge] at c_2
      refine lv_lconst (v := 1) hx hb d_M_down_17 (by decide) ?_
      refine lv_goto (tgt := 22) hx hb d_M_down_18 (by decide) ?_
      refine lv_lsub hx hb d_M_down_22 ?_
      exact W.lret (v := (p0 / p1) - 1) hx hb hr (fun u9 ht hW => ⟨_, rfl, (er_dw2 c_1 c_2), ht⟩) (fun q hq => by cases hq) d_M_down_23

set_option maxHeartbeats 1000000 in
set_option maxRecDepth 100000 in
theorem c_M_thrown (l : Launch) (dC : Nat → ClassId) (dI : Nat → Nat → Nat) (m0 a1 a2 a3 a4 a5 : Nat) (th lf tp wd hg ws lk cm mx my : Int32) : Met l y_M_thrown w_M_thrown ({ frames := 0, cells := 0, slots := 0, locals := 0 }) (va_Pc [.ref m0] (PP dC dI [] [(m0, .inr (2, [.int th, .ref a1, .ref a2, .ref a3, .ref a4, .ref a5, .int lf, .int tp, .int wd, .int hg, .int ws, .int lk, .int cm, .int mx, .int my]))])) (vp_Si (fun r : Int32 => r = th)) 0 0 (fun _ => False) := by
  refine Met.ofW (cc := b_M_thrown) (maxL := 1) (ret := (some .int)) (by decide +kernel) rfl ?_
  intro p e s m args below meth c s₁ B hml hv
  obtain ⟨rfl, hN, hK, hP⟩ := hv
  have hx := B.exec
  have hb := B.bytes
  have hr := B.returns
  have hts := er_hts (atoms_spec (ws := w_M_thrown) B.pre)
  have hown : s.vm.findClass R_M = some m.cls := findClass_of_methodNamed B.named
  have hlocks := B.notSynchronized
  have hP : va_P (dC, dI) classes [(m0, .inr (2, [.int th, .ref a1, .ref a2, .ref a3, .ref a4, .ref a5, .int lf, .int tp, .int wd, .int hg, .int ws, .int lk, .int cm, .int mx, .int my]))] s.heap := hP
  have hl := lv_entry ([.ref m0]) (n := 1) (Nat.le_of_ble_eq_true rfl)
  rw [lg_entry_eq]
  generalize (lg_sl ([.ref m0]) ++ List.replicate (1 - (lg_sl ([.ref m0])).length) Slot.unset).toArray = ls at hl ⊢
  have hl : lv_has ls 1 [(0, .ref m0)] := hl
  refine lv_aload_n hx hb d_M_thrown_0 rfl (lv_at hl 0 rfl) ?_
  refine va_get (D := (dC, dI)) (ci := 2) (v := .int th) (C := R_M) (T := F_M) (N := 15) hx hb hts i_M hown hK hP 0 rfl rfl 0 (by decide) (hts _ k_306) (fun _ h9 => h9) rfl d_M_thrown_1 ?_
  exact W.iret (v := th) hx hb hr (fun u9 ht hW => ⟨_, rfl, rfl, ht⟩) (fun q hq => by cases hq) d_M_thrown_4
