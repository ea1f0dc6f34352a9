set_option maxHeartbeats 1000000 in
set_option maxRecDepth 100000 in
theorem c_E_within (l : Launch) (dC : Nat → ClassId) (dI : Nat → Nat → Nat) (p0 p1 p2 : Int32) : Met l y_E_within w_E_within ({ frames := 0, cells := 0, slots := 0, locals := 0 }) (va_Pc [.int p0, .int p1, .int p2] (PP dC dI [] [])) (vp_Si (fun r : Int32 => r = er_b (er_win p0 p1 p2))) 0 0 (fun _ => False) := by
  refine Met.ofW (cc := b_E_within) (maxL := 3) (ret := (some .boolean)) (by decide +kernel) rfl ?_
  intro p e s m args below meth c s₁ B hml hv
  obtain ⟨rfl, hN, hK, hP⟩ := hv
  have hx := B.exec
  have hb := B.bytes
  have hr := B.returns
  have hts := er_hts (atoms_spec (ws := w_E_within) B.pre)
  have hown : s.vm.findClass R_E = some m.cls := findClass_of_methodNamed B.named
  have hlocks := B.notSynchronized
  have hP : va_P (dC, dI) classes [] s.heap := hP
  have hl := lv_entry ([.int p0, .int p1, .int p2]) (n := 3) (Nat.le_of_ble_eq_true rfl)
  rw [lg_entry_eq]
  generalize (lg_sl ([.int p0, .int p1, .int p2]) ++ List.replicate (3 - (lg_sl ([.int p0, .int p1, .int p2])).length) Slot.unset).toArray = ls at hl ⊢
  have hl : lv_has ls 3 [(0, .int p0), (1, .int p1), (2, .int p2)] := hl
  refine lv_iload_n hx hb d_E_within_0 rfl (lv_at hl 0 rfl) ?_
  refine lv_iload_n hx hb d_E_within_1 rfl (lv_at hl 1 rfl) ?_
  refine lv_icmp_lt (tgt := 14) hx hb d_E_within_2 (by decide) (fun c_1 => ?_) (fun c_1 => ?_)
  · refine lv_iconst (v := 0) hx hb d_E_within_14 (by decide) ?_
    exact W.zret (v := 0) (ty := .boolean) hx hb hr (by decide) (fun u9 ht hW => ⟨_, rfl, (by simp_all [er_win, er_b]), ht⟩) (fun q hq => by cases hq) d_E_within_15
  · refine lv_iload_n hx hb d_E_within_5 rfl (lv_at hl 0 rfl) ?_
    refine lv_iload_n hx hb d_E_within_6 rfl (lv_at hl 2 rfl) ?_
    refine lv_icmp_gt (tgt := 14) hx hb d_E_within_7 (by decide) (fun c_2 => ?_) (fun c_2 => ?_)
    · refine lv_iconst (v := 0) hx hb d_E_within_14 (by decide) ?_
      exact W.zret (v := 0) (ty := .boolean) hx hb hr (by decide) (fun u9 ht hW => ⟨_, rfl, (by simp_all [er_win, er_b]), ht⟩) (fun q hq => by cases hq) d_E_within_15
    · refine lv_iconst (v := 1) hx hb d_E_within_10 (by decide) ?_
      refine lv_goto (tgt := 15) hx hb d_E_within_11 (by decide) ?_
      exact W.zret (v := 1) (ty := .boolean) hx hb hr (by decide) (fun u9 ht hW => ⟨_, rfl, (by simp_all [er_win, er_b]), ht⟩) (fun q hq => by cases hq) d_E_within_15

set_option maxHeartbeats 1000000 in
set_option maxRecDepth 100000 in
theorem c_E_isCorner (l : Launch) (dC : Nat → ClassId) (dI : Nat → Nat → Nat) (p0 : Int32) : Met l y_E_isCorner w_E_isCorner ({ frames := 1, cells := 0, slots := 0, locals := 22 }) (va_Pc [.int p0] (PP dC dI [] [])) (vp_Si (fun r : Int32 => r = er_b (er_win p0 0 2))) 0 0 (fun _ => False) := by
  refine Met.ofW (cc := b_E_isCorner) (maxL := 1) (ret := (some .boolean)) (by decide +kernel) rfl ?_
  intro p e s m args below meth c s₁ B hml hv
  obtain ⟨rfl, hN, hK, hP⟩ := hv
  have hx := B.exec
  have hb := B.bytes
  have hr := B.returns
  have hts := er_hts (atoms_spec (ws := w_E_isCorner) B.pre)
  have hown : s.vm.findClass R_E = some m.cls := findClass_of_methodNamed B.named
  have hlocks := B.notSynchronized
  have hP : va_P (dC, dI) classes [] s.heap := hP
  have hl := lv_entry ([.int p0]) (n := 1) (Nat.le_of_ble_eq_true rfl)
  rw [lg_entry_eq]
  generalize (lg_sl ([.int p0]) ++ List.replicate (1 - (lg_sl ([.int p0])).length) Slot.unset).toArray = ls at hl ⊢
  have hl : lv_has ls 1 [(0, .int p0)] := hl
  refine lv_iload_n hx hb d_E_isCorner_0 rfl (lv_at hl 0 rfl) ?_
  refine lv_iconst (v := 0) hx hb d_E_isCorner_1 (by decide) ?_
  refine lv_iconst (v := 2) hx hb d_E_isCorner_2 (by decide) ?_
  have hPc := hP.sub (ws' := []) [] rfl
  have hKc := hK.sub (tys' := []) [] rfl
  refine vp_callSi (va_runS (As := [.int p0, .int 0, .int 2]) (rest := []) ⟨hx, hb, hml, hown, hts⟩ (c_E_within l dC dI p0 0 2) (va_cwS 3 hts (er_gS k_140 k_141 k_18 k_142) rfl rfl rfl (by decide +kernel) ⟨Nat.le_of_ble_eq_true rfl, Nat.le_of_ble_eq_true rfl⟩) ⟨PP.blind, PP.at hN hKc hPc⟩ rfl rfl hl.1 rfl (lv_room (Nat.le_of_ble_eq_true rfl)) d_E_isCorner_3 ⟨Nat.zero_le _, Nat.zero_le _⟩).run (fun r_1 hr_1 => ?_)
  obtain rfl : er_b (er_win p0 0 2) = r_1 := Eq.symm hr_1
  exact W.zret (v := er_b (er_win p0 0 2)) (ty := .boolean) hx hb hr (er_b_nar _) (fun u9 ht hW => ⟨_, rfl, rfl, ht⟩) (fun q hq => by cases hq) d_E_isCorner_6

set_option maxHeartbeats 1000000 in
set_option maxRecDepth 100000 in
theorem c_E_isValue (l : Launch) (dC : Nat → ClassId) (dI : Nat → Nat → Nat) (p0 : Int32) : Met l y_E_isValue w_E_isValue ({ frames := 1, cells := 0, slots := 0, locals := 22 }) (va_Pc [.int p0] (PP dC dI [] [])) (vp_Si (fun r : Int32 => r = er_b (er_win p0 0 27))) 0 0 (fun _ => False) := by
  refine Met.ofW (cc := b_E_isValue) (maxL := 1) (ret := (some .boolean)) (by decide +kernel) rfl ?_
  intro p e s m args below meth c s₁ B hml hv
  obtain ⟨rfl, hN, hK, hP⟩ := hv
  have hx := B.exec
  have hb := B.bytes
  have hr := B.returns
  have hts := er_hts (atoms_spec (ws := w_E_isValue) B.pre)
  have hown : s.vm.findClass R_E = some m.cls := findClass_of_methodNamed B.named
  have hlocks := B.notSynchronized
  have hP : va_P (dC, dI) classes [] s.heap := hP
  have hl := lv_entry ([.int p0]) (n := 1) (Nat.le_of_ble_eq_true rfl)
  rw [lg_entry_eq]
  generalize (lg_sl ([.int p0]) ++ List.replicate (1 - (lg_sl ([.int p0])).length) Slot.unset).toArray = ls at hl ⊢
  have hl : lv_has ls 1 [(0, .int p0)] := hl
  refine lv_iload_n hx hb d_E_isValue_0 rfl (lv_at hl 0 rfl) ?_
  refine lv_iconst (v := 0) hx hb d_E_isValue_1 (by decide) ?_
  refine lv_bipush (v := 27) hx hb d_E_isValue_2 (by decide) ?_
  have hPc := hP.sub (ws' := []) [] rfl
  have hKc := hK.sub (tys' := []) [] rfl
  refine vp_callSi (va_runS (As := [.int p0, .int 0, .int 27]) (rest := []) ⟨hx, hb, hml, hown, hts⟩ (c_E_within l dC dI p0 0 27) (va_cwS 3 hts (er_gS k_140 k_141 k_18 k_142) rfl rfl rfl (by decide +kernel) ⟨Nat.le_of_ble_eq_true rfl, Nat.le_of_ble_eq_true rfl⟩) ⟨PP.blind, PP.at hN hKc hPc⟩ rfl rfl hl.1 rfl (lv_room (Nat.le_of_ble_eq_true rfl)) d_E_isValue_4 ⟨Nat.zero_le _, Nat.zero_le _⟩).run (fun r_1 hr_1 => ?_)
  obtain rfl : er_b (er_win p0 0 27) = r_1 := Eq.symm hr_1
  exact W.zret (v := er_b (er_win p0 0 27)) (ty := .boolean) hx hb hr (er_b_nar _) (fun u9 ht hW => ⟨_, rfl, rfl, ht⟩) (fun q hq => by cases hq) d_E_isValue_7

set_option maxHeartbeats 1000000 in
set_option maxRecDepth 100000 in
theorem c_E_area (l : Launch) (dC : Nat → ClassId) (dI : Nat → Nat → Nat) (h0 h1 h2 h3 : Nat) (ar : Int64) (wx wy ww wh wk on lx ly : Int32) : Met l y_E_area w_E_area ({ frames := 0, cells := 0, slots := 0, locals := 0 }) (va_Pc [.ref h0] (PP dC dI [] [(h0, .inr (1, [.ref h1, .ref h2, .ref h3, .long ar, .int wx, .int wy, .int ww, .int wh, .int wk, .int on, .int lx, .int ly]))])) (vp_Sl (fun r : Int64 => r = ar)) 0 0 (fun _ => False) := by
  refine Met.ofW (cc := b_E_area) (maxL := 1) (ret := (some .long)) (by decide +kernel) rfl ?_
  intro p e s m args below meth c s₁ B hml hv
  obtain ⟨rfl, hN, hK, hP⟩ := hv
  have hx := B.exec
  have hb := B.bytes
  have hr := B.returns
  have hts := er_hts (atoms_spec (ws := w_E_area) B.pre)
  have hown : s.vm.findClass R_E = some m.cls := findClass_of_methodNamed B.named
  have hlocks := B.notSynchronized
  have hP : va_P (dC, dI) classes [(h0, .inr (1, [.ref h1, .ref h2, .ref h3, .long ar, .int wx, .int wy, .int ww, .int wh, .int wk, .int on, .int lx, .int ly]))] s.heap := hP
  have hl := lv_entry ([.ref h0]) (n := 1) (Nat.le_of_ble_eq_true rfl)
  rw [lg_entry_eq]
  generalize (lg_sl ([.ref h0]) ++ List.replicate (1 - (lg_sl ([.ref h0])).length) Slot.unset).toArray = ls at hl ⊢
  have hl : lv_has ls 1 [(0, .ref h0)] := hl
  refine lv_aload_n hx hb d_E_area_0 rfl (lv_at hl 0 rfl) ?_
  refine va_get (D := (dC, dI)) (ci := 1) (v := .long ar) (C := R_E) (T := F_E) (N := 12) hx hb hts i_E hown hK hP 0 rfl rfl 3 (by decide) (hts _ k_75) (fun _ h9 => h9) rfl d_E_area_1 ?_
  exact W.lret (v := ar) hx hb hr (fun u9 ht hW => ⟨_, rfl, rfl, ht⟩) (fun q hq => by cases hq) d_E_area_4

set_option maxHeartbeats 1000000 in
set_option maxRecDepth 100000 in
theorem c_E_cornerOf0 (l : Launch) (dC : Nat → ClassId) (dI : Nat → Nat → Nat) (h0 h1 h2 h3 : Nat) (ar : Int64) (wx wy ww wh wk on lx ly : Int32) : Met l y_E_cornerOf w_E_cornerOf ({ frames := 0, cells := 0, slots := 0, locals := 0 }) (va_Pc [.ref h0, .int 0] (PP dC dI [] [(h0, .inr (1, [.ref h1, .ref h2, .ref h3, .long ar, .int wx, .int wy, .int ww, .int wh, .int wk, .int on, .int lx, .int ly]))])) (va_Sr (fun r : Nat => r = h1) (fun r => .ref r)) 0 0 (fun _ => False) := by
  refine Met.ofW (cc := b_E_cornerOf) (maxL := 2) (ret := (some (.object "EdgeRaster$Corner"))) (by decide +kernel) rfl ?_
  intro p e s m args below meth c s₁ B hml hv
  obtain ⟨rfl, hN, hK, hP⟩ := hv
  have hx := B.exec
  have hb := B.bytes
  have hr := B.returns
  have hts := er_hts (atoms_spec (ws := w_E_cornerOf) B.pre)
  have hown : s.vm.findClass R_E = some m.cls := findClass_of_methodNamed B.named
  have hlocks := B.notSynchronized
  have hP : va_P (dC, dI) classes [(h0, .inr (1, [.ref h1, .ref h2, .ref h3, .long ar, .int wx, .int wy, .int ww, .int wh, .int wk, .int on, .int lx, .int ly]))] s.heap := hP
  have hl := lv_entry ([.ref h0, .int 0]) (n := 2) (Nat.le_of_ble_eq_true rfl)
  rw [lg_entry_eq]
  generalize (lg_sl ([.ref h0, .int 0]) ++ List.replicate (2 - (lg_sl ([.ref h0, .int 0])).length) Slot.unset).toArray = ls at hl ⊢
  have hl : lv_has ls 2 [(0, .ref h0), (1, .int 0)] := hl
  refine lv_iload_n hx hb d_E_cornerOf_0 rfl (lv_at hl 1 rfl) ?_
  refine lv_if_ne (tgt := 9) hx hb d_E_cornerOf_1 (by decide) (fun c_1 => absurd c_1 (by decide)) (fun _ => ?_)
  refine lv_aload_n hx hb d_E_cornerOf_4 rfl (lv_at hl 0 rfl) ?_
  refine va_get (D := (dC, dI)) (ci := 1) (v := .ref h1) (C := R_E) (T := F_E) (N := 12) hx hb hts i_E hown hK hP 0 rfl rfl 0 (by decide) (hts _ k_72) (fun _ h9 => h9) rfl d_E_cornerOf_5 ?_
  exact W.aret (v := .ref h1) (rt := .object "EdgeRaster$Corner") hx hb hr (Or.inl ⟨_, rfl⟩) (Or.inr ⟨_, rfl⟩) (fun u9 ht hW => ⟨h1, rfl, rfl, ht⟩) (fun q hq => by cases hq) d_E_cornerOf_8

set_option maxHeartbeats 1000000 in
set_option maxRecDepth 100000 in
theorem c_E_cornerOf1 (l : Launch) (dC : Nat → ClassId) (dI : Nat → Nat → Nat) (h0 h1 h2 h3 : Nat) (ar : Int64) (wx wy ww wh wk on lx ly : Int32) : Met l y_E_cornerOf w_E_cornerOf ({ frames := 0, cells := 0, slots := 0, locals := 0 }) (va_Pc [.ref h0, .int 1] (PP dC dI [] [(h0, .inr (1, [.ref h1, .ref h2, .ref h3, .long ar, .int wx, .int wy, .int ww, .int wh, .int wk, .int on, .int lx, .int ly]))])) (va_Sr (fun r : Nat => r = h2) (fun r => .ref r)) 0 0 (fun _ => False) := by
  refine Met.ofW (cc := b_E_cornerOf) (maxL := 2) (ret := (some (.object "EdgeRaster$Corner"))) (by decide +kernel) rfl ?_
  intro p e s m args below meth c s₁ B hml hv
  obtain ⟨rfl, hN, hK, hP⟩ := hv
  have hx := B.exec
  have hb := B.bytes
  have hr := B.returns
  have hts := er_hts (atoms_spec (ws := w_E_cornerOf) B.pre)
  have hown : s.vm.findClass R_E = some m.cls := findClass_of_methodNamed B.named
  have hlocks := B.notSynchronized
  have hP : va_P (dC, dI) classes [(h0, .inr (1, [.ref h1, .ref h2, .ref h3, .long ar, .int wx, .int wy, .int ww, .int wh, .int wk, .int on, .int lx, .int ly]))] s.heap := hP
  have hl := lv_entry ([.ref h0, .int 1]) (n := 2) (Nat.le_of_ble_eq_true rfl)
  rw [lg_entry_eq]
  generalize (lg_sl ([.ref h0, .int 1]) ++ List.replicate (2 - (lg_sl ([.ref h0, .int 1])).length) Slot.unset).toArray = ls at hl ⊢
  have hl : lv_has ls 2 [(0, .ref h0), (1, .int 1)] := hl
  refine lv_iload_n hx hb d_E_cornerOf_0 rfl (lv_at hl 1 rfl) ?_
  refine lv_if_ne (tgt := 9) hx hb d_E_cornerOf_1 (by decide) (fun _ => ?_) (fun c_1 => absurd c_1 (by decide))
  refine lv_iload_n hx hb d_E_cornerOf_9 rfl (lv_at hl 1 rfl) ?_
  refine lv_iconst (v := 1) hx hb d_E_cornerOf_10 (by decide) ?_
  refine lv_icmp_ne (tgt := 21) hx hb d_E_cornerOf_11 (by decide) (fun c_2 => absurd c_2 (by decide)) (fun _ => ?_)
  refine lv_aload_n hx hb d_E_cornerOf_14 rfl (lv_at hl 0 rfl) ?_
  refine va_get (D := (dC, dI)) (ci := 1) (v := .ref h2) (C := R_E) (T := F_E) (N := 12) hx hb hts i_E hown hK hP 0 rfl rfl 1 (by decide) (hts _ k_73) (fun _ h9 => h9) rfl d_E_cornerOf_15 ?_
  refine lv_goto (tgt := 25) hx hb d_E_cornerOf_18 (by decide) ?_
  exact W.aret (v := .ref h2) (rt := .object "EdgeRaster$Corner") hx hb hr (Or.inl ⟨_, rfl⟩) (Or.inr ⟨_, rfl⟩) (fun u9 ht hW => ⟨h2, rfl, rfl, ht⟩) (fun q hq => by cases hq) d_E_cornerOf_25

set_option maxHeartbeats 1000000 in
set_option maxRecDepth 100000 in
theorem c_E_cornerOf2 (l : Launch) (dC : Nat → ClassId) (dI : Nat → Nat → Nat) (h0 h1 h2 h3 : Nat) (ar : Int64) (wx wy ww wh wk on lx ly : Int32) : Met l y_E_cornerOf w_E_cornerOf ({ frames := 0, cells := 0, slots := 0, locals := 0 }) (va_Pc [.ref h0, .int 2] (PP dC dI [] [(h0, .inr (1, [.ref h1, .ref h2, .ref h3, .long ar, .int wx, .int wy, .int ww, .int wh, .int wk, .int on, .int lx, .int ly]))])) (va_Sr (fun r : Nat => r = h3) (fun r => .ref r)) 0 0 (fun _ => False) := by
  refine Met.ofW (cc := b_E_cornerOf) (maxL := 2) (ret := (some (.object "EdgeRaster$Corner"))) (by decide +kernel) rfl ?_
  intro p e s m args below meth c s₁ B hml hv
  obtain ⟨rfl, hN, hK, hP⟩ := hv
  have hx := B.exec
  have hb := B.bytes
  have hr := B.returns
  have hts := er_hts (atoms_spec (ws := w_E_cornerOf) B.pre)
  have hown : s.vm.findClass R_E = some m.cls := findClass_of_methodNamed B.named
  have hlocks := B.notSynchronized
  have hP : va_P (dC, dI) classes [(h0, .inr (1, [.ref h1, .ref h2, .ref h3, .long ar, .int wx, .int wy, .int ww, .int wh, .int wk, .int on, .int lx, .int ly]))] s.heap := hP
  have hl := lv_entry ([.ref h0, .int 2]) (n := 2) (Nat.le_of_ble_eq_true rfl)
  rw [lg_entry_eq]
  generalize (lg_sl ([.ref h0, .int 2]) ++ List.replicate (2 - (lg_sl ([.ref h0, .int 2])).length) Slot.unset).toArray = ls at hl ⊢
  have hl : lv_has ls 2 [(0, .ref h0), (1, .int 2)] := hl
  refine lv_iload_n hx hb d_E_cornerOf_0 rfl (lv_at hl 1 rfl) ?_
  refine lv_if_ne (tgt := 9) hx hb d_E_cornerOf_1 (by decide) (fun _ => ?_) (fun c_1 => absurd c_1 (by decide))
  refine lv_iload_n hx hb d_E_cornerOf_9 rfl (lv_at hl 1 rfl) ?_
  refine lv_iconst (v := 1) hx hb d_E_cornerOf_10 (by decide) ?_
  refine lv_icmp_ne (tgt := 21) hx hb d_E_cornerOf_11 (by decide) (fun _ => ?_) (fun c_2 => absurd c_2 (by decide))
  refine lv_aload_n hx hb d_E_cornerOf_21 rfl (lv_at hl 0 rfl) ?_
  refine va_get (D := (dC, dI)) (ci := 1) (v := .ref h3) (C := R_E) (T := F_E) (N := 12) hx hb hts i_E hown hK hP 0 rfl rfl 2 (by decide) (hts _ k_74) (fun _ h9 => h9) rfl d_E_cornerOf_22 ?_
  exact W.aret (v := .ref h3) (rt := .object "EdgeRaster$Corner") hx hb hr (Or.inl ⟨_, rfl⟩) (Or.inr ⟨_, rfl⟩) (fun u9 ht hW => ⟨h3, rfl, rfl, ht⟩) (fun q hq => by cases hq) d_E_cornerOf_25

set_option maxHeartbeats 1000000 in
set_option maxRecDepth 100000 in
theorem c_E_isCovered (l : Launch) (dC : Nat → ClassId) (dI : Nat → Nat → Nat) (h0 h1 h2 h3 v0 v1 v2 : Nat) (X Y D Q : Nat → Int32) (wx wy ww wh wk on lx ly : Int32) (p0 p1 : Int32) : Met l y_E_isCovered w_E_isCovered ({ frames := 2, cells := 0, slots := 0, locals := 46 }) (va_Pc [.ref h0, .int p0, .int p1] (PP dC dI [] [(h0, .inr (1, [.ref h1, .ref h2, .ref h3, .long (er_ar X Y), .int wx, .int wy, .int ww, .int wh, .int wk, .int on, .int lx, .int ly])), (h1, .inr (0, [.int (X 0), .int (Y 0), .int (D 0), .int (Q 0), .ref v0, .int (er_ex X Y 0), .int (er_ey X Y 0), .int (er_ea X Y 0), .int (er_ed X Y 0), .int (er_lw (er_ea X Y 0) (er_ed X Y 0))])), (h2, .inr (0, [.int (X 1), .int (Y 1), .int (D 1), .int (Q 1), .ref v1, .int (er_ex X Y 1), .int (er_ey X Y 1), .int (er_ea X Y 1), .int (er_ed X Y 1), .int (er_lw (er_ea X Y 1) (er_ed X Y 1))])), (h3, .inr (0, [.int (X 2), .int (Y 2), .int (D 2), .int (Q 2), .ref v2, .int (er_ex X Y 2), .int (er_ey X Y 2), .int (er_ea X Y 2), .int (er_ed X Y 2), .int (er_lw (er_ea X Y 2) (er_ed X Y 2))]))])) (vp_Si (fun r : Int32 => r = er_b (er_cov X Y p0 p1))) 0 0 (fun _ => False) := by
  refine Met.ofW (cc := b_E_isCovered) (maxL := 3) (ret := (some .boolean)) (by decide +kernel) rfl ?_
  intro p e s m args below meth c s₁ B hml hv
  obtain ⟨rfl, hN, hK, hP⟩ := hv
  have hx := B.exec
  have hb := B.bytes
  have hr := B.returns
  have hts := er_hts (atoms_spec (ws := w_E_isCovered) B.pre)
  have hown : s.vm.findClass R_E = some m.cls := findClass_of_methodNamed B.named
  have hlocks := B.notSynchronized
  have hP : va_P (dC, dI) classes [(h0, .inr (1, [.ref h1, .ref h2, .ref h3, .long (er_ar X Y), .int wx, .int wy, .int ww, .int wh, .int wk, .int on, .int lx, .int ly])), (h1, .inr (0, [.int (X 0), .int (Y 0), .int (D 0), .int (Q 0), .ref v0, .int (er_ex X Y 0), .int (er_ey X Y 0), .int (er_ea X Y 0), .int (er_ed X Y 0), .int (er_lw (er_ea X Y 0) (er_ed X Y 0))])), (h2, .inr (0, [.int (X 1), .int (Y 1), .int (D 1), .int (Q 1), .ref v1, .int (er_ex X Y 1), .int (er_ey X Y 1), .int (er_ea X Y 1), .int (er_ed X Y 1), .int (er_lw (er_ea X Y 1) (er_ed X Y 1))])), (h3, .inr (0, [.int (X 2), .int (Y 2), .int (D 2), .int (Q 2), .ref v2, .int (er_ex X Y 2), .int (er_ey X Y 2), .int (er_ea X Y 2), .int (er_ed X Y 2), .int (er_lw (er_ea X Y 2) (er_ed X Y 2))]))] s.heap := hP
  have hl := lv_entry ([.ref h0, .int p0, .int p1]) (n := 3) (Nat.le_of_ble_eq_true rfl)
  rw [lg_entry_eq]
  generalize (lg_sl ([.ref h0, .int p0, .int p1]) ++ List.replicate (3 - (lg_sl ([.ref h0, .int p0, .int p1])).length) Slot.unset).toArray = ls at hl ⊢
  have hl : lv_has ls 3 [(0, .ref h0), (1, .int p0), (2, .int p1)] := hl
  refine lv_aload_n hx hb d_E_isCovered_0 rfl (lv_at hl 0 rfl) ?_
  refine va_get (D := (dC, dI)) (ci := 1) (v := .long (er_ar X Y)) (C := R_E) (T := F_E) (N := 12) hx hb hts i_E hown hK hP 0 rfl rfl 3 (by decide) (hts _ k_75) (fun _ h9 => h9) rfl d_E_isCovered_1 ?_
  refine lv_lconst (v := 0) hx hb d_E_isCovered_4 (by decide) ?_
  refine W.lcmp hx hb d_E_isCovered_5 ?_
  refine lv_if_eq (tgt := 49) hx hb d_E_isCovered_6 (by decide) (fun c_1 => ?_) (fun c_1 => ?_)
  · rw [lg_cmp_eq] at c_1
    refine lv_iconst (v := 0) hx hb d_E_isCovered_49 (by decide) ?_
    exact W.zret (v := 0) (ty := .boolean) hx hb hr (by decide) (fun u9 ht hW => ⟨_, rfl, (er_c0 c_1), ht⟩) (fun q hq => by cases hq) d_E_isCovered_50
  · rw [lg_cmp_eq] at c_1
    refine lv_aload_n hx hb d_E_isCovered_9 rfl (lv_at hl 0 rfl) ?_
    refine va_get (D := (dC, dI)) (ci := 1) (v := .ref h1) (C := R_E) (T := F_E) (N := 12) hx hb hts i_E hown hK hP 0 rfl rfl 0 (by decide) (hts _ k_72) (fun _ h9 => h9) rfl d_E_isCovered_10 ?_
    refine lv_iload_n hx hb d_E_isCovered_13 rfl (lv_at hl 1 rfl) ?_
    refine lv_iload_n hx hb d_E_isCovered_14 rfl (lv_at hl 2 rfl) ?_
    have hPc := hP.sub (ws' := [(h1, .inr (0, [.int (X 0), .int (Y 0), .int (D 0), .int (Q 0), .ref v0, .int (er_ex X Y 0), .int (er_ey X Y 0), .int (er_ea X Y 0), .int (er_ed X Y 0), .int (er_lw (er_ea X Y 0) (er_ed X Y 0))]))]) [1] rfl
    have hKc := hK.sub (tys' := []) [] rfl
    refine vp_callSi (va_runVN (As := [.int p0, .int p1]) (rest := []) ⟨hx, hb, hml, hown, hts⟩ (c_C_admits l dC dI h1 v0 (X 0) (Y 0) (D 0) (Q 0) (er_ex X Y 0) (er_ey X Y 0) (er_ea X Y 0) (er_ed X Y 0) (er_lw (er_ea X Y 0) (er_ed X Y 0)) p0 p1) ⟨va_cnB 2 hts (er_gB k_121) rfl rfl rfl (hN _ kn_6) (hts _ k_19) (by decide +kernel) ⟨Nat.le_of_ble_eq_true rfl, Nat.le_of_ble_eq_true rfl⟩, hts _ k_120, hts _ k_1⟩ ⟨PP.blind, va_recv hKc hPc (ci := 0) (q0 := 0) rfl rfl, PP.at hN hKc hPc⟩ rfl rfl hl.1 rfl (lv_room (Nat.le_of_ble_eq_true rfl)) d_E_isCovered_15 ⟨Nat.zero_le _, Nat.zero_le _⟩).run (fun r_2 hr_2 => ?_)
    obtain rfl : er_b (decide ((er_lw (er_ea X Y 0) (er_ed X Y 0)).toInt64 ≤ er_wt (er_ex X Y 0) (er_ey X Y 0) (er_ea X Y 0) (er_ed X Y 0) p0 p1)) = r_2 := Eq.symm hr_2
    refine lv_if_eq (tgt := 49) hx hb d_E_isCovered_18 (by decide) (fun c_3 => ?_) (fun c_3 => ?_)
    · have c_3 := er_b_0.mp c_3
      refine lv_iconst (v := 0) hx hb d_E_isCovered_49 (by decide) ?_
      exact W.zret (v := 0) (ty := .boolean) hx hb hr (by decide) (fun u9 ht hW => ⟨_, rfl, (er_c1 c_3), ht⟩) (fun q hq => by cases hq) d_E_isCovered_50
    · have c_3 := er_b_n.mp c_3
      refine lv_aload_n hx hb d_E_isCovered_21 rfl (lv_at hl 0 rfl) ?_
      refine va_get (D := (dC, dI)) (ci := 1) (v := .ref h2) (C := R_E) (T := F_E) (N := 12) hx hb hts i_E hown hK hP 0 rfl rfl 1 (by decide) (hts _ k_73) (fun _ h9 => h9) rfl d_E_isCovered_22 ?_
      refine lv_iload_n hx hb d_E_isCovered_25 rfl (lv_at hl 1 rfl) ?_
      refine lv_iload_n hx hb d_E_isCovered_26 rfl (lv_at hl 2 rfl) ?_
      have hPc := hP.sub (ws' := [(h2, .inr (0, [.int (X 1), .int (Y 1), .int (D 1), .int (Q 1), .ref v1, .int (er_ex X Y 1), .int (er_ey X Y 1), .int (er_ea X Y 1), .int (er_ed X Y 1), .int (er_lw (er_ea X Y 1) (er_ed X Y 1))]))]) [2] rfl
      have hKc := hK.sub (tys' := []) [] rfl
      refine vp_callSi (va_runVN (As := [.int p0, .int p1]) (rest := []) ⟨hx, hb, hml, hown, hts⟩ (c_C_admits l dC dI h2 v1 (X 1) (Y 1) (D 1) (Q 1) (er_ex X Y 1) (er_ey X Y 1) (er_ea X Y 1) (er_ed X Y 1) (er_lw (er_ea X Y 1) (er_ed X Y 1)) p0 p1) ⟨va_cnB 2 hts (er_gB k_121) rfl rfl rfl (hN _ kn_6) (hts _ k_19) (by decide +kernel) ⟨Nat.le_of_ble_eq_true rfl, Nat.le_of_ble_eq_true rfl⟩, hts _ k_120, hts _ k_1⟩ ⟨PP.blind, va_recv hKc hPc (ci := 0) (q0 := 0) rfl rfl, PP.at hN hKc hPc⟩ rfl rfl hl.1 rfl (lv_room (Nat.le_of_ble_eq_true rfl)) d_E_isCovered_27 ⟨Nat.zero_le _, Nat.zero_le _⟩).run (fun r_4 hr_4 => ?_)
      obtain rfl : er_b (decide ((er_lw (er_ea X Y 1) (er_ed X Y 1)).toInt64 ≤ er_wt (er_ex X Y 1) (er_ey X Y 1) (er_ea X Y 1) (er_ed X Y 1) p0 p1)) = r_4 := Eq.symm hr_4
      refine lv_if_eq (tgt := 49) hx hb d_E_isCovered_30 (by decide) (fun c_5 => ?_) (fun c_5 => ?_)
      · have c_5 := er_b_0.mp c_5
        refine lv_iconst (v := 0) hx hb d_E_isCovered_49 (by decide) ?_
        exact W.zret (v := 0) (ty := .boolean) hx hb hr (by decide) (fun u9 ht hW => ⟨_, rfl, (er_c2 c_5), ht⟩) (fun q hq => by cases hq) d_E_isCovered_50
      · have c_5 := er_b_n.mp c_5
        refine lv_aload_n hx hb d_E_isCovered_33 rfl (lv_at hl 0 rfl) ?_
        refine va_get (D := (dC, dI)) (ci := 1) (v := .ref h3) (C := R_E) (T := F_E) (N := 12) hx hb hts i_E hown hK hP 0 rfl rfl 2 (by decide) (hts _ k_74) (fun _ h9 => h9) rfl d_E_isCovered_34 ?_
        refine lv_iload_n hx hb d_E_isCovered_37 rfl (lv_at hl 1 rfl) ?_
        refine lv_iload_n hx hb d_E_isCovered_38 rfl (lv_at hl 2 rfl) ?_
        have hPc := hP.sub (ws' := [(h3, .inr (0, [.int (X 2), .int (Y 2), .int (D 2), .int (Q 2), .ref v2, .int (er_ex X Y 2), .int (er_ey X Y 2), .int (er_ea X Y 2), .int (er_ed X Y 2), .int (er_lw (er_ea X Y 2) (er_ed X Y 2))]))]) [3] rfl
        have hKc := hK.sub (tys' := []) [] rfl
        refine vp_callSi (va_runVN (As := [.int p0, .int p1]) (rest := []) ⟨hx, hb, hml, hown, hts⟩ (c_C_admits l dC dI h3 v2 (X 2) (Y 2) (D 2) (Q 2) (er_ex X Y 2) (er_ey X Y 2) (er_ea X Y 2) (er_ed X Y 2) (er_lw (er_ea X Y 2) (er_ed X Y 2)) p0 p1) ⟨va_cnB 2 hts (er_gB k_121) rfl rfl rfl (hN _ kn_6) (hts _ k_19) (by decide +kernel) ⟨Nat.le_of_ble_eq_true rfl, Nat.le_of_ble_eq_true rfl⟩, hts _ k_120, hts _ k_1⟩ ⟨PP.blind, va_recv hKc hPc (ci := 0) (q0 := 0) rfl rfl, PP.at hN hKc hPc⟩ rfl rfl hl.1 rfl (lv_room (Nat.le_of_ble_eq_true rfl)) d_E_isCovered_39 ⟨Nat.zero_le _, Nat.zero_le _⟩).run (fun r_6 hr_6 => ?_)
        obtain rfl : er_b (decide ((er_lw (er_ea X Y 2) (er_ed X Y 2)).toInt64 ≤ er_wt (er_ex X Y 2) (er_ey X Y 2) (er_ea X Y 2) (er_ed X Y 2) p0 p1)) = r_6 := Eq.symm hr_6
        refine lv_if_eq (tgt := 49) hx hb d_E_isCovered_42 (by decide) (fun c_7 => ?_) (fun c_7 => ?_)
        · have c_7 := er_b_0.mp c_7
          refine lv_iconst (v := 0) hx hb d_E_isCovered_49 (by decide) ?_
          exact W.zret (v := 0) (ty := .boolean) hx hb hr (by decide) (fun u9 ht hW => ⟨_, rfl, (er_c3 c_7), ht⟩) (fun q hq => by cases hq) d_E_isCovered_50
        · have c_7 := er_b_n.mp c_7
          refine lv_iconst (v := 1) hx hb d_E_isCovered_45 (by decide) ?_
          refine lv_goto (tgt := 50) hx hb d_E_isCovered_46 (by decide) ?_
          exact W.zret (v := 1) (ty := .boolean) hx hb hr (by decide) (fun u9 ht hW => ⟨_, rfl, (er_c4 c_1 c_3 c_5 c_7), ht⟩) (fun q hq => by cases hq) d_E_isCovered_50
