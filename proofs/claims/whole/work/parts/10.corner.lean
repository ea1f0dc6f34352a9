set_option maxHeartbeats 1000000 in
set_option maxRecDepth 100000 in
theorem c_C_weightAt (l : Launch) (dC : Nat → ClassId) (dI : Nat → Nat → Nat) (h hv : Nat) (x y dp q ex ey ea ed lw : Int32) (p0 p1 : Int32) : Met l y_C_weightAt w_C_weightAt ({ frames := 0, cells := 0, slots := 0, locals := 0 }) (va_Pc [.ref h, .int p0, .int p1] (PP dC dI [] [(h, .inr (0, [.int x, .int y, .int dp, .int q, .ref hv, .int ex, .int ey, .int ea, .int ed, .int lw]))])) (vp_Sl (fun r : Int64 => r = er_wt ex ey ea ed p0 p1)) 0 0 (fun _ => False) := by
  refine Met.ofW (cc := b_C_weightAt) (maxL := 5) (ret := (some .long)) (by decide +kernel) rfl ?_
  intro p e s m args below meth c s₁ B hml hv
  obtain ⟨rfl, hN, hK, hP⟩ := hv
  have hx := B.exec
  have hb := B.bytes
  have hr := B.returns
  have hts := er_hts (atoms_spec (ws := w_C_weightAt) B.pre)
  have hown : s.vm.findClass R_C = some m.cls := findClass_of_methodNamed B.named
  have hlocks := B.notSynchronized
  have hP : va_P (dC, dI) classes [(h, .inr (0, [.int x, .int y, .int dp, .int q, .ref hv, .int ex, .int ey, .int ea, .int ed, .int lw]))] s.heap := hP
  have hl := lv_entry ([.ref h, .int p0, .int p1]) (n := 5) (Nat.le_of_ble_eq_true rfl)
  rw [lg_entry_eq]
  generalize (lg_sl ([.ref h, .int p0, .int p1]) ++ List.replicate (5 - (lg_sl ([.ref h, .int p0, .int p1])).length) Slot.unset).toArray = ls at hl ⊢
  have hl : lv_has ls 5 [(0, .ref h), (1, .int p0), (2, .int p1)] := hl
  refine lv_bipush (v := 16) hx hb d_C_weightAt_0 (by decide) ?_
  refine lv_iload_n hx hb d_C_weightAt_2 rfl (lv_at hl 1 rfl) ?_
  refine lv_imul hx hb d_C_weightAt_3 ?_
  refine lv_bipush (v := 8) hx hb d_C_weightAt_4 (by decide) ?_
  refine lv_iadd hx hb d_C_weightAt_6 ?_
  refine lv_istore_n (lv' := [(3, .int ((16 * p0) + 8)), (0, .ref h), (1, .int p0), (2, .int p1)]) hx hb d_C_weightAt_7 rfl hl (by decide) rfl (fun ls hl => ?_)
  refine lv_bipush (v := 16) hx hb d_C_weightAt_8 (by decide) ?_
  refine lv_iload_n hx hb d_C_weightAt_10 rfl (lv_at hl 3 rfl) ?_
  refine lv_imul hx hb d_C_weightAt_11 ?_
  refine lv_bipush (v := 8) hx hb d_C_weightAt_12 (by decide) ?_
  refine lv_iadd hx hb d_C_weightAt_14 ?_
  refine lv_istore (lv' := [(4, .int ((16 * p1) + 8)), (3, .int ((16 * p0) + 8)), (0, .ref h), (1, .int p0), (2, .int p1)]) hx hb d_C_weightAt_15 hl (by decide) rfl (fun ls hl => ?_)
  refine lv_aload_n hx hb d_C_weightAt_17 rfl (lv_at hl 2 rfl) ?_
  refine va_get (D := (dC, dI)) (ci := 0) (v := .int ea) (C := R_C) (T := F_C) (N := 10) hx hb hts i_C hown hK hP 0 rfl rfl 7 (by decide) (hts _ k_47) (fun _ h9 => h9) rfl d_C_weightAt_18 ?_
  refine lv_i2l (v := ea.toInt64) hx hb d_C_weightAt_21 rfl ?_
  refine lv_iload hx hb d_C_weightAt_22 (lv_at hl 0 rfl) ?_
  refine lv_aload_n hx hb d_C_weightAt_24 rfl (lv_at hl 2 rfl) ?_
  refine va_get (D := (dC, dI)) (ci := 0) (v := .int ey) (C := R_C) (T := F_C) (N := 10) hx hb hts i_C hown hK hP 0 rfl rfl 6 (by decide) (hts _ k_46) (fun _ h9 => h9) rfl d_C_weightAt_25 ?_
  refine lv_isub hx hb d_C_weightAt_28 ?_
  refine lv_i2l (v := (((16 * p1) + 8) - ey).toInt64) hx hb d_C_weightAt_29 rfl ?_
  refine lv_lmul hx hb d_C_weightAt_30 ?_
  refine lv_aload_n hx hb d_C_weightAt_31 rfl (lv_at hl 2 rfl) ?_
  refine va_get (D := (dC, dI)) (ci := 0) (v := .int ed) (C := R_C) (T := F_C) (N := 10) hx hb hts i_C hown hK hP 0 rfl rfl 8 (by decide) (hts _ k_48) (fun _ h9 => h9) rfl d_C_weightAt_32 ?_
  refine lv_i2l (v := ed.toInt64) hx hb d_C_weightAt_35 rfl ?_
  refine lv_iload_n hx hb d_C_weightAt_36 rfl (lv_at hl 1 rfl) ?_
  refine lv_aload_n hx hb d_C_weightAt_37 rfl (lv_at hl 2 rfl) ?_
  refine va_get (D := (dC, dI)) (ci := 0) (v := .int ex) (C := R_C) (T := F_C) (N := 10) hx hb hts i_C hown hK hP 0 rfl rfl 5 (by decide) (hts _ k_45) (fun _ h9 => h9) rfl d_C_weightAt_38 ?_
  refine lv_isub hx hb d_C_weightAt_41 ?_
  refine lv_i2l (v := (((16 * p0) + 8) - ex).toInt64) hx hb d_C_weightAt_42 rfl ?_
  refine lv_lmul hx hb d_C_weightAt_43 ?_
  refine lv_lsub hx hb d_C_weightAt_44 ?_
  exact W.lret (v := (ea.toInt64 * ((((16 * p1) + 8) - ey).toInt64)) - (ed.toInt64 * ((((16 * p0) + 8) - ex).toInt64))) hx hb hr (fun u9 ht hW => ⟨_, rfl, rfl, ht⟩) (fun q hq => by cases hq) d_C_weightAt_45

set_option maxHeartbeats 1000000 in
set_option maxRecDepth 100000 in
theorem c_C_nearWeightAt (l : Launch) (dC : Nat → ClassId) (dI : Nat → Nat → Nat) (h hv : Nat) (x y dp q ex ey ea ed lw : Int32) (p0 p1 : Int32) : Met l y_C_nearWeightAt w_C_nearWeightAt ({ frames := 1, cells := 0, slots := 0, locals := 24 }) (va_Pc [.ref h, .int p0, .int p1] (PP dC dI [] [(h, .inr (0, [.int x, .int y, .int dp, .int q, .ref hv, .int ex, .int ey, .int ea, .int ed, .int lw]))])) (vp_Sl (fun r : Int64 => r = er_wt ex ey ea ed p0 p1 * q.toInt64)) 0 0 (fun _ => False) := by
  refine Met.ofW (cc := b_C_nearWeightAt) (maxL := 3) (ret := (some .long)) (by decide +kernel) rfl ?_
  intro p e s m args below meth c s₁ B hml hv
  obtain ⟨rfl, hN, hK, hP⟩ := hv
  have hx := B.exec
  have hb := B.bytes
  have hr := B.returns
  have hts := er_hts (atoms_spec (ws := w_C_nearWeightAt) B.pre)
  have hown : s.vm.findClass R_C = some m.cls := findClass_of_methodNamed B.named
  have hlocks := B.notSynchronized
  have hP : va_P (dC, dI) classes [(h, .inr (0, [.int x, .int y, .int dp, .int q, .ref hv, .int ex, .int ey, .int ea, .int ed, .int lw]))] s.heap := hP
  have hl := lv_entry ([.ref h, .int p0, .int p1]) (n := 3) (Nat.le_of_ble_eq_true rfl)
  rw [lg_entry_eq]
  generalize (lg_sl ([.ref h, .int p0, .int p1]) ++ List.replicate (3 - (lg_sl ([.ref h, .int p0, .int p1])).length) Slot.unset).toArray = ls at hl ⊢
  have hl : lv_has ls 3 [(0, .ref h), (1, .int p0), (2, .int p1)] := hl
  refine lv_aload_n hx hb d_C_nearWeightAt_0 rfl (lv_at hl 0 rfl) ?_
  refine lv_iload_n hx hb d_C_nearWeightAt_1 rfl (lv_at hl 1 rfl) ?_
  refine lv_iload_n hx hb d_C_nearWeightAt_2 rfl (lv_at hl 2 rfl) ?_
  have hPc := hP.sub (ws' := [(h, .inr (0, [.int x, .int y, .int dp, .int q, .ref hv, .int ex, .int ey, .int ea, .int ed, .int lw]))]) [0] rfl
  have hKc := hK.sub (tys' := []) [] rfl
  refine vp_callSl (va_runV (As := [.int p0, .int p1]) (rest := []) ⟨hx, hb, hml, hown, hts⟩ (c_C_weightAt l dC dI h hv x y dp q ex ey ea ed lw p0 p1) (cwV 2 hts (er_gV k_122 k_123 k_2 k_19 k_124) rfl rfl rfl (by decide +kernel) ⟨Nat.le_of_ble_eq_true rfl, Nat.le_of_ble_eq_true rfl⟩) ⟨PP.blind, va_recv hKc hPc (ci := 0) (q0 := 0) rfl rfl, PP.at hN hKc hPc⟩ rfl rfl hl.1 rfl (lv_room (Nat.le_of_ble_eq_true rfl)) d_C_nearWeightAt_3 ⟨Nat.zero_le _, Nat.zero_le _⟩).run (fun r_1 hr_1 => ?_)
  obtain rfl : er_wt ex ey ea ed p0 p1 = r_1 := Eq.symm hr_1
  refine lv_aload_n hx hb d_C_nearWeightAt_6 rfl (lv_at hl 0 rfl) ?_
  refine va_get (D := (dC, dI)) (ci := 0) (v := .int q) (C := R_C) (T := F_C) (N := 10) hx hb hts i_C hown hK hP 0 rfl rfl 3 (by decide) (hts _ k_43) (fun _ h9 => h9) rfl d_C_nearWeightAt_7 ?_
  refine lv_i2l (v := q.toInt64) hx hb d_C_nearWeightAt_10 rfl ?_
  refine lv_lmul hx hb d_C_nearWeightAt_11 ?_
  exact W.lret (v := (er_wt ex ey ea ed p0 p1) * q.toInt64) hx hb hr (fun u9 ht hW => ⟨_, rfl, rfl, ht⟩) (fun q hq => by cases hq) d_C_nearWeightAt_12

set_option maxHeartbeats 1000000 in
set_option maxRecDepth 100000 in
theorem c_C_admits (l : Launch) (dC : Nat → ClassId) (dI : Nat → Nat → Nat) (h hv : Nat) (x y dp q ex ey ea ed lw : Int32) (p0 p1 : Int32) : Met l y_C_admits w_C_admits ({ frames := 1, cells := 0, slots := 0, locals := 24 }) (va_Pc [.ref h, .int p0, .int p1] (PP dC dI [] [(h, .inr (0, [.int x, .int y, .int dp, .int q, .ref hv, .int ex, .int ey, .int ea, .int ed, .int lw]))])) (vp_Si (fun r : Int32 => r = er_b (decide (lw.toInt64 ≤ er_wt ex ey ea ed p0 p1)))) 0 0 (fun _ => False) := by
  refine Met.ofW (cc := b_C_admits) (maxL := 3) (ret := (some .boolean)) (by decide +kernel) rfl ?_
  intro p e s m args below meth c s₁ B hml hv
  obtain ⟨rfl, hN, hK, hP⟩ := hv
  have hx := B.exec
  have hb := B.bytes
  have hr := B.returns
  have hts := er_hts (atoms_spec (ws := w_C_admits) B.pre)
  have hown : s.vm.findClass R_C = some m.cls := findClass_of_methodNamed B.named
  have hlocks := B.notSynchronized
  have hP : va_P (dC, dI) classes [(h, .inr (0, [.int x, .int y, .int dp, .int q, .ref hv, .int ex, .int ey, .int ea, .int ed, .int lw]))] s.heap := hP
  have hl := lv_entry ([.ref h, .int p0, .int p1]) (n := 3) (Nat.le_of_ble_eq_true rfl)
  rw [lg_entry_eq]
  generalize (lg_sl ([.ref h, .int p0, .int p1]) ++ List.replicate (3 - (lg_sl ([.ref h, .int p0, .int p1])).length) Slot.unset).toArray = ls at hl ⊢
  have hl : lv_has ls 3 [(0, .ref h), (1, .int p0), (2, .int p1)] := hl
  refine lv_aload_n hx hb d_C_admits_0 rfl (lv_at hl 0 rfl) ?_
  refine lv_iload_n hx hb d_C_admits_1 rfl (lv_at hl 1 rfl) ?_
  refine lv_iload_n hx hb d_C_admits_2 rfl (lv_at hl 2 rfl) ?_
  have hPc := hP.sub (ws' := [(h, .inr (0, [.int x, .int y, .int dp, .int q, .ref hv, .int ex, .int ey, .int ea, .int ed, .int lw]))]) [0] rfl
  have hKc := hK.sub (tys' := []) [] rfl
  refine vp_callSl (va_runV (As := [.int p0, .int p1]) (rest := []) ⟨hx, hb, hml, hown, hts⟩ (c_C_weightAt l dC dI h hv x y dp q ex ey ea ed lw p0 p1) (cwV 2 hts (er_gV k_122 k_123 k_2 k_19 k_124) rfl rfl rfl (by decide +kernel) ⟨Nat.le_of_ble_eq_true rfl, Nat.le_of_ble_eq_true rfl⟩) ⟨PP.blind, va_recv hKc hPc (ci := 0) (q0 := 0) rfl rfl, PP.at hN hKc hPc⟩ rfl rfl hl.1 rfl (lv_room (Nat.le_of_ble_eq_true rfl)) d_C_admits_3 ⟨Nat.zero_le _, Nat.zero_le _⟩).run (fun r_1 hr_1 => ?_)
  obtain rfl : er_wt ex ey ea ed p0 p1 = r_1 := Eq.symm hr_1
  refine lv_aload_n hx hb d_C_admits_6 rfl (lv_at hl 0 rfl) ?_
  refine va_get (D := (dC, dI)) (ci := 0) (v := .int lw) (C := R_C) (T := F_C) (N := 10) hx hb hts i_C hown hK hP 0 rfl rfl 9 (by decide) (hts _ k_49) (fun _ h9 => h9) rfl d_C_admits_7 ?_
  refine lv_i2l (v := lw.toInt64) hx hb d_C_admits_10 rfl ?_
  refine W.lcmp hx hb d_C_admits_11 ?_
  refine lv_if_lt (tgt := 19) hx hb d_C_admits_12 (by decide) (fun c_2 => ?_) (fun c_2 => ?_)
  · rw [lg_cmp_lt] at c_2
    refine lv_iconst (v := 0) hx hb d_C_admits_19 (by decide) ?_
    exact W.zret (v := 0) (ty := .boolean) hx hb hr (by decide) (fun u9 ht hW => ⟨_, rfl, er_adm0 c_2, ht⟩) (fun q hq => by cases hq) d_C_admits_20
  · rw [lg_cmp_lt] at c_2
    refine lv_iconst (v := 1) hx hb d_C_admits_15 (by decide) ?_
    refine lv_goto (tgt := 20) hx hb d_C_admits_16 (by decide) ?_
    exact W.zret (v := 1) (ty := .boolean) hx hb hr (by decide) (fun u9 ht hW => ⟨_, rfl, er_adm1 c_2, ht⟩) (fun q hq => by cases hq) d_C_admits_20
