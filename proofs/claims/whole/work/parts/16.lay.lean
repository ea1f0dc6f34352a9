set_option maxHeartbeats 1000000 in
set_option maxRecDepth 100000 in
theorem c_C_layEdge (l : Launch) (dC : Nat → ClassId) (dI : Nat → Nat → Nat) (h hv g gv k kv : Nat) (x y dp q ex ey ea ed lw x1 y1 dp1 q1 ex1 ey1 ea1 ed1 lw1 x2 y2 dp2 q2 ex2 ey2 ea2 ed2 lw2 : Int32) (sz : Nat) : Met l y_C_layEdge w_C_layEdge ({ frames := 0, cells := 0, slots := 0, locals := 0 }) (va_Pc [.ref h, .ref g, .ref k] (PI dC dI [] [(h, .inr (0, [.int x, .int y, .int dp, .int q, .ref hv, .int ex, .int ey, .int ea, .int ed, .int lw])), (g, .inr (0, [.int x1, .int y1, .int dp1, .int q1, .ref gv, .int ex1, .int ey1, .int ea1, .int ed1, .int lw1])), (k, .inr (0, [.int x2, .int y2, .int dp2, .int q2, .ref kv, .int ex2, .int ey2, .int ea2, .int ed2, .int lw2]))] sz)) (va_Qv (fun (u : Unit) => True) (fun (u : Unit) t => EI dC dI [] [(h, .inr (0, [.int x, .int y, .int dp, .int q, .ref hv, .int x1, .int y1, .int (x2 - x1), .int (y2 - y1), .int (er_lw (x2 - x1) (y2 - y1))])), (g, .inr (0, [.int x1, .int y1, .int dp1, .int q1, .ref gv, .int ex1, .int ey1, .int ea1, .int ed1, .int lw1])), (k, .inr (0, [.int x2, .int y2, .int dp2, .int q2, .ref kv, .int ex2, .int ey2, .int ea2, .int ed2, .int lw2]))] (va_A [(h, .inr (0, [.int x, .int y, .int dp, .int q, .ref hv, .int ex, .int ey, .int ea, .int ed, .int lw])), (g, .inr (0, [.int x1, .int y1, .int dp1, .int q1, .ref gv, .int ex1, .int ey1, .int ea1, .int ed1, .int lw1])), (k, .inr (0, [.int x2, .int y2, .int dp2, .int q2, .ref kv, .int ex2, .int ey2, .int ea2, .int ed2, .int lw2]))] sz) t) (va_A [(h, .inr (0, [.int x, .int y, .int dp, .int q, .ref hv, .int ex, .int ey, .int ea, .int ed, .int lw])), (g, .inr (0, [.int x1, .int y1, .int dp1, .int q1, .ref gv, .int ex1, .int ey1, .int ea1, .int ed1, .int lw1])), (k, .inr (0, [.int x2, .int y2, .int dp2, .int q2, .ref kv, .int ex2, .int ey2, .int ea2, .int ed2, .int lw2]))] sz)) 0 0 (va_A [(h, .inr (0, [.int x, .int y, .int dp, .int q, .ref hv, .int ex, .int ey, .int ea, .int ed, .int lw])), (g, .inr (0, [.int x1, .int y1, .int dp1, .int q1, .ref gv, .int ex1, .int ey1, .int ea1, .int ed1, .int lw1])), (k, .inr (0, [.int x2, .int y2, .int dp2, .int q2, .ref kv, .int ex2, .int ey2, .int ea2, .int ed2, .int lw2]))] sz) := by
  refine Met.ofW (cc := b_C_layEdge) (maxL := 5) (ret := none) (by decide +kernel) rfl ?_
  intro p e s m args below meth c s₁ B hml hv
  obtain ⟨rfl, hsz, hN, hK, hP, hD0⟩ := hv
  have hx := B.exec
  have hb := B.bytes
  have hr := B.returns
  have hts := er_hts (atoms_spec (ws := w_C_layEdge) B.pre)
  have hown : s.vm.findClass R_C = some m.cls := findClass_of_methodNamed B.named
  have hlocks := B.notSynchronized
  subst hsz
  have hD := hD0.self (sz := s.heap.size)
  generalize hAe : va_A [(h, .inr (0, [.int x, .int y, .int dp, .int q, .ref hv, .int ex, .int ey, .int ea, .int ed, .int lw])), (g, .inr (0, [.int x1, .int y1, .int dp1, .int q1, .ref gv, .int ex1, .int ey1, .int ea1, .int ed1, .int lw1])), (k, .inr (0, [.int x2, .int y2, .int dp2, .int q2, .ref kv, .int ex2, .int ey2, .int ea2, .int ed2, .int lw2]))] s.heap.size = A at hD ⊢
  have hA : ∀ q : Nat, s.heap.size ≤ q → A q := fun q h => by rw [← hAe]; exact Or.inr h
  have hS : va_S A s.heap s.heap [] := va_S.rf
  have hP : va_P (dC, dI) classes [(h, .inr (0, [.int x, .int y, .int dp, .int q, .ref hv, .int ex, .int ey, .int ea, .int ed, .int lw])), (g, .inr (0, [.int x1, .int y1, .int dp1, .int q1, .ref gv, .int ex1, .int ey1, .int ea1, .int ed1, .int lw1])), (k, .inr (0, [.int x2, .int y2, .int dp2, .int q2, .ref kv, .int ex2, .int ey2, .int ea2, .int ed2, .int lw2]))] s.heap := hP
  have hl := lv_entry ([.ref h, .ref g, .ref k]) (n := 5) (Nat.le_of_ble_eq_true rfl)
  rw [lg_entry_eq]
  generalize (lg_sl ([.ref h, .ref g, .ref k]) ++ List.replicate (5 - (lg_sl ([.ref h, .ref g, .ref k])).length) Slot.unset).toArray = ls at hl ⊢
  have hl : lv_has ls 5 [(0, .ref h), (1, .ref g), (2, .ref k)] := hl
  refine lv_aload_n hx hb d_C_layEdge_0 rfl (lv_at hl 0 rfl) ?_
  refine lv_aload_n hx hb d_C_layEdge_1 rfl (lv_at hl 1 rfl) ?_
  refine va_get (D := (dC, dI)) (ci := 0) (v := .int x1) (C := R_C) (T := F_C) (N := 10) hx hb hts i_C hown hK hP 1 rfl rfl 0 (by decide) (hts _ k_40) (fun _ h9 => h9) rfl d_C_layEdge_2 ?_
  refine va_put (D := (dC, dI)) (ci := 0) (v := .int x1) (ty := .int) (C := R_C) (T := F_C) (N := 10) hx hb hts i_C t_C t_C_ok n_C hown hK hP hD hS 0 rfl rfl 5 (by decide) (hts _ k_45) (fun _ h9 => h9) rfl (by decide +kernel) rfl rfl (Nat.le_of_ble_eq_true rfl) d_C_layEdge_5 (fun H locs hP hD hS => ?_)
  have hP : va_P (dC, dI) classes [(h, .inr (0, [.int x, .int y, .int dp, .int q, .ref hv, .int x1, .int ey, .int ea, .int ed, .int lw])), (g, .inr (0, [.int x1, .int y1, .int dp1, .int q1, .ref gv, .int ex1, .int ey1, .int ea1, .int ed1, .int lw1])), (k, .inr (0, [.int x2, .int y2, .int dp2, .int q2, .ref kv, .int ex2, .int ey2, .int ea2, .int ed2, .int lw2]))] H := hP
  have hD : va_D A [(h, .inr (0, [.int x, .int y, .int dp, .int q, .ref hv, .int x1, .int ey, .int ea, .int ed, .int lw])), (g, .inr (0, [.int x1, .int y1, .int dp1, .int q1, .ref gv, .int ex1, .int ey1, .int ea1, .int ed1, .int lw1])), (k, .inr (0, [.int x2, .int y2, .int dp2, .int q2, .ref kv, .int ex2, .int ey2, .int ea2, .int ed2, .int lw2]))] := hD
  refine lv_aload_n hx hb d_C_layEdge_8 rfl (lv_at hl 0 rfl) ?_
  refine lv_aload_n hx hb d_C_layEdge_9 rfl (lv_at hl 1 rfl) ?_
  refine va_get (D := (dC, dI)) (ci := 0) (v := .int y1) (C := R_C) (T := F_C) (N := 10) hx hb hts i_C hown hK hP 1 rfl rfl 1 (by decide) (hts _ k_41) (fun _ h9 => h9) rfl d_C_layEdge_10 ?_
  refine va_put (D := (dC, dI)) (ci := 0) (v := .int y1) (ty := .int) (C := R_C) (T := F_C) (N := 10) hx hb hts i_C t_C t_C_ok n_C hown hK hP hD hS 0 rfl rfl 6 (by decide) (hts _ k_46) (fun _ h9 => h9) rfl (by decide +kernel) rfl rfl (Nat.le_of_ble_eq_true rfl) d_C_layEdge_13 (fun H locs hP hD hS => ?_)
  have hP : va_P (dC, dI) classes [(h, .inr (0, [.int x, .int y, .int dp, .int q, .ref hv, .int x1, .int y1, .int ea, .int ed, .int lw])), (g, .inr (0, [.int x1, .int y1, .int dp1, .int q1, .ref gv, .int ex1, .int ey1, .int ea1, .int ed1, .int lw1])), (k, .inr (0, [.int x2, .int y2, .int dp2, .int q2, .ref kv, .int ex2, .int ey2, .int ea2, .int ed2, .int lw2]))] H := hP
  have hD : va_D A [(h, .inr (0, [.int x, .int y, .int dp, .int q, .ref hv, .int x1, .int y1, .int ea, .int ed, .int lw])), (g, .inr (0, [.int x1, .int y1, .int dp1, .int q1, .ref gv, .int ex1, .int ey1, .int ea1, .int ed1, .int lw1])), (k, .inr (0, [.int x2, .int y2, .int dp2, .int q2, .ref kv, .int ex2, .int ey2, .int ea2, .int ed2, .int lw2]))] := hD
  refine lv_aload_n hx hb d_C_layEdge_16 rfl (lv_at hl 0 rfl) ?_
  refine lv_aload_n hx hb d_C_layEdge_17 rfl (lv_at hl 2 rfl) ?_
  refine va_get (D := (dC, dI)) (ci := 0) (v := .int x2) (C := R_C) (T := F_C) (N := 10) hx hb hts i_C hown hK hP 2 rfl rfl 0 (by decide) (hts _ k_40) (fun _ h9 => h9) rfl d_C_layEdge_18 ?_
  refine lv_aload_n hx hb d_C_layEdge_21 rfl (lv_at hl 1 rfl) ?_
  refine va_get (D := (dC, dI)) (ci := 0) (v := .int x1) (C := R_C) (T := F_C) (N := 10) hx hb hts i_C hown hK hP 1 rfl rfl 0 (by decide) (hts _ k_40) (fun _ h9 => h9) rfl d_C_layEdge_22 ?_
  refine lv_isub hx hb d_C_layEdge_25 ?_
  refine va_put (D := (dC, dI)) (ci := 0) (v := .int (x2 - x1)) (ty := .int) (C := R_C) (T := F_C) (N := 10) hx hb hts i_C t_C t_C_ok n_C hown hK hP hD hS 0 rfl rfl 7 (by decide) (hts _ k_47) (fun _ h9 => h9) rfl (by decide +kernel) rfl rfl (Nat.le_of_ble_eq_true rfl) d_C_layEdge_26 (fun H locs hP hD hS => ?_)
  have hP : va_P (dC, dI) classes [(h, .inr (0, [.int x, .int y, .int dp, .int q, .ref hv, .int x1, .int y1, .int (x2 - x1), .int ed, .int lw])), (g, .inr (0, [.int x1, .int y1, .int dp1, .int q1, .ref gv, .int ex1, .int ey1, .int ea1, .int ed1, .int lw1])), (k, .inr (0, [.int x2, .int y2, .int dp2, .int q2, .ref kv, .int ex2, .int ey2, .int ea2, .int ed2, .int lw2]))] H := hP
  have hD : va_D A [(h, .inr (0, [.int x, .int y, .int dp, .int q, .ref hv, .int x1, .int y1, .int (x2 - x1), .int ed, .int lw])), (g, .inr (0, [.int x1, .int y1, .int dp1, .int q1, .ref gv, .int ex1, .int ey1, .int ea1, .int ed1, .int lw1])), (k, .inr (0, [.int x2, .int y2, .int dp2, .int q2, .ref kv, .int ex2, .int ey2, .int ea2, .int ed2, .int lw2]))] := hD
  refine lv_aload_n hx hb d_C_layEdge_29 rfl (lv_at hl 0 rfl) ?_
  refine lv_aload_n hx hb d_C_layEdge_30 rfl (lv_at hl 2 rfl) ?_
  refine va_get (D := (dC, dI)) (ci := 0) (v := .int y2) (C := R_C) (T := F_C) (N := 10) hx hb hts i_C hown hK hP 2 rfl rfl 1 (by decide) (hts _ k_41) (fun _ h9 => h9) rfl d_C_layEdge_31 ?_
  refine lv_aload_n hx hb d_C_layEdge_34 rfl (lv_at hl 1 rfl) ?_
  refine va_get (D := (dC, dI)) (ci := 0) (v := .int y1) (C := R_C) (T := F_C) (N := 10) hx hb hts i_C hown hK hP 1 rfl rfl 1 (by decide) (hts _ k_41) (fun _ h9 => h9) rfl d_C_layEdge_35 ?_
  refine lv_isub hx hb d_C_layEdge_38 ?_
  refine va_put (D := (dC, dI)) (ci := 0) (v := .int (y2 - y1)) (ty := .int) (C := R_C) (T := F_C) (N := 10) hx hb hts i_C t_C t_C_ok n_C hown hK hP hD hS 0 rfl rfl 8 (by decide) (hts _ k_48) (fun _ h9 => h9) rfl (by decide +kernel) rfl rfl (Nat.le_of_ble_eq_true rfl) d_C_layEdge_39 (fun H locs hP hD hS => ?_)
  have hP : va_P (dC, dI) classes [(h, .inr (0, [.int x, .int y, .int dp, .int q, .ref hv, .int x1, .int y1, .int (x2 - x1), .int (y2 - y1), .int lw])), (g, .inr (0, [.int x1, .int y1, .int dp1, .int q1, .ref gv, .int ex1, .int ey1, .int ea1, .int ed1, .int lw1])), (k, .inr (0, [.int x2, .int y2, .int dp2, .int q2, .ref kv, .int ex2, .int ey2, .int ea2, .int ed2, .int lw2]))] H := hP
  have hD : va_D A [(h, .inr (0, [.int x, .int y, .int dp, .int q, .ref hv, .int x1, .int y1, .int (x2 - x1), .int (y2 - y1), .int lw])), (g, .inr (0, [.int x1, .int y1, .int dp1, .int q1, .ref gv, .int ex1, .int ey1, .int ea1, .int ed1, .int lw1])), (k, .inr (0, [.int x2, .int y2, .int dp2, .int q2, .ref kv, .int ex2, .int ey2, .int ea2, .int ed2, .int lw2]))] := hD
  refine lv_aload_n hx hb d_C_layEdge_42 rfl (lv_at hl 0 rfl) ?_
  refine va_get (D := (dC, dI)) (ci := 0) (v := .int (y2 - y1)) (C := R_C) (T := F_C) (N := 10) hx hb hts i_C hown hK hP 0 rfl rfl 8 (by decide) (hts _ k_48) (fun _ h9 => h9) rfl d_C_layEdge_43 ?_
  refine lv_if_ne (tgt := 60) hx hb d_C_layEdge_46 (by decide) (fun c_1 => ?_) (fun c_1 => ?_)
  · refine lv_iconst (v := 0) hx hb d_C_layEdge_60 (by decide) ?_
    refine lv_istore_n (lv' := [(3, .int 0), (0, .ref h), (1, .ref g), (2, .ref k)]) hx hb d_C_layEdge_61 rfl hl (by decide) rfl (fun ls hl => ?_)
    refine lv_aload_n hx hb d_C_layEdge_62 rfl (lv_at hl 1 rfl) ?_
    refine va_get (D := (dC, dI)) (ci := 0) (v := .int (y2 - y1)) (C := R_C) (T := F_C) (N := 10) hx hb hts i_C hown hK hP 0 rfl rfl 8 (by decide) (hts _ k_48) (fun _ h9 => h9) rfl d_C_layEdge_63 ?_
    refine lv_if_ge (tgt := 73) hx hb d_C_layEdge_66 (by decide) (fun c_2 => ?_) (fun c_2 => ?_)
    · refine lv_iconst (v := 0) hx hb d_C_layEdge_73 (by decide) ?_
      refine lv_istore (lv' := [(4, .int 0), (3, .int 0), (0, .ref h), (1, .ref g), (2, .ref k)]) hx hb d_C_layEdge_74 hl (by decide) rfl (fun ls hl => ?_)
      refine lv_aload_n hx hb d_C_layEdge_76 rfl (lv_at hl 2 rfl) ?_
      refine lv_iload_n hx hb d_C_layEdge_77 rfl (lv_at hl 1 rfl) ?_
      refine lv_if_ne (tgt := 86) hx hb d_C_layEdge_78 (by decide) (fun c_3 => absurd c_3 (by decide)) (fun _ => ?_)
      refine lv_iload hx hb d_C_layEdge_81 (lv_at hl 0 rfl) ?_
      refine lv_if_eq (tgt := 90) hx hb d_C_layEdge_83 (by decide) (fun _ => ?_) (fun c_4 => absurd c_4 (by decide))
      refine lv_iconst (v := 1) hx hb d_C_layEdge_90 (by decide) ?_
      refine lv_topi (x := 1) (fun y9 e9 => ?_)
      obtain rfl : y9 = er_lw (x2 - x1) (y2 - y1) := by rw [e9]; exact (er_lw1 (by simp_all)).symm
      refine va_put (D := (dC, dI)) (ci := 0) (v := .int (er_lw (x2 - x1) (y2 - y1))) (ty := .int) (C := R_C) (T := F_C) (N := 10) hx hb hts i_C t_C t_C_ok n_C hown hK hP hD hS 0 rfl rfl 9 (by decide) (hts _ k_49) (fun _ h9 => h9) rfl (by decide +kernel) rfl rfl (Nat.le_of_ble_eq_true rfl) d_C_layEdge_91 (fun H locs hP hD hS => ?_)
      have hP : va_P (dC, dI) classes [(h, .inr (0, [.int x, .int y, .int dp, .int q, .ref hv, .int x1, .int y1, .int (x2 - x1), .int (y2 - y1), .int (er_lw (x2 - x1) (y2 - y1))])), (g, .inr (0, [.int x1, .int y1, .int dp1, .int q1, .ref gv, .int ex1, .int ey1, .int ea1, .int ed1, .int lw1])), (k, .inr (0, [.int x2, .int y2, .int dp2, .int q2, .ref kv, .int ex2, .int ey2, .int ea2, .int ed2, .int lw2]))] H := hP
      have hD : va_D A [(h, .inr (0, [.int x, .int y, .int dp, .int q, .ref hv, .int x1, .int y1, .int (x2 - x1), .int (y2 - y1), .int (er_lw (x2 - x1) (y2 - y1))])), (g, .inr (0, [.int x1, .int y1, .int dp1, .int q1, .ref gv, .int ex1, .int ey1, .int ea1, .int ed1, .int lw1])), (k, .inr (0, [.int x2, .int y2, .int dp2, .int q2, .ref kv, .int ex2, .int ey2, .int ea2, .int ed2, .int lw2]))] := hD
      have hP9 := hP.sub (ws' := [(h, .inr (0, [.int x, .int y, .int dp, .int q, .ref hv, .int x1, .int y1, .int (x2 - x1), .int (y2 - y1), .int (er_lw (x2 - x1) (y2 - y1))])), (g, .inr (0, [.int x1, .int y1, .int dp1, .int q1, .ref gv, .int ex1, .int ey1, .int ea1, .int ed1, .int lw1])), (k, .inr (0, [.int x2, .int y2, .int dp2, .int q2, .ref kv, .int ex2, .int ey2, .int ea2, .int ed2, .int lw2]))]) [0, 1, 2] rfl
      have hD9 := hD.sub (ws' := [(h, .inr (0, [.int x, .int y, .int dp, .int q, .ref hv, .int x1, .int y1, .int (x2 - x1), .int (y2 - y1), .int (er_lw (x2 - x1) (y2 - y1))])), (g, .inr (0, [.int x1, .int y1, .int dp1, .int q1, .ref gv, .int ex1, .int ey1, .int ea1, .int ed1, .int lw1])), (k, .inr (0, [.int x2, .int y2, .int dp2, .int q2, .ref kv, .int ex2, .int ey2, .int ea2, .int ed2, .int lw2]))]) [0, 1, 2] (by decide) rfl
      have hK9 := hK.sub (tys' := []) [] rfl
      exact W.vret hx hb hr (fun u9 ht hW => ⟨⟨(), rfl, trivial, ⟨by rw [ht]; exact hP9, va_K.moved hW.alike hK9, hD9⟩⟩, hS.F ht⟩) hS.2.2 d_C_layEdge_94
    · refine lv_iconst (v := 1) hx hb d_C_layEdge_69 (by decide) ?_
      refine lv_goto (tgt := 74) hx hb d_C_layEdge_70 (by decide) ?_
      refine lv_istore (lv' := [(4, .int 1), (3, .int 0), (0, .ref h), (1, .ref g), (2, .ref k)]) hx hb d_C_layEdge_74 hl (by decide) rfl (fun ls hl => ?_)
      refine lv_aload_n hx hb d_C_layEdge_76 rfl (lv_at hl 2 rfl) ?_
      refine lv_iload_n hx hb d_C_layEdge_77 rfl (lv_at hl 1 rfl) ?_
      refine lv_if_ne (tgt := 86) hx hb d_C_layEdge_78 (by decide) (fun c_5 => absurd c_5 (by decide)) (fun _ => ?_)
      refine lv_iload hx hb d_C_layEdge_81 (lv_at hl 0 rfl) ?_
      refine lv_if_eq (tgt := 90) hx hb d_C_layEdge_83 (by decide) (fun c_6 => absurd c_6 (by decide)) (fun _ => ?_)
      refine lv_iconst (v := 0) hx hb d_C_layEdge_86 (by decide) ?_
      refine lv_goto (tgt := 91) hx hb d_C_layEdge_87 (by decide) ?_
      refine lv_topi (x := 0) (fun y9 e9 => ?_)
      obtain rfl : y9 = er_lw (x2 - x1) (y2 - y1) := by rw [e9]; exact (er_lw0 (by simp_all)).symm
      refine va_put (D := (dC, dI)) (ci := 0) (v := .int (er_lw (x2 - x1) (y2 - y1))) (ty := .int) (C := R_C) (T := F_C) (N := 10) hx hb hts i_C t_C t_C_ok n_C hown hK hP hD hS 0 rfl rfl 9 (by decide) (hts _ k_49) (fun _ h9 => h9) rfl (by decide +kernel) rfl rfl (Nat.le_of_ble_eq_true rfl) d_C_layEdge_91 (fun H locs hP hD hS => ?_)
      have hP : va_P (dC, dI) classes [(h, .inr (0, [.int x, .int y, .int dp, .int q, .ref hv, .int x1, .int y1, .int (x2 - x1), .int (y2 - y1), .int (er_lw (x2 - x1) (y2 - y1))])), (g, .inr (0, [.int x1, .int y1, .int dp1, .int q1, .ref gv, .int ex1, .int ey1, .int ea1, .int ed1, .int lw1])), (k, .inr (0, [.int x2, .int y2, .int dp2, .int q2, .ref kv, .int ex2, .int ey2, .int ea2, .int ed2, .int lw2]))] H := hP
      have hD : va_D A [(h, .inr (0, [.int x, .int y, .int dp, .int q, .ref hv, .int x1, .int y1, .int (x2 - x1), .int (y2 - y1), .int (er_lw (x2 - x1) (y2 - y1))])), (g, .inr (0, [.int x1, .int y1, .int dp1, .int q1, .ref gv, .int ex1, .int ey1, .int ea1, .int ed1, .int lw1])), (k, .inr (0, [.int x2, .int y2, .int dp2, .int q2, .ref kv, .int ex2, .int ey2, .int ea2, .int ed2, .int lw2]))] := hD
      have hP9 := hP.sub (ws' := [(h, .inr (0, [.int x, .int y, .int dp, .int q, .ref hv, .int x1, .int y1, .int (x2 - x1), .int (y2 - y1), .int (er_lw (x2 - x1) (y2 - y1))])), (g, .inr (0, [.int x1, .int y1, .int dp1, .int q1, .ref gv, .int ex1, .int ey1, .int ea1, .int ed1, .int lw1])), (k, .inr (0, [.int x2, .int y2, .int dp2, .int q2, .ref kv, .int ex2, .int ey2, .int ea2, .int ed2, .int lw2]))]) [0, 1, 2] rfl
      have hD9 := hD.sub (ws' := [(h, .inr (0, [.int x, .int y, .int dp, .int q, .ref hv, .int x1, .int y1, .int (x2 - x1), .int (y2 - y1), .int (er_lw (x2 - x1) (y2 - y1))])), (g, .inr (0, [.int x1, .int y1, .int dp1, .int q1, .ref gv, .int ex1, .int ey1, .int ea1, .int ed1, .int lw1])), (k, .inr (0, [.int x2, .int y2, .int dp2, .int q2, .ref kv, .int ex2, .int ey2, .int ea2, .int ed2, .int lw2]))]) [0, 1, 2] (by decide) rfl
      have hK9 := hK.sub (tys' := []) [] rfl
      exact W.vret hx hb hr (fun u9 ht hW => ⟨⟨(), rfl, trivial, ⟨by rw [ht]; exact hP9, va_K.moved hW.alike hK9, hD9⟩⟩, hS.F ht⟩) hS.2.2 d_C_layEdge_94
  · refine lv_aload_n hx hb d_C_layEdge_49 rfl (lv_at hl 0 rfl) ?_
    refine va_get (D := (dC, dI)) (ci := 0) (v := .int (x2 - x1)) (C := R_C) (T := F_C) (N := 10) hx hb hts i_C hown hK hP 0 rfl rfl 7 (by decide) (hts _ k_47) (fun _ h9 => h9) rfl d_C_layEdge_50 ?_
    refine lv_if_le (tgt := 60) hx hb d_C_layEdge_53 (by decide) (fun c_7 => ?_) (fun c_7 => ?_)
    · refine lv_iconst (v := 0) hx hb d_C_layEdge_60 (by decide) ?_
      refine lv_istore_n (lv' := [(3, .int 0), (0, .ref h), (1, .ref g), (2, .ref k)]) hx hb d_C_layEdge_61 rfl hl (by decide) rfl (fun ls hl => ?_)
      refine lv_aload_n hx hb d_C_layEdge_62 rfl (lv_at hl 1 rfl) ?_
      refine va_get (D := (dC, dI)) (ci := 0) (v := .int (y2 - y1)) (C := R_C) (T := F_C) (N := 10) hx hb hts i_C hown hK hP 0 rfl rfl 8 (by decide) (hts _ k_48) (fun _ h9 => h9) rfl d_C_layEdge_63 ?_
      refine lv_if_ge (tgt := 73) hx hb d_C_layEdge_66 (by decide) (fun c_8 => ?_) (fun c_8 => ?_)
      · refine lv_iconst (v := 0) hx hb d_C_layEdge_73 (by decide) ?_
        refine lv_istore (lv' := [(4, .int 0), (3, .int 0), (0, .ref h), (1, .ref g), (2, .ref k)]) hx hb d_C_layEdge_74 hl (by decide) rfl (fun ls hl => ?_)
        refine lv_aload_n hx hb d_C_layEdge_76 rfl (lv_at hl 2 rfl) ?_
        refine lv_iload_n hx hb d_C_layEdge_77 rfl (lv_at hl 1 rfl) ?_
        refine lv_if_ne (tgt := 86) hx hb d_C_layEdge_78 (by decide) (fun c_9 => absurd c_9 (by decide)) (fun _ => ?_)
        refine lv_iload hx hb d_C_layEdge_81 (lv_at hl 0 rfl) ?_
        refine lv_if_eq (tgt := 90) hx hb d_C_layEdge_83 (by decide) (fun _ => ?_) (fun c_10 => absurd c_10 (by decide))
        refine lv_iconst (v := 1) hx hb d_C_layEdge_90 (by decide) ?_
        refine lv_topi (x := 1) (fun y9 e9 => ?_)
        obtain rfl : y9 = er_lw (x2 - x1) (y2 - y1) := by rw [e9]; exact (er_lw1 (by simp_all)).symm
        refine va_put (D := (dC, dI)) (ci := 0) (v := .int (er_lw (x2 - x1) (y2 - y1))) (ty := .int) (C := R_C) (T := F_C) (N := 10) hx hb hts i_C t_C t_C_ok n_C hown hK hP hD hS 0 rfl rfl 9 (by decide) (hts _ k_49) (fun _ h9 => h9) rfl (by decide +kernel) rfl rfl (Nat.le_of_ble_eq_true rfl) d_C_layEdge_91 (fun H locs hP hD hS => ?_)
        have hP : va_P (dC, dI) classes [(h, .inr (0, [.int x, .int y, .int dp, .int q, .ref hv, .int x1, .int y1, .int (x2 - x1), .int (y2 - y1), .int (er_lw (x2 - x1) (y2 - y1))])), (g, .inr (0, [.int x1, .int y1, .int dp1, .int q1, .ref gv, .int ex1, .int ey1, .int ea1, .int ed1, .int lw1])), (k, .inr (0, [.int x2, .int y2, .int dp2, .int q2, .ref kv, .int ex2, .int ey2, .int ea2, .int ed2, .int lw2]))] H := hP
        have hD : va_D A [(h, .inr (0, [.int x, .int y, .int dp, .int q, .ref hv, .int x1, .int y1, .int (x2 - x1), .int (y2 - y1), .int (er_lw (x2 - x1) (y2 - y1))])), (g, .inr (0, [.int x1, .int y1, .int dp1, .int q1, .ref gv, .int ex1, .int ey1, .int ea1, .int ed1, .int lw1])), (k, .inr (0, [.int x2, .int y2, .int dp2, .int q2, .ref kv, .int ex2, .int ey2, .int ea2, .int ed2, .int lw2]))] := hD
        have hP9 := hP.sub (ws' := [(h, .inr (0, [.int x, .int y, .int dp, .int q, .ref hv, .int x1, .int y1, .int (x2 - x1), .int (y2 - y1), .int (er_lw (x2 - x1) (y2 - y1))])), (g, .inr (0, [.int x1, .int y1, .int dp1, .int q1, .ref gv, .int ex1, .int ey1, .int ea1, .int ed1, .int lw1])), (k, .inr (0, [.int x2, .int y2, .int dp2, .int q2, .ref kv, .int ex2, .int ey2, .int ea2, .int ed2, .int lw2]))]) [0, 1, 2] rfl
        have hD9 := hD.sub (ws' := [(h, .inr (0, [.int x, .int y, .int dp, .int q, .ref hv, .int x1, .int y1, .int (x2 - x1), .int (y2 - y1), .int (er_lw (x2 - x1) (y2 - y1))])), (g, .inr (0, [.int x1, .int y1, .int dp1, .int q1, .ref gv, .int ex1, .int ey1, .int ea1, .int ed1, .int lw1])), (k, .inr (0, [.int x2, .int y2, .int dp2, .int q2, .ref kv, .int ex2, .int ey2, .int ea2, .int ed2, .int lw2]))]) [0, 1, 2] (by decide) rfl
        have hK9 := hK.sub (tys' := []) [] rfl
        exact W.vret hx hb hr (fun u9 ht hW => ⟨⟨(), rfl, trivial, ⟨by rw [ht]; exact hP9, va_K.moved hW.alike hK9, hD9⟩⟩, hS.F ht⟩) hS.2.2 d_C_layEdge_94
      · refine lv_iconst (v := 1) hx hb d_C_layEdge_69 (by decide) ?_
        refine lv_goto (tgt := 74) hx hb d_C_layEdge_70 (by decide) ?_
        refine lv_istore (lv' := [(4, .int 1), (3, .int 0), (0, .ref h), (1, .ref g), (2, .ref k)]) hx hb d_C_layEdge_74 hl (by decide) rfl (fun ls hl => ?_)
        refine lv_aload_n hx hb d_C_layEdge_76 rfl (lv_at hl 2 rfl) ?_
        refine lv_iload_n hx hb d_C_layEdge_77 rfl (lv_at hl 1 rfl) ?_
        refine lv_if_ne (tgt := 86) hx hb d_C_layEdge_78 (by decide) (fun c_11 => absurd c_11 (by decide)) (fun _ => ?_)
        refine lv_iload hx hb d_C_layEdge_81 (lv_at hl 0 rfl) ?_
        refine lv_if_eq (tgt := 90) hx hb d_C_layEdge_83 (by decide) (fun c_12 => absurd c_12 (by decide)) (fun _ => ?_)
        refine lv_iconst (v := 0) hx hb d_C_layEdge_86 (by decide) ?_
        refine lv_goto (tgt := 91) hx hb d_C_layEdge_87 (by decide) ?_
        refine lv_topi (x := 0) (fun y9 e9 => ?_)
        obtain rfl : y9 = er_lw (x2 - x1) (y2 - y1) := by rw [e9]; exact (er_lw0 (by simp_all)).symm
        refine va_put (D := (dC, dI)) (ci := 0) (v := .int (er_lw (x2 - x1) (y2 - y1))) (ty := .int) (C := R_C) (T := F_C) (N := 10) hx hb hts i_C t_C t_C_ok n_C hown hK hP hD hS 0 rfl rfl 9 (by decide) (hts _ k_49) (fun _ h9 => h9) rfl (by decide +kernel) rfl rfl (Nat.le_of_ble_eq_true rfl) d_C_layEdge_91 (fun H locs hP hD hS => ?_)
        have hP : va_P (dC, dI) classes [(h, .inr (0, [.int x, .int y, .int dp, .int q, .ref hv, .int x1, .int y1, .int (x2 - x1), .int (y2 - y1), .int (er_lw (x2 - x1) (y2 - y1))])), (g, .inr (0, [.int x1, .int y1, .int dp1, .int q1, .ref gv, .int ex1, .int ey1, .int ea1, .int ed1, .int lw1])), (k, .inr (0, [.int x2, .int y2, .int dp2, .int q2, .ref kv, .int ex2, .int ey2, .int ea2, .int ed2, .int lw2]))] H := hP
        have hD : va_D A [(h, .inr (0, [.int x, .int y, .int dp, .int q, .ref hv, .int x1, .int y1, .int (x2 - x1), .int (y2 - y1), .int (er_lw (x2 - x1) (y2 - y1))])), (g, .inr (0, [.int x1, .int y1, .int dp1, .int q1, .ref gv, .int ex1, .int ey1, .int ea1, .int ed1, .int lw1])), (k, .inr (0, [.int x2, .int y2, .int dp2, .int q2, .ref kv, .int ex2, .int ey2, .int ea2, .int ed2, .int lw2]))] := hD
        have hP9 := hP.sub (ws' := [(h, .inr (0, [.int x, .int y, .int dp, .int q, .ref hv, .int x1, .int y1, .int (x2 - x1), .int (y2 - y1), .int (er_lw (x2 - x1) (y2 - y1))])), (g, .inr (0, [.int x1, .int y1, .int dp1, .int q1, .ref gv, .int ex1, .int ey1, .int ea1, .int ed1, .int lw1])), (k, .inr (0, [.int x2, .int y2, .int dp2, .int q2, .ref kv, .int ex2, .int ey2, .int ea2, .int ed2, .int lw2]))]) [0, 1, 2] rfl
        have hD9 := hD.sub (ws' := [(h, .inr (0, [.int x, .int y, .int dp, .int q, .ref hv, .int x1, .int y1, .int (x2 - x1), .int (y2 - y1), .int (er_lw (x2 - x1) (y2 - y1))])), (g, .inr (0, [.int x1, .int y1, .int dp1, .int q1, .ref gv, .int ex1, .int ey1, .int ea1, .int ed1, .int lw1])), (k, .inr (0, [.int x2, .int y2, .int dp2, .int q2, .ref kv, .int ex2, .int ey2, .int ea2, .int ed2, .int lw2]))]) [0, 1, 2] (by decide) rfl
        have hK9 := hK.sub (tys' := []) [] rfl
        exact W.vret hx hb hr (fun u9 ht hW => ⟨⟨(), rfl, trivial, ⟨by rw [ht]; exact hP9, va_K.moved hW.alike hK9, hD9⟩⟩, hS.F ht⟩) hS.2.2 d_C_layEdge_94
    · refine lv_iconst (v := 1) hx hb d_C_layEdge_56 (by decide) ?_
      refine lv_goto (tgt := 61) hx hb d_C_layEdge_57 (by decide) ?_
      refine lv_istore_n (lv' := [(3, .int 1), (0, .ref h), (1, .ref g), (2, .ref k)]) hx hb d_C_layEdge_61 rfl hl (by decide) rfl (fun ls hl => ?_)
      refine lv_aload_n hx hb d_C_layEdge_62 rfl (lv_at hl 1 rfl) ?_
      refine va_get (D := (dC, dI)) (ci := 0) (v := .int (y2 - y1)) (C := R_C) (T := F_C) (N := 10) hx hb hts i_C hown hK hP 0 rfl rfl 8 (by decide) (hts _ k_48) (fun _ h9 => h9) rfl d_C_layEdge_63 ?_
      refine lv_if_ge (tgt := 73) hx hb d_C_layEdge_66 (by decide) (fun c_13 => ?_) (fun c_13 => ?_)
      · refine lv_iconst (v := 0) hx hb d_C_layEdge_73 (by decide) ?_
        refine lv_istore (lv' := [(4, .int 0), (3, .int 1), (0, .ref h), (1, .ref g), (2, .ref k)]) hx hb d_C_layEdge_74 hl (by decide) rfl (fun ls hl => ?_)
        refine lv_aload_n hx hb d_C_layEdge_76 rfl (lv_at hl 2 rfl) ?_
        refine lv_iload_n hx hb d_C_layEdge_77 rfl (lv_at hl 1 rfl) ?_
        refine lv_if_ne (tgt := 86) hx hb d_C_layEdge_78 (by decide) (fun _ => ?_) (fun c_14 => absurd c_14 (by decide))
        refine lv_iconst (v := 0) hx hb d_C_layEdge_86 (by decide) ?_
        refine lv_goto (tgt := 91) hx hb d_C_layEdge_87 (by decide) ?_
        refine lv_topi (x := 0) (fun y9 e9 => ?_)
        obtain rfl : y9 = er_lw (x2 - x1) (y2 - y1) := by rw [e9]; exact (er_lw0 (by simp_all)).symm
        refine va_put (D := (dC, dI)) (ci := 0) (v := .int (er_lw (x2 - x1) (y2 - y1))) (ty := .int) (C := R_C) (T := F_C) (N := 10) hx hb hts i_C t_C t_C_ok n_C hown hK hP hD hS 0 rfl rfl 9 (by decide) (hts _ k_49) (fun _ h9 => h9) rfl (by decide +kernel) rfl rfl (Nat.le_of_ble_eq_true rfl) d_C_layEdge_91 (fun H locs hP hD hS => ?_)
        have hP : va_P (dC, dI) classes [(h, .inr (0, [.int x, .int y, .int dp, .int q, .ref hv, .int x1, .int y1, .int (x2 - x1), .int (y2 - y1), .int (er_lw (x2 - x1) (y2 - y1))])), (g, .inr (0, [.int x1, .int y1, .int dp1, .int q1, .ref gv, .int ex1, .int ey1, .int ea1, .int ed1, .int lw1])), (k, .inr (0, [.int x2, .int y2, .int dp2, .int q2, .ref kv, .int ex2, .int ey2, .int ea2, .int ed2, .int lw2]))] H := hP
        have hD : va_D A [(h, .inr (0, [.int x, .int y, .int dp, .int q, .ref hv, .int x1, .int y1, .int (x2 - x1), .int (y2 - y1), .int (er_lw (x2 - x1) (y2 - y1))])), (g, .inr (0, [.int x1, .int y1, .int dp1, .int q1, .ref gv, .int ex1, .int ey1, .int ea1, .int ed1, .int lw1])), (k, .inr (0, [.int x2, .int y2, .int dp2, .int q2, .ref kv, .int ex2, .int ey2, .int ea2, .int ed2, .int lw2]))] := hD
        have hP9 := hP.sub (ws' := [(h, .inr (0, [.int x, .int y, .int dp, .int q, .ref hv, .int x1, .int y1, .int (x2 - x1), .int (y2 - y1), .int (er_lw (x2 - x1) (y2 - y1))])), (g, .inr (0, [.int x1, .int y1, .int dp1, .int q1, .ref gv, .int ex1, .int ey1, .int ea1, .int ed1, .int lw1])), (k, .inr (0, [.int x2, .int y2, .int dp2, .int q2, .ref kv, .int ex2, .int ey2, .int ea2, .int ed2, .int lw2]))]) [0, 1, 2] rfl
        have hD9 := hD.sub (ws' := [(h, .inr (0, [.int x, .int y, .int dp, .int q, .ref hv, .int x1, .int y1, .int (x2 - x1), .int (y2 - y1), .int (er_lw (x2 - x1) (y2 - y1))])), (g, .inr (0, [.int x1, .int y1, .int dp1, .int q1, .ref gv, .int ex1, .int ey1, .int ea1, .int ed1, .int lw1])), (k, .inr (0, [.int x2, .int y2, .int dp2, .int q2, .ref kv, .int ex2, .int ey2, .int ea2, .int ed2, .int lw2]))]) [0, 1, 2] (by decide) rfl
        have hK9 := hK.sub (tys' := []) [] rfl
        exact W.vret hx hb hr (fun u9 ht hW => ⟨⟨(), rfl, trivial, ⟨by rw [ht]; exact hP9, va_K.moved hW.alike hK9, hD9⟩⟩, hS.F ht⟩) hS.2.2 d_C_layEdge_94
      · refine lv_iconst (v := 1) hx hb d_C_layEdge_69 (by decide) ?_
        refine lv_goto (tgt := 74) hx hb d_C_layEdge_70 (by decide) ?_
        refine lv_istore (lv' := [(4, .int 1), (3, .int 1), (0, .ref h), (1, .ref g), (2, .ref k)]) hx hb d_C_layEdge_74 hl (by decide) rfl (fun ls hl => ?_)
        refine lv_aload_n hx hb d_C_layEdge_76 rfl (lv_at hl 2 rfl) ?_
        refine lv_iload_n hx hb d_C_layEdge_77 rfl (lv_at hl 1 rfl) ?_
        refine lv_if_ne (tgt := 86) hx hb d_C_layEdge_78 (by decide) (fun _ => ?_) (fun c_15 => absurd c_15 (by decide))
        refine lv_iconst (v := 0) hx hb d_C_layEdge_86 (by decide) ?_
        refine lv_goto (tgt := 91) hx hb d_C_layEdge_87 (by decide) ?_
        refine lv_topi (x := 0) (fun y9 e9 => ?_)
        obtain rfl : y9 = er_lw (x2 - x1) (y2 - y1) := by rw [e9]; exact (er_lw0 (by simp_all)).symm
        refine va_put (D := (dC, dI)) (ci := 0) (v := .int (er_lw (x2 - x1) (y2 - y1))) (ty := .int) (C := R_C) (T := F_C) (N := 10) hx hb hts i_C t_C t_C_ok n_C hown hK hP hD hS 0 rfl rfl 9 (by decide) (hts _ k_49) (fun _ h9 => h9) rfl (by decide +kernel) rfl rfl (Nat.le_of_ble_eq_true rfl) d_C_layEdge_91 (fun H locs hP hD hS => ?_)
        have hP : va_P (dC, dI) classes [(h, .inr (0, [.int x, .int y, .int dp, .int q, .ref hv, .int x1, .int y1, .int (x2 - x1), .int (y2 - y1), .int (er_lw (x2 - x1) (y2 - y1))])), (g, .inr (0, [.int x1, .int y1, .int dp1, .int q1, .ref gv, .int ex1, .int ey1, .int ea1, .int ed1, .int lw1])), (k, .inr (0, [.int x2, .int y2, .int dp2, .int q2, .ref kv, .int ex2, .int ey2, .int ea2, .int ed2, .int lw2]))] H := hP
        have hD : va_D A [(h, .inr (0, [.int x, .int y, .int dp, .int q, .ref hv, .int x1, .int y1, .int (x2 - x1), .int (y2 - y1), .int (er_lw (x2 - x1) (y2 - y1))])), (g, .inr (0, [.int x1, .int y1, .int dp1, .int q1, .ref gv, .int ex1, .int ey1, .int ea1, .int ed1, .int lw1])), (k, .inr (0, [.int x2, .int y2, .int dp2, .int q2, .ref kv, .int ex2, .int ey2, .int ea2, .int ed2, .int lw2]))] := hD
        have hP9 := hP.sub (ws' := [(h, .inr (0, [.int x, .int y, .int dp, .int q, .ref hv, .int x1, .int y1, .int (x2 - x1), .int (y2 - y1), .int (er_lw (x2 - x1) (y2 - y1))])), (g, .inr (0, [.int x1, .int y1, .int dp1, .int q1, .ref gv, .int ex1, .int ey1, .int ea1, .int ed1, .int lw1])), (k, .inr (0, [.int x2, .int y2, .int dp2, .int q2, .ref kv, .int ex2, .int ey2, .int ea2, .int ed2, .int lw2]))]) [0, 1, 2] rfl
        have hD9 := hD.sub (ws' := [(h, .inr (0, [.int x, .int y, .int dp, .int q, .ref hv, .int x1, .int y1, .int (x2 - x1), .int (y2 - y1), .int (er_lw (x2 - x1) (y2 - y1))])), (g, .inr (0, [.int x1, .int y1, .int dp1, .int q1, .ref gv, .int ex1, .int ey1, .int ea1, .int ed1, .int lw1])), (k, .inr (0, [.int x2, .int y2, .int dp2, .int q2, .ref kv, .int ex2, .int ey2, .int ea2, .int ed2, .int lw2]))]) [0, 1, 2] (by decide) rfl
        have hK9 := hK.sub (tys' := []) [] rfl
        exact W.vret hx hb hr (fun u9 ht hW => ⟨⟨(), rfl, trivial, ⟨by rw [ht]; exact hP9, va_K.moved hW.alike hK9, hD9⟩⟩, hS.F ht⟩) hS.2.2 d_C_layEdge_94

set_option maxHeartbeats 1000000 in
set_option maxRecDepth 100000 in
theorem c_E_layTriangle (l : Launch) (dC : Nat → ClassId) (dI : Nat → Nat → Nat) (h0 h1 h2 h3 v0 v1 v2 : Nat) (X Y D Q : Nat → Int32) (ar : Int64) (wx wy ww wh wk on lx ly : Int32) (ex0 ey0 ea0 ed0 lw0 : Int32) (ex1 ey1 ea1 ed1 lw1 : Int32) (ex2 ey2 ea2 ed2 lw2 : Int32) (sz : Nat) : Met l y_E_layTriangle w_E_layTriangle ({ frames := 1, cells := 0, slots := 0, locals := 24 }) (va_Pc [.ref h0] (PI dC dI [] [(h0, .inr (1, [.ref h1, .ref h2, .ref h3, .long ar, .int wx, .int wy, .int ww, .int wh, .int wk, .int on, .int lx, .int ly])), (h1, .inr (0, [.int (X 0), .int (Y 0), .int (D 0), .int (Q 0), .ref v0, .int ex0, .int ey0, .int ea0, .int ed0, .int lw0])), (h2, .inr (0, [.int (X 1), .int (Y 1), .int (D 1), .int (Q 1), .ref v1, .int ex1, .int ey1, .int ea1, .int ed1, .int lw1])), (h3, .inr (0, [.int (X 2), .int (Y 2), .int (D 2), .int (Q 2), .ref v2, .int ex2, .int ey2, .int ea2, .int ed2, .int lw2]))] sz)) (va_Qv (fun (u : Unit) => True) (fun (u : Unit) t => EI dC dI [] [(h0, .inr (1, [.ref h1, .ref h2, .ref h3, .long (er_ar X Y), .int wx, .int wy, .int ww, .int wh, .int wk, .int on, .int lx, .int ly])), (h1, .inr (0, [.int (X 0), .int (Y 0), .int (D 0), .int (Q 0), .ref v0, .int (er_ex X Y 0), .int (er_ey X Y 0), .int (er_ea X Y 0), .int (er_ed X Y 0), .int (er_lw (er_ea X Y 0) (er_ed X Y 0))])), (h2, .inr (0, [.int (X 1), .int (Y 1), .int (D 1), .int (Q 1), .ref v1, .int (er_ex X Y 1), .int (er_ey X Y 1), .int (er_ea X Y 1), .int (er_ed X Y 1), .int (er_lw (er_ea X Y 1) (er_ed X Y 1))])), (h3, .inr (0, [.int (X 2), .int (Y 2), .int (D 2), .int (Q 2), .ref v2, .int (er_ex X Y 2), .int (er_ey X Y 2), .int (er_ea X Y 2), .int (er_ed X Y 2), .int (er_lw (er_ea X Y 2) (er_ed X Y 2))]))] (va_A [(h0, .inr (1, [.ref h1, .ref h2, .ref h3, .long ar, .int wx, .int wy, .int ww, .int wh, .int wk, .int on, .int lx, .int ly])), (h1, .inr (0, [.int (X 0), .int (Y 0), .int (D 0), .int (Q 0), .ref v0, .int ex0, .int ey0, .int ea0, .int ed0, .int lw0])), (h2, .inr (0, [.int (X 1), .int (Y 1), .int (D 1), .int (Q 1), .ref v1, .int ex1, .int ey1, .int ea1, .int ed1, .int lw1])), (h3, .inr (0, [.int (X 2), .int (Y 2), .int (D 2), .int (Q 2), .ref v2, .int ex2, .int ey2, .int ea2, .int ed2, .int lw2]))] sz) t) (va_A [(h0, .inr (1, [.ref h1, .ref h2, .ref h3, .long ar, .int wx, .int wy, .int ww, .int wh, .int wk, .int on, .int lx, .int ly])), (h1, .inr (0, [.int (X 0), .int (Y 0), .int (D 0), .int (Q 0), .ref v0, .int ex0, .int ey0, .int ea0, .int ed0, .int lw0])), (h2, .inr (0, [.int (X 1), .int (Y 1), .int (D 1), .int (Q 1), .ref v1, .int ex1, .int ey1, .int ea1, .int ed1, .int lw1])), (h3, .inr (0, [.int (X 2), .int (Y 2), .int (D 2), .int (Q 2), .ref v2, .int ex2, .int ey2, .int ea2, .int ed2, .int lw2]))] sz)) 0 0 (va_A [(h0, .inr (1, [.ref h1, .ref h2, .ref h3, .long ar, .int wx, .int wy, .int ww, .int wh, .int wk, .int on, .int lx, .int ly])), (h1, .inr (0, [.int (X 0), .int (Y 0), .int (D 0), .int (Q 0), .ref v0, .int ex0, .int ey0, .int ea0, .int ed0, .int lw0])), (h2, .inr (0, [.int (X 1), .int (Y 1), .int (D 1), .int (Q 1), .ref v1, .int ex1, .int ey1, .int ea1, .int ed1, .int lw1])), (h3, .inr (0, [.int (X 2), .int (Y 2), .int (D 2), .int (Q 2), .ref v2, .int ex2, .int ey2, .int ea2, .int ed2, .int lw2]))] sz) := by
  refine Met.ofW (cc := b_E_layTriangle) (maxL := 1) (ret := none) (by decide +kernel) rfl ?_
  intro p e s m args below meth c s₁ B hml hv
  obtain ⟨rfl, hsz, hN, hK, hP, hD0⟩ := hv
  have hx := B.exec
  have hb := B.bytes
  have hr := B.returns
  have hts := er_hts (atoms_spec (ws := w_E_layTriangle) B.pre)
  have hown : s.vm.findClass R_E = some m.cls := findClass_of_methodNamed B.named
  have hlocks := B.notSynchronized
  subst hsz
  have hD := hD0.self (sz := s.heap.size)
  generalize hAe : va_A [(h0, .inr (1, [.ref h1, .ref h2, .ref h3, .long ar, .int wx, .int wy, .int ww, .int wh, .int wk, .int on, .int lx, .int ly])), (h1, .inr (0, [.int (X 0), .int (Y 0), .int (D 0), .int (Q 0), .ref v0, .int ex0, .int ey0, .int ea0, .int ed0, .int lw0])), (h2, .inr (0, [.int (X 1), .int (Y 1), .int (D 1), .int (Q 1), .ref v1, .int ex1, .int ey1, .int ea1, .int ed1, .int lw1])), (h3, .inr (0, [.int (X 2), .int (Y 2), .int (D 2), .int (Q 2), .ref v2, .int ex2, .int ey2, .int ea2, .int ed2, .int lw2]))] s.heap.size = A at hD ⊢
  have hA : ∀ q : Nat, s.heap.size ≤ q → A q := fun q h => by rw [← hAe]; exact Or.inr h
  have hS : va_S A s.heap s.heap [] := va_S.rf
  have hP : va_P (dC, dI) classes [(h0, .inr (1, [.ref h1, .ref h2, .ref h3, .long ar, .int wx, .int wy, .int ww, .int wh, .int wk, .int on, .int lx, .int ly])), (h1, .inr (0, [.int (X 0), .int (Y 0), .int (D 0), .int (Q 0), .ref v0, .int ex0, .int ey0, .int ea0, .int ed0, .int lw0])), (h2, .inr (0, [.int (X 1), .int (Y 1), .int (D 1), .int (Q 1), .ref v1, .int ex1, .int ey1, .int ea1, .int ed1, .int lw1])), (h3, .inr (0, [.int (X 2), .int (Y 2), .int (D 2), .int (Q 2), .ref v2, .int ex2, .int ey2, .int ea2, .int ed2, .int lw2]))] s.heap := hP
  have hl := lv_entry ([.ref h0]) (n := 1) (Nat.le_of_ble_eq_true rfl)
  rw [lg_entry_eq]
  generalize (lg_sl ([.ref h0]) ++ List.replicate (1 - (lg_sl ([.ref h0])).length) Slot.unset).toArray = ls at hl ⊢
  have hl : lv_has ls 1 [(0, .ref h0)] := hl
  refine lv_aload_n hx hb d_E_layTriangle_0 rfl (lv_at hl 0 rfl) ?_
  refine lv_aload_n hx hb d_E_layTriangle_1 rfl (lv_at hl 0 rfl) ?_
  refine va_get (D := (dC, dI)) (ci := 1) (v := .ref h2) (C := R_E) (T := F_E) (N := 12) hx hb hts i_E hown hK hP 0 rfl rfl 1 (by decide) (hts _ k_73) (fun _ h9 => h9) rfl d_E_layTriangle_2 ?_
  refine va_getN (D := (dC, dI)) (ci := 0) (v := .int (X 1)) (C := R_C) (T := F_C) (N := 10) hx hb hts i_C hown hK hP 2 rfl rfl 0 (by decide) (va_Nw.use rfl (hN _ kn_1)) (fun _ h9 => h9) rfl d_E_layTriangle_5 ?_
  refine lv_aload_n hx hb d_E_layTriangle_8 rfl (lv_at hl 0 rfl) ?_
  refine va_get (D := (dC, dI)) (ci := 1) (v := .ref h1) (C := R_E) (T := F_E) (N := 12) hx hb hts i_E hown hK hP 0 rfl rfl 0 (by decide) (hts _ k_72) (fun _ h9 => h9) rfl d_E_layTriangle_9 ?_
  refine va_getN (D := (dC, dI)) (ci := 0) (v := .int (X 0)) (C := R_C) (T := F_C) (N := 10) hx hb hts i_C hown hK hP 1 rfl rfl 0 (by decide) (va_Nw.use rfl (hN _ kn_1)) (fun _ h9 => h9) rfl d_E_layTriangle_12 ?_
  refine lv_isub hx hb d_E_layTriangle_15 ?_
  refine lv_i2l (v := ((X 1) - (X 0)).toInt64) hx hb d_E_layTriangle_16 rfl ?_
  refine lv_aload_n hx hb d_E_layTriangle_17 rfl (lv_at hl 0 rfl) ?_
  refine va_get (D := (dC, dI)) (ci := 1) (v := .ref h3) (C := R_E) (T := F_E) (N := 12) hx hb hts i_E hown hK hP 0 rfl rfl 2 (by decide) (hts _ k_74) (fun _ h9 => h9) rfl d_E_layTriangle_18 ?_
  refine va_getN (D := (dC, dI)) (ci := 0) (v := .int (Y 2)) (C := R_C) (T := F_C) (N := 10) hx hb hts i_C hown hK hP 3 rfl rfl 1 (by decide) (va_Nw.use rfl (hN _ kn_2)) (fun _ h9 => h9) rfl d_E_layTriangle_21 ?_
  refine lv_aload_n hx hb d_E_layTriangle_24 rfl (lv_at hl 0 rfl) ?_
  refine va_get (D := (dC, dI)) (ci := 1) (v := .ref h1) (C := R_E) (T := F_E) (N := 12) hx hb hts i_E hown hK hP 0 rfl rfl 0 (by decide) (hts _ k_72) (fun _ h9 => h9) rfl d_E_layTriangle_25 ?_
  refine va_getN (D := (dC, dI)) (ci := 0) (v := .int (Y 0)) (C := R_C) (T := F_C) (N := 10) hx hb hts i_C hown hK hP 1 rfl rfl 1 (by decide) (va_Nw.use rfl (hN _ kn_2)) (fun _ h9 => h9) rfl d_E_layTriangle_28 ?_
  refine lv_isub hx hb d_E_layTriangle_31 ?_
  refine lv_i2l (v := ((Y 2) - (Y 0)).toInt64) hx hb d_E_layTriangle_32 rfl ?_
  refine lv_lmul hx hb d_E_layTriangle_33 ?_
  refine lv_aload_n hx hb d_E_layTriangle_34 rfl (lv_at hl 0 rfl) ?_
  refine va_get (D := (dC, dI)) (ci := 1) (v := .ref h3) (C := R_E) (T := F_E) (N := 12) hx hb hts i_E hown hK hP 0 rfl rfl 2 (by decide) (hts _ k_74) (fun _ h9 => h9) rfl d_E_layTriangle_35 ?_
  refine va_getN (D := (dC, dI)) (ci := 0) (v := .int (X 2)) (C := R_C) (T := F_C) (N := 10) hx hb hts i_C hown hK hP 3 rfl rfl 0 (by decide) (va_Nw.use rfl (hN _ kn_1)) (fun _ h9 => h9) rfl d_E_layTriangle_38 ?_
  refine lv_aload_n hx hb d_E_layTriangle_41 rfl (lv_at hl 0 rfl) ?_
  refine va_get (D := (dC, dI)) (ci := 1) (v := .ref h1) (C := R_E) (T := F_E) (N := 12) hx hb hts i_E hown hK hP 0 rfl rfl 0 (by decide) (hts _ k_72) (fun _ h9 => h9) rfl d_E_layTriangle_42 ?_
  refine va_getN (D := (dC, dI)) (ci := 0) (v := .int (X 0)) (C := R_C) (T := F_C) (N := 10) hx hb hts i_C hown hK hP 1 rfl rfl 0 (by decide) (va_Nw.use rfl (hN _ kn_1)) (fun _ h9 => h9) rfl d_E_layTriangle_45 ?_
  refine lv_isub hx hb d_E_layTriangle_48 ?_
  refine lv_i2l (v := ((X 2) - (X 0)).toInt64) hx hb d_E_layTriangle_49 rfl ?_
  refine lv_aload_n hx hb d_E_layTriangle_50 rfl (lv_at hl 0 rfl) ?_
  refine va_get (D := (dC, dI)) (ci := 1) (v := .ref h2) (C := R_E) (T := F_E) (N := 12) hx hb hts i_E hown hK hP 0 rfl rfl 1 (by decide) (hts _ k_73) (fun _ h9 => h9) rfl d_E_layTriangle_51 ?_
  refine va_getN (D := (dC, dI)) (ci := 0) (v := .int (Y 1)) (C := R_C) (T := F_C) (N := 10) hx hb hts i_C hown hK hP 2 rfl rfl 1 (by decide) (va_Nw.use rfl (hN _ kn_2)) (fun _ h9 => h9) rfl d_E_layTriangle_54 ?_
  refine lv_aload_n hx hb d_E_layTriangle_57 rfl (lv_at hl 0 rfl) ?_
  refine va_get (D := (dC, dI)) (ci := 1) (v := .ref h1) (C := R_E) (T := F_E) (N := 12) hx hb hts i_E hown hK hP 0 rfl rfl 0 (by decide) (hts _ k_72) (fun _ h9 => h9) rfl d_E_layTriangle_58 ?_
  refine va_getN (D := (dC, dI)) (ci := 0) (v := .int (Y 0)) (C := R_C) (T := F_C) (N := 10) hx hb hts i_C hown hK hP 1 rfl rfl 1 (by decide) (va_Nw.use rfl (hN _ kn_2)) (fun _ h9 => h9) rfl d_E_layTriangle_61 ?_
  refine lv_isub hx hb d_E_layTriangle_64 ?_
  refine lv_i2l (v := ((Y 1) - (Y 0)).toInt64) hx hb d_E_layTriangle_65 rfl ?_
  refine lv_lmul hx hb d_E_layTriangle_66 ?_
  refine lv_lsub hx hb d_E_layTriangle_67 ?_
  refine lv_topl (x := ((((X 1) - (X 0)).toInt64) * (((Y 2) - (Y 0)).toInt64)) - ((((X 2) - (X 0)).toInt64) * (((Y 1) - (Y 0)).toInt64))) (fun y9 e9 => ?_)
  obtain rfl : y9 = er_ar X Y := by rw [e9]; exact er_ar_c X Y
  refine va_put (D := (dC, dI)) (ci := 1) (v := .long (er_ar X Y)) (ty := .long) (C := R_E) (T := F_E) (N := 12) hx hb hts i_E t_E t_E_ok n_E hown hK hP hD hS 0 rfl rfl 3 (by decide) (hts _ k_75) (fun _ h9 => h9) rfl (by decide +kernel) rfl rfl (Nat.le_of_ble_eq_true rfl) d_E_layTriangle_68 (fun H locs hP hD hS => ?_)
  have hP : va_P (dC, dI) classes [(h0, .inr (1, [.ref h1, .ref h2, .ref h3, .long (er_ar X Y), .int wx, .int wy, .int ww, .int wh, .int wk, .int on, .int lx, .int ly])), (h1, .inr (0, [.int (X 0), .int (Y 0), .int (D 0), .int (Q 0), .ref v0, .int ex0, .int ey0, .int ea0, .int ed0, .int lw0])), (h2, .inr (0, [.int (X 1), .int (Y 1), .int (D 1), .int (Q 1), .ref v1, .int ex1, .int ey1, .int ea1, .int ed1, .int lw1])), (h3, .inr (0, [.int (X 2), .int (Y 2), .int (D 2), .int (Q 2), .ref v2, .int ex2, .int ey2, .int ea2, .int ed2, .int lw2]))] H := hP
  have hD : va_D A [(h0, .inr (1, [.ref h1, .ref h2, .ref h3, .long (er_ar X Y), .int wx, .int wy, .int ww, .int wh, .int wk, .int on, .int lx, .int ly])), (h1, .inr (0, [.int (X 0), .int (Y 0), .int (D 0), .int (Q 0), .ref v0, .int ex0, .int ey0, .int ea0, .int ed0, .int lw0])), (h2, .inr (0, [.int (X 1), .int (Y 1), .int (D 1), .int (Q 1), .ref v1, .int ex1, .int ey1, .int ea1, .int ed1, .int lw1])), (h3, .inr (0, [.int (X 2), .int (Y 2), .int (D 2), .int (Q 2), .ref v2, .int ex2, .int ey2, .int ea2, .int ed2, .int lw2]))] := hD
  refine lv_aload_n hx hb d_E_layTriangle_71 rfl (lv_at hl 0 rfl) ?_
  refine va_get (D := (dC, dI)) (ci := 1) (v := .long (er_ar X Y)) (C := R_E) (T := F_E) (N := 12) hx hb hts i_E hown hK hP 0 rfl rfl 3 (by decide) (hts _ k_75) (fun _ h9 => h9) rfl d_E_layTriangle_72 ?_
  refine lv_lconst (v := 0) hx hb d_E_layTriangle_75 (by decide) ?_
  refine W.lcmp hx hb d_E_layTriangle_76 ?_
  refine lv_if_ge (tgt := 128) hx hb d_E_layTriangle_77 (by decide) (fun c_1 => ?_) (fun c_1 => ?_)
  · rw [lg_cmp_ge] at c_1
    refine lv_aload_n hx hb d_E_layTriangle_128 rfl (lv_at hl 0 rfl) ?_
    refine va_get (D := (dC, dI)) (ci := 1) (v := .ref h1) (C := R_E) (T := F_E) (N := 12) hx hb hts i_E hown hK hP 0 rfl rfl 0 (by decide) (hts _ k_72) (fun _ h9 => h9) rfl d_E_layTriangle_129 ?_
    refine lv_aload_n hx hb d_E_layTriangle_132 rfl (lv_at hl 0 rfl) ?_
    refine va_get (D := (dC, dI)) (ci := 1) (v := .ref h2) (C := R_E) (T := F_E) (N := 12) hx hb hts i_E hown hK hP 0 rfl rfl 1 (by decide) (hts _ k_73) (fun _ h9 => h9) rfl d_E_layTriangle_133 ?_
    refine lv_aload_n hx hb d_E_layTriangle_136 rfl (lv_at hl 0 rfl) ?_
    refine va_get (D := (dC, dI)) (ci := 1) (v := .ref h3) (C := R_E) (T := F_E) (N := 12) hx hb hts i_E hown hK hP 0 rfl rfl 2 (by decide) (hts _ k_74) (fun _ h9 => h9) rfl d_E_layTriangle_137 ?_
    have hPc := hP.sub (ws' := [(h1, .inr (0, [.int (X 0), .int (Y 0), .int (D 0), .int (Q 0), .ref v0, .int ex0, .int ey0, .int ea0, .int ed0, .int lw0])), (h2, .inr (0, [.int (X 1), .int (Y 1), .int (D 1), .int (Q 1), .ref v1, .int ex1, .int ey1, .int ea1, .int ed1, .int lw1])), (h3, .inr (0, [.int (X 2), .int (Y 2), .int (D 2), .int (Q 2), .ref v2, .int ex2, .int ey2, .int ea2, .int ed2, .int lw2]))]) [1, 2, 3] rfl
    have hDc := hD.sub (ws' := [(h1, .inr (0, [.int (X 0), .int (Y 0), .int (D 0), .int (Q 0), .ref v0, .int ex0, .int ey0, .int ea0, .int ed0, .int lw0])), (h2, .inr (0, [.int (X 1), .int (Y 1), .int (D 1), .int (Q 1), .ref v1, .int ex1, .int ey1, .int ea1, .int ed1, .int lw1])), (h3, .inr (0, [.int (X 2), .int (Y 2), .int (D 2), .int (Q 2), .ref v2, .int ex2, .int ey2, .int ea2, .int ed2, .int lw2]))]) [1, 2, 3] (by decide) rfl
    have hKc := hK.sub (tys' := []) [] rfl
    have hFc := va_free (wc := [(h1, .inr (0, [.int (X 0), .int (Y 0), .int (D 0), .int (Q 0), .ref v0, .int ex0, .int ey0, .int ea0, .int ed0, .int lw0])), (h2, .inr (0, [.int (X 1), .int (Y 1), .int (D 1), .int (Q 1), .ref v1, .int ex1, .int ey1, .int ea1, .int ed1, .int lw1])), (h3, .inr (0, [.int (X 2), .int (Y 2), .int (D 2), .int (Q 2), .ref v2, .int ex2, .int ey2, .int ea2, .int ed2, .int lw2]))]) hD hS hA [1, 2, 3] rfl
    refine va_callv (va_runVN (As := [.ref h2, .ref h3]) (rest := []) ⟨hx, hb, hml, hown, hts⟩ (c_C_layEdge l dC dI h1 v0 h2 v1 h3 v2 (X 0) (Y 0) (D 0) (Q 0) ex0 ey0 ea0 ed0 lw0 (X 1) (Y 1) (D 1) (Q 1) ex1 ey1 ea1 ed1 lw1 (X 2) (Y 2) (D 2) (Q 2) ex2 ey2 ea2 ed2 lw2 H.size) ⟨va_cnB 2 hts (er_gB k_207) rfl rfl rfl (hN _ kn_7) (hts _ k_19) (by decide +kernel) ⟨Nat.le_of_ble_eq_true rfl, Nat.le_of_ble_eq_true rfl⟩, hts _ k_206, hts _ k_6⟩ ⟨PI.blind, va_recv hKc hPc (ci := 0) (q0 := 0) rfl rfl, PI.at hN hKc hPc hDc⟩ rfl rfl hl.1 rfl (lv_room (Nat.le_of_ble_eq_true rfl)) d_E_layTriangle_140 ⟨Nat.le_of_ble_eq_true rfl, Nat.le_of_ble_eq_true rfl⟩) hS (fun q _ h => hFc q h) hFc (fun u t H1 locs ht hvm hw hB hz1 hk1 hS => ?_)
    obtain ⟨hP1, hK1, hD1⟩ := hB
    rw [ht] at hP1
    have hK1 := va_K.moved hvm.symm hK1
    obtain ⟨hP, hD⟩ := va_join (wr := [(h0, .inr (1, [.ref h1, .ref h2, .ref h3, .long (er_ar X Y), .int wx, .int wy, .int ww, .int wh, .int wk, .int on, .int lx, .int ly]))]) (w1 := [(h1, .inr (0, [.int (X 0), .int (Y 0), .int (D 0), .int (Q 0), .ref v0, .int (X 1), .int (Y 1), .int ((X 2) - (X 1)), .int ((Y 2) - (Y 1)), .int (er_lw ((X 2) - (X 1)) ((Y 2) - (Y 1)))])), (h2, .inr (0, [.int (X 1), .int (Y 1), .int (D 1), .int (Q 1), .ref v1, .int ex1, .int ey1, .int ea1, .int ed1, .int lw1])), (h3, .inr (0, [.int (X 2), .int (Y 2), .int (D 2), .int (Q 2), .ref v2, .int ex2, .int ey2, .int ea2, .int ed2, .int lw2]))]) hP hD [1, 2, 3] [0] rfl rfl (by decide) (by decide) hk1 hFc hP1 hD1
    have hK := (hK.sub (tys' := []) [] rfl).app hK1
    generalize H1 = H at hP hS ⊢
    have hP : va_P (dC, dI) classes [(h0, .inr (1, [.ref h1, .ref h2, .ref h3, .long (er_ar X Y), .int wx, .int wy, .int ww, .int wh, .int wk, .int on, .int lx, .int ly])), (h1, .inr (0, [.int (X 0), .int (Y 0), .int (D 0), .int (Q 0), .ref v0, .int (X 1), .int (Y 1), .int ((X 2) - (X 1)), .int ((Y 2) - (Y 1)), .int (er_lw ((X 2) - (X 1)) ((Y 2) - (Y 1)))])), (h2, .inr (0, [.int (X 1), .int (Y 1), .int (D 1), .int (Q 1), .ref v1, .int ex1, .int ey1, .int ea1, .int ed1, .int lw1])), (h3, .inr (0, [.int (X 2), .int (Y 2), .int (D 2), .int (Q 2), .ref v2, .int ex2, .int ey2, .int ea2, .int ed2, .int lw2]))] H := hP
    have hD : va_D A [(h0, .inr (1, [.ref h1, .ref h2, .ref h3, .long (er_ar X Y), .int wx, .int wy, .int ww, .int wh, .int wk, .int on, .int lx, .int ly])), (h1, .inr (0, [.int (X 0), .int (Y 0), .int (D 0), .int (Q 0), .ref v0, .int (X 1), .int (Y 1), .int ((X 2) - (X 1)), .int ((Y 2) - (Y 1)), .int (er_lw ((X 2) - (X 1)) ((Y 2) - (Y 1)))])), (h2, .inr (0, [.int (X 1), .int (Y 1), .int (D 1), .int (Q 1), .ref v1, .int ex1, .int ey1, .int ea1, .int ed1, .int lw1])), (h3, .inr (0, [.int (X 2), .int (Y 2), .int (D 2), .int (Q 2), .ref v2, .int ex2, .int ey2, .int ea2, .int ed2, .int lw2]))] := hD
    have hK : va_K (dC, dI) classes [] s := hK
    refine lv_aload_n hx hb d_E_layTriangle_143 rfl (lv_at hl 0 rfl) ?_
    refine va_get (D := (dC, dI)) (ci := 1) (v := .ref h2) (C := R_E) (T := F_E) (N := 12) hx hb hts i_E hown hK hP 0 rfl rfl 1 (by decide) (hts _ k_73) (fun _ h9 => h9) rfl d_E_layTriangle_144 ?_
    refine lv_aload_n hx hb d_E_layTriangle_147 rfl (lv_at hl 0 rfl) ?_
    refine va_get (D := (dC, dI)) (ci := 1) (v := .ref h3) (C := R_E) (T := F_E) (N := 12) hx hb hts i_E hown hK hP 0 rfl rfl 2 (by decide) (hts _ k_74) (fun _ h9 => h9) rfl d_E_layTriangle_148 ?_
    refine lv_aload_n hx hb d_E_layTriangle_151 rfl (lv_at hl 0 rfl) ?_
    refine va_get (D := (dC, dI)) (ci := 1) (v := .ref h1) (C := R_E) (T := F_E) (N := 12) hx hb hts i_E hown hK hP 0 rfl rfl 0 (by decide) (hts _ k_72) (fun _ h9 => h9) rfl d_E_layTriangle_152 ?_
    have hPc := hP.sub (ws' := [(h2, .inr (0, [.int (X 1), .int (Y 1), .int (D 1), .int (Q 1), .ref v1, .int ex1, .int ey1, .int ea1, .int ed1, .int lw1])), (h3, .inr (0, [.int (X 2), .int (Y 2), .int (D 2), .int (Q 2), .ref v2, .int ex2, .int ey2, .int ea2, .int ed2, .int lw2])), (h1, .inr (0, [.int (X 0), .int (Y 0), .int (D 0), .int (Q 0), .ref v0, .int (X 1), .int (Y 1), .int ((X 2) - (X 1)), .int ((Y 2) - (Y 1)), .int (er_lw ((X 2) - (X 1)) ((Y 2) - (Y 1)))]))]) [2, 3, 1] rfl
    have hDc := hD.sub (ws' := [(h2, .inr (0, [.int (X 1), .int (Y 1), .int (D 1), .int (Q 1), .ref v1, .int ex1, .int ey1, .int ea1, .int ed1, .int lw1])), (h3, .inr (0, [.int (X 2), .int (Y 2), .int (D 2), .int (Q 2), .ref v2, .int ex2, .int ey2, .int ea2, .int ed2, .int lw2])), (h1, .inr (0, [.int (X 0), .int (Y 0), .int (D 0), .int (Q 0), .ref v0, .int (X 1), .int (Y 1), .int ((X 2) - (X 1)), .int ((Y 2) - (Y 1)), .int (er_lw ((X 2) - (X 1)) ((Y 2) - (Y 1)))]))]) [2, 3, 1] (by decide) rfl
    have hKc := hK.sub (tys' := []) [] rfl
    have hFc := va_free (wc := [(h2, .inr (0, [.int (X 1), .int (Y 1), .int (D 1), .int (Q 1), .ref v1, .int ex1, .int ey1, .int ea1, .int ed1, .int lw1])), (h3, .inr (0, [.int (X 2), .int (Y 2), .int (D 2), .int (Q 2), .ref v2, .int ex2, .int ey2, .int ea2, .int ed2, .int lw2])), (h1, .inr (0, [.int (X 0), .int (Y 0), .int (D 0), .int (Q 0), .ref v0, .int (X 1), .int (Y 1), .int ((X 2) - (X 1)), .int ((Y 2) - (Y 1)), .int (er_lw ((X 2) - (X 1)) ((Y 2) - (Y 1)))]))]) hD hS hA [2, 3, 1] rfl
    refine va_callv (va_runVN (As := [.ref h3, .ref h1]) (rest := []) ⟨hx, hb, hml, hown, hts⟩ (c_C_layEdge l dC dI h2 v1 h3 v2 h1 v0 (X 1) (Y 1) (D 1) (Q 1) ex1 ey1 ea1 ed1 lw1 (X 2) (Y 2) (D 2) (Q 2) ex2 ey2 ea2 ed2 lw2 (X 0) (Y 0) (D 0) (Q 0) (X 1) (Y 1) ((X 2) - (X 1)) ((Y 2) - (Y 1)) (er_lw ((X 2) - (X 1)) ((Y 2) - (Y 1))) H.size) ⟨va_cnB 2 hts (er_gB k_207) rfl rfl rfl (hN _ kn_7) (hts _ k_19) (by decide +kernel) ⟨Nat.le_of_ble_eq_true rfl, Nat.le_of_ble_eq_true rfl⟩, hts _ k_206, hts _ k_6⟩ ⟨PI.blind, va_recv hKc hPc (ci := 0) (q0 := 0) rfl rfl, PI.at hN hKc hPc hDc⟩ rfl rfl hl.1 rfl (lv_room (Nat.le_of_ble_eq_true rfl)) d_E_layTriangle_155 ⟨Nat.le_of_ble_eq_true rfl, Nat.le_of_ble_eq_true rfl⟩) hS (fun q _ h => hFc q h) hFc (fun u t H1 locs ht hvm hw hB hz1 hk1 hS => ?_)
    obtain ⟨hP1, hK1, hD1⟩ := hB
    rw [ht] at hP1
    have hK1 := va_K.moved hvm.symm hK1
    obtain ⟨hP, hD⟩ := va_join (wr := [(h0, .inr (1, [.ref h1, .ref h2, .ref h3, .long (er_ar X Y), .int wx, .int wy, .int ww, .int wh, .int wk, .int on, .int lx, .int ly]))]) (w1 := [(h2, .inr (0, [.int (X 1), .int (Y 1), .int (D 1), .int (Q 1), .ref v1, .int (X 2), .int (Y 2), .int ((X 0) - (X 2)), .int ((Y 0) - (Y 2)), .int (er_lw ((X 0) - (X 2)) ((Y 0) - (Y 2)))])), (h3, .inr (0, [.int (X 2), .int (Y 2), .int (D 2), .int (Q 2), .ref v2, .int ex2, .int ey2, .int ea2, .int ed2, .int lw2])), (h1, .inr (0, [.int (X 0), .int (Y 0), .int (D 0), .int (Q 0), .ref v0, .int (X 1), .int (Y 1), .int ((X 2) - (X 1)), .int ((Y 2) - (Y 1)), .int (er_lw ((X 2) - (X 1)) ((Y 2) - (Y 1)))]))]) hP hD [2, 3, 1] [0] rfl rfl (by decide) (by decide) hk1 hFc hP1 hD1
    have hK := (hK.sub (tys' := []) [] rfl).app hK1
    generalize H1 = H at hP hS ⊢
    have hP : va_P (dC, dI) classes [(h0, .inr (1, [.ref h1, .ref h2, .ref h3, .long (er_ar X Y), .int wx, .int wy, .int ww, .int wh, .int wk, .int on, .int lx, .int ly])), (h2, .inr (0, [.int (X 1), .int (Y 1), .int (D 1), .int (Q 1), .ref v1, .int (X 2), .int (Y 2), .int ((X 0) - (X 2)), .int ((Y 0) - (Y 2)), .int (er_lw ((X 0) - (X 2)) ((Y 0) - (Y 2)))])), (h3, .inr (0, [.int (X 2), .int (Y 2), .int (D 2), .int (Q 2), .ref v2, .int ex2, .int ey2, .int ea2, .int ed2, .int lw2])), (h1, .inr (0, [.int (X 0), .int (Y 0), .int (D 0), .int (Q 0), .ref v0, .int (X 1), .int (Y 1), .int ((X 2) - (X 1)), .int ((Y 2) - (Y 1)), .int (er_lw ((X 2) - (X 1)) ((Y 2) - (Y 1)))]))] H := hP
    have hD : va_D A [(h0, .inr (1, [.ref h1, .ref h2, .ref h3, .long (er_ar X Y), .int wx, .int wy, .int ww, .int wh, .int wk, .int on, .int lx, .int ly])), (h2, .inr (0, [.int (X 1), .int (Y 1), .int (D 1), .int (Q 1), .ref v1, .int (X 2), .int (Y 2), .int ((X 0) - (X 2)), .int ((Y 0) - (Y 2)), .int (er_lw ((X 0) - (X 2)) ((Y 0) - (Y 2)))])), (h3, .inr (0, [.int (X 2), .int (Y 2), .int (D 2), .int (Q 2), .ref v2, .int ex2, .int ey2, .int ea2, .int ed2, .int lw2])), (h1, .inr (0, [.int (X 0), .int (Y 0), .int (D 0), .int (Q 0), .ref v0, .int (X 1), .int (Y 1), .int ((X 2) - (X 1)), .int ((Y 2) - (Y 1)), .int (er_lw ((X 2) - (X 1)) ((Y 2) - (Y 1)))]))] := hD
    have hK : va_K (dC, dI) classes [] s := hK
    refine lv_aload_n hx hb d_E_layTriangle_158 rfl (lv_at hl 0 rfl) ?_
    refine va_get (D := (dC, dI)) (ci := 1) (v := .ref h3) (C := R_E) (T := F_E) (N := 12) hx hb hts i_E hown hK hP 0 rfl rfl 2 (by decide) (hts _ k_74) (fun _ h9 => h9) rfl d_E_layTriangle_159 ?_
    refine lv_aload_n hx hb d_E_layTriangle_162 rfl (lv_at hl 0 rfl) ?_
    refine va_get (D := (dC, dI)) (ci := 1) (v := .ref h1) (C := R_E) (T := F_E) (N := 12) hx hb hts i_E hown hK hP 0 rfl rfl 0 (by decide) (hts _ k_72) (fun _ h9 => h9) rfl d_E_layTriangle_163 ?_
    refine lv_aload_n hx hb d_E_layTriangle_166 rfl (lv_at hl 0 rfl) ?_
    refine va_get (D := (dC, dI)) (ci := 1) (v := .ref h2) (C := R_E) (T := F_E) (N := 12) hx hb hts i_E hown hK hP 0 rfl rfl 1 (by decide) (hts _ k_73) (fun _ h9 => h9) rfl d_E_layTriangle_167 ?_
    have hPc := hP.sub (ws' := [(h3, .inr (0, [.int (X 2), .int (Y 2), .int (D 2), .int (Q 2), .ref v2, .int ex2, .int ey2, .int ea2, .int ed2, .int lw2])), (h1, .inr (0, [.int (X 0), .int (Y 0), .int (D 0), .int (Q 0), .ref v0, .int (X 1), .int (Y 1), .int ((X 2) - (X 1)), .int ((Y 2) - (Y 1)), .int (er_lw ((X 2) - (X 1)) ((Y 2) - (Y 1)))])), (h2, .inr (0, [.int (X 1), .int (Y 1), .int (D 1), .int (Q 1), .ref v1, .int (X 2), .int (Y 2), .int ((X 0) - (X 2)), .int ((Y 0) - (Y 2)), .int (er_lw ((X 0) - (X 2)) ((Y 0) - (Y 2)))]))]) [2, 3, 1] rfl
    have hDc := hD.sub (ws' := [(h3, .inr (0, [.int (X 2), .int (Y 2), .int (D 2), .int (Q 2), .ref v2, .int ex2, .int ey2, .int ea2, .int ed2, .int lw2])), (h1, .inr (0, [.int (X 0), .int (Y 0), .int (D 0), .int (Q 0), .ref v0, .int (X 1), .int (Y 1), .int ((X 2) - (X 1)), .int ((Y 2) - (Y 1)), .int (er_lw ((X 2) - (X 1)) ((Y 2) - (Y 1)))])), (h2, .inr (0, [.int (X 1), .int (Y 1), .int (D 1), .int (Q 1), .ref v1, .int (X 2), .int (Y 2), .int ((X 0) - (X 2)), .int ((Y 0) - (Y 2)), .int (er_lw ((X 0) - (X 2)) ((Y 0) - (Y 2)))]))]) [2, 3, 1] (by decide) rfl
    have hKc := hK.sub (tys' := []) [] rfl
    have hFc := va_free (wc := [(h3, .inr (0, [.int (X 2), .int (Y 2), .int (D 2), .int (Q 2), .ref v2, .int ex2, .int ey2, .int ea2, .int ed2, .int lw2])), (h1, .inr (0, [.int (X 0), .int (Y 0), .int (D 0), .int (Q 0), .ref v0, .int (X 1), .int (Y 1), .int ((X 2) - (X 1)), .int ((Y 2) - (Y 1)), .int (er_lw ((X 2) - (X 1)) ((Y 2) - (Y 1)))])), (h2, .inr (0, [.int (X 1), .int (Y 1), .int (D 1), .int (Q 1), .ref v1, .int (X 2), .int (Y 2), .int ((X 0) - (X 2)), .int ((Y 0) - (Y 2)), .int (er_lw ((X 0) - (X 2)) ((Y 0) - (Y 2)))]))]) hD hS hA [2, 3, 1] rfl
    refine va_callv (va_runVN (As := [.ref h1, .ref h2]) (rest := []) ⟨hx, hb, hml, hown, hts⟩ (c_C_layEdge l dC dI h3 v2 h1 v0 h2 v1 (X 2) (Y 2) (D 2) (Q 2) ex2 ey2 ea2 ed2 lw2 (X 0) (Y 0) (D 0) (Q 0) (X 1) (Y 1) ((X 2) - (X 1)) ((Y 2) - (Y 1)) (er_lw ((X 2) - (X 1)) ((Y 2) - (Y 1))) (X 1) (Y 1) (D 1) (Q 1) (X 2) (Y 2) ((X 0) - (X 2)) ((Y 0) - (Y 2)) (er_lw ((X 0) - (X 2)) ((Y 0) - (Y 2))) H.size) ⟨va_cnB 2 hts (er_gB k_207) rfl rfl rfl (hN _ kn_7) (hts _ k_19) (by decide +kernel) ⟨Nat.le_of_ble_eq_true rfl, Nat.le_of_ble_eq_true rfl⟩, hts _ k_206, hts _ k_6⟩ ⟨PI.blind, va_recv hKc hPc (ci := 0) (q0 := 0) rfl rfl, PI.at hN hKc hPc hDc⟩ rfl rfl hl.1 rfl (lv_room (Nat.le_of_ble_eq_true rfl)) d_E_layTriangle_170 ⟨Nat.le_of_ble_eq_true rfl, Nat.le_of_ble_eq_true rfl⟩) hS (fun q _ h => hFc q h) hFc (fun u t H1 locs ht hvm hw hB hz1 hk1 hS => ?_)
    obtain ⟨hP1, hK1, hD1⟩ := hB
    rw [ht] at hP1
    have hK1 := va_K.moved hvm.symm hK1
    obtain ⟨hP, hD⟩ := va_join (wr := [(h0, .inr (1, [.ref h1, .ref h2, .ref h3, .long (er_ar X Y), .int wx, .int wy, .int ww, .int wh, .int wk, .int on, .int lx, .int ly]))]) (w1 := [(h3, .inr (0, [.int (X 2), .int (Y 2), .int (D 2), .int (Q 2), .ref v2, .int (X 0), .int (Y 0), .int ((X 1) - (X 0)), .int ((Y 1) - (Y 0)), .int (er_lw ((X 1) - (X 0)) ((Y 1) - (Y 0)))])), (h1, .inr (0, [.int (X 0), .int (Y 0), .int (D 0), .int (Q 0), .ref v0, .int (X 1), .int (Y 1), .int ((X 2) - (X 1)), .int ((Y 2) - (Y 1)), .int (er_lw ((X 2) - (X 1)) ((Y 2) - (Y 1)))])), (h2, .inr (0, [.int (X 1), .int (Y 1), .int (D 1), .int (Q 1), .ref v1, .int (X 2), .int (Y 2), .int ((X 0) - (X 2)), .int ((Y 0) - (Y 2)), .int (er_lw ((X 0) - (X 2)) ((Y 0) - (Y 2)))]))]) hP hD [2, 3, 1] [0] rfl rfl (by decide) (by decide) hk1 hFc hP1 hD1
    have hK := (hK.sub (tys' := []) [] rfl).app hK1
    generalize H1 = H at hP hS ⊢
    have hP : va_P (dC, dI) classes [(h0, .inr (1, [.ref h1, .ref h2, .ref h3, .long (er_ar X Y), .int wx, .int wy, .int ww, .int wh, .int wk, .int on, .int lx, .int ly])), (h3, .inr (0, [.int (X 2), .int (Y 2), .int (D 2), .int (Q 2), .ref v2, .int (X 0), .int (Y 0), .int ((X 1) - (X 0)), .int ((Y 1) - (Y 0)), .int (er_lw ((X 1) - (X 0)) ((Y 1) - (Y 0)))])), (h1, .inr (0, [.int (X 0), .int (Y 0), .int (D 0), .int (Q 0), .ref v0, .int (X 1), .int (Y 1), .int ((X 2) - (X 1)), .int ((Y 2) - (Y 1)), .int (er_lw ((X 2) - (X 1)) ((Y 2) - (Y 1)))])), (h2, .inr (0, [.int (X 1), .int (Y 1), .int (D 1), .int (Q 1), .ref v1, .int (X 2), .int (Y 2), .int ((X 0) - (X 2)), .int ((Y 0) - (Y 2)), .int (er_lw ((X 0) - (X 2)) ((Y 0) - (Y 2)))]))] H := hP
    have hD : va_D A [(h0, .inr (1, [.ref h1, .ref h2, .ref h3, .long (er_ar X Y), .int wx, .int wy, .int ww, .int wh, .int wk, .int on, .int lx, .int ly])), (h3, .inr (0, [.int (X 2), .int (Y 2), .int (D 2), .int (Q 2), .ref v2, .int (X 0), .int (Y 0), .int ((X 1) - (X 0)), .int ((Y 1) - (Y 0)), .int (er_lw ((X 1) - (X 0)) ((Y 1) - (Y 0)))])), (h1, .inr (0, [.int (X 0), .int (Y 0), .int (D 0), .int (Q 0), .ref v0, .int (X 1), .int (Y 1), .int ((X 2) - (X 1)), .int ((Y 2) - (Y 1)), .int (er_lw ((X 2) - (X 1)) ((Y 2) - (Y 1)))])), (h2, .inr (0, [.int (X 1), .int (Y 1), .int (D 1), .int (Q 1), .ref v1, .int (X 2), .int (Y 2), .int ((X 0) - (X 2)), .int ((Y 0) - (Y 2)), .int (er_lw ((X 0) - (X 2)) ((Y 0) - (Y 2)))]))] := hD
    have hK : va_K (dC, dI) classes [] s := hK
    have hP9 := hP.sub (ws' := [(h0, .inr (1, [.ref h1, .ref h2, .ref h3, .long (er_ar X Y), .int wx, .int wy, .int ww, .int wh, .int wk, .int on, .int lx, .int ly])), (h1, .inr (0, [.int (X 0), .int (Y 0), .int (D 0), .int (Q 0), .ref v0, .int (X 1), .int (Y 1), .int ((X 2) - (X 1)), .int ((Y 2) - (Y 1)), .int (er_lw ((X 2) - (X 1)) ((Y 2) - (Y 1)))])), (h2, .inr (0, [.int (X 1), .int (Y 1), .int (D 1), .int (Q 1), .ref v1, .int (X 2), .int (Y 2), .int ((X 0) - (X 2)), .int ((Y 0) - (Y 2)), .int (er_lw ((X 0) - (X 2)) ((Y 0) - (Y 2)))])), (h3, .inr (0, [.int (X 2), .int (Y 2), .int (D 2), .int (Q 2), .ref v2, .int (X 0), .int (Y 0), .int ((X 1) - (X 0)), .int ((Y 1) - (Y 0)), .int (er_lw ((X 1) - (X 0)) ((Y 1) - (Y 0)))]))]) [0, 2, 3, 1] rfl
    have hD9 := hD.sub (ws' := [(h0, .inr (1, [.ref h1, .ref h2, .ref h3, .long (er_ar X Y), .int wx, .int wy, .int ww, .int wh, .int wk, .int on, .int lx, .int ly])), (h1, .inr (0, [.int (X 0), .int (Y 0), .int (D 0), .int (Q 0), .ref v0, .int (X 1), .int (Y 1), .int ((X 2) - (X 1)), .int ((Y 2) - (Y 1)), .int (er_lw ((X 2) - (X 1)) ((Y 2) - (Y 1)))])), (h2, .inr (0, [.int (X 1), .int (Y 1), .int (D 1), .int (Q 1), .ref v1, .int (X 2), .int (Y 2), .int ((X 0) - (X 2)), .int ((Y 0) - (Y 2)), .int (er_lw ((X 0) - (X 2)) ((Y 0) - (Y 2)))])), (h3, .inr (0, [.int (X 2), .int (Y 2), .int (D 2), .int (Q 2), .ref v2, .int (X 0), .int (Y 0), .int ((X 1) - (X 0)), .int ((Y 1) - (Y 0)), .int (er_lw ((X 1) - (X 0)) ((Y 1) - (Y 0)))]))]) [0, 2, 3, 1] (by decide) rfl
    have hK9 := hK.sub (tys' := []) [] rfl
    have hP9 : va_P (dC, dI) classes [(h0, .inr (1, [.ref h1, .ref h2, .ref h3, .long (er_ar X Y), .int wx, .int wy, .int ww, .int wh, .int wk, .int on, .int lx, .int ly])), (h1, .inr (0, [.int (X 0), .int (Y 0), .int (D 0), .int (Q 0), .ref v0, .int (er_ex X Y 0), .int (er_ey X Y 0), .int (er_ea X Y 0), .int (er_ed X Y 0), .int (er_lw (er_ea X Y 0) (er_ed X Y 0))])), (h2, .inr (0, [.int (X 1), .int (Y 1), .int (D 1), .int (Q 1), .ref v1, .int (er_ex X Y 1), .int (er_ey X Y 1), .int (er_ea X Y 1), .int (er_ed X Y 1), .int (er_lw (er_ea X Y 1) (er_ed X Y 1))])), (h3, .inr (0, [.int (X 2), .int (Y 2), .int (D 2), .int (Q 2), .ref v2, .int (er_ex X Y 2), .int (er_ey X Y 2), .int (er_ea X Y 2), .int (er_ed X Y 2), .int (er_lw (er_ea X Y 2) (er_ed X Y 2))]))] H := by rw [er_enx_0 c_1, er_eny_0 c_1, er_ena_0 c_1, er_end_0 c_1, er_enx_1 c_1, er_eny_1 c_1, er_ena_1 c_1, er_end_1 c_1, er_enx_2 c_1, er_eny_2 c_1, er_ena_2 c_1, er_end_2 c_1]; exact hP9
    have hD9 : va_D A [(h0, .inr (1, [.ref h1, .ref h2, .ref h3, .long (er_ar X Y), .int wx, .int wy, .int ww, .int wh, .int wk, .int on, .int lx, .int ly])), (h1, .inr (0, [.int (X 0), .int (Y 0), .int (D 0), .int (Q 0), .ref v0, .int (er_ex X Y 0), .int (er_ey X Y 0), .int (er_ea X Y 0), .int (er_ed X Y 0), .int (er_lw (er_ea X Y 0) (er_ed X Y 0))])), (h2, .inr (0, [.int (X 1), .int (Y 1), .int (D 1), .int (Q 1), .ref v1, .int (er_ex X Y 1), .int (er_ey X Y 1), .int (er_ea X Y 1), .int (er_ed X Y 1), .int (er_lw (er_ea X Y 1) (er_ed X Y 1))])), (h3, .inr (0, [.int (X 2), .int (Y 2), .int (D 2), .int (Q 2), .ref v2, .int (er_ex X Y 2), .int (er_ey X Y 2), .int (er_ea X Y 2), .int (er_ed X Y 2), .int (er_lw (er_ea X Y 2) (er_ed X Y 2))]))] := by rw [er_enx_0 c_1, er_eny_0 c_1, er_ena_0 c_1, er_end_0 c_1, er_enx_1 c_1, er_eny_1 c_1, er_ena_1 c_1, er_end_1 c_1, er_enx_2 c_1, er_eny_2 c_1, er_ena_2 c_1, er_end_2 c_1]; exact hD9
    exact W.vret hx hb hr (fun u9 ht hW => ⟨⟨(), rfl, trivial, ⟨by rw [ht]; exact hP9, va_K.moved hW.alike hK9, hD9⟩⟩, hS.F ht⟩) hS.2.2 d_E_layTriangle_173
  · rw [lg_cmp_ge] at c_1
    refine lv_aload_n hx hb d_E_layTriangle_80 rfl (lv_at hl 0 rfl) ?_
    refine va_get (D := (dC, dI)) (ci := 1) (v := .ref h1) (C := R_E) (T := F_E) (N := 12) hx hb hts i_E hown hK hP 0 rfl rfl 0 (by decide) (hts _ k_72) (fun _ h9 => h9) rfl d_E_layTriangle_81 ?_
    refine lv_aload_n hx hb d_E_layTriangle_84 rfl (lv_at hl 0 rfl) ?_
    refine va_get (D := (dC, dI)) (ci := 1) (v := .ref h3) (C := R_E) (T := F_E) (N := 12) hx hb hts i_E hown hK hP 0 rfl rfl 2 (by decide) (hts _ k_74) (fun _ h9 => h9) rfl d_E_layTriangle_85 ?_
    refine lv_aload_n hx hb d_E_layTriangle_88 rfl (lv_at hl 0 rfl) ?_
    refine va_get (D := (dC, dI)) (ci := 1) (v := .ref h2) (C := R_E) (T := F_E) (N := 12) hx hb hts i_E hown hK hP 0 rfl rfl 1 (by decide) (hts _ k_73) (fun _ h9 => h9) rfl d_E_layTriangle_89 ?_
    have hPc := hP.sub (ws' := [(h1, .inr (0, [.int (X 0), .int (Y 0), .int (D 0), .int (Q 0), .ref v0, .int ex0, .int ey0, .int ea0, .int ed0, .int lw0])), (h3, .inr (0, [.int (X 2), .int (Y 2), .int (D 2), .int (Q 2), .ref v2, .int ex2, .int ey2, .int ea2, .int ed2, .int lw2])), (h2, .inr (0, [.int (X 1), .int (Y 1), .int (D 1), .int (Q 1), .ref v1, .int ex1, .int ey1, .int ea1, .int ed1, .int lw1]))]) [1, 3, 2] rfl
    have hDc := hD.sub (ws' := [(h1, .inr (0, [.int (X 0), .int (Y 0), .int (D 0), .int (Q 0), .ref v0, .int ex0, .int ey0, .int ea0, .int ed0, .int lw0])), (h3, .inr (0, [.int (X 2), .int (Y 2), .int (D 2), .int (Q 2), .ref v2, .int ex2, .int ey2, .int ea2, .int ed2, .int lw2])), (h2, .inr (0, [.int (X 1), .int (Y 1), .int (D 1), .int (Q 1), .ref v1, .int ex1, .int ey1, .int ea1, .int ed1, .int lw1]))]) [1, 3, 2] (by decide) rfl
    have hKc := hK.sub (tys' := []) [] rfl
    have hFc := va_free (wc := [(h1, .inr (0, [.int (X 0), .int (Y 0), .int (D 0), .int (Q 0), .ref v0, .int ex0, .int ey0, .int ea0, .int ed0, .int lw0])), (h3, .inr (0, [.int (X 2), .int (Y 2), .int (D 2), .int (Q 2), .ref v2, .int ex2, .int ey2, .int ea2, .int ed2, .int lw2])), (h2, .inr (0, [.int (X 1), .int (Y 1), .int (D 1), .int (Q 1), .ref v1, .int ex1, .int ey1, .int ea1, .int ed1, .int lw1]))]) hD hS hA [1, 3, 2] rfl
    refine va_callv (va_runVN (As := [.ref h3, .ref h2]) (rest := []) ⟨hx, hb, hml, hown, hts⟩ (c_C_layEdge l dC dI h1 v0 h3 v2 h2 v1 (X 0) (Y 0) (D 0) (Q 0) ex0 ey0 ea0 ed0 lw0 (X 2) (Y 2) (D 2) (Q 2) ex2 ey2 ea2 ed2 lw2 (X 1) (Y 1) (D 1) (Q 1) ex1 ey1 ea1 ed1 lw1 H.size) ⟨va_cnB 2 hts (er_gB k_207) rfl rfl rfl (hN _ kn_7) (hts _ k_19) (by decide +kernel) ⟨Nat.le_of_ble_eq_true rfl, Nat.le_of_ble_eq_true rfl⟩, hts _ k_206, hts _ k_6⟩ ⟨PI.blind, va_recv hKc hPc (ci := 0) (q0 := 0) rfl rfl, PI.at hN hKc hPc hDc⟩ rfl rfl hl.1 rfl (lv_room (Nat.le_of_ble_eq_true rfl)) d_E_layTriangle_92 ⟨Nat.le_of_ble_eq_true rfl, Nat.le_of_ble_eq_true rfl⟩) hS (fun q _ h => hFc q h) hFc (fun u t H1 locs ht hvm hw hB hz1 hk1 hS => ?_)
    obtain ⟨hP1, hK1, hD1⟩ := hB
    rw [ht] at hP1
    have hK1 := va_K.moved hvm.symm hK1
    obtain ⟨hP, hD⟩ := va_join (wr := [(h0, .inr (1, [.ref h1, .ref h2, .ref h3, .long (er_ar X Y), .int wx, .int wy, .int ww, .int wh, .int wk, .int on, .int lx, .int ly]))]) (w1 := [(h1, .inr (0, [.int (X 0), .int (Y 0), .int (D 0), .int (Q 0), .ref v0, .int (X 2), .int (Y 2), .int ((X 1) - (X 2)), .int ((Y 1) - (Y 2)), .int (er_lw ((X 1) - (X 2)) ((Y 1) - (Y 2)))])), (h3, .inr (0, [.int (X 2), .int (Y 2), .int (D 2), .int (Q 2), .ref v2, .int ex2, .int ey2, .int ea2, .int ed2, .int lw2])), (h2, .inr (0, [.int (X 1), .int (Y 1), .int (D 1), .int (Q 1), .ref v1, .int ex1, .int ey1, .int ea1, .int ed1, .int lw1]))]) hP hD [1, 3, 2] [0] rfl rfl (by decide) (by decide) hk1 hFc hP1 hD1
    have hK := (hK.sub (tys' := []) [] rfl).app hK1
    generalize H1 = H at hP hS ⊢
    have hP : va_P (dC, dI) classes [(h0, .inr (1, [.ref h1, .ref h2, .ref h3, .long (er_ar X Y), .int wx, .int wy, .int ww, .int wh, .int wk, .int on, .int lx, .int ly])), (h1, .inr (0, [.int (X 0), .int (Y 0), .int (D 0), .int (Q 0), .ref v0, .int (X 2), .int (Y 2), .int ((X 1) - (X 2)), .int ((Y 1) - (Y 2)), .int (er_lw ((X 1) - (X 2)) ((Y 1) - (Y 2)))])), (h3, .inr (0, [.int (X 2), .int (Y 2), .int (D 2), .int (Q 2), .ref v2, .int ex2, .int ey2, .int ea2, .int ed2, .int lw2])), (h2, .inr (0, [.int (X 1), .int (Y 1), .int (D 1), .int (Q 1), .ref v1, .int ex1, .int ey1, .int ea1, .int ed1, .int lw1]))] H := hP
    have hD : va_D A [(h0, .inr (1, [.ref h1, .ref h2, .ref h3, .long (er_ar X Y), .int wx, .int wy, .int ww, .int wh, .int wk, .int on, .int lx, .int ly])), (h1, .inr (0, [.int (X 0), .int (Y 0), .int (D 0), .int (Q 0), .ref v0, .int (X 2), .int (Y 2), .int ((X 1) - (X 2)), .int ((Y 1) - (Y 2)), .int (er_lw ((X 1) - (X 2)) ((Y 1) - (Y 2)))])), (h3, .inr (0, [.int (X 2), .int (Y 2), .int (D 2), .int (Q 2), .ref v2, .int ex2, .int ey2, .int ea2, .int ed2, .int lw2])), (h2, .inr (0, [.int (X 1), .int (Y 1), .int (D 1), .int (Q 1), .ref v1, .int ex1, .int ey1, .int ea1, .int ed1, .int lw1]))] := hD
    have hK : va_K (dC, dI) classes [] s := hK
    refine lv_aload_n hx hb d_E_layTriangle_95 rfl (lv_at hl 0 rfl) ?_
    refine va_get (D := (dC, dI)) (ci := 1) (v := .ref h2) (C := R_E) (T := F_E) (N := 12) hx hb hts i_E hown hK hP 0 rfl rfl 1 (by decide) (hts _ k_73) (fun _ h9 => h9) rfl d_E_layTriangle_96 ?_
    refine lv_aload_n hx hb d_E_layTriangle_99 rfl (lv_at hl 0 rfl) ?_
    refine va_get (D := (dC, dI)) (ci := 1) (v := .ref h1) (C := R_E) (T := F_E) (N := 12) hx hb hts i_E hown hK hP 0 rfl rfl 0 (by decide) (hts _ k_72) (fun _ h9 => h9) rfl d_E_layTriangle_100 ?_
    refine lv_aload_n hx hb d_E_layTriangle_103 rfl (lv_at hl 0 rfl) ?_
    refine va_get (D := (dC, dI)) (ci := 1) (v := .ref h3) (C := R_E) (T := F_E) (N := 12) hx hb hts i_E hown hK hP 0 rfl rfl 2 (by decide) (hts _ k_74) (fun _ h9 => h9) rfl d_E_layTriangle_104 ?_
    have hPc := hP.sub (ws' := [(h2, .inr (0, [.int (X 1), .int (Y 1), .int (D 1), .int (Q 1), .ref v1, .int ex1, .int ey1, .int ea1, .int ed1, .int lw1])), (h1, .inr (0, [.int (X 0), .int (Y 0), .int (D 0), .int (Q 0), .ref v0, .int (X 2), .int (Y 2), .int ((X 1) - (X 2)), .int ((Y 1) - (Y 2)), .int (er_lw ((X 1) - (X 2)) ((Y 1) - (Y 2)))])), (h3, .inr (0, [.int (X 2), .int (Y 2), .int (D 2), .int (Q 2), .ref v2, .int ex2, .int ey2, .int ea2, .int ed2, .int lw2]))]) [3, 1, 2] rfl
    have hDc := hD.sub (ws' := [(h2, .inr (0, [.int (X 1), .int (Y 1), .int (D 1), .int (Q 1), .ref v1, .int ex1, .int ey1, .int ea1, .int ed1, .int lw1])), (h1, .inr (0, [.int (X 0), .int (Y 0), .int (D 0), .int (Q 0), .ref v0, .int (X 2), .int (Y 2), .int ((X 1) - (X 2)), .int ((Y 1) - (Y 2)), .int (er_lw ((X 1) - (X 2)) ((Y 1) - (Y 2)))])), (h3, .inr (0, [.int (X 2), .int (Y 2), .int (D 2), .int (Q 2), .ref v2, .int ex2, .int ey2, .int ea2, .int ed2, .int lw2]))]) [3, 1, 2] (by decide) rfl
    have hKc := hK.sub (tys' := []) [] rfl
    have hFc := va_free (wc := [(h2, .inr (0, [.int (X 1), .int (Y 1), .int (D 1), .int (Q 1), .ref v1, .int ex1, .int ey1, .int ea1, .int ed1, .int lw1])), (h1, .inr (0, [.int (X 0), .int (Y 0), .int (D 0), .int (Q 0), .ref v0, .int (X 2), .int (Y 2), .int ((X 1) - (X 2)), .int ((Y 1) - (Y 2)), .int (er_lw ((X 1) - (X 2)) ((Y 1) - (Y 2)))])), (h3, .inr (0, [.int (X 2), .int (Y 2), .int (D 2), .int (Q 2), .ref v2, .int ex2, .int ey2, .int ea2, .int ed2, .int lw2]))]) hD hS hA [3, 1, 2] rfl
    refine va_callv (va_runVN (As := [.ref h1, .ref h3]) (rest := []) ⟨hx, hb, hml, hown, hts⟩ (c_C_layEdge l dC dI h2 v1 h1 v0 h3 v2 (X 1) (Y 1) (D 1) (Q 1) ex1 ey1 ea1 ed1 lw1 (X 0) (Y 0) (D 0) (Q 0) (X 2) (Y 2) ((X 1) - (X 2)) ((Y 1) - (Y 2)) (er_lw ((X 1) - (X 2)) ((Y 1) - (Y 2))) (X 2) (Y 2) (D 2) (Q 2) ex2 ey2 ea2 ed2 lw2 H.size) ⟨va_cnB 2 hts (er_gB k_207) rfl rfl rfl (hN _ kn_7) (hts _ k_19) (by decide +kernel) ⟨Nat.le_of_ble_eq_true rfl, Nat.le_of_ble_eq_true rfl⟩, hts _ k_206, hts _ k_6⟩ ⟨PI.blind, va_recv hKc hPc (ci := 0) (q0 := 0) rfl rfl, PI.at hN hKc hPc hDc⟩ rfl rfl hl.1 rfl (lv_room (Nat.le_of_ble_eq_true rfl)) d_E_layTriangle_107 ⟨Nat.le_of_ble_eq_true rfl, Nat.le_of_ble_eq_true rfl⟩) hS (fun q _ h => hFc q h) hFc (fun u t H1 locs ht hvm hw hB hz1 hk1 hS => ?_)
    obtain ⟨hP1, hK1, hD1⟩ := hB
    rw [ht] at hP1
    have hK1 := va_K.moved hvm.symm hK1
    obtain ⟨hP, hD⟩ := va_join (wr := [(h0, .inr (1, [.ref h1, .ref h2, .ref h3, .long (er_ar X Y), .int wx, .int wy, .int ww, .int wh, .int wk, .int on, .int lx, .int ly]))]) (w1 := [(h2, .inr (0, [.int (X 1), .int (Y 1), .int (D 1), .int (Q 1), .ref v1, .int (X 0), .int (Y 0), .int ((X 2) - (X 0)), .int ((Y 2) - (Y 0)), .int (er_lw ((X 2) - (X 0)) ((Y 2) - (Y 0)))])), (h1, .inr (0, [.int (X 0), .int (Y 0), .int (D 0), .int (Q 0), .ref v0, .int (X 2), .int (Y 2), .int ((X 1) - (X 2)), .int ((Y 1) - (Y 2)), .int (er_lw ((X 1) - (X 2)) ((Y 1) - (Y 2)))])), (h3, .inr (0, [.int (X 2), .int (Y 2), .int (D 2), .int (Q 2), .ref v2, .int ex2, .int ey2, .int ea2, .int ed2, .int lw2]))]) hP hD [3, 1, 2] [0] rfl rfl (by decide) (by decide) hk1 hFc hP1 hD1
    have hK := (hK.sub (tys' := []) [] rfl).app hK1
    generalize H1 = H at hP hS ⊢
    have hP : va_P (dC, dI) classes [(h0, .inr (1, [.ref h1, .ref h2, .ref h3, .long (er_ar X Y), .int wx, .int wy, .int ww, .int wh, .int wk, .int on, .int lx, .int ly])), (h2, .inr (0, [.int (X 1), .int (Y 1), .int (D 1), .int (Q 1), .ref v1, .int (X 0), .int (Y 0), .int ((X 2) - (X 0)), .int ((Y 2) - (Y 0)), .int (er_lw ((X 2) - (X 0)) ((Y 2) - (Y 0)))])), (h1, .inr (0, [.int (X 0), .int (Y 0), .int (D 0), .int (Q 0), .ref v0, .int (X 2), .int (Y 2), .int ((X 1) - (X 2)), .int ((Y 1) - (Y 2)), .int (er_lw ((X 1) - (X 2)) ((Y 1) - (Y 2)))])), (h3, .inr (0, [.int (X 2), .int (Y 2), .int (D 2), .int (Q 2), .ref v2, .int ex2, .int ey2, .int ea2, .int ed2, .int lw2]))] H := hP
    have hD : va_D A [(h0, .inr (1, [.ref h1, .ref h2, .ref h3, .long (er_ar X Y), .int wx, .int wy, .int ww, .int wh, .int wk, .int on, .int lx, .int ly])), (h2, .inr (0, [.int (X 1), .int (Y 1), .int (D 1), .int (Q 1), .ref v1, .int (X 0), .int (Y 0), .int ((X 2) - (X 0)), .int ((Y 2) - (Y 0)), .int (er_lw ((X 2) - (X 0)) ((Y 2) - (Y 0)))])), (h1, .inr (0, [.int (X 0), .int (Y 0), .int (D 0), .int (Q 0), .ref v0, .int (X 2), .int (Y 2), .int ((X 1) - (X 2)), .int ((Y 1) - (Y 2)), .int (er_lw ((X 1) - (X 2)) ((Y 1) - (Y 2)))])), (h3, .inr (0, [.int (X 2), .int (Y 2), .int (D 2), .int (Q 2), .ref v2, .int ex2, .int ey2, .int ea2, .int ed2, .int lw2]))] := hD
    have hK : va_K (dC, dI) classes [] s := hK
    refine lv_aload_n hx hb d_E_layTriangle_110 rfl (lv_at hl 0 rfl) ?_
    refine va_get (D := (dC, dI)) (ci := 1) (v := .ref h3) (C := R_E) (T := F_E) (N := 12) hx hb hts i_E hown hK hP 0 rfl rfl 2 (by decide) (hts _ k_74) (fun _ h9 => h9) rfl d_E_layTriangle_111 ?_
    refine lv_aload_n hx hb d_E_layTriangle_114 rfl (lv_at hl 0 rfl) ?_
    refine va_get (D := (dC, dI)) (ci := 1) (v := .ref h2) (C := R_E) (T := F_E) (N := 12) hx hb hts i_E hown hK hP 0 rfl rfl 1 (by decide) (hts _ k_73) (fun _ h9 => h9) rfl d_E_layTriangle_115 ?_
    refine lv_aload_n hx hb d_E_layTriangle_118 rfl (lv_at hl 0 rfl) ?_
    refine va_get (D := (dC, dI)) (ci := 1) (v := .ref h1) (C := R_E) (T := F_E) (N := 12) hx hb hts i_E hown hK hP 0 rfl rfl 0 (by decide) (hts _ k_72) (fun _ h9 => h9) rfl d_E_layTriangle_119 ?_
    have hPc := hP.sub (ws' := [(h3, .inr (0, [.int (X 2), .int (Y 2), .int (D 2), .int (Q 2), .ref v2, .int ex2, .int ey2, .int ea2, .int ed2, .int lw2])), (h2, .inr (0, [.int (X 1), .int (Y 1), .int (D 1), .int (Q 1), .ref v1, .int (X 0), .int (Y 0), .int ((X 2) - (X 0)), .int ((Y 2) - (Y 0)), .int (er_lw ((X 2) - (X 0)) ((Y 2) - (Y 0)))])), (h1, .inr (0, [.int (X 0), .int (Y 0), .int (D 0), .int (Q 0), .ref v0, .int (X 2), .int (Y 2), .int ((X 1) - (X 2)), .int ((Y 1) - (Y 2)), .int (er_lw ((X 1) - (X 2)) ((Y 1) - (Y 2)))]))]) [3, 1, 2] rfl
    have hDc := hD.sub (ws' := [(h3, .inr (0, [.int (X 2), .int (Y 2), .int (D 2), .int (Q 2), .ref v2, .int ex2, .int ey2, .int ea2, .int ed2, .int lw2])), (h2, .inr (0, [.int (X 1), .int (Y 1), .int (D 1), .int (Q 1), .ref v1, .int (X 0), .int (Y 0), .int ((X 2) - (X 0)), .int ((Y 2) - (Y 0)), .int (er_lw ((X 2) - (X 0)) ((Y 2) - (Y 0)))])), (h1, .inr (0, [.int (X 0), .int (Y 0), .int (D 0), .int (Q 0), .ref v0, .int (X 2), .int (Y 2), .int ((X 1) - (X 2)), .int ((Y 1) - (Y 2)), .int (er_lw ((X 1) - (X 2)) ((Y 1) - (Y 2)))]))]) [3, 1, 2] (by decide) rfl
    have hKc := hK.sub (tys' := []) [] rfl
    have hFc := va_free (wc := [(h3, .inr (0, [.int (X 2), .int (Y 2), .int (D 2), .int (Q 2), .ref v2, .int ex2, .int ey2, .int ea2, .int ed2, .int lw2])), (h2, .inr (0, [.int (X 1), .int (Y 1), .int (D 1), .int (Q 1), .ref v1, .int (X 0), .int (Y 0), .int ((X 2) - (X 0)), .int ((Y 2) - (Y 0)), .int (er_lw ((X 2) - (X 0)) ((Y 2) - (Y 0)))])), (h1, .inr (0, [.int (X 0), .int (Y 0), .int (D 0), .int (Q 0), .ref v0, .int (X 2), .int (Y 2), .int ((X 1) - (X 2)), .int ((Y 1) - (Y 2)), .int (er_lw ((X 1) - (X 2)) ((Y 1) - (Y 2)))]))]) hD hS hA [3, 1, 2] rfl
    refine va_callv (va_runVN (As := [.ref h2, .ref h1]) (rest := []) ⟨hx, hb, hml, hown, hts⟩ (c_C_layEdge l dC dI h3 v2 h2 v1 h1 v0 (X 2) (Y 2) (D 2) (Q 2) ex2 ey2 ea2 ed2 lw2 (X 1) (Y 1) (D 1) (Q 1) (X 0) (Y 0) ((X 2) - (X 0)) ((Y 2) - (Y 0)) (er_lw ((X 2) - (X 0)) ((Y 2) - (Y 0))) (X 0) (Y 0) (D 0) (Q 0) (X 2) (Y 2) ((X 1) - (X 2)) ((Y 1) - (Y 2)) (er_lw ((X 1) - (X 2)) ((Y 1) - (Y 2))) H.size) ⟨va_cnB 2 hts (er_gB k_207) rfl rfl rfl (hN _ kn_7) (hts _ k_19) (by decide +kernel) ⟨Nat.le_of_ble_eq_true rfl, Nat.le_of_ble_eq_true rfl⟩, hts _ k_206, hts _ k_6⟩ ⟨PI.blind, va_recv hKc hPc (ci := 0) (q0 := 0) rfl rfl, PI.at hN hKc hPc hDc⟩ rfl rfl hl.1 rfl (lv_room (Nat.le_of_ble_eq_true rfl)) d_E_layTriangle_122 ⟨Nat.le_of_ble_eq_true rfl, Nat.le_of_ble_eq_true rfl⟩) hS (fun q _ h => hFc q h) hFc (fun u t H1 locs ht hvm hw hB hz1 hk1 hS => ?_)
    obtain ⟨hP1, hK1, hD1⟩ := hB
    rw [ht] at hP1
    have hK1 := va_K.moved hvm.symm hK1
    obtain ⟨hP, hD⟩ := va_join (wr := [(h0, .inr (1, [.ref h1, .ref h2, .ref h3, .long (er_ar X Y), .int wx, .int wy, .int ww, .int wh, .int wk, .int on, .int lx, .int ly]))]) (w1 := [(h3, .inr (0, [.int (X 2), .int (Y 2), .int (D 2), .int (Q 2), .ref v2, .int (X 1), .int (Y 1), .int ((X 0) - (X 1)), .int ((Y 0) - (Y 1)), .int (er_lw ((X 0) - (X 1)) ((Y 0) - (Y 1)))])), (h2, .inr (0, [.int (X 1), .int (Y 1), .int (D 1), .int (Q 1), .ref v1, .int (X 0), .int (Y 0), .int ((X 2) - (X 0)), .int ((Y 2) - (Y 0)), .int (er_lw ((X 2) - (X 0)) ((Y 2) - (Y 0)))])), (h1, .inr (0, [.int (X 0), .int (Y 0), .int (D 0), .int (Q 0), .ref v0, .int (X 2), .int (Y 2), .int ((X 1) - (X 2)), .int ((Y 1) - (Y 2)), .int (er_lw ((X 1) - (X 2)) ((Y 1) - (Y 2)))]))]) hP hD [3, 1, 2] [0] rfl rfl (by decide) (by decide) hk1 hFc hP1 hD1
    have hK := (hK.sub (tys' := []) [] rfl).app hK1
    generalize H1 = H at hP hS ⊢
    have hP : va_P (dC, dI) classes [(h0, .inr (1, [.ref h1, .ref h2, .ref h3, .long (er_ar X Y), .int wx, .int wy, .int ww, .int wh, .int wk, .int on, .int lx, .int ly])), (h3, .inr (0, [.int (X 2), .int (Y 2), .int (D 2), .int (Q 2), .ref v2, .int (X 1), .int (Y 1), .int ((X 0) - (X 1)), .int ((Y 0) - (Y 1)), .int (er_lw ((X 0) - (X 1)) ((Y 0) - (Y 1)))])), (h2, .inr (0, [.int (X 1), .int (Y 1), .int (D 1), .int (Q 1), .ref v1, .int (X 0), .int (Y 0), .int ((X 2) - (X 0)), .int ((Y 2) - (Y 0)), .int (er_lw ((X 2) - (X 0)) ((Y 2) - (Y 0)))])), (h1, .inr (0, [.int (X 0), .int (Y 0), .int (D 0), .int (Q 0), .ref v0, .int (X 2), .int (Y 2), .int ((X 1) - (X 2)), .int ((Y 1) - (Y 2)), .int (er_lw ((X 1) - (X 2)) ((Y 1) - (Y 2)))]))] H := hP
    have hD : va_D A [(h0, .inr (1, [.ref h1, .ref h2, .ref h3, .long (er_ar X Y), .int wx, .int wy, .int ww, .int wh, .int wk, .int on, .int lx, .int ly])), (h3, .inr (0, [.int (X 2), .int (Y 2), .int (D 2), .int (Q 2), .ref v2, .int (X 1), .int (Y 1), .int ((X 0) - (X 1)), .int ((Y 0) - (Y 1)), .int (er_lw ((X 0) - (X 1)) ((Y 0) - (Y 1)))])), (h2, .inr (0, [.int (X 1), .int (Y 1), .int (D 1), .int (Q 1), .ref v1, .int (X 0), .int (Y 0), .int ((X 2) - (X 0)), .int ((Y 2) - (Y 0)), .int (er_lw ((X 2) - (X 0)) ((Y 2) - (Y 0)))])), (h1, .inr (0, [.int (X 0), .int (Y 0), .int (D 0), .int (Q 0), .ref v0, .int (X 2), .int (Y 2), .int ((X 1) - (X 2)), .int ((Y 1) - (Y 2)), .int (er_lw ((X 1) - (X 2)) ((Y 1) - (Y 2)))]))] := hD
    have hK : va_K (dC, dI) classes [] s := hK
    refine lv_goto (tgt := 173) hx hb d_E_layTriangle_125 (by decide) ?_
    have hP9 := hP.sub (ws' := [(h0, .inr (1, [.ref h1, .ref h2, .ref h3, .long (er_ar X Y), .int wx, .int wy, .int ww, .int wh, .int wk, .int on, .int lx, .int ly])), (h1, .inr (0, [.int (X 0), .int (Y 0), .int (D 0), .int (Q 0), .ref v0, .int (X 2), .int (Y 2), .int ((X 1) - (X 2)), .int ((Y 1) - (Y 2)), .int (er_lw ((X 1) - (X 2)) ((Y 1) - (Y 2)))])), (h2, .inr (0, [.int (X 1), .int (Y 1), .int (D 1), .int (Q 1), .ref v1, .int (X 0), .int (Y 0), .int ((X 2) - (X 0)), .int ((Y 2) - (Y 0)), .int (er_lw ((X 2) - (X 0)) ((Y 2) - (Y 0)))])), (h3, .inr (0, [.int (X 2), .int (Y 2), .int (D 2), .int (Q 2), .ref v2, .int (X 1), .int (Y 1), .int ((X 0) - (X 1)), .int ((Y 0) - (Y 1)), .int (er_lw ((X 0) - (X 1)) ((Y 0) - (Y 1)))]))]) [0, 3, 2, 1] rfl
    have hD9 := hD.sub (ws' := [(h0, .inr (1, [.ref h1, .ref h2, .ref h3, .long (er_ar X Y), .int wx, .int wy, .int ww, .int wh, .int wk, .int on, .int lx, .int ly])), (h1, .inr (0, [.int (X 0), .int (Y 0), .int (D 0), .int (Q 0), .ref v0, .int (X 2), .int (Y 2), .int ((X 1) - (X 2)), .int ((Y 1) - (Y 2)), .int (er_lw ((X 1) - (X 2)) ((Y 1) - (Y 2)))])), (h2, .inr (0, [.int (X 1), .int (Y 1), .int (D 1), .int (Q 1), .ref v1, .int (X 0), .int (Y 0), .int ((X 2) - (X 0)), .int ((Y 2) - (Y 0)), .int (er_lw ((X 2) - (X 0)) ((Y 2) - (Y 0)))])), (h3, .inr (0, [.int (X 2), .int (Y 2), .int (D 2), .int (Q 2), .ref v2, .int (X 1), .int (Y 1), .int ((X 0) - (X 1)), .int ((Y 0) - (Y 1)), .int (er_lw ((X 0) - (X 1)) ((Y 0) - (Y 1)))]))]) [0, 3, 2, 1] (by decide) rfl
    have hK9 := hK.sub (tys' := []) [] rfl
    have hP9 : va_P (dC, dI) classes [(h0, .inr (1, [.ref h1, .ref h2, .ref h3, .long (er_ar X Y), .int wx, .int wy, .int ww, .int wh, .int wk, .int on, .int lx, .int ly])), (h1, .inr (0, [.int (X 0), .int (Y 0), .int (D 0), .int (Q 0), .ref v0, .int (er_ex X Y 0), .int (er_ey X Y 0), .int (er_ea X Y 0), .int (er_ed X Y 0), .int (er_lw (er_ea X Y 0) (er_ed X Y 0))])), (h2, .inr (0, [.int (X 1), .int (Y 1), .int (D 1), .int (Q 1), .ref v1, .int (er_ex X Y 1), .int (er_ey X Y 1), .int (er_ea X Y 1), .int (er_ed X Y 1), .int (er_lw (er_ea X Y 1) (er_ed X Y 1))])), (h3, .inr (0, [.int (X 2), .int (Y 2), .int (D 2), .int (Q 2), .ref v2, .int (er_ex X Y 2), .int (er_ey X Y 2), .int (er_ea X Y 2), .int (er_ed X Y 2), .int (er_lw (er_ea X Y 2) (er_ed X Y 2))]))] H := by rw [er_etx_0 c_1, er_ety_0 c_1, er_eta_0 c_1, er_etd_0 c_1, er_etx_1 c_1, er_ety_1 c_1, er_eta_1 c_1, er_etd_1 c_1, er_etx_2 c_1, er_ety_2 c_1, er_eta_2 c_1, er_etd_2 c_1]; exact hP9
    have hD9 : va_D A [(h0, .inr (1, [.ref h1, .ref h2, .ref h3, .long (er_ar X Y), .int wx, .int wy, .int ww, .int wh, .int wk, .int on, .int lx, .int ly])), (h1, .inr (0, [.int (X 0), .int (Y 0), .int (D 0), .int (Q 0), .ref v0, .int (er_ex X Y 0), .int (er_ey X Y 0), .int (er_ea X Y 0), .int (er_ed X Y 0), .int (er_lw (er_ea X Y 0) (er_ed X Y 0))])), (h2, .inr (0, [.int (X 1), .int (Y 1), .int (D 1), .int (Q 1), .ref v1, .int (er_ex X Y 1), .int (er_ey X Y 1), .int (er_ea X Y 1), .int (er_ed X Y 1), .int (er_lw (er_ea X Y 1) (er_ed X Y 1))])), (h3, .inr (0, [.int (X 2), .int (Y 2), .int (D 2), .int (Q 2), .ref v2, .int (er_ex X Y 2), .int (er_ey X Y 2), .int (er_ea X Y 2), .int (er_ed X Y 2), .int (er_lw (er_ea X Y 2) (er_ed X Y 2))]))] := by rw [er_etx_0 c_1, er_ety_0 c_1, er_eta_0 c_1, er_etd_0 c_1, er_etx_1 c_1, er_ety_1 c_1, er_eta_1 c_1, er_etd_1 c_1, er_etx_2 c_1, er_ety_2 c_1, er_eta_2 c_1, er_etd_2 c_1]; exact hD9
    exact W.vret hx hb hr (fun u9 ht hW => ⟨⟨(), rfl, trivial, ⟨by rw [ht]; exact hP9, va_K.moved hW.alike hK9, hD9⟩⟩, hS.F ht⟩) hS.2.2 d_E_layTriangle_173

set_option maxHeartbeats 1000000 in
set_option maxRecDepth 100000 in
theorem c_E_endWalk (l : Launch) (dC : Nat → ClassId) (dI : Nat → Nat → Nat) (h0 h1 h2 h3 : Nat) (ar : Int64) (wx wy ww wh wk on lx ly : Int32) (sz : Nat) : Met l y_E_endWalk w_E_endWalk ({ frames := 0, cells := 0, slots := 0, locals := 0 }) (va_Pc [.ref h0] (PI dC dI [] [(h0, .inr (1, [.ref h1, .ref h2, .ref h3, .long ar, .int wx, .int wy, .int ww, .int wh, .int wk, .int on, .int lx, .int ly]))] sz)) (va_Qv (fun (u : Unit) => True) (fun (u : Unit) t => EI dC dI [] [(h0, .inr (1, [.ref h1, .ref h2, .ref h3, .long ar, .int wx, .int wy, .int ww, .int wh, .int 0, .int 0, .int lx, .int ly]))] (va_A [(h0, .inr (1, [.ref h1, .ref h2, .ref h3, .long ar, .int wx, .int wy, .int ww, .int wh, .int wk, .int on, .int lx, .int ly]))] sz) t) (va_A [(h0, .inr (1, [.ref h1, .ref h2, .ref h3, .long ar, .int wx, .int wy, .int ww, .int wh, .int wk, .int on, .int lx, .int ly]))] sz)) 0 0 (va_A [(h0, .inr (1, [.ref h1, .ref h2, .ref h3, .long ar, .int wx, .int wy, .int ww, .int wh, .int wk, .int on, .int lx, .int ly]))] sz) := by
  refine Met.ofW (cc := b_E_endWalk) (maxL := 1) (ret := none) (by decide +kernel) rfl ?_
  intro p e s m args below meth c s₁ B hml hv
  obtain ⟨rfl, hsz, hN, hK, hP, hD0⟩ := hv
  have hx := B.exec
  have hb := B.bytes
  have hr := B.returns
  have hts := er_hts (atoms_spec (ws := w_E_endWalk) B.pre)
  have hown : s.vm.findClass R_E = some m.cls := findClass_of_methodNamed B.named
  have hlocks := B.notSynchronized
  subst hsz
  have hD := hD0.self (sz := s.heap.size)
  generalize hAe : va_A [(h0, .inr (1, [.ref h1, .ref h2, .ref h3, .long ar, .int wx, .int wy, .int ww, .int wh, .int wk, .int on, .int lx, .int ly]))] s.heap.size = A at hD ⊢
  have hA : ∀ q : Nat, s.heap.size ≤ q → A q := fun q h => by rw [← hAe]; exact Or.inr h
  have hS : va_S A s.heap s.heap [] := va_S.rf
  have hP : va_P (dC, dI) classes [(h0, .inr (1, [.ref h1, .ref h2, .ref h3, .long ar, .int wx, .int wy, .int ww, .int wh, .int wk, .int on, .int lx, .int ly]))] s.heap := hP
  have hl := lv_entry ([.ref h0]) (n := 1) (Nat.le_of_ble_eq_true rfl)
  rw [lg_entry_eq]
  generalize (lg_sl ([.ref h0]) ++ List.replicate (1 - (lg_sl ([.ref h0])).length) Slot.unset).toArray = ls at hl ⊢
  have hl : lv_has ls 1 [(0, .ref h0)] := hl
  refine lv_aload_n hx hb d_E_endWalk_0 rfl (lv_at hl 0 rfl) ?_
  refine lv_iconst (v := 0) hx hb d_E_endWalk_1 (by decide) ?_
  refine va_put (D := (dC, dI)) (ci := 1) (v := .int 0) (ty := .boolean) (C := R_E) (T := F_E) (N := 12) hx hb hts i_E t_E t_E_ok n_E hown hK hP hD hS 0 rfl rfl 8 (by decide) (hts _ k_80) (fun _ h9 => h9) rfl (by decide +kernel) (by decide) rfl (Nat.le_of_ble_eq_true rfl) d_E_endWalk_2 (fun H locs hP hD hS => ?_)
  have hP : va_P (dC, dI) classes [(h0, .inr (1, [.ref h1, .ref h2, .ref h3, .long ar, .int wx, .int wy, .int ww, .int wh, .int 0, .int on, .int lx, .int ly]))] H := hP
  have hD : va_D A [(h0, .inr (1, [.ref h1, .ref h2, .ref h3, .long ar, .int wx, .int wy, .int ww, .int wh, .int 0, .int on, .int lx, .int ly]))] := hD
  refine lv_aload_n hx hb d_E_endWalk_5 rfl (lv_at hl 0 rfl) ?_
  refine lv_iconst (v := 0) hx hb d_E_endWalk_6 (by decide) ?_
  refine va_put (D := (dC, dI)) (ci := 1) (v := .int 0) (ty := .boolean) (C := R_E) (T := F_E) (N := 12) hx hb hts i_E t_E t_E_ok n_E hown hK hP hD hS 0 rfl rfl 9 (by decide) (hts _ k_81) (fun _ h9 => h9) rfl (by decide +kernel) (by decide) rfl (Nat.le_of_ble_eq_true rfl) d_E_endWalk_7 (fun H locs hP hD hS => ?_)
  have hP : va_P (dC, dI) classes [(h0, .inr (1, [.ref h1, .ref h2, .ref h3, .long ar, .int wx, .int wy, .int ww, .int wh, .int 0, .int 0, .int lx, .int ly]))] H := hP
  have hD : va_D A [(h0, .inr (1, [.ref h1, .ref h2, .ref h3, .long ar, .int wx, .int wy, .int ww, .int wh, .int 0, .int 0, .int lx, .int ly]))] := hD
  have hP9 := hP.sub (ws' := [(h0, .inr (1, [.ref h1, .ref h2, .ref h3, .long ar, .int wx, .int wy, .int ww, .int wh, .int 0, .int 0, .int lx, .int ly]))]) [0] rfl
  have hD9 := hD.sub (ws' := [(h0, .inr (1, [.ref h1, .ref h2, .ref h3, .long ar, .int wx, .int wy, .int ww, .int wh, .int 0, .int 0, .int lx, .int ly]))]) [0] (by decide) rfl
  have hK9 := hK.sub (tys' := []) [] rfl
  exact W.vret hx hb hr (fun u9 ht hW => ⟨⟨(), rfl, trivial, ⟨by rw [ht]; exact hP9, va_K.moved hW.alike hK9, hD9⟩⟩, hS.F ht⟩) hS.2.2 d_E_endWalk_10

set_option maxHeartbeats 1000000 in
set_option maxRecDepth 100000 in
theorem c_E_walk (l : Launch) (dC : Nat → ClassId) (dI : Nat → Nat → Nat) (h0 h1 h2 h3 : Nat) (ar : Int64) (wx wy ww wh wk on lx ly : Int32) (sz : Nat) : Met l y_E_walk w_E_walk ({ frames := 0, cells := 0, slots := 0, locals := 0 }) (va_Pc [.ref h0] (PI dC dI [] [(h0, .inr (1, [.ref h1, .ref h2, .ref h3, .long ar, .int wx, .int wy, .int ww, .int wh, .int wk, .int on, .int lx, .int ly]))] sz)) (va_Qv (fun (u : Unit) => True) (fun (u : Unit) t => EI dC dI [] [(h0, .inr (1, [.ref h1, .ref h2, .ref h3, .long ar, .int wx, .int wy, .int ww, .int wh, .int 1, .int 0, .int (wx - 1), .int wy]))] (va_A [(h0, .inr (1, [.ref h1, .ref h2, .ref h3, .long ar, .int wx, .int wy, .int ww, .int wh, .int wk, .int on, .int lx, .int ly]))] sz) t) (va_A [(h0, .inr (1, [.ref h1, .ref h2, .ref h3, .long ar, .int wx, .int wy, .int ww, .int wh, .int wk, .int on, .int lx, .int ly]))] sz)) 0 0 (va_A [(h0, .inr (1, [.ref h1, .ref h2, .ref h3, .long ar, .int wx, .int wy, .int ww, .int wh, .int wk, .int on, .int lx, .int ly]))] sz) := by
  refine Met.ofW (cc := b_E_walk) (maxL := 1) (ret := none) (by decide +kernel) rfl ?_
  intro p e s m args below meth c s₁ B hml hv
  obtain ⟨rfl, hsz, hN, hK, hP, hD0⟩ := hv
  have hx := B.exec
  have hb := B.bytes
  have hr := B.returns
  have hts := er_hts (atoms_spec (ws := w_E_walk) B.pre)
  have hown : s.vm.findClass R_E = some m.cls := findClass_of_methodNamed B.named
  have hlocks := B.notSynchronized
  subst hsz
  have hD := hD0.self (sz := s.heap.size)
  generalize hAe : va_A [(h0, .inr (1, [.ref h1, .ref h2, .ref h3, .long ar, .int wx, .int wy, .int ww, .int wh, .int wk, .int on, .int lx, .int ly]))] s.heap.size = A at hD ⊢
  have hA : ∀ q : Nat, s.heap.size ≤ q → A q := fun q h => by rw [← hAe]; exact Or.inr h
  have hS : va_S A s.heap s.heap [] := va_S.rf
  have hP : va_P (dC, dI) classes [(h0, .inr (1, [.ref h1, .ref h2, .ref h3, .long ar, .int wx, .int wy, .int ww, .int wh, .int wk, .int on, .int lx, .int ly]))] s.heap := hP
  have hl := lv_entry ([.ref h0]) (n := 1) (Nat.le_of_ble_eq_true rfl)
  rw [lg_entry_eq]
  generalize (lg_sl ([.ref h0]) ++ List.replicate (1 - (lg_sl ([.ref h0])).length) Slot.unset).toArray = ls at hl ⊢
  have hl : lv_has ls 1 [(0, .ref h0)] := hl
  refine lv_aload_n hx hb d_E_walk_0 rfl (lv_at hl 0 rfl) ?_
  refine lv_iconst (v := 1) hx hb d_E_walk_1 (by decide) ?_
  refine va_put (D := (dC, dI)) (ci := 1) (v := .int 1) (ty := .boolean) (C := R_E) (T := F_E) (N := 12) hx hb hts i_E t_E t_E_ok n_E hown hK hP hD hS 0 rfl rfl 8 (by decide) (hts _ k_80) (fun _ h9 => h9) rfl (by decide +kernel) (by decide) rfl (Nat.le_of_ble_eq_true rfl) d_E_walk_2 (fun H locs hP hD hS => ?_)
  have hP : va_P (dC, dI) classes [(h0, .inr (1, [.ref h1, .ref h2, .ref h3, .long ar, .int wx, .int wy, .int ww, .int wh, .int 1, .int on, .int lx, .int ly]))] H := hP
  have hD : va_D A [(h0, .inr (1, [.ref h1, .ref h2, .ref h3, .long ar, .int wx, .int wy, .int ww, .int wh, .int 1, .int on, .int lx, .int ly]))] := hD
  refine lv_aload_n hx hb d_E_walk_5 rfl (lv_at hl 0 rfl) ?_
  refine lv_iconst (v := 0) hx hb d_E_walk_6 (by decide) ?_
  refine va_put (D := (dC, dI)) (ci := 1) (v := .int 0) (ty := .boolean) (C := R_E) (T := F_E) (N := 12) hx hb hts i_E t_E t_E_ok n_E hown hK hP hD hS 0 rfl rfl 9 (by decide) (hts _ k_81) (fun _ h9 => h9) rfl (by decide +kernel) (by decide) rfl (Nat.le_of_ble_eq_true rfl) d_E_walk_7 (fun H locs hP hD hS => ?_)
  have hP : va_P (dC, dI) classes [(h0, .inr (1, [.ref h1, .ref h2, .ref h3, .long ar, .int wx, .int wy, .int ww, .int wh, .int 1, .int 0, .int lx, .int ly]))] H := hP
  have hD : va_D A [(h0, .inr (1, [.ref h1, .ref h2, .ref h3, .long ar, .int wx, .int wy, .int ww, .int wh, .int 1, .int 0, .int lx, .int ly]))] := hD
  refine lv_aload_n hx hb d_E_walk_10 rfl (lv_at hl 0 rfl) ?_
  refine lv_aload_n hx hb d_E_walk_11 rfl (lv_at hl 0 rfl) ?_
  refine va_get (D := (dC, dI)) (ci := 1) (v := .int wx) (C := R_E) (T := F_E) (N := 12) hx hb hts i_E hown hK hP 0 rfl rfl 4 (by decide) (hts _ k_76) (fun _ h9 => h9) rfl d_E_walk_12 ?_
  refine lv_iconst (v := 1) hx hb d_E_walk_15 (by decide) ?_
  refine lv_isub hx hb d_E_walk_16 ?_
  refine va_put (D := (dC, dI)) (ci := 1) (v := .int (wx - 1)) (ty := .int) (C := R_E) (T := F_E) (N := 12) hx hb hts i_E t_E t_E_ok n_E hown hK hP hD hS 0 rfl rfl 10 (by decide) (hts _ k_82) (fun _ h9 => h9) rfl (by decide +kernel) rfl rfl (Nat.le_of_ble_eq_true rfl) d_E_walk_17 (fun H locs hP hD hS => ?_)
  have hP : va_P (dC, dI) classes [(h0, .inr (1, [.ref h1, .ref h2, .ref h3, .long ar, .int wx, .int wy, .int ww, .int wh, .int 1, .int 0, .int (wx - 1), .int ly]))] H := hP
  have hD : va_D A [(h0, .inr (1, [.ref h1, .ref h2, .ref h3, .long ar, .int wx, .int wy, .int ww, .int wh, .int 1, .int 0, .int (wx - 1), .int ly]))] := hD
  refine lv_aload_n hx hb d_E_walk_20 rfl (lv_at hl 0 rfl) ?_
  refine lv_aload_n hx hb d_E_walk_21 rfl (lv_at hl 0 rfl) ?_
  refine va_get (D := (dC, dI)) (ci := 1) (v := .int wy) (C := R_E) (T := F_E) (N := 12) hx hb hts i_E hown hK hP 0 rfl rfl 5 (by decide) (hts _ k_77) (fun _ h9 => h9) rfl d_E_walk_22 ?_
  refine va_put (D := (dC, dI)) (ci := 1) (v := .int wy) (ty := .int) (C := R_E) (T := F_E) (N := 12) hx hb hts i_E t_E t_E_ok n_E hown hK hP hD hS 0 rfl rfl 11 (by decide) (hts _ k_83) (fun _ h9 => h9) rfl (by decide +kernel) rfl rfl (Nat.le_of_ble_eq_true rfl) d_E_walk_25 (fun H locs hP hD hS => ?_)
  have hP : va_P (dC, dI) classes [(h0, .inr (1, [.ref h1, .ref h2, .ref h3, .long ar, .int wx, .int wy, .int ww, .int wh, .int 1, .int 0, .int (wx - 1), .int wy]))] H := hP
  have hD : va_D A [(h0, .inr (1, [.ref h1, .ref h2, .ref h3, .long ar, .int wx, .int wy, .int ww, .int wh, .int 1, .int 0, .int (wx - 1), .int wy]))] := hD
  have hP9 := hP.sub (ws' := [(h0, .inr (1, [.ref h1, .ref h2, .ref h3, .long ar, .int wx, .int wy, .int ww, .int wh, .int 1, .int 0, .int (wx - 1), .int wy]))]) [0] rfl
  have hD9 := hD.sub (ws' := [(h0, .inr (1, [.ref h1, .ref h2, .ref h3, .long ar, .int wx, .int wy, .int ww, .int wh, .int 1, .int 0, .int (wx - 1), .int wy]))]) [0] (by decide) rfl
  have hK9 := hK.sub (tys' := []) [] rfl
  exact W.vret hx hb hr (fun u9 ht hW => ⟨⟨(), rfl, trivial, ⟨by rw [ht]; exact hP9, va_K.moved hW.alike hK9, hD9⟩⟩, hS.F ht⟩) hS.2.2 d_E_walk_28
