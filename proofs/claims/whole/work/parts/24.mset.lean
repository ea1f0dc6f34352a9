set_option maxHeartbeats 1000000 in
set_option maxRecDepth 100000 in
theorem c_M_corner (l : Launch) (dC : Nat → ClassId) (dI : Nat → Nat → Nat) (m0 a1 a2 a3 a4 a5 : Nat) (g1 g2 g3 g4 g5 : ClassId) (X Y D Q Vm : Nat → Int32) (th lf tp wd hg ws lk cm mx my : Int32) (j : Nat) (p1 p2 p3 p4 : Int32) (hj : j < 3) (u1 : er_win p1 (-16384) 16383 = true) (u2 : er_win p2 (-16384) 16383 = true) (u3 : er_win p3 0 16777215 = true) (u4 : er_win p4 1 8388608 = true) (sz : Nat) : Met l y_M_corner w_M_corner ({ frames := 1, cells := 0, slots := 0, locals := 22 }) (va_Pc [.ref m0, .int (nI j), .int p1, .int p2, .int p3, .int p4] (PI dC dI [(g1, .int), (g2, .int), (g3, .int), (g4, .int), (g5, .int)] [(m0, .inr (2, [.int th, .ref a1, .ref a2, .ref a3, .ref a4, .ref a5, .int lf, .int tp, .int wd, .int hg, .int ws, .int lk, .int cm, .int mx, .int my])), (a1, .inl (g1, 3, .inl X)), (a2, .inl (g2, 3, .inl Y)), (a3, .inl (g3, 3, .inl D)), (a4, .inl (g4, 3, .inl Q)), (a5, .inl (g5, 84, .inl Vm))] sz)) (va_Qv (fun (u : Unit) => True) (fun (u : Unit) t => EI dC dI [(g1, .int), (g2, .int), (g3, .int), (g4, .int), (g5, .int)] [(m0, .inr (2, [.int (er_th false false), .ref a1, .ref a2, .ref a3, .ref a4, .ref a5, .int lf, .int tp, .int wd, .int hg, .int 0, .int lk, .int cm, .int mx, .int my])), (a1, .inl (g1, 3, .inl (upd X j p1))), (a2, .inl (g2, 3, .inl (upd Y j p2))), (a3, .inl (g3, 3, .inl (upd D j p3))), (a4, .inl (g4, 3, .inl (upd Q j p4))), (a5, .inl (g5, 84, .inl Vm))] (va_A [(m0, .inr (2, [.int th, .ref a1, .ref a2, .ref a3, .ref a4, .ref a5, .int lf, .int tp, .int wd, .int hg, .int ws, .int lk, .int cm, .int mx, .int my])), (a1, .inl (g1, 3, .inl X)), (a2, .inl (g2, 3, .inl Y)), (a3, .inl (g3, 3, .inl D)), (a4, .inl (g4, 3, .inl Q)), (a5, .inl (g5, 84, .inl Vm))] sz) t) (va_A [(m0, .inr (2, [.int th, .ref a1, .ref a2, .ref a3, .ref a4, .ref a5, .int lf, .int tp, .int wd, .int hg, .int ws, .int lk, .int cm, .int mx, .int my])), (a1, .inl (g1, 3, .inl X)), (a2, .inl (g2, 3, .inl Y)), (a3, .inl (g3, 3, .inl D)), (a4, .inl (g4, 3, .inl Q)), (a5, .inl (g5, 84, .inl Vm))] sz)) 0 0 (va_A [(m0, .inr (2, [.int th, .ref a1, .ref a2, .ref a3, .ref a4, .ref a5, .int lf, .int tp, .int wd, .int hg, .int ws, .int lk, .int cm, .int mx, .int my])), (a1, .inl (g1, 3, .inl X)), (a2, .inl (g2, 3, .inl Y)), (a3, .inl (g3, 3, .inl D)), (a4, .inl (g4, 3, .inl Q)), (a5, .inl (g5, 84, .inl Vm))] sz) := by
  refine Met.ofW (cc := b_M_corner) (maxL := 7) (ret := none) (by decide +kernel) rfl ?_
  intro p e s m args below meth c s₁ B hml hv
  obtain ⟨rfl, hsz, hN, hK, hP, hD0⟩ := hv
  have hx := B.exec
  have hb := B.bytes
  have hr := B.returns
  have hts := er_hts (atoms_spec (ws := w_M_corner) B.pre)
  have hown : s.vm.findClass R_M = some m.cls := findClass_of_methodNamed B.named
  have hlocks := B.notSynchronized
  subst hsz
  have hD := hD0.self (sz := s.heap.size)
  generalize hAe : va_A [(m0, .inr (2, [.int th, .ref a1, .ref a2, .ref a3, .ref a4, .ref a5, .int lf, .int tp, .int wd, .int hg, .int ws, .int lk, .int cm, .int mx, .int my])), (a1, .inl (g1, 3, .inl X)), (a2, .inl (g2, 3, .inl Y)), (a3, .inl (g3, 3, .inl D)), (a4, .inl (g4, 3, .inl Q)), (a5, .inl (g5, 84, .inl Vm))] s.heap.size = A at hD ⊢
  have hA : ∀ q : Nat, s.heap.size ≤ q → A q := fun q h => by rw [← hAe]; exact Or.inr h
  have hS : va_S A s.heap s.heap [] := va_S.rf
  have hP : va_P (dC, dI) classes [(m0, .inr (2, [.int th, .ref a1, .ref a2, .ref a3, .ref a4, .ref a5, .int lf, .int tp, .int wd, .int hg, .int ws, .int lk, .int cm, .int mx, .int my])), (a1, .inl (g1, 3, .inl X)), (a2, .inl (g2, 3, .inl Y)), (a3, .inl (g3, 3, .inl D)), (a4, .inl (g4, 3, .inl Q)), (a5, .inl (g5, 84, .inl Vm))] s.heap := hP
  have hl := lv_entry ([.ref m0, .int (nI j), .int p1, .int p2, .int p3, .int p4]) (n := 7) (Nat.le_of_ble_eq_true rfl)
  rw [lg_entry_eq]
  generalize (lg_sl ([.ref m0, .int (nI j), .int p1, .int p2, .int p3, .int p4]) ++ List.replicate (7 - (lg_sl ([.ref m0, .int (nI j), .int p1, .int p2, .int p3, .int p4])).length) Slot.unset).toArray = ls at hl ⊢
  have hl : lv_has ls 7 [(0, .ref m0), (1, .int (nI j)), (2, .int p1), (3, .int p2), (4, .int p3), (5, .int p4)] := hl
  have u0 : er_win (nI j) 0 2 = true := er_win_nI (k := 2) (by omega) (by decide)
  refine lv_iload_n hx hb d_M_corner_0 rfl (lv_at hl 1 rfl) ?_
  refine lv_iconst (v := 0) hx hb d_M_corner_1 (by decide) ?_
  refine lv_iconst (v := 2) hx hb d_M_corner_2 (by decide) ?_
  have hPc := hP.sub (ws' := []) [] rfl
  have hKc := hK.sub (tys' := []) [] rfl
  refine vp_callSi (va_runS (As := [.int (nI j), .int 0, .int 2]) (rest := []) ⟨hx, hb, hml, hown, hts⟩ (c_M_in l dC dI (nI j) 0 2) (va_cwS 3 hts (er_gS k_360 k_361 k_20 k_362) rfl rfl rfl (by decide +kernel) ⟨Nat.le_of_ble_eq_true rfl, Nat.le_of_ble_eq_true rfl⟩) ⟨PP.blind, PP.at hN hKc hPc⟩ rfl rfl hl.1 rfl (lv_room (Nat.le_of_ble_eq_true rfl)) d_M_corner_3 ⟨Nat.zero_le _, Nat.zero_le _⟩).run (fun r_1 hr_1 => ?_)
  obtain rfl : er_b (er_win (nI j) 0 2) = r_1 := Eq.symm hr_1
  refine lv_if_eq (tgt := 61) hx hb d_M_corner_6 (by decide) (fun c_2 => ?_) (fun c_2 => ?_)
  · have c_2 := er_b_0.mp c_2
    exact absurd c_2 (by simp_all)
  · have c_2 := er_b_n.mp c_2
    refine lv_iload_n hx hb d_M_corner_9 rfl (lv_at hl 2 rfl) ?_
    refine lv_sipush (v := (-16384)) hx hb d_M_corner_10 (by decide) ?_
    refine lv_sipush (v := 16383) hx hb d_M_corner_13 (by decide) ?_
    have hPc := hP.sub (ws' := []) [] rfl
    have hKc := hK.sub (tys' := []) [] rfl
    refine vp_callSi (va_runS (As := [.int p1, .int (-16384), .int 16383]) (rest := []) ⟨hx, hb, hml, hown, hts⟩ (c_M_in l dC dI p1 (-16384) 16383) (va_cwS 3 hts (er_gS k_360 k_361 k_20 k_362) rfl rfl rfl (by decide +kernel) ⟨Nat.le_of_ble_eq_true rfl, Nat.le_of_ble_eq_true rfl⟩) ⟨PP.blind, PP.at hN hKc hPc⟩ rfl rfl hl.1 rfl (lv_room (Nat.le_of_ble_eq_true rfl)) d_M_corner_16 ⟨Nat.zero_le _, Nat.zero_le _⟩).run (fun r_3 hr_3 => ?_)
    obtain rfl : er_b (er_win p1 (-16384) 16383) = r_3 := Eq.symm hr_3
    refine lv_if_eq (tgt := 61) hx hb d_M_corner_19 (by decide) (fun c_4 => ?_) (fun c_4 => ?_)
    · have c_4 := er_b_0.mp c_4
      exact absurd c_4 (by simp_all)
    · have c_4 := er_b_n.mp c_4
      refine lv_iload_n hx hb d_M_corner_22 rfl (lv_at hl 3 rfl) ?_
      refine lv_sipush (v := (-16384)) hx hb d_M_corner_23 (by decide) ?_
      refine lv_sipush (v := 16383) hx hb d_M_corner_26 (by decide) ?_
      have hPc := hP.sub (ws' := []) [] rfl
      have hKc := hK.sub (tys' := []) [] rfl
      refine vp_callSi (va_runS (As := [.int p2, .int (-16384), .int 16383]) (rest := []) ⟨hx, hb, hml, hown, hts⟩ (c_M_in l dC dI p2 (-16384) 16383) (va_cwS 3 hts (er_gS k_360 k_361 k_20 k_362) rfl rfl rfl (by decide +kernel) ⟨Nat.le_of_ble_eq_true rfl, Nat.le_of_ble_eq_true rfl⟩) ⟨PP.blind, PP.at hN hKc hPc⟩ rfl rfl hl.1 rfl (lv_room (Nat.le_of_ble_eq_true rfl)) d_M_corner_29 ⟨Nat.zero_le _, Nat.zero_le _⟩).run (fun r_5 hr_5 => ?_)
      obtain rfl : er_b (er_win p2 (-16384) 16383) = r_5 := Eq.symm hr_5
      refine lv_if_eq (tgt := 61) hx hb d_M_corner_32 (by decide) (fun c_6 => ?_) (fun c_6 => ?_)
      · have c_6 := er_b_0.mp c_6
        exact absurd c_6 (by simp_all)
      · have c_6 := er_b_n.mp c_6
        refine lv_iload hx hb d_M_corner_35 (lv_at hl 4 rfl) ?_
        refine lv_iconst (v := 0) hx hb d_M_corner_37 (by decide) ?_
        refine lv_ldc (v := 16777215) hx hb hown (hts (.constant R_M 39 16777215) (by decide +kernel)) d_M_corner_38 ?_
        have hPc := hP.sub (ws' := []) [] rfl
        have hKc := hK.sub (tys' := []) [] rfl
        refine vp_callSi (va_runS (As := [.int p3, .int 0, .int 16777215]) (rest := []) ⟨hx, hb, hml, hown, hts⟩ (c_M_in l dC dI p3 0 16777215) (va_cwS 3 hts (er_gS k_360 k_361 k_20 k_362) rfl rfl rfl (by decide +kernel) ⟨Nat.le_of_ble_eq_true rfl, Nat.le_of_ble_eq_true rfl⟩) ⟨PP.blind, PP.at hN hKc hPc⟩ rfl rfl hl.1 rfl (lv_room (Nat.le_of_ble_eq_true rfl)) d_M_corner_40 ⟨Nat.zero_le _, Nat.zero_le _⟩).run (fun r_7 hr_7 => ?_)
        obtain rfl : er_b (er_win p3 0 16777215) = r_7 := Eq.symm hr_7
        refine lv_if_eq (tgt := 61) hx hb d_M_corner_43 (by decide) (fun c_8 => ?_) (fun c_8 => ?_)
        · have c_8 := er_b_0.mp c_8
          exact absurd c_8 (by simp_all)
        · have c_8 := er_b_n.mp c_8
          refine lv_iload hx hb d_M_corner_46 (lv_at hl 5 rfl) ?_
          refine lv_iconst (v := 1) hx hb d_M_corner_48 (by decide) ?_
          refine lv_ldc (v := 8388608) hx hb hown (hts (.constant R_M 40 8388608) (by decide +kernel)) d_M_corner_49 ?_
          have hPc := hP.sub (ws' := []) [] rfl
          have hKc := hK.sub (tys' := []) [] rfl
          refine vp_callSi (va_runS (As := [.int p4, .int 1, .int 8388608]) (rest := []) ⟨hx, hb, hml, hown, hts⟩ (c_M_in l dC dI p4 1 8388608) (va_cwS 3 hts (er_gS k_360 k_361 k_20 k_362) rfl rfl rfl (by decide +kernel) ⟨Nat.le_of_ble_eq_true rfl, Nat.le_of_ble_eq_true rfl⟩) ⟨PP.blind, PP.at hN hKc hPc⟩ rfl rfl hl.1 rfl (lv_room (Nat.le_of_ble_eq_true rfl)) d_M_corner_51 ⟨Nat.zero_le _, Nat.zero_le _⟩).run (fun r_9 hr_9 => ?_)
          obtain rfl : er_b (er_win p4 1 8388608) = r_9 := Eq.symm hr_9
          refine lv_if_eq (tgt := 61) hx hb d_M_corner_54 (by decide) (fun c_10 => ?_) (fun c_10 => ?_)
          · have c_10 := er_b_0.mp c_10
            exact absurd c_10 (by simp_all)
          · have c_10 := er_b_n.mp c_10
            refine lv_iconst (v := 1) hx hb d_M_corner_57 (by decide) ?_
            refine lv_goto (tgt := 62) hx hb d_M_corner_58 (by decide) ?_
            refine lv_istore (lv' := [(6, .int 1), (0, .ref m0), (1, .int (nI j)), (2, .int p1), (3, .int p2), (4, .int p3), (5, .int p4)]) hx hb d_M_corner_62 hl (by decide) rfl (fun ls hl => ?_)
            refine lv_aload_n hx hb d_M_corner_64 rfl (lv_at hl 1 rfl) ?_
            refine lv_iload hx hb d_M_corner_65 (lv_at hl 0 rfl) ?_
            refine lv_if_ne (tgt := 74) hx hb d_M_corner_67 (by decide) (fun _ => ?_) (fun c_11 => absurd c_11 (by decide))
            refine lv_iconst (v := 0) hx hb d_M_corner_74 (by decide) ?_
            refine lv_iconst (v := 0) hx hb d_M_corner_75 (by decide) ?_
            have hPc := hP.sub (ws' := [(m0, .inr (2, [.int th, .ref a1, .ref a2, .ref a3, .ref a4, .ref a5, .int lf, .int tp, .int wd, .int hg, .int ws, .int lk, .int cm, .int mx, .int my]))]) [0] rfl
            have hDc := hD.sub (ws' := [(m0, .inr (2, [.int th, .ref a1, .ref a2, .ref a3, .ref a4, .ref a5, .int lf, .int tp, .int wd, .int hg, .int ws, .int lk, .int cm, .int mx, .int my]))]) [0] (by decide) rfl
            have hKc := hK.sub (tys' := []) [] rfl
            have hFc := va_free (wc := [(m0, .inr (2, [.int th, .ref a1, .ref a2, .ref a3, .ref a4, .ref a5, .int lf, .int tp, .int wd, .int hg, .int ws, .int lk, .int cm, .int mx, .int my]))]) hD hS hA [0] rfl
            refine va_calli (va_runV (As := [.int 0, .int 0]) (rest := []) ⟨hx, hb, hml, hown, hts⟩ (c_M_refuse l dC dI m0 a1 a2 a3 a4 a5 th lf tp wd hg ws lk cm mx my false false s.heap.size) (cwV 2 hts (er_gV k_365 k_366 k_10 k_20 k_367) rfl rfl rfl (by decide +kernel) ⟨Nat.le_of_ble_eq_true rfl, Nat.le_of_ble_eq_true rfl⟩) ⟨PI.blind, va_recv hKc hPc (ci := 2) (q0 := 0) rfl rfl, PI.at hN hKc hPc hDc⟩ rfl rfl hl.1 rfl (lv_room (Nat.le_of_ble_eq_true rfl)) d_M_corner_76 ⟨Nat.le_of_ble_eq_true rfl, Nat.le_of_ble_eq_true rfl⟩) hS (fun q _ h => hFc q h) hFc (fun r_12 u t H1 locs ht hvm hw hB hz1 hk1 hS => ?_)
            obtain ⟨hP1, hK1, hD1⟩ := hB
            rw [ht] at hP1
            have hK1 := va_K.moved hvm.symm hK1
            obtain ⟨hP, hD⟩ := va_join (wr := [(a1, .inl (g1, 3, .inl X)), (a2, .inl (g2, 3, .inl Y)), (a3, .inl (g3, 3, .inl D)), (a4, .inl (g4, 3, .inl Q)), (a5, .inl (g5, 84, .inl Vm))]) (w1 := [(m0, .inr (2, [.int (er_th false false), .ref a1, .ref a2, .ref a3, .ref a4, .ref a5, .int lf, .int tp, .int wd, .int hg, .int ws, .int lk, .int cm, .int mx, .int my]))]) hP hD [0] [1, 2, 3, 4, 5] rfl rfl (by decide) (by decide) hk1 hFc hP1 hD1
            have hK := (hK.sub (tys' := [(g1, .int), (g2, .int), (g3, .int), (g4, .int), (g5, .int)]) [0, 1, 2, 3, 4] rfl).app hK1
            generalize H1 = H at hP hS ⊢
            have hP : va_P (dC, dI) classes [(a1, .inl (g1, 3, .inl X)), (a2, .inl (g2, 3, .inl Y)), (a3, .inl (g3, 3, .inl D)), (a4, .inl (g4, 3, .inl Q)), (a5, .inl (g5, 84, .inl Vm)), (m0, .inr (2, [.int (er_th false false), .ref a1, .ref a2, .ref a3, .ref a4, .ref a5, .int lf, .int tp, .int wd, .int hg, .int ws, .int lk, .int cm, .int mx, .int my]))] H := hP
            have hD : va_D A [(a1, .inl (g1, 3, .inl X)), (a2, .inl (g2, 3, .inl Y)), (a3, .inl (g3, 3, .inl D)), (a4, .inl (g4, 3, .inl Q)), (a5, .inl (g5, 84, .inl Vm)), (m0, .inr (2, [.int (er_th false false), .ref a1, .ref a2, .ref a3, .ref a4, .ref a5, .int lf, .int tp, .int wd, .int hg, .int ws, .int lk, .int cm, .int mx, .int my]))] := hD
            have hK : va_K (dC, dI) classes [(g1, .int), (g2, .int), (g3, .int), (g4, .int), (g5, .int)] s := hK
            obtain rfl : er_b (false || false) = r_12 := Eq.symm hw
            refine lv_if_eq (tgt := 83) hx hb d_M_corner_79 (by decide) (fun _ => ?_) (fun c_13 => absurd c_13 (by decide))
            refine lv_aload_n hx hb d_M_corner_83 rfl (lv_at hl 1 rfl) ?_
            refine va_get (D := (dC, dI)) (ci := 2) (v := .ref a1) (C := R_M) (T := F_M) (N := 15) hx hb hts i_M hown hK hP 5 rfl rfl 1 (by decide) (hts _ k_307) (fun _ h9 => h9) rfl d_M_corner_84 ?_
            refine lv_iload_n hx hb d_M_corner_87 rfl (lv_at hl 2 rfl) ?_
            refine lv_iload_n hx hb d_M_corner_88 rfl (lv_at hl 3 rfl) ?_
            refine va_iast (i := nI j) hx hb hK hP hD hS 0 0 rfl rfl (vp_in_nI (by omega) (by decide)) d_M_corner_89 (fun H locs hP hD hS => ?_)
            rw [nI_clamp (by omega)] at hP hD
            have hP : va_P (dC, dI) classes [(a1, .inl (g1, 3, .inl (upd X j p1))), (a2, .inl (g2, 3, .inl Y)), (a3, .inl (g3, 3, .inl D)), (a4, .inl (g4, 3, .inl Q)), (a5, .inl (g5, 84, .inl Vm)), (m0, .inr (2, [.int (er_th false false), .ref a1, .ref a2, .ref a3, .ref a4, .ref a5, .int lf, .int tp, .int wd, .int hg, .int ws, .int lk, .int cm, .int mx, .int my]))] H := hP
            have hD : va_D A [(a1, .inl (g1, 3, .inl (upd X j p1))), (a2, .inl (g2, 3, .inl Y)), (a3, .inl (g3, 3, .inl D)), (a4, .inl (g4, 3, .inl Q)), (a5, .inl (g5, 84, .inl Vm)), (m0, .inr (2, [.int (er_th false false), .ref a1, .ref a2, .ref a3, .ref a4, .ref a5, .int lf, .int tp, .int wd, .int hg, .int ws, .int lk, .int cm, .int mx, .int my]))] := hD
            refine lv_aload_n hx hb d_M_corner_90 rfl (lv_at hl 1 rfl) ?_
            refine va_get (D := (dC, dI)) (ci := 2) (v := .ref a2) (C := R_M) (T := F_M) (N := 15) hx hb hts i_M hown hK hP 5 rfl rfl 2 (by decide) (hts _ k_308) (fun _ h9 => h9) rfl d_M_corner_91 ?_
            refine lv_iload_n hx hb d_M_corner_94 rfl (lv_at hl 2 rfl) ?_
            refine lv_iload_n hx hb d_M_corner_95 rfl (lv_at hl 4 rfl) ?_
            refine va_iast (i := nI j) hx hb hK hP hD hS 1 1 rfl rfl (vp_in_nI (by omega) (by decide)) d_M_corner_96 (fun H locs hP hD hS => ?_)
            rw [nI_clamp (by omega)] at hP hD
            have hP : va_P (dC, dI) classes [(a1, .inl (g1, 3, .inl (upd X j p1))), (a2, .inl (g2, 3, .inl (upd Y j p2))), (a3, .inl (g3, 3, .inl D)), (a4, .inl (g4, 3, .inl Q)), (a5, .inl (g5, 84, .inl Vm)), (m0, .inr (2, [.int (er_th false false), .ref a1, .ref a2, .ref a3, .ref a4, .ref a5, .int lf, .int tp, .int wd, .int hg, .int ws, .int lk, .int cm, .int mx, .int my]))] H := hP
            have hD : va_D A [(a1, .inl (g1, 3, .inl (upd X j p1))), (a2, .inl (g2, 3, .inl (upd Y j p2))), (a3, .inl (g3, 3, .inl D)), (a4, .inl (g4, 3, .inl Q)), (a5, .inl (g5, 84, .inl Vm)), (m0, .inr (2, [.int (er_th false false), .ref a1, .ref a2, .ref a3, .ref a4, .ref a5, .int lf, .int tp, .int wd, .int hg, .int ws, .int lk, .int cm, .int mx, .int my]))] := hD
            refine lv_aload_n hx hb d_M_corner_97 rfl (lv_at hl 1 rfl) ?_
            refine va_get (D := (dC, dI)) (ci := 2) (v := .ref a3) (C := R_M) (T := F_M) (N := 15) hx hb hts i_M hown hK hP 5 rfl rfl 3 (by decide) (hts _ k_309) (fun _ h9 => h9) rfl d_M_corner_98 ?_
            refine lv_iload_n hx hb d_M_corner_101 rfl (lv_at hl 2 rfl) ?_
            refine lv_iload hx hb d_M_corner_102 (lv_at hl 5 rfl) ?_
            refine va_iast (i := nI j) hx hb hK hP hD hS 2 2 rfl rfl (vp_in_nI (by omega) (by decide)) d_M_corner_104 (fun H locs hP hD hS => ?_)
            rw [nI_clamp (by omega)] at hP hD
            have hP : va_P (dC, dI) classes [(a1, .inl (g1, 3, .inl (upd X j p1))), (a2, .inl (g2, 3, .inl (upd Y j p2))), (a3, .inl (g3, 3, .inl (upd D j p3))), (a4, .inl (g4, 3, .inl Q)), (a5, .inl (g5, 84, .inl Vm)), (m0, .inr (2, [.int (er_th false false), .ref a1, .ref a2, .ref a3, .ref a4, .ref a5, .int lf, .int tp, .int wd, .int hg, .int ws, .int lk, .int cm, .int mx, .int my]))] H := hP
            have hD : va_D A [(a1, .inl (g1, 3, .inl (upd X j p1))), (a2, .inl (g2, 3, .inl (upd Y j p2))), (a3, .inl (g3, 3, .inl (upd D j p3))), (a4, .inl (g4, 3, .inl Q)), (a5, .inl (g5, 84, .inl Vm)), (m0, .inr (2, [.int (er_th false false), .ref a1, .ref a2, .ref a3, .ref a4, .ref a5, .int lf, .int tp, .int wd, .int hg, .int ws, .int lk, .int cm, .int mx, .int my]))] := hD
            refine lv_aload_n hx hb d_M_corner_105 rfl (lv_at hl 1 rfl) ?_
            refine va_get (D := (dC, dI)) (ci := 2) (v := .ref a4) (C := R_M) (T := F_M) (N := 15) hx hb hts i_M hown hK hP 5 rfl rfl 4 (by decide) (hts _ k_310) (fun _ h9 => h9) rfl d_M_corner_106 ?_
            refine lv_iload_n hx hb d_M_corner_109 rfl (lv_at hl 2 rfl) ?_
            refine lv_iload hx hb d_M_corner_110 (lv_at hl 6 rfl) ?_
            refine va_iast (i := nI j) hx hb hK hP hD hS 3 3 rfl rfl (vp_in_nI (by omega) (by decide)) d_M_corner_112 (fun H locs hP hD hS => ?_)
            rw [nI_clamp (by omega)] at hP hD
            have hP : va_P (dC, dI) classes [(a1, .inl (g1, 3, .inl (upd X j p1))), (a2, .inl (g2, 3, .inl (upd Y j p2))), (a3, .inl (g3, 3, .inl (upd D j p3))), (a4, .inl (g4, 3, .inl (upd Q j p4))), (a5, .inl (g5, 84, .inl Vm)), (m0, .inr (2, [.int (er_th false false), .ref a1, .ref a2, .ref a3, .ref a4, .ref a5, .int lf, .int tp, .int wd, .int hg, .int ws, .int lk, .int cm, .int mx, .int my]))] H := hP
            have hD : va_D A [(a1, .inl (g1, 3, .inl (upd X j p1))), (a2, .inl (g2, 3, .inl (upd Y j p2))), (a3, .inl (g3, 3, .inl (upd D j p3))), (a4, .inl (g4, 3, .inl (upd Q j p4))), (a5, .inl (g5, 84, .inl Vm)), (m0, .inr (2, [.int (er_th false false), .ref a1, .ref a2, .ref a3, .ref a4, .ref a5, .int lf, .int tp, .int wd, .int hg, .int ws, .int lk, .int cm, .int mx, .int my]))] := hD
            refine lv_aload_n hx hb d_M_corner_113 rfl (lv_at hl 1 rfl) ?_
            refine lv_iconst (v := 0) hx hb d_M_corner_114 (by decide) ?_
            refine va_put (D := (dC, dI)) (ci := 2) (v := .int 0) (ty := .boolean) (C := R_M) (T := F_M) (N := 15) hx hb hts i_M t_M t_M_ok n_M hown hK hP hD hS 5 rfl rfl 10 (by decide) (hts _ k_316) (fun _ h9 => h9) rfl (by decide +kernel) (by decide) rfl (Nat.le_of_ble_eq_true rfl) d_M_corner_115 (fun H locs hP hD hS => ?_)
            have hP : va_P (dC, dI) classes [(a1, .inl (g1, 3, .inl (upd X j p1))), (a2, .inl (g2, 3, .inl (upd Y j p2))), (a3, .inl (g3, 3, .inl (upd D j p3))), (a4, .inl (g4, 3, .inl (upd Q j p4))), (a5, .inl (g5, 84, .inl Vm)), (m0, .inr (2, [.int (er_th false false), .ref a1, .ref a2, .ref a3, .ref a4, .ref a5, .int lf, .int tp, .int wd, .int hg, .int 0, .int lk, .int cm, .int mx, .int my]))] H := hP
            have hD : va_D A [(a1, .inl (g1, 3, .inl (upd X j p1))), (a2, .inl (g2, 3, .inl (upd Y j p2))), (a3, .inl (g3, 3, .inl (upd D j p3))), (a4, .inl (g4, 3, .inl (upd Q j p4))), (a5, .inl (g5, 84, .inl Vm)), (m0, .inr (2, [.int (er_th false false), .ref a1, .ref a2, .ref a3, .ref a4, .ref a5, .int lf, .int tp, .int wd, .int hg, .int 0, .int lk, .int cm, .int mx, .int my]))] := hD
            have hP9 := hP.sub (ws' := [(m0, .inr (2, [.int (er_th false false), .ref a1, .ref a2, .ref a3, .ref a4, .ref a5, .int lf, .int tp, .int wd, .int hg, .int 0, .int lk, .int cm, .int mx, .int my])), (a1, .inl (g1, 3, .inl (upd X j p1))), (a2, .inl (g2, 3, .inl (upd Y j p2))), (a3, .inl (g3, 3, .inl (upd D j p3))), (a4, .inl (g4, 3, .inl (upd Q j p4))), (a5, .inl (g5, 84, .inl Vm))]) [5, 0, 1, 2, 3, 4] rfl
            have hD9 := hD.sub (ws' := [(m0, .inr (2, [.int (er_th false false), .ref a1, .ref a2, .ref a3, .ref a4, .ref a5, .int lf, .int tp, .int wd, .int hg, .int 0, .int lk, .int cm, .int mx, .int my])), (a1, .inl (g1, 3, .inl (upd X j p1))), (a2, .inl (g2, 3, .inl (upd Y j p2))), (a3, .inl (g3, 3, .inl (upd D j p3))), (a4, .inl (g4, 3, .inl (upd Q j p4))), (a5, .inl (g5, 84, .inl Vm))]) [5, 0, 1, 2, 3, 4] (by decide) rfl
            have hK9 := hK.sub (tys' := [(g1, .int), (g2, .int), (g3, .int), (g4, .int), (g5, .int)]) [0, 1, 2, 3, 4] rfl
            exact W.vret hx hb hr (fun u9 ht hW => ⟨⟨(), rfl, trivial, ⟨by rw [ht]; exact hP9, va_K.moved hW.alike hK9, hD9⟩⟩, hS.F ht⟩) hS.2.2 d_M_corner_118

set_option maxHeartbeats 1000000 in
set_option maxRecDepth 100000 in
theorem c_M_cornerX (l : Launch) (dC : Nat → ClassId) (dI : Nat → Nat → Nat) (m0 a1 a2 a3 a4 a5 : Nat) (th lf tp wd hg ws lk cm mx my : Int32) (p0 p1 p2 p3 p4 : Int32) (hv : (er_win p0 0 2 && (er_win p1 (-16384) 16383 && (er_win p2 (-16384) 16383 && (er_win p3 0 16777215 && er_win p4 1 8388608)))) = false) (sz : Nat) : Met l y_M_corner w_M_corner ({ frames := 1, cells := 0, slots := 0, locals := 22 }) (va_Pc [.ref m0, .int p0, .int p1, .int p2, .int p3, .int p4] (PI dC dI [] [(m0, .inr (2, [.int th, .ref a1, .ref a2, .ref a3, .ref a4, .ref a5, .int lf, .int tp, .int wd, .int hg, .int ws, .int lk, .int cm, .int mx, .int my]))] sz)) (va_Qv (fun (u : Unit) => True) (fun (u : Unit) t => EI dC dI [] [(m0, .inr (2, [.int (er_th true false), .ref a1, .ref a2, .ref a3, .ref a4, .ref a5, .int lf, .int tp, .int wd, .int hg, .int ws, .int lk, .int cm, .int mx, .int my]))] (va_A [(m0, .inr (2, [.int th, .ref a1, .ref a2, .ref a3, .ref a4, .ref a5, .int lf, .int tp, .int wd, .int hg, .int ws, .int lk, .int cm, .int mx, .int my]))] sz) t) (va_A [(m0, .inr (2, [.int th, .ref a1, .ref a2, .ref a3, .ref a4, .ref a5, .int lf, .int tp, .int wd, .int hg, .int ws, .int lk, .int cm, .int mx, .int my]))] sz)) 0 0 (va_A [(m0, .inr (2, [.int th, .ref a1, .ref a2, .ref a3, .ref a4, .ref a5, .int lf, .int tp, .int wd, .int hg, .int ws, .int lk, .int cm, .int mx, .int my]))] sz) := by
  refine Met.ofW (cc := b_M_corner) (maxL := 7) (ret := none) (by decide +kernel) rfl ?_
  intro p e s m args below meth c s₁ B hml hv
  obtain ⟨rfl, hsz, hN, hK, hP, hD0⟩ := hv
  have hx := B.exec
  have hb := B.bytes
  have hr := B.returns
  have hts := er_hts (atoms_spec (ws := w_M_corner) B.pre)
  have hown : s.vm.findClass R_M = some m.cls := findClass_of_methodNamed B.named
  have hlocks := B.notSynchronized
  subst hsz
  have hD := hD0.self (sz := s.heap.size)
  generalize hAe : va_A [(m0, .inr (2, [.int th, .ref a1, .ref a2, .ref a3, .ref a4, .ref a5, .int lf, .int tp, .int wd, .int hg, .int ws, .int lk, .int cm, .int mx, .int my]))] s.heap.size = A at hD ⊢
  have hA : ∀ q : Nat, s.heap.size ≤ q → A q := fun q h => by rw [← hAe]; exact Or.inr h
  have hS : va_S A s.heap s.heap [] := va_S.rf
  have hP : va_P (dC, dI) classes [(m0, .inr (2, [.int th, .ref a1, .ref a2, .ref a3, .ref a4, .ref a5, .int lf, .int tp, .int wd, .int hg, .int ws, .int lk, .int cm, .int mx, .int my]))] s.heap := hP
  have hl := lv_entry ([.ref m0, .int p0, .int p1, .int p2, .int p3, .int p4]) (n := 7) (Nat.le_of_ble_eq_true rfl)
  rw [lg_entry_eq]
  generalize (lg_sl ([.ref m0, .int p0, .int p1, .int p2, .int p3, .int p4]) ++ List.replicate (7 - (lg_sl ([.ref m0, .int p0, .int p1, .int p2, .int p3, .int p4])).length) Slot.unset).toArray = ls at hl ⊢
  have hl : lv_has ls 7 [(0, .ref m0), (1, .int p0), (2, .int p1), (3, .int p2), (4, .int p3), (5, .int p4)] := hl
  refine lv_iload_n hx hb d_M_corner_0 rfl (lv_at hl 1 rfl) ?_
  refine lv_iconst (v := 0) hx hb d_M_corner_1 (by decide) ?_
  refine lv_iconst (v := 2) hx hb d_M_corner_2 (by decide) ?_
  have hPc := hP.sub (ws' := []) [] rfl
  have hKc := hK.sub (tys' := []) [] rfl
  refine vp_callSi (va_runS (As := [.int p0, .int 0, .int 2]) (rest := []) ⟨hx, hb, hml, hown, hts⟩ (c_M_in l dC dI p0 0 2) (va_cwS 3 hts (er_gS k_360 k_361 k_20 k_362) rfl rfl rfl (by decide +kernel) ⟨Nat.le_of_ble_eq_true rfl, Nat.le_of_ble_eq_true rfl⟩) ⟨PP.blind, PP.at hN hKc hPc⟩ rfl rfl hl.1 rfl (lv_room (Nat.le_of_ble_eq_true rfl)) d_M_corner_3 ⟨Nat.zero_le _, Nat.zero_le _⟩).run (fun r_1 hr_1 => ?_)
  obtain rfl : er_b (er_win p0 0 2) = r_1 := Eq.symm hr_1
  refine lv_if_eq (tgt := 61) hx hb d_M_corner_6 (by decide) (fun c_2 => ?_) (fun c_2 => ?_)
  · have c_2 := er_b_0.mp c_2
    refine lv_iconst (v := 0) hx hb d_M_corner_61 (by decide) ?_
    refine lv_istore (lv' := [(6, .int 0), (0, .ref m0), (1, .int p0), (2, .int p1), (3, .int p2), (4, .int p3), (5, .int p4)]) hx hb d_M_corner_62 hl (by decide) rfl (fun ls hl => ?_)
    refine lv_aload_n hx hb d_M_corner_64 rfl (lv_at hl 1 rfl) ?_
    refine lv_iload hx hb d_M_corner_65 (lv_at hl 0 rfl) ?_
    refine lv_if_ne (tgt := 74) hx hb d_M_corner_67 (by decide) (fun c_3 => absurd c_3 (by decide)) (fun _ => ?_)
    refine lv_iconst (v := 1) hx hb d_M_corner_70 (by decide) ?_
    refine lv_goto (tgt := 75) hx hb d_M_corner_71 (by decide) ?_
    refine lv_iconst (v := 0) hx hb d_M_corner_75 (by decide) ?_
    have hPc := hP.sub (ws' := [(m0, .inr (2, [.int th, .ref a1, .ref a2, .ref a3, .ref a4, .ref a5, .int lf, .int tp, .int wd, .int hg, .int ws, .int lk, .int cm, .int mx, .int my]))]) [0] rfl
    have hDc := hD.sub (ws' := [(m0, .inr (2, [.int th, .ref a1, .ref a2, .ref a3, .ref a4, .ref a5, .int lf, .int tp, .int wd, .int hg, .int ws, .int lk, .int cm, .int mx, .int my]))]) [0] (by decide) rfl
    have hKc := hK.sub (tys' := []) [] rfl
    have hFc := va_free (wc := [(m0, .inr (2, [.int th, .ref a1, .ref a2, .ref a3, .ref a4, .ref a5, .int lf, .int tp, .int wd, .int hg, .int ws, .int lk, .int cm, .int mx, .int my]))]) hD hS hA [0] rfl
    refine va_calli (va_runV (As := [.int 1, .int 0]) (rest := []) ⟨hx, hb, hml, hown, hts⟩ (c_M_refuse l dC dI m0 a1 a2 a3 a4 a5 th lf tp wd hg ws lk cm mx my true false s.heap.size) (cwV 2 hts (er_gV k_365 k_366 k_10 k_20 k_367) rfl rfl rfl (by decide +kernel) ⟨Nat.le_of_ble_eq_true rfl, Nat.le_of_ble_eq_true rfl⟩) ⟨PI.blind, va_recv hKc hPc (ci := 2) (q0 := 0) rfl rfl, PI.at hN hKc hPc hDc⟩ rfl rfl hl.1 rfl (lv_room (Nat.le_of_ble_eq_true rfl)) d_M_corner_76 ⟨Nat.le_of_ble_eq_true rfl, Nat.le_of_ble_eq_true rfl⟩) hS (fun q _ h => hFc q h) hFc (fun r_4 u t H1 locs ht hvm hw hB hz1 hk1 hS => ?_)
    obtain ⟨hP1, hK1, hD1⟩ := hB
    rw [ht] at hP1
    have hK1 := va_K.moved hvm.symm hK1
    obtain ⟨hP, hD⟩ := va_join (wr := []) (w1 := [(m0, .inr (2, [.int (er_th true false), .ref a1, .ref a2, .ref a3, .ref a4, .ref a5, .int lf, .int tp, .int wd, .int hg, .int ws, .int lk, .int cm, .int mx, .int my]))]) hP hD [0] [] rfl rfl (by decide) (by decide) hk1 hFc hP1 hD1
    have hK := (hK.sub (tys' := []) [] rfl).app hK1
    generalize H1 = H at hP hS ⊢
    have hP : va_P (dC, dI) classes [(m0, .inr (2, [.int (er_th true false), .ref a1, .ref a2, .ref a3, .ref a4, .ref a5, .int lf, .int tp, .int wd, .int hg, .int ws, .int lk, .int cm, .int mx, .int my]))] H := hP
    have hD : va_D A [(m0, .inr (2, [.int (er_th true false), .ref a1, .ref a2, .ref a3, .ref a4, .ref a5, .int lf, .int tp, .int wd, .int hg, .int ws, .int lk, .int cm, .int mx, .int my]))] := hD
    have hK : va_K (dC, dI) classes [] s := hK
    obtain rfl : er_b (true || false) = r_4 := Eq.symm hw
    refine lv_if_eq (tgt := 83) hx hb d_M_corner_79 (by decide) (fun c_5 => absurd c_5 (by decide)) (fun _ => ?_)
    have hP9 := hP.sub (ws' := [(m0, .inr (2, [.int (er_th true false), .ref a1, .ref a2, .ref a3, .ref a4, .ref a5, .int lf, .int tp, .int wd, .int hg, .int ws, .int lk, .int cm, .int mx, .int my]))]) [0] rfl
    have hD9 := hD.sub (ws' := [(m0, .inr (2, [.int (er_th true false), .ref a1, .ref a2, .ref a3, .ref a4, .ref a5, .int lf, .int tp, .int wd, .int hg, .int ws, .int lk, .int cm, .int mx, .int my]))]) [0] (by decide) rfl
    have hK9 := hK.sub (tys' := []) [] rfl
    exact W.vret hx hb hr (fun u9 ht hW => ⟨⟨(), rfl, trivial, ⟨by rw [ht]; exact hP9, va_K.moved hW.alike hK9, hD9⟩⟩, hS.F ht⟩) hS.2.2 d_M_corner_82
  · have c_2 := er_b_n.mp c_2
    refine lv_iload_n hx hb d_M_corner_9 rfl (lv_at hl 2 rfl) ?_
    refine lv_sipush (v := (-16384)) hx hb d_M_corner_10 (by decide) ?_
    refine lv_sipush (v := 16383) hx hb d_M_corner_13 (by decide) ?_
    have hPc := hP.sub (ws' := []) [] rfl
    have hKc := hK.sub (tys' := []) [] rfl
    refine vp_callSi (va_runS (As := [.int p1, .int (-16384), .int 16383]) (rest := []) ⟨hx, hb, hml, hown, hts⟩ (c_M_in l dC dI p1 (-16384) 16383) (va_cwS 3 hts (er_gS k_360 k_361 k_20 k_362) rfl rfl rfl (by decide +kernel) ⟨Nat.le_of_ble_eq_true rfl, Nat.le_of_ble_eq_true rfl⟩) ⟨PP.blind, PP.at hN hKc hPc⟩ rfl rfl hl.1 rfl (lv_room (Nat.le_of_ble_eq_true rfl)) d_M_corner_16 ⟨Nat.zero_le _, Nat.zero_le _⟩).run (fun r_6 hr_6 => ?_)
    obtain rfl : er_b (er_win p1 (-16384) 16383) = r_6 := Eq.symm hr_6
    refine lv_if_eq (tgt := 61) hx hb d_M_corner_19 (by decide) (fun c_7 => ?_) (fun c_7 => ?_)
    · have c_7 := er_b_0.mp c_7
      refine lv_iconst (v := 0) hx hb d_M_corner_61 (by decide) ?_
      refine lv_istore (lv' := [(6, .int 0), (0, .ref m0), (1, .int p0), (2, .int p1), (3, .int p2), (4, .int p3), (5, .int p4)]) hx hb d_M_corner_62 hl (by decide) rfl (fun ls hl => ?_)
      refine lv_aload_n hx hb d_M_corner_64 rfl (lv_at hl 1 rfl) ?_
      refine lv_iload hx hb d_M_corner_65 (lv_at hl 0 rfl) ?_
      refine lv_if_ne (tgt := 74) hx hb d_M_corner_67 (by decide) (fun c_8 => absurd c_8 (by decide)) (fun _ => ?_)
      refine lv_iconst (v := 1) hx hb d_M_corner_70 (by decide) ?_
      refine lv_goto (tgt := 75) hx hb d_M_corner_71 (by decide) ?_
      refine lv_iconst (v := 0) hx hb d_M_corner_75 (by decide) ?_
      have hPc := hP.sub (ws' := [(m0, .inr (2, [.int th, .ref a1, .ref a2, .ref a3, .ref a4, .ref a5, .int lf, .int tp, .int wd, .int hg, .int ws, .int lk, .int cm, .int mx, .int my]))]) [0] rfl
      have hDc := hD.sub (ws' := [(m0, .inr (2, [.int th, .ref a1, .ref a2, .ref a3, .ref a4, .ref a5, .int lf, .int tp, .int wd, .int hg, .int ws, .int lk, .int cm, .int mx, .int my]))]) [0] (by decide) rfl
      have hKc := hK.sub (tys' := []) [] rfl
      have hFc := va_free (wc := [(m0, .inr (2, [.int th, .ref a1, .ref a2, .ref a3, .ref a4, .ref a5, .int lf, .int tp, .int wd, .int hg, .int ws, .int lk, .int cm, .int mx, .int my]))]) hD hS hA [0] rfl
      refine va_calli (va_runV (As := [.int 1, .int 0]) (rest := []) ⟨hx, hb, hml, hown, hts⟩ (c_M_refuse l dC dI m0 a1 a2 a3 a4 a5 th lf tp wd hg ws lk cm mx my true false s.heap.size) (cwV 2 hts (er_gV k_365 k_366 k_10 k_20 k_367) rfl rfl rfl (by decide +kernel) ⟨Nat.le_of_ble_eq_true rfl, Nat.le_of_ble_eq_true rfl⟩) ⟨PI.blind, va_recv hKc hPc (ci := 2) (q0 := 0) rfl rfl, PI.at hN hKc hPc hDc⟩ rfl rfl hl.1 rfl (lv_room (Nat.le_of_ble_eq_true rfl)) d_M_corner_76 ⟨Nat.le_of_ble_eq_true rfl, Nat.le_of_ble_eq_true rfl⟩) hS (fun q _ h => hFc q h) hFc (fun r_9 u t H1 locs ht hvm hw hB hz1 hk1 hS => ?_)
      obtain ⟨hP1, hK1, hD1⟩ := hB
      rw [ht] at hP1
      have hK1 := va_K.moved hvm.symm hK1
      obtain ⟨hP, hD⟩ := va_join (wr := []) (w1 := [(m0, .inr (2, [.int (er_th true false), .ref a1, .ref a2, .ref a3, .ref a4, .ref a5, .int lf, .int tp, .int wd, .int hg, .int ws, .int lk, .int cm, .int mx, .int my]))]) hP hD [0] [] rfl rfl (by decide) (by decide) hk1 hFc hP1 hD1
      have hK := (hK.sub (tys' := []) [] rfl).app hK1
      generalize H1 = H at hP hS ⊢
      have hP : va_P (dC, dI) classes [(m0, .inr (2, [.int (er_th true false), .ref a1, .ref a2, .ref a3, .ref a4, .ref a5, .int lf, .int tp, .int wd, .int hg, .int ws, .int lk, .int cm, .int mx, .int my]))] H := hP
      have hD : va_D A [(m0, .inr (2, [.int (er_th true false), .ref a1, .ref a2, .ref a3, .ref a4, .ref a5, .int lf, .int tp, .int wd, .int hg, .int ws, .int lk, .int cm, .int mx, .int my]))] := hD
      have hK : va_K (dC, dI) classes [] s := hK
      obtain rfl : er_b (true || false) = r_9 := Eq.symm hw
      refine lv_if_eq (tgt := 83) hx hb d_M_corner_79 (by decide) (fun c_10 => absurd c_10 (by decide)) (fun _ => ?_)
      have hP9 := hP.sub (ws' := [(m0, .inr (2, [.int (er_th true false), .ref a1, .ref a2, .ref a3, .ref a4, .ref a5, .int lf, .int tp, .int wd, .int hg, .int ws, .int lk, .int cm, .int mx, .int my]))]) [0] rfl
      have hD9 := hD.sub (ws' := [(m0, .inr (2, [.int (er_th true false), .ref a1, .ref a2, .ref a3, .ref a4, .ref a5, .int lf, .int tp, .int wd, .int hg, .int ws, .int lk, .int cm, .int mx, .int my]))]) [0] (by decide) rfl
      have hK9 := hK.sub (tys' := []) [] rfl
      exact W.vret hx hb hr (fun u9 ht hW => ⟨⟨(), rfl, trivial, ⟨by rw [ht]; exact hP9, va_K.moved hW.alike hK9, hD9⟩⟩, hS.F ht⟩) hS.2.2 d_M_corner_82
    · have c_7 := er_b_n.mp c_7
      refine lv_iload_n hx hb d_M_corner_22 rfl (lv_at hl 3 rfl) ?_
      refine lv_sipush (v := (-16384)) hx hb d_M_corner_23 (by decide) ?_
      refine lv_sipush (v := 16383) hx hb d_M_corner_26 (by decide) ?_
      have hPc := hP.sub (ws' := []) [] rfl
      have hKc := hK.sub (tys' := []) [] rfl
      refine vp_callSi (va_runS (As := [.int p2, .int (-16384), .int 16383]) (rest := []) ⟨hx, hb, hml, hown, hts⟩ (c_M_in l dC dI p2 (-16384) 16383) (va_cwS 3 hts (er_gS k_360 k_361 k_20 k_362) rfl rfl rfl (by decide +kernel) ⟨Nat.le_of_ble_eq_true rfl, Nat.le_of_ble_eq_true rfl⟩) ⟨PP.blind, PP.at hN hKc hPc⟩ rfl rfl hl.1 rfl (lv_room (Nat.le_of_ble_eq_true rfl)) d_M_corner_29 ⟨Nat.zero_le _, Nat.zero_le _⟩).run (fun r_11 hr_11 => ?_)
      obtain rfl : er_b (er_win p2 (-16384) 16383) = r_11 := Eq.symm hr_11
      refine lv_if_eq (tgt := 61) hx hb d_M_corner_32 (by decide) (fun c_12 => ?_) (fun c_12 => ?_)
      · have c_12 := er_b_0.mp c_12
        refine lv_iconst (v := 0) hx hb d_M_corner_61 (by decide) ?_
        refine lv_istore (lv' := [(6, .int 0), (0, .ref m0), (1, .int p0), (2, .int p1), (3, .int p2), (4, .int p3), (5, .int p4)]) hx hb d_M_corner_62 hl (by decide) rfl (fun ls hl => ?_)
        refine lv_aload_n hx hb d_M_corner_64 rfl (lv_at hl 1 rfl) ?_
        refine lv_iload hx hb d_M_corner_65 (lv_at hl 0 rfl) ?_
        refine lv_if_ne (tgt := 74) hx hb d_M_corner_67 (by decide) (fun c_13 => absurd c_13 (by decide)) (fun _ => ?_)
        refine lv_iconst (v := 1) hx hb d_M_corner_70 (by decide) ?_
        refine lv_goto (tgt := 75) hx hb d_M_corner_71 (by decide) ?_
        refine lv_iconst (v := 0) hx hb d_M_corner_75 (by decide) ?_
        have hPc := hP.sub (ws' := [(m0, .inr (2, [.int th, .ref a1, .ref a2, .ref a3, .ref a4, .ref a5, .int lf, .int tp, .int wd, .int hg, .int ws, .int lk, .int cm, .int mx, .int my]))]) [0] rfl
        have hDc := hD.sub (ws' := [(m0, .inr (2, [.int th, .ref a1, .ref a2, .ref a3, .ref a4, .ref a5, .int lf, .int tp, .int wd, .int hg, .int ws, .int lk, .int cm, .int mx, .int my]))]) [0] (by decide) rfl
        have hKc := hK.sub (tys' := []) [] rfl
        have hFc := va_free (wc := [(m0, .inr (2, [.int th, .ref a1, .ref a2, .ref a3, .ref a4, .ref a5, .int lf, .int tp, .int wd, .int hg, .int ws, .int lk, .int cm, .int mx, .int my]))]) hD hS hA [0] rfl
        refine va_calli (va_runV (As := [.int 1, .int 0]) (rest := []) ⟨hx, hb, hml, hown, hts⟩ (c_M_refuse l dC dI m0 a1 a2 a3 a4 a5 th lf tp wd hg ws lk cm mx my true false s.heap.size) (cwV 2 hts (er_gV k_365 k_366 k_10 k_20 k_367) rfl rfl rfl (by decide +kernel) ⟨Nat.le_of_ble_eq_true rfl, Nat.le_of_ble_eq_true rfl⟩) ⟨PI.blind, va_recv hKc hPc (ci := 2) (q0 := 0) rfl rfl, PI.at hN hKc hPc hDc⟩ rfl rfl hl.1 rfl (lv_room (Nat.le_of_ble_eq_true rfl)) d_M_corner_76 ⟨Nat.le_of_ble_eq_true rfl, Nat.le_of_ble_eq_true rfl⟩) hS (fun q _ h => hFc q h) hFc (fun r_14 u t H1 locs ht hvm hw hB hz1 hk1 hS => ?_)
        obtain ⟨hP1, hK1, hD1⟩ := hB
        rw [ht] at hP1
        have hK1 := va_K.moved hvm.symm hK1
        obtain ⟨hP, hD⟩ := va_join (wr := []) (w1 := [(m0, .inr (2, [.int (er_th true false), .ref a1, .ref a2, .ref a3, .ref a4, .ref a5, .int lf, .int tp, .int wd, .int hg, .int ws, .int lk, .int cm, .int mx, .int my]))]) hP hD [0] [] rfl rfl (by decide) (by decide) hk1 hFc hP1 hD1
        have hK := (hK.sub (tys' := []) [] rfl).app hK1
        generalize H1 = H at hP hS ⊢
        have hP : va_P (dC, dI) classes [(m0, .inr (2, [.int (er_th true false), .ref a1, .ref a2, .ref a3, .ref a4, .ref a5, .int lf, .int tp, .int wd, .int hg, .int ws, .int lk, .int cm, .int mx, .int my]))] H := hP
        have hD : va_D A [(m0, .inr (2, [.int (er_th true false), .ref a1, .ref a2, .ref a3, .ref a4, .ref a5, .int lf, .int tp, .int wd, .int hg, .int ws, .int lk, .int cm, .int mx, .int my]))] := hD
        have hK : va_K (dC, dI) classes [] s := hK
        obtain rfl : er_b (true || false) = r_14 := Eq.symm hw
        refine lv_if_eq (tgt := 83) hx hb d_M_corner_79 (by decide) (fun c_15 => absurd c_15 (by decide)) (fun _ => ?_)
        have hP9 := hP.sub (ws' := [(m0, .inr (2, [.int (er_th true false), .ref a1, .ref a2, .ref a3, .ref a4, .ref a5, .int lf, .int tp, .int wd, .int hg, .int ws, .int lk, .int cm, .int mx, .int my]))]) [0] rfl
        have hD9 := hD.sub (ws' := [(m0, .inr (2, [.int (er_th true false), .ref a1, .ref a2, .ref a3, .ref a4, .ref a5, .int lf, .int tp, .int wd, .int hg, .int ws, .int lk, .int cm, .int mx, .int my]))]) [0] (by decide) rfl
        have hK9 := hK.sub (tys' := []) [] rfl
        exact W.vret hx hb hr (fun u9 ht hW => ⟨⟨(), rfl, trivial, ⟨by rw [ht]; exact hP9, va_K.moved hW.alike hK9, hD9⟩⟩, hS.F ht⟩) hS.2.2 d_M_corner_82
      · have c_12 := er_b_n.mp c_12
        refine lv_iload hx hb d_M_corner_35 (lv_at hl 4 rfl) ?_
        refine lv_iconst (v := 0) hx hb d_M_corner_37 (by decide) ?_
        refine lv_ldc (v := 16777215) hx hb hown (hts (.constant R_M 39 16777215) (by decide +kernel)) d_M_corner_38 ?_
        have hPc := hP.sub (ws' := []) [] rfl
        have hKc := hK.sub (tys' := []) [] rfl
        refine vp_callSi (va_runS (As := [.int p3, .int 0, .int 16777215]) (rest := []) ⟨hx, hb, hml, hown, hts⟩ (c_M_in l dC dI p3 0 16777215) (va_cwS 3 hts (er_gS k_360 k_361 k_20 k_362) rfl rfl rfl (by decide +kernel) ⟨Nat.le_of_ble_eq_true rfl, Nat.le_of_ble_eq_true rfl⟩) ⟨PP.blind, PP.at hN hKc hPc⟩ rfl rfl hl.1 rfl (lv_room (Nat.le_of_ble_eq_true rfl)) d_M_corner_40 ⟨Nat.zero_le _, Nat.zero_le _⟩).run (fun r_16 hr_16 => ?_)
        obtain rfl : er_b (er_win p3 0 16777215) = r_16 := Eq.symm hr_16
        refine lv_if_eq (tgt := 61) hx hb d_M_corner_43 (by decide) (fun c_17 => ?_) (fun c_17 => ?_)
        · have c_17 := er_b_0.mp c_17
          refine lv_iconst (v := 0) hx hb d_M_corner_61 (by decide) ?_
          refine lv_istore (lv' := [(6, .int 0), (0, .ref m0), (1, .int p0), (2, .int p1), (3, .int p2), (4, .int p3), (5, .int p4)]) hx hb d_M_corner_62 hl (by decide) rfl (fun ls hl => ?_)
          refine lv_aload_n hx hb d_M_corner_64 rfl (lv_at hl 1 rfl) ?_
          refine lv_iload hx hb d_M_corner_65 (lv_at hl 0 rfl) ?_
          refine lv_if_ne (tgt := 74) hx hb d_M_corner_67 (by decide) (fun c_18 => absurd c_18 (by decide)) (fun _ => ?_)
          refine lv_iconst (v := 1) hx hb d_M_corner_70 (by decide) ?_
          refine lv_goto (tgt := 75) hx hb d_M_corner_71 (by decide) ?_
          refine lv_iconst (v := 0) hx hb d_M_corner_75 (by decide) ?_
          have hPc := hP.sub (ws' := [(m0, .inr (2, [.int th, .ref a1, .ref a2, .ref a3, .ref a4, .ref a5, .int lf, .int tp, .int wd, .int hg, .int ws, .int lk, .int cm, .int mx, .int my]))]) [0] rfl
          have hDc := hD.sub (ws' := [(m0, .inr (2, [.int th, .ref a1, .ref a2, .ref a3, .ref a4, .ref a5, .int lf, .int tp, .int wd, .int hg, .int ws, .int lk, .int cm, .int mx, .int my]))]) [0] (by decide) rfl
          have hKc := hK.sub (tys' := []) [] rfl
          have hFc := va_free (wc := [(m0, .inr (2, [.int th, .ref a1, .ref a2, .ref a3, .ref a4, .ref a5, .int lf, .int tp, .int wd, .int hg, .int ws, .int lk, .int cm, .int mx, .int my]))]) hD hS hA [0] rfl
          refine va_calli (va_runV (As := [.int 1, .int 0]) (rest := []) ⟨hx, hb, hml, hown, hts⟩ (c_M_refuse l dC dI m0 a1 a2 a3 a4 a5 th lf tp wd hg ws lk cm mx my true false s.heap.size) (cwV 2 hts (er_gV k_365 k_366 k_10 k_20 k_367) rfl rfl rfl (by decide +kernel) ⟨Nat.le_of_ble_eq_true rfl, Nat.le_of_ble_eq_true rfl⟩) ⟨PI.blind, va_recv hKc hPc (ci := 2) (q0 := 0) rfl rfl, PI.at hN hKc hPc hDc⟩ rfl rfl hl.1 rfl (lv_room (Nat.le_of_ble_eq_true rfl)) d_M_corner_76 ⟨Nat.le_of_ble_eq_true rfl, Nat.le_of_ble_eq_true rfl⟩) hS (fun q _ h => hFc q h) hFc (fun r_19 u t H1 locs ht hvm hw hB hz1 hk1 hS => ?_)
          obtain ⟨hP1, hK1, hD1⟩ := hB
          rw [ht] at hP1
          have hK1 := va_K.moved hvm.symm hK1
          obtain ⟨hP, hD⟩ := va_join (wr := []) (w1 := [(m0, .inr (2, [.int (er_th true false), .ref a1, .ref a2, .ref a3, .ref a4, .ref a5, .int lf, .int tp, .int wd, .int hg, .int ws, .int lk, .int cm, .int mx, .int my]))]) hP hD [0] [] rfl rfl (by decide) (by decide) hk1 hFc hP1 hD1
          have hK := (hK.sub (tys' := []) [] rfl).app hK1
          generalize H1 = H at hP hS ⊢
          have hP : va_P (dC, dI) classes [(m0, .inr (2, [.int (er_th true false), .ref a1, .ref a2, .ref a3, .ref a4, .ref a5, .int lf, .int tp, .int wd, .int hg, .int ws, .int lk, .int cm, .int mx, .int my]))] H := hP
          have hD : va_D A [(m0, .inr (2, [.int (er_th true false), .ref a1, .ref a2, .ref a3, .ref a4, .ref a5, .int lf, .int tp, .int wd, .int hg, .int ws, .int lk, .int cm, .int mx, .int my]))] := hD
          have hK : va_K (dC, dI) classes [] s := hK
          obtain rfl : er_b (true || false) = r_19 := Eq.symm hw
          refine lv_if_eq (tgt := 83) hx hb d_M_corner_79 (by decide) (fun c_20 => absurd c_20 (by decide)) (fun _ => ?_)
          have hP9 := hP.sub (ws' := [(m0, .inr (2, [.int (er_th true false), .ref a1, .ref a2, .ref a3, .ref a4, .ref a5, .int lf, .int tp, .int wd, .int hg, .int ws, .int lk, .int cm, .int mx, .int my]))]) [0] rfl
          have hD9 := hD.sub (ws' := [(m0, .inr (2, [.int (er_th true false), .ref a1, .ref a2, .ref a3, .ref a4, .ref a5, .int lf, .int tp, .int wd, .int hg, .int ws, .int lk, .int cm, .int mx, .int my]))]) [0] (by decide) rfl
          have hK9 := hK.sub (tys' := []) [] rfl
          exact W.vret hx hb hr (fun u9 ht hW => ⟨⟨(), rfl, trivial, ⟨by rw [ht]; exact hP9, va_K.moved hW.alike hK9, hD9⟩⟩, hS.F ht⟩) hS.2.2 d_M_corner_82
        · have c_17 := er_b_n.mp c_17
          refine lv_iload hx hb d_M_corner_46 (lv_at hl 5 rfl) ?_
          refine lv_iconst (v := 1) hx hb d_M_corner_48 (by decide) ?_
          refine lv_ldc (v := 8388608) hx hb hown (hts (.constant R_M 40 8388608) (by decide +kernel)) d_M_corner_49 ?_
          have hPc := hP.sub (ws' := []) [] rfl
          have hKc := hK.sub (tys' := []) [] rfl
          refine vp_callSi (va_runS (As := [.int p4, .int 1, .int 8388608]) (rest := []) ⟨hx, hb, hml, hown, hts⟩ (c_M_in l dC dI p4 1 8388608) (va_cwS 3 hts (er_gS k_360 k_361 k_20 k_362) rfl rfl rfl (by decide +kernel) ⟨Nat.le_of_ble_eq_true rfl, Nat.le_of_ble_eq_true rfl⟩) ⟨PP.blind, PP.at hN hKc hPc⟩ rfl rfl hl.1 rfl (lv_room (Nat.le_of_ble_eq_true rfl)) d_M_corner_51 ⟨Nat.zero_le _, Nat.zero_le _⟩).run (fun r_21 hr_21 => ?_)
          obtain rfl : er_b (er_win p4 1 8388608) = r_21 := Eq.symm hr_21
          refine lv_if_eq (tgt := 61) hx hb d_M_corner_54 (by decide) (fun c_22 => ?_) (fun c_22 => ?_)
          · have c_22 := er_b_0.mp c_22
            refine lv_iconst (v := 0) hx hb d_M_corner_61 (by decide) ?_
            refine lv_istore (lv' := [(6, .int 0), (0, .ref m0), (1, .int p0), (2, .int p1), (3, .int p2), (4, .int p3), (5, .int p4)]) hx hb d_M_corner_62 hl (by decide) rfl (fun ls hl => ?_)
            refine lv_aload_n hx hb d_M_corner_64 rfl (lv_at hl 1 rfl) ?_
            refine lv_iload hx hb d_M_corner_65 (lv_at hl 0 rfl) ?_
            refine lv_if_ne (tgt := 74) hx hb d_M_corner_67 (by decide) (fun c_23 => absurd c_23 (by decide)) (fun _ => ?_)
            refine lv_iconst (v := 1) hx hb d_M_corner_70 (by decide) ?_
            refine lv_goto (tgt := 75) hx hb d_M_corner_71 (by decide) ?_
            refine lv_iconst (v := 0) hx hb d_M_corner_75 (by decide) ?_
            have hPc := hP.sub (ws' := [(m0, .inr (2, [.int th, .ref a1, .ref a2, .ref a3, .ref a4, .ref a5, .int lf, .int tp, .int wd, .int hg, .int ws, .int lk, .int cm, .int mx, .int my]))]) [0] rfl
            have hDc := hD.sub (ws' := [(m0, .inr (2, [.int th, .ref a1, .ref a2, .ref a3, .ref a4, .ref a5, .int lf, .int tp, .int wd, .int hg, .int ws, .int lk, .int cm, .int mx, .int my]))]) [0] (by decide) rfl
            have hKc := hK.sub (tys' := []) [] rfl
            have hFc := va_free (wc := [(m0, .inr (2, [.int th, .ref a1, .ref a2, .ref a3, .ref a4, .ref a5, .int lf, .int tp, .int wd, .int hg, .int ws, .int lk, .int cm, .int mx, .int my]))]) hD hS hA [0] rfl
            refine va_calli (va_runV (As := [.int 1, .int 0]) (rest := []) ⟨hx, hb, hml, hown, hts⟩ (c_M_refuse l dC dI m0 a1 a2 a3 a4 a5 th lf tp wd hg ws lk cm mx my true false s.heap.size) (cwV 2 hts (er_gV k_365 k_366 k_10 k_20 k_367) rfl rfl rfl (by decide +kernel) ⟨Nat.le_of_ble_eq_true rfl, Nat.le_of_ble_eq_true rfl⟩) ⟨PI.blind, va_recv hKc hPc (ci := 2) (q0 := 0) rfl rfl, PI.at hN hKc hPc hDc⟩ rfl rfl hl.1 rfl (lv_room (Nat.le_of_ble_eq_true rfl)) d_M_corner_76 ⟨Nat.le_of_ble_eq_true rfl, Nat.le_of_ble_eq_true rfl⟩) hS (fun q _ h => hFc q h) hFc (fun r_24 u t H1 locs ht hvm hw hB hz1 hk1 hS => ?_)
            obtain ⟨hP1, hK1, hD1⟩ := hB
            rw [ht] at hP1
            have hK1 := va_K.moved hvm.symm hK1
            obtain ⟨hP, hD⟩ := va_join (wr := []) (w1 := [(m0, .inr (2, [.int (er_th true false), .ref a1, .ref a2, .ref a3, .ref a4, .ref a5, .int lf, .int tp, .int wd, .int hg, .int ws, .int lk, .int cm, .int mx, .int my]))]) hP hD [0] [] rfl rfl (by decide) (by decide) hk1 hFc hP1 hD1
            have hK := (hK.sub (tys' := []) [] rfl).app hK1
            generalize H1 = H at hP hS ⊢
            have hP : va_P (dC, dI) classes [(m0, .inr (2, [.int (er_th true false), .ref a1, .ref a2, .ref a3, .ref a4, .ref a5, .int lf, .int tp, .int wd, .int hg, .int ws, .int lk, .int cm, .int mx, .int my]))] H := hP
            have hD : va_D A [(m0, .inr (2, [.int (er_th true false), .ref a1, .ref a2, .ref a3, .ref a4, .ref a5, .int lf, .int tp, .int wd, .int hg, .int ws, .int lk, .int cm, .int mx, .int my]))] := hD
            have hK : va_K (dC, dI) classes [] s := hK
            obtain rfl : er_b (true || false) = r_24 := Eq.symm hw
            refine lv_if_eq (tgt := 83) hx hb d_M_corner_79 (by decide) (fun c_25 => absurd c_25 (by decide)) (fun _ => ?_)
            have hP9 := hP.sub (ws' := [(m0, .inr (2, [.int (er_th true false), .ref a1, .ref a2, .ref a3, .ref a4, .ref a5, .int lf, .int tp, .int wd, .int hg, .int ws, .int lk, .int cm, .int mx, .int my]))]) [0] rfl
            have hD9 := hD.sub (ws' := [(m0, .inr (2, [.int (er_th true false), .ref a1, .ref a2, .ref a3, .ref a4, .ref a5, .int lf, .int tp, .int wd, .int hg, .int ws, .int lk, .int cm, .int mx, .int my]))]) [0] (by decide) rfl
            have hK9 := hK.sub (tys' := []) [] rfl
            exact W.vret hx hb hr (fun u9 ht hW => ⟨⟨(), rfl, trivial, ⟨by rw [ht]; exact hP9, va_K.moved hW.alike hK9, hD9⟩⟩, hS.F ht⟩) hS.2.2 d_M_corner_82
          · have c_22 := er_b_n.mp c_22
            exfalso
            simp_all

set_option maxHeartbeats 1000000 in
set_option maxRecDepth 100000 in
theorem c_M_value (l : Launch) (dC : Nat → ClassId) (dI : Nat → Nat → Nat) (m0 a1 a2 a3 a4 a5 : Nat) (g1 g2 g3 g4 g5 : ClassId) (X Y D Q Vm : Nat → Int32) (th lf tp wd hg ws lk cm mx my : Int32) (j n : Nat) (p2 : Int32) (hj : j < 3) (hn : n < 28) (sz : Nat) : Met l y_M_value w_M_value ({ frames := 1, cells := 0, slots := 0, locals := 22 }) (va_Pc [.ref m0, .int (nI j), .int (nI n), .int p2] (PI dC dI [(g1, .int), (g2, .int), (g3, .int), (g4, .int), (g5, .int)] [(m0, .inr (2, [.int th, .ref a1, .ref a2, .ref a3, .ref a4, .ref a5, .int lf, .int tp, .int wd, .int hg, .int ws, .int lk, .int cm, .int mx, .int my])), (a1, .inl (g1, 3, .inl X)), (a2, .inl (g2, 3, .inl Y)), (a3, .inl (g3, 3, .inl D)), (a4, .inl (g4, 3, .inl Q)), (a5, .inl (g5, 84, .inl Vm))] sz)) (va_Qv (fun (u : Unit) => True) (fun (u : Unit) t => EI dC dI [(g1, .int), (g2, .int), (g3, .int), (g4, .int), (g5, .int)] [(m0, .inr (2, [.int (er_th false false), .ref a1, .ref a2, .ref a3, .ref a4, .ref a5, .int lf, .int tp, .int wd, .int hg, .int 0, .int lk, .int cm, .int mx, .int my])), (a1, .inl (g1, 3, .inl X)), (a2, .inl (g2, 3, .inl Y)), (a3, .inl (g3, 3, .inl D)), (a4, .inl (g4, 3, .inl Q)), (a5, .inl (g5, 84, .inl (upd Vm (28 * j + n) p2)))] (va_A [(m0, .inr (2, [.int th, .ref a1, .ref a2, .ref a3, .ref a4, .ref a5, .int lf, .int tp, .int wd, .int hg, .int ws, .int lk, .int cm, .int mx, .int my])), (a1, .inl (g1, 3, .inl X)), (a2, .inl (g2, 3, .inl Y)), (a3, .inl (g3, 3, .inl D)), (a4, .inl (g4, 3, .inl Q)), (a5, .inl (g5, 84, .inl Vm))] sz) t) (va_A [(m0, .inr (2, [.int th, .ref a1, .ref a2, .ref a3, .ref a4, .ref a5, .int lf, .int tp, .int wd, .int hg, .int ws, .int lk, .int cm, .int mx, .int my])), (a1, .inl (g1, 3, .inl X)), (a2, .inl (g2, 3, .inl Y)), (a3, .inl (g3, 3, .inl D)), (a4, .inl (g4, 3, .inl Q)), (a5, .inl (g5, 84, .inl Vm))] sz)) 0 0 (va_A [(m0, .inr (2, [.int th, .ref a1, .ref a2, .ref a3, .ref a4, .ref a5, .int lf, .int tp, .int wd, .int hg, .int ws, .int lk, .int cm, .int mx, .int my])), (a1, .inl (g1, 3, .inl X)), (a2, .inl (g2, 3, .inl Y)), (a3, .inl (g3, 3, .inl D)), (a4, .inl (g4, 3, .inl Q)), (a5, .inl (g5, 84, .inl Vm))] sz) := by
  refine Met.ofW (cc := b_M_value) (maxL := 4) (ret := none) (by decide +kernel) rfl ?_
  intro p e s m args below meth c s₁ B hml hv
  obtain ⟨rfl, hsz, hN, hK, hP, hD0⟩ := hv
  have hx := B.exec
  have hb := B.bytes
  have hr := B.returns
  have hts := er_hts (atoms_spec (ws := w_M_value) B.pre)
  have hown : s.vm.findClass R_M = some m.cls := findClass_of_methodNamed B.named
  have hlocks := B.notSynchronized
  subst hsz
  have hD := hD0.self (sz := s.heap.size)
  generalize hAe : va_A [(m0, .inr (2, [.int th, .ref a1, .ref a2, .ref a3, .ref a4, .ref a5, .int lf, .int tp, .int wd, .int hg, .int ws, .int lk, .int cm, .int mx, .int my])), (a1, .inl (g1, 3, .inl X)), (a2, .inl (g2, 3, .inl Y)), (a3, .inl (g3, 3, .inl D)), (a4, .inl (g4, 3, .inl Q)), (a5, .inl (g5, 84, .inl Vm))] s.heap.size = A at hD ⊢
  have hA : ∀ q : Nat, s.heap.size ≤ q → A q := fun q h => by rw [← hAe]; exact Or.inr h
  have hS : va_S A s.heap s.heap [] := va_S.rf
  have hP : va_P (dC, dI) classes [(m0, .inr (2, [.int th, .ref a1, .ref a2, .ref a3, .ref a4, .ref a5, .int lf, .int tp, .int wd, .int hg, .int ws, .int lk, .int cm, .int mx, .int my])), (a1, .inl (g1, 3, .inl X)), (a2, .inl (g2, 3, .inl Y)), (a3, .inl (g3, 3, .inl D)), (a4, .inl (g4, 3, .inl Q)), (a5, .inl (g5, 84, .inl Vm))] s.heap := hP
  have hl := lv_entry ([.ref m0, .int (nI j), .int (nI n), .int p2]) (n := 4) (Nat.le_of_ble_eq_true rfl)
  rw [lg_entry_eq]
  generalize (lg_sl ([.ref m0, .int (nI j), .int (nI n), .int p2]) ++ List.replicate (4 - (lg_sl ([.ref m0, .int (nI j), .int (nI n), .int p2])).length) Slot.unset).toArray = ls at hl ⊢
  have hl : lv_has ls 4 [(0, .ref m0), (1, .int (nI j)), (2, .int (nI n)), (3, .int p2)] := hl
  have u0 : er_win (nI j) 0 2 = true := er_win_nI (k := 2) (by omega) (by decide)
  have u1 : er_win (nI n) 0 27 = true := er_win_nI (k := 27) (by omega) (by decide)
  refine lv_aload_n hx hb d_M_value_0 rfl (lv_at hl 0 rfl) ?_
  refine lv_iload_n hx hb d_M_value_1 rfl (lv_at hl 1 rfl) ?_
  refine lv_iconst (v := 0) hx hb d_M_value_2 (by decide) ?_
  refine lv_iconst (v := 2) hx hb d_M_value_3 (by decide) ?_
  have hPc := hP.sub (ws' := []) [] rfl
  have hKc := hK.sub (tys' := []) [] rfl
  refine vp_callSi (va_runS (As := [.int (nI j), .int 0, .int 2]) (rest := [.ref m0]) ⟨hx, hb, hml, hown, hts⟩ (c_M_in l dC dI (nI j) 0 2) (va_cwS 3 hts (er_gS k_360 k_361 k_20 k_362) rfl rfl rfl (by decide +kernel) ⟨Nat.le_of_ble_eq_true rfl, Nat.le_of_ble_eq_true rfl⟩) ⟨PP.blind, PP.at hN hKc hPc⟩ rfl rfl hl.1 rfl (lv_room (Nat.le_of_ble_eq_true rfl)) d_M_value_4 ⟨Nat.zero_le _, Nat.zero_le _⟩).run (fun r_1 hr_1 => ?_)
  obtain rfl : er_b (er_win (nI j) 0 2) = r_1 := Eq.symm hr_1
  refine lv_if_eq (tgt := 20) hx hb d_M_value_7 (by decide) (fun c_2 => ?_) (fun c_2 => ?_)
  · have c_2 := er_b_0.mp c_2
    exact absurd c_2 (by simp_all)
  · have c_2 := er_b_n.mp c_2
    refine lv_iload_n hx hb d_M_value_10 rfl (lv_at hl 2 rfl) ?_
    refine lv_iconst (v := 0) hx hb d_M_value_11 (by decide) ?_
    refine lv_bipush (v := 27) hx hb d_M_value_12 (by decide) ?_
    have hPc := hP.sub (ws' := []) [] rfl
    have hKc := hK.sub (tys' := []) [] rfl
    refine vp_callSi (va_runS (As := [.int (nI n), .int 0, .int 27]) (rest := [.ref m0]) ⟨hx, hb, hml, hown, hts⟩ (c_M_in l dC dI (nI n) 0 27) (va_cwS 3 hts (er_gS k_360 k_361 k_20 k_362) rfl rfl rfl (by decide +kernel) ⟨Nat.le_of_ble_eq_true rfl, Nat.le_of_ble_eq_true rfl⟩) ⟨PP.blind, PP.at hN hKc hPc⟩ rfl rfl hl.1 rfl (lv_room (Nat.le_of_ble_eq_true rfl)) d_M_value_14 ⟨Nat.zero_le _, Nat.zero_le _⟩).run (fun r_3 hr_3 => ?_)
    obtain rfl : er_b (er_win (nI n) 0 27) = r_3 := Eq.symm hr_3
    refine lv_if_ne (tgt := 24) hx hb d_M_value_17 (by decide) (fun c_4 => ?_) (fun c_4 => ?_)
    · have c_4 := er_b_n.mp c_4
      refine lv_iconst (v := 0) hx hb d_M_value_24 (by decide) ?_
      refine lv_iconst (v := 0) hx hb d_M_value_25 (by decide) ?_
      have hPc := hP.sub (ws' := [(m0, .inr (2, [.int th, .ref a1, .ref a2, .ref a3, .ref a4, .ref a5, .int lf, .int tp, .int wd, .int hg, .int ws, .int lk, .int cm, .int mx, .int my]))]) [0] rfl
      have hDc := hD.sub (ws' := [(m0, .inr (2, [.int th, .ref a1, .ref a2, .ref a3, .ref a4, .ref a5, .int lf, .int tp, .int wd, .int hg, .int ws, .int lk, .int cm, .int mx, .int my]))]) [0] (by decide) rfl
      have hKc := hK.sub (tys' := []) [] rfl
      have hFc := va_free (wc := [(m0, .inr (2, [.int th, .ref a1, .ref a2, .ref a3, .ref a4, .ref a5, .int lf, .int tp, .int wd, .int hg, .int ws, .int lk, .int cm, .int mx, .int my]))]) hD hS hA [0] rfl
      refine va_calli (va_runV (As := [.int 0, .int 0]) (rest := []) ⟨hx, hb, hml, hown, hts⟩ (c_M_refuse l dC dI m0 a1 a2 a3 a4 a5 th lf tp wd hg ws lk cm mx my false false s.heap.size) (cwV 2 hts (er_gV k_365 k_366 k_10 k_20 k_367) rfl rfl rfl (by decide +kernel) ⟨Nat.le_of_ble_eq_true rfl, Nat.le_of_ble_eq_true rfl⟩) ⟨PI.blind, va_recv hKc hPc (ci := 2) (q0 := 0) rfl rfl, PI.at hN hKc hPc hDc⟩ rfl rfl hl.1 rfl (lv_room (Nat.le_of_ble_eq_true rfl)) d_M_value_26 ⟨Nat.le_of_ble_eq_true rfl, Nat.le_of_ble_eq_true rfl⟩) hS (fun q _ h => hFc q h) hFc (fun r_5 u t H1 locs ht hvm hw hB hz1 hk1 hS => ?_)
      obtain ⟨hP1, hK1, hD1⟩ := hB
      rw [ht] at hP1
      have hK1 := va_K.moved hvm.symm hK1
      obtain ⟨hP, hD⟩ := va_join (wr := [(a1, .inl (g1, 3, .inl X)), (a2, .inl (g2, 3, .inl Y)), (a3, .inl (g3, 3, .inl D)), (a4, .inl (g4, 3, .inl Q)), (a5, .inl (g5, 84, .inl Vm))]) (w1 := [(m0, .inr (2, [.int (er_th false false), .ref a1, .ref a2, .ref a3, .ref a4, .ref a5, .int lf, .int tp, .int wd, .int hg, .int ws, .int lk, .int cm, .int mx, .int my]))]) hP hD [0] [1, 2, 3, 4, 5] rfl rfl (by decide) (by decide) hk1 hFc hP1 hD1
      have hK := (hK.sub (tys' := [(g1, .int), (g2, .int), (g3, .int), (g4, .int), (g5, .int)]) [0, 1, 2, 3, 4] rfl).app hK1
      generalize H1 = H at hP hS ⊢
      have hP : va_P (dC, dI) classes [(a1, .inl (g1, 3, .inl X)), (a2, .inl (g2, 3, .inl Y)), (a3, .inl (g3, 3, .inl D)), (a4, .inl (g4, 3, .inl Q)), (a5, .inl (g5, 84, .inl Vm)), (m0, .inr (2, [.int (er_th false false), .ref a1, .ref a2, .ref a3, .ref a4, .ref a5, .int lf, .int tp, .int wd, .int hg, .int ws, .int lk, .int cm, .int mx, .int my]))] H := hP
      have hD : va_D A [(a1, .inl (g1, 3, .inl X)), (a2, .inl (g2, 3, .inl Y)), (a3, .inl (g3, 3, .inl D)), (a4, .inl (g4, 3, .inl Q)), (a5, .inl (g5, 84, .inl Vm)), (m0, .inr (2, [.int (er_th false false), .ref a1, .ref a2, .ref a3, .ref a4, .ref a5, .int lf, .int tp, .int wd, .int hg, .int ws, .int lk, .int cm, .int mx, .int my]))] := hD
      have hK : va_K (dC, dI) classes [(g1, .int), (g2, .int), (g3, .int), (g4, .int), (g5, .int)] s := hK
      obtain rfl : er_b (false || false) = r_5 := Eq.symm hw
      refine lv_if_eq (tgt := 33) hx hb d_M_value_29 (by decide) (fun _ => ?_) (fun c_6 => absurd c_6 (by decide))
      refine lv_aload_n hx hb d_M_value_33 rfl (lv_at hl 0 rfl) ?_
      refine va_get (D := (dC, dI)) (ci := 2) (v := .ref a5) (C := R_M) (T := F_M) (N := 15) hx hb hts i_M hown hK hP 5 rfl rfl 5 (by decide) (hts _ k_311) (fun _ h9 => h9) rfl d_M_value_34 ?_
      refine lv_bipush (v := 28) hx hb d_M_value_37 (by decide) ?_
      refine lv_iload_n hx hb d_M_value_39 rfl (lv_at hl 1 rfl) ?_
      refine lv_imul hx hb d_M_value_40 ?_
      refine lv_iload_n hx hb d_M_value_41 rfl (lv_at hl 2 rfl) ?_
      refine lv_iadd hx hb d_M_value_42 ?_
      refine lv_topi (x := (28 * (nI j)) + (nI n)) (fun y9 e9 => ?_)
      obtain rfl : y9 = nI (28 * j + n) := by rw [e9]; exact er_ix28 j n
      refine lv_iload_n hx hb d_M_value_43 rfl (lv_at hl 3 rfl) ?_
      refine va_iast (i := nI (28 * j + n)) hx hb hK hP hD hS 4 4 rfl rfl (vp_in_nI (by omega) (by decide)) d_M_value_44 (fun H locs hP hD hS => ?_)
      rw [nI_clamp (by omega)] at hP hD
      have hP : va_P (dC, dI) classes [(a1, .inl (g1, 3, .inl X)), (a2, .inl (g2, 3, .inl Y)), (a3, .inl (g3, 3, .inl D)), (a4, .inl (g4, 3, .inl Q)), (a5, .inl (g5, 84, .inl (upd Vm (28 * j + n) p2))), (m0, .inr (2, [.int (er_th false false), .ref a1, .ref a2, .ref a3, .ref a4, .ref a5, .int lf, .int tp, .int wd, .int hg, .int ws, .int lk, .int cm, .int mx, .int my]))] H := hP
      have hD : va_D A [(a1, .inl (g1, 3, .inl X)), (a2, .inl (g2, 3, .inl Y)), (a3, .inl (g3, 3, .inl D)), (a4, .inl (g4, 3, .inl Q)), (a5, .inl (g5, 84, .inl (upd Vm (28 * j + n) p2))), (m0, .inr (2, [.int (er_th false false), .ref a1, .ref a2, .ref a3, .ref a4, .ref a5, .int lf, .int tp, .int wd, .int hg, .int ws, .int lk, .int cm, .int mx, .int my]))] := hD
      refine lv_aload_n hx hb d_M_value_45 rfl (lv_at hl 0 rfl) ?_
      refine lv_iconst (v := 0) hx hb d_M_value_46 (by decide) ?_
      refine va_put (D := (dC, dI)) (ci := 2) (v := .int 0) (ty := .boolean) (C := R_M) (T := F_M) (N := 15) hx hb hts i_M t_M t_M_ok n_M hown hK hP hD hS 5 rfl rfl 10 (by decide) (hts _ k_316) (fun _ h9 => h9) rfl (by decide +kernel) (by decide) rfl (Nat.le_of_ble_eq_true rfl) d_M_value_47 (fun H locs hP hD hS => ?_)
      have hP : va_P (dC, dI) classes [(a1, .inl (g1, 3, .inl X)), (a2, .inl (g2, 3, .inl Y)), (a3, .inl (g3, 3, .inl D)), (a4, .inl (g4, 3, .inl Q)), (a5, .inl (g5, 84, .inl (upd Vm (28 * j + n) p2))), (m0, .inr (2, [.int (er_th false false), .ref a1, .ref a2, .ref a3, .ref a4, .ref a5, .int lf, .int tp, .int wd, .int hg, .int 0, .int lk, .int cm, .int mx, .int my]))] H := hP
      have hD : va_D A [(a1, .inl (g1, 3, .inl X)), (a2, .inl (g2, 3, .inl Y)), (a3, .inl (g3, 3, .inl D)), (a4, .inl (g4, 3, .inl Q)), (a5, .inl (g5, 84, .inl (upd Vm (28 * j + n) p2))), (m0, .inr (2, [.int (er_th false false), .ref a1, .ref a2, .ref a3, .ref a4, .ref a5, .int lf, .int tp, .int wd, .int hg, .int 0, .int lk, .int cm, .int mx, .int my]))] := hD
      have hP9 := hP.sub (ws' := [(m0, .inr (2, [.int (er_th false false), .ref a1, .ref a2, .ref a3, .ref a4, .ref a5, .int lf, .int tp, .int wd, .int hg, .int 0, .int lk, .int cm, .int mx, .int my])), (a1, .inl (g1, 3, .inl X)), (a2, .inl (g2, 3, .inl Y)), (a3, .inl (g3, 3, .inl D)), (a4, .inl (g4, 3, .inl Q)), (a5, .inl (g5, 84, .inl (upd Vm (28 * j + n) p2)))]) [5, 0, 1, 2, 3, 4] rfl
      have hD9 := hD.sub (ws' := [(m0, .inr (2, [.int (er_th false false), .ref a1, .ref a2, .ref a3, .ref a4, .ref a5, .int lf, .int tp, .int wd, .int hg, .int 0, .int lk, .int cm, .int mx, .int my])), (a1, .inl (g1, 3, .inl X)), (a2, .inl (g2, 3, .inl Y)), (a3, .inl (g3, 3, .inl D)), (a4, .inl (g4, 3, .inl Q)), (a5, .inl (g5, 84, .inl (upd Vm (28 * j + n) p2)))]) [5, 0, 1, 2, 3, 4] (by decide) rfl
      have hK9 := hK.sub (tys' := [(g1, .int), (g2, .int), (g3, .int), (g4, .int), (g5, .int)]) [0, 1, 2, 3, 4] rfl
      exact W.vret hx hb hr (fun u9 ht hW => ⟨⟨(), rfl, trivial, ⟨by rw [ht]; exact hP9, va_K.moved hW.alike hK9, hD9⟩⟩, hS.F ht⟩) hS.2.2 d_M_value_50
    · have c_4 := er_b_0.mp c_4
      exact absurd c_4 (by simp_all)

set_option maxHeartbeats 1000000 in
set_option maxRecDepth 100000 in
theorem c_M_valueX (l : Launch) (dC : Nat → ClassId) (dI : Nat → Nat → Nat) (m0 a1 a2 a3 a4 a5 : Nat) (th lf tp wd hg ws lk cm mx my : Int32) (p0 p1 p2 : Int32) (hv : (er_win p0 0 2 && er_win p1 0 27) = false) (sz : Nat) : Met l y_M_value w_M_value ({ frames := 1, cells := 0, slots := 0, locals := 22 }) (va_Pc [.ref m0, .int p0, .int p1, .int p2] (PI dC dI [] [(m0, .inr (2, [.int th, .ref a1, .ref a2, .ref a3, .ref a4, .ref a5, .int lf, .int tp, .int wd, .int hg, .int ws, .int lk, .int cm, .int mx, .int my]))] sz)) (va_Qv (fun (u : Unit) => True) (fun (u : Unit) t => EI dC dI [] [(m0, .inr (2, [.int (er_th true false), .ref a1, .ref a2, .ref a3, .ref a4, .ref a5, .int lf, .int tp, .int wd, .int hg, .int ws, .int lk, .int cm, .int mx, .int my]))] (va_A [(m0, .inr (2, [.int th, .ref a1, .ref a2, .ref a3, .ref a4, .ref a5, .int lf, .int tp, .int wd, .int hg, .int ws, .int lk, .int cm, .int mx, .int my]))] sz) t) (va_A [(m0, .inr (2, [.int th, .ref a1, .ref a2, .ref a3, .ref a4, .ref a5, .int lf, .int tp, .int wd, .int hg, .int ws, .int lk, .int cm, .int mx, .int my]))] sz)) 0 0 (va_A [(m0, .inr (2, [.int th, .ref a1, .ref a2, .ref a3, .ref a4, .ref a5, .int lf, .int tp, .int wd, .int hg, .int ws, .int lk, .int cm, .int mx, .int my]))] sz) := by
  refine Met.ofW (cc := b_M_value) (maxL := 4) (ret := none) (by decide +kernel) rfl ?_
  intro p e s m args below meth c s₁ B hml hv
  obtain ⟨rfl, hsz, hN, hK, hP, hD0⟩ := hv
  have hx := B.exec
  have hb := B.bytes
  have hr := B.returns
  have hts := er_hts (atoms_spec (ws := w_M_value) B.pre)
  have hown : s.vm.findClass R_M = some m.cls := findClass_of_methodNamed B.named
  have hlocks := B.notSynchronized
  subst hsz
  have hD := hD0.self (sz := s.heap.size)
  generalize hAe : va_A [(m0, .inr (2, [.int th, .ref a1, .ref a2, .ref a3, .ref a4, .ref a5, .int lf, .int tp, .int wd, .int hg, .int ws, .int lk, .int cm, .int mx, .int my]))] s.heap.size = A at hD ⊢
  have hA : ∀ q : Nat, s.heap.size ≤ q → A q := fun q h => by rw [← hAe]; exact Or.inr h
  have hS : va_S A s.heap s.heap [] := va_S.rf
  have hP : va_P (dC, dI) classes [(m0, .inr (2, [.int th, .ref a1, .ref a2, .ref a3, .ref a4, .ref a5, .int lf, .int tp, .int wd, .int hg, .int ws, .int lk, .int cm, .int mx, .int my]))] s.heap := hP
  have hl := lv_entry ([.ref m0, .int p0, .int p1, .int p2]) (n := 4) (Nat.le_of_ble_eq_true rfl)
  rw [lg_entry_eq]
  generalize (lg_sl ([.ref m0, .int p0, .int p1, .int p2]) ++ List.replicate (4 - (lg_sl ([.ref m0, .int p0, .int p1, .int p2])).length) Slot.unset).toArray = ls at hl ⊢
  have hl : lv_has ls 4 [(0, .ref m0), (1, .int p0), (2, .int p1), (3, .int p2)] := hl
  refine lv_aload_n hx hb d_M_value_0 rfl (lv_at hl 0 rfl) ?_
  refine lv_iload_n hx hb d_M_value_1 rfl (lv_at hl 1 rfl) ?_
  refine lv_iconst (v := 0) hx hb d_M_value_2 (by decide) ?_
  refine lv_iconst (v := 2) hx hb d_M_value_3 (by decide) ?_
  have hPc := hP.sub (ws' := []) [] rfl
  have hKc := hK.sub (tys' := []) [] rfl
  refine vp_callSi (va_runS (As := [.int p0, .int 0, .int 2]) (rest := [.ref m0]) ⟨hx, hb, hml, hown, hts⟩ (c_M_in l dC dI p0 0 2) (va_cwS 3 hts (er_gS k_360 k_361 k_20 k_362) rfl rfl rfl (by decide +kernel) ⟨Nat.le_of_ble_eq_true rfl, Nat.le_of_ble_eq_true rfl⟩) ⟨PP.blind, PP.at hN hKc hPc⟩ rfl rfl hl.1 rfl (lv_room (Nat.le_of_ble_eq_true rfl)) d_M_value_4 ⟨Nat.zero_le _, Nat.zero_le _⟩).run (fun r_1 hr_1 => ?_)
  obtain rfl : er_b (er_win p0 0 2) = r_1 := Eq.symm hr_1
  refine lv_if_eq (tgt := 20) hx hb d_M_value_7 (by decide) (fun c_2 => ?_) (fun c_2 => ?_)
  · have c_2 := er_b_0.mp c_2
    refine lv_iconst (v := 1) hx hb d_M_value_20 (by decide) ?_
    refine lv_goto (tgt := 25) hx hb d_M_value_21 (by decide) ?_
    refine lv_iconst (v := 0) hx hb d_M_value_25 (by decide) ?_
    have hPc := hP.sub (ws' := [(m0, .inr (2, [.int th, .ref a1, .ref a2, .ref a3, .ref a4, .ref a5, .int lf, .int tp, .int wd, .int hg, .int ws, .int lk, .int cm, .int mx, .int my]))]) [0] rfl
    have hDc := hD.sub (ws' := [(m0, .inr (2, [.int th, .ref a1, .ref a2, .ref a3, .ref a4, .ref a5, .int lf, .int tp, .int wd, .int hg, .int ws, .int lk, .int cm, .int mx, .int my]))]) [0] (by decide) rfl
    have hKc := hK.sub (tys' := []) [] rfl
    have hFc := va_free (wc := [(m0, .inr (2, [.int th, .ref a1, .ref a2, .ref a3, .ref a4, .ref a5, .int lf, .int tp, .int wd, .int hg, .int ws, .int lk, .int cm, .int mx, .int my]))]) hD hS hA [0] rfl
    refine va_calli (va_runV (As := [.int 1, .int 0]) (rest := []) ⟨hx, hb, hml, hown, hts⟩ (c_M_refuse l dC dI m0 a1 a2 a3 a4 a5 th lf tp wd hg ws lk cm mx my true false s.heap.size) (cwV 2 hts (er_gV k_365 k_366 k_10 k_20 k_367) rfl rfl rfl (by decide +kernel) ⟨Nat.le_of_ble_eq_true rfl, Nat.le_of_ble_eq_true rfl⟩) ⟨PI.blind, va_recv hKc hPc (ci := 2) (q0 := 0) rfl rfl, PI.at hN hKc hPc hDc⟩ rfl rfl hl.1 rfl (lv_room (Nat.le_of_ble_eq_true rfl)) d_M_value_26 ⟨Nat.le_of_ble_eq_true rfl, Nat.le_of_ble_eq_true rfl⟩) hS (fun q _ h => hFc q h) hFc (fun r_3 u t H1 locs ht hvm hw hB hz1 hk1 hS => ?_)
    obtain ⟨hP1, hK1, hD1⟩ := hB
    rw [ht] at hP1
    have hK1 := va_K.moved hvm.symm hK1
    obtain ⟨hP, hD⟩ := va_join (wr := []) (w1 := [(m0, .inr (2, [.int (er_th true false), .ref a1, .ref a2, .ref a3, .ref a4, .ref a5, .int lf, .int tp, .int wd, .int hg, .int ws, .int lk, .int cm, .int mx, .int my]))]) hP hD [0] [] rfl rfl (by decide) (by decide) hk1 hFc hP1 hD1
    have hK := (hK.sub (tys' := []) [] rfl).app hK1
    generalize H1 = H at hP hS ⊢
    have hP : va_P (dC, dI) classes [(m0, .inr (2, [.int (er_th true false), .ref a1, .ref a2, .ref a3, .ref a4, .ref a5, .int lf, .int tp, .int wd, .int hg, .int ws, .int lk, .int cm, .int mx, .int my]))] H := hP
    have hD : va_D A [(m0, .inr (2, [.int (er_th true false), .ref a1, .ref a2, .ref a3, .ref a4, .ref a5, .int lf, .int tp, .int wd, .int hg, .int ws, .int lk, .int cm, .int mx, .int my]))] := hD
    have hK : va_K (dC, dI) classes [] s := hK
    obtain rfl : er_b (true || false) = r_3 := Eq.symm hw
    refine lv_if_eq (tgt := 33) hx hb d_M_value_29 (by decide) (fun c_4 => absurd c_4 (by decide)) (fun _ => ?_)
    have hP9 := hP.sub (ws' := [(m0, .inr (2, [.int (er_th true false), .ref a1, .ref a2, .ref a3, .ref a4, .ref a5, .int lf, .int tp, .int wd, .int hg, .int ws, .int lk, .int cm, .int mx, .int my]))]) [0] rfl
    have hD9 := hD.sub (ws' := [(m0, .inr (2, [.int (er_th true false), .ref a1, .ref a2, .ref a3, .ref a4, .ref a5, .int lf, .int tp, .int wd, .int hg, .int ws, .int lk, .int cm, .int mx, .int my]))]) [0] (by decide) rfl
    have hK9 := hK.sub (tys' := []) [] rfl
    exact W.vret hx hb hr (fun u9 ht hW => ⟨⟨(), rfl, trivial, ⟨by rw [ht]; exact hP9, va_K.moved hW.alike hK9, hD9⟩⟩, hS.F ht⟩) hS.2.2 d_M_value_32
  · have c_2 := er_b_n.mp c_2
    refine lv_iload_n hx hb d_M_value_10 rfl (lv_at hl 2 rfl) ?_
    refine lv_iconst (v := 0) hx hb d_M_value_11 (by decide) ?_
    refine lv_bipush (v := 27) hx hb d_M_value_12 (by decide) ?_
    have hPc := hP.sub (ws' := []) [] rfl
    have hKc := hK.sub (tys' := []) [] rfl
    refine vp_callSi (va_runS (As := [.int p1, .int 0, .int 27]) (rest := [.ref m0]) ⟨hx, hb, hml, hown, hts⟩ (c_M_in l dC dI p1 0 27) (va_cwS 3 hts (er_gS k_360 k_361 k_20 k_362) rfl rfl rfl (by decide +kernel) ⟨Nat.le_of_ble_eq_true rfl, Nat.le_of_ble_eq_true rfl⟩) ⟨PP.blind, PP.at hN hKc hPc⟩ rfl rfl hl.1 rfl (lv_room (Nat.le_of_ble_eq_true rfl)) d_M_value_14 ⟨Nat.zero_le _, Nat.zero_le _⟩).run (fun r_5 hr_5 => ?_)
    obtain rfl : er_b (er_win p1 0 27) = r_5 := Eq.symm hr_5
    refine lv_if_ne (tgt := 24) hx hb d_M_value_17 (by decide) (fun c_6 => ?_) (fun c_6 => ?_)
    · have c_6 := er_b_n.mp c_6
      exfalso
      simp_all
    · have c_6 := er_b_0.mp c_6
      refine lv_iconst (v := 1) hx hb d_M_value_20 (by decide) ?_
      refine lv_goto (tgt := 25) hx hb d_M_value_21 (by decide) ?_
      refine lv_iconst (v := 0) hx hb d_M_value_25 (by decide) ?_
      have hPc := hP.sub (ws' := [(m0, .inr (2, [.int th, .ref a1, .ref a2, .ref a3, .ref a4, .ref a5, .int lf, .int tp, .int wd, .int hg, .int ws, .int lk, .int cm, .int mx, .int my]))]) [0] rfl
      have hDc := hD.sub (ws' := [(m0, .inr (2, [.int th, .ref a1, .ref a2, .ref a3, .ref a4, .ref a5, .int lf, .int tp, .int wd, .int hg, .int ws, .int lk, .int cm, .int mx, .int my]))]) [0] (by decide) rfl
      have hKc := hK.sub (tys' := []) [] rfl
      have hFc := va_free (wc := [(m0, .inr (2, [.int th, .ref a1, .ref a2, .ref a3, .ref a4, .ref a5, .int lf, .int tp, .int wd, .int hg, .int ws, .int lk, .int cm, .int mx, .int my]))]) hD hS hA [0] rfl
      refine va_calli (va_runV (As := [.int 1, .int 0]) (rest := []) ⟨hx, hb, hml, hown, hts⟩ (c_M_refuse l dC dI m0 a1 a2 a3 a4 a5 th lf tp wd hg ws lk cm mx my true false s.heap.size) (cwV 2 hts (er_gV k_365 k_366 k_10 k_20 k_367) rfl rfl rfl (by decide +kernel) ⟨Nat.le_of_ble_eq_true rfl, Nat.le_of_ble_eq_true rfl⟩) ⟨PI.blind, va_recv hKc hPc (ci := 2) (q0 := 0) rfl rfl, PI.at hN hKc hPc hDc⟩ rfl rfl hl.1 rfl (lv_room (Nat.le_of_ble_eq_true rfl)) d_M_value_26 ⟨Nat.le_of_ble_eq_true rfl, Nat.le_of_ble_eq_true rfl⟩) hS (fun q _ h => hFc q h) hFc (fun r_7 u t H1 locs ht hvm hw hB hz1 hk1 hS => ?_)
      obtain ⟨hP1, hK1, hD1⟩ := hB
      rw [ht] at hP1
      have hK1 := va_K.moved hvm.symm hK1
      obtain ⟨hP, hD⟩ := va_join (wr := []) (w1 := [(m0, .inr (2, [.int (er_th true false), .ref a1, .ref a2, .ref a3, .ref a4, .ref a5, .int lf, .int tp, .int wd, .int hg, .int ws, .int lk, .int cm, .int mx, .int my]))]) hP hD [0] [] rfl rfl (by decide) (by decide) hk1 hFc hP1 hD1
      have hK := (hK.sub (tys' := []) [] rfl).app hK1
      generalize H1 = H at hP hS ⊢
      have hP : va_P (dC, dI) classes [(m0, .inr (2, [.int (er_th true false), .ref a1, .ref a2, .ref a3, .ref a4, .ref a5, .int lf, .int tp, .int wd, .int hg, .int ws, .int lk, .int cm, .int mx, .int my]))] H := hP
      have hD : va_D A [(m0, .inr (2, [.int (er_th true false), .ref a1, .ref a2, .ref a3, .ref a4, .ref a5, .int lf, .int tp, .int wd, .int hg, .int ws, .int lk, .int cm, .int mx, .int my]))] := hD
      have hK : va_K (dC, dI) classes [] s := hK
      obtain rfl : er_b (true || false) = r_7 := Eq.symm hw
      refine lv_if_eq (tgt := 33) hx hb d_M_value_29 (by decide) (fun c_8 => absurd c_8 (by decide)) (fun _ => ?_)
      have hP9 := hP.sub (ws' := [(m0, .inr (2, [.int (er_th true false), .ref a1, .ref a2, .ref a3, .ref a4, .ref a5, .int lf, .int tp, .int wd, .int hg, .int ws, .int lk, .int cm, .int mx, .int my]))]) [0] rfl
      have hD9 := hD.sub (ws' := [(m0, .inr (2, [.int (er_th true false), .ref a1, .ref a2, .ref a3, .ref a4, .ref a5, .int lf, .int tp, .int wd, .int hg, .int ws, .int lk, .int cm, .int mx, .int my]))]) [0] (by decide) rfl
      have hK9 := hK.sub (tys' := []) [] rfl
      exact W.vret hx hb hr (fun u9 ht hW => ⟨⟨(), rfl, trivial, ⟨by rw [ht]; exact hP9, va_K.moved hW.alike hK9, hD9⟩⟩, hS.F ht⟩) hS.2.2 d_M_value_32

set_option maxHeartbeats 1000000 in
set_option maxRecDepth 100000 in
theorem c_M_window (l : Launch) (dC : Nat → ClassId) (dI : Nat → Nat → Nat) (m0 a1 a2 a3 a4 a5 : Nat) (th lf tp wd hg ws lk cm mx my : Int32) (p0 p1 p2 p3 : Int32) (u1 : er_win p0 0 1023 = true) (u2 : er_win p1 0 1023 = true) (u3 : er_win p2 1 64 = true) (u4 : er_win p3 1 64 = true) (sz : Nat) : Met l y_M_window w_M_window ({ frames := 1, cells := 0, slots := 0, locals := 22 }) (va_Pc [.ref m0, .int p0, .int p1, .int p2, .int p3] (PI dC dI [] [(m0, .inr (2, [.int th, .ref a1, .ref a2, .ref a3, .ref a4, .ref a5, .int lf, .int tp, .int wd, .int hg, .int ws, .int lk, .int cm, .int mx, .int my]))] sz)) (va_Qv (fun (u : Unit) => True) (fun (u : Unit) t => EI dC dI [] [(m0, .inr (2, [.int (er_th false false), .ref a1, .ref a2, .ref a3, .ref a4, .ref a5, .int p0, .int p1, .int p2, .int p3, .int 0, .int lk, .int cm, .int mx, .int my]))] (va_A [(m0, .inr (2, [.int th, .ref a1, .ref a2, .ref a3, .ref a4, .ref a5, .int lf, .int tp, .int wd, .int hg, .int ws, .int lk, .int cm, .int mx, .int my]))] sz) t) (va_A [(m0, .inr (2, [.int th, .ref a1, .ref a2, .ref a3, .ref a4, .ref a5, .int lf, .int tp, .int wd, .int hg, .int ws, .int lk, .int cm, .int mx, .int my]))] sz)) 0 0 (va_A [(m0, .inr (2, [.int th, .ref a1, .ref a2, .ref a3, .ref a4, .ref a5, .int lf, .int tp, .int wd, .int hg, .int ws, .int lk, .int cm, .int mx, .int my]))] sz) := by
  refine Met.ofW (cc := b_M_window) (maxL := 5) (ret := none) (by decide +kernel) rfl ?_
  intro p e s m args below meth c s₁ B hml hv
  obtain ⟨rfl, hsz, hN, hK, hP, hD0⟩ := hv
  have hx := B.exec
  have hb := B.bytes
  have hr := B.returns
  have hts := er_hts (atoms_spec (ws := w_M_window) B.pre)
  have hown : s.vm.findClass R_M = some m.cls := findClass_of_methodNamed B.named
  have hlocks := B.notSynchronized
  subst hsz
  have hD := hD0.self (sz := s.heap.size)
  generalize hAe : va_A [(m0, .inr (2, [.int th, .ref a1, .ref a2, .ref a3, .ref a4, .ref a5, .int lf, .int tp, .int wd, .int hg, .int ws, .int lk, .int cm, .int mx, .int my]))] s.heap.size = A at hD ⊢
  have hA : ∀ q : Nat, s.heap.size ≤ q → A q := fun q h => by rw [← hAe]; exact Or.inr h
  have hS : va_S A s.heap s.heap [] := va_S.rf
  have hP : va_P (dC, dI) classes [(m0, .inr (2, [.int th, .ref a1, .ref a2, .ref a3, .ref a4, .ref a5, .int lf, .int tp, .int wd, .int hg, .int ws, .int lk, .int cm, .int mx, .int my]))] s.heap := hP
  have hl := lv_entry ([.ref m0, .int p0, .int p1, .int p2, .int p3]) (n := 5) (Nat.le_of_ble_eq_true rfl)
  rw [lg_entry_eq]
  generalize (lg_sl ([.ref m0, .int p0, .int p1, .int p2, .int p3]) ++ List.replicate (5 - (lg_sl ([.ref m0, .int p0, .int p1, .int p2, .int p3])).length) Slot.unset).toArray = ls at hl ⊢
  have hl : lv_has ls 5 [(0, .ref m0), (1, .int p0), (2, .int p1), (3, .int p2), (4, .int p3)] := hl
  refine lv_aload_n hx hb d_M_window_0 rfl (lv_at hl 0 rfl) ?_
  refine lv_iload_n hx hb d_M_window_1 rfl (lv_at hl 1 rfl) ?_
  refine lv_iconst (v := 0) hx hb d_M_window_2 (by decide) ?_
  refine lv_sipush (v := 1023) hx hb d_M_window_3 (by decide) ?_
  have hPc := hP.sub (ws' := []) [] rfl
  have hKc := hK.sub (tys' := []) [] rfl
  refine vp_callSi (va_runS (As := [.int p0, .int 0, .int 1023]) (rest := [.ref m0]) ⟨hx, hb, hml, hown, hts⟩ (c_M_in l dC dI p0 0 1023) (va_cwS 3 hts (er_gS k_360 k_361 k_20 k_362) rfl rfl rfl (by decide +kernel) ⟨Nat.le_of_ble_eq_true rfl, Nat.le_of_ble_eq_true rfl⟩) ⟨PP.blind, PP.at hN hKc hPc⟩ rfl rfl hl.1 rfl (lv_room (Nat.le_of_ble_eq_true rfl)) d_M_window_6 ⟨Nat.zero_le _, Nat.zero_le _⟩).run (fun r_1 hr_1 => ?_)
  obtain rfl : er_b (er_win p0 0 1023) = r_1 := Eq.symm hr_1
  refine lv_if_eq (tgt := 44) hx hb d_M_window_9 (by decide) (fun c_2 => ?_) (fun c_2 => ?_)
  · have c_2 := er_b_0.mp c_2
    exact absurd c_2 (by simp_all)
  · have c_2 := er_b_n.mp c_2
    refine lv_iload_n hx hb d_M_window_12 rfl (lv_at hl 2 rfl) ?_
    refine lv_iconst (v := 0) hx hb d_M_window_13 (by decide) ?_
    refine lv_sipush (v := 1023) hx hb d_M_window_14 (by decide) ?_
    have hPc := hP.sub (ws' := []) [] rfl
    have hKc := hK.sub (tys' := []) [] rfl
    refine vp_callSi (va_runS (As := [.int p1, .int 0, .int 1023]) (rest := [.ref m0]) ⟨hx, hb, hml, hown, hts⟩ (c_M_in l dC dI p1 0 1023) (va_cwS 3 hts (er_gS k_360 k_361 k_20 k_362) rfl rfl rfl (by decide +kernel) ⟨Nat.le_of_ble_eq_true rfl, Nat.le_of_ble_eq_true rfl⟩) ⟨PP.blind, PP.at hN hKc hPc⟩ rfl rfl hl.1 rfl (lv_room (Nat.le_of_ble_eq_true rfl)) d_M_window_17 ⟨Nat.zero_le _, Nat.zero_le _⟩).run (fun r_3 hr_3 => ?_)
    obtain rfl : er_b (er_win p1 0 1023) = r_3 := Eq.symm hr_3
    refine lv_if_eq (tgt := 44) hx hb d_M_window_20 (by decide) (fun c_4 => ?_) (fun c_4 => ?_)
    · have c_4 := er_b_0.mp c_4
      exact absurd c_4 (by simp_all)
    · have c_4 := er_b_n.mp c_4
      refine lv_iload_n hx hb d_M_window_23 rfl (lv_at hl 3 rfl) ?_
      refine lv_iconst (v := 1) hx hb d_M_window_24 (by decide) ?_
      refine lv_bipush (v := 64) hx hb d_M_window_25 (by decide) ?_
      have hPc := hP.sub (ws' := []) [] rfl
      have hKc := hK.sub (tys' := []) [] rfl
      refine vp_callSi (va_runS (As := [.int p2, .int 1, .int 64]) (rest := [.ref m0]) ⟨hx, hb, hml, hown, hts⟩ (c_M_in l dC dI p2 1 64) (va_cwS 3 hts (er_gS k_360 k_361 k_20 k_362) rfl rfl rfl (by decide +kernel) ⟨Nat.le_of_ble_eq_true rfl, Nat.le_of_ble_eq_true rfl⟩) ⟨PP.blind, PP.at hN hKc hPc⟩ rfl rfl hl.1 rfl (lv_room (Nat.le_of_ble_eq_true rfl)) d_M_window_27 ⟨Nat.zero_le _, Nat.zero_le _⟩).run (fun r_5 hr_5 => ?_)
      obtain rfl : er_b (er_win p2 1 64) = r_5 := Eq.symm hr_5
      refine lv_if_eq (tgt := 44) hx hb d_M_window_30 (by decide) (fun c_6 => ?_) (fun c_6 => ?_)
      · have c_6 := er_b_0.mp c_6
        exact absurd c_6 (by simp_all)
      · have c_6 := er_b_n.mp c_6
        refine lv_iload hx hb d_M_window_33 (lv_at hl 4 rfl) ?_
        refine lv_iconst (v := 1) hx hb d_M_window_35 (by decide) ?_
        refine lv_bipush (v := 64) hx hb d_M_window_36 (by decide) ?_
        have hPc := hP.sub (ws' := []) [] rfl
        have hKc := hK.sub (tys' := []) [] rfl
        refine vp_callSi (va_runS (As := [.int p3, .int 1, .int 64]) (rest := [.ref m0]) ⟨hx, hb, hml, hown, hts⟩ (c_M_in l dC dI p3 1 64) (va_cwS 3 hts (er_gS k_360 k_361 k_20 k_362) rfl rfl rfl (by decide +kernel) ⟨Nat.le_of_ble_eq_true rfl, Nat.le_of_ble_eq_true rfl⟩) ⟨PP.blind, PP.at hN hKc hPc⟩ rfl rfl hl.1 rfl (lv_room (Nat.le_of_ble_eq_true rfl)) d_M_window_38 ⟨Nat.zero_le _, Nat.zero_le _⟩).run (fun r_7 hr_7 => ?_)
        obtain rfl : er_b (er_win p3 1 64) = r_7 := Eq.symm hr_7
        refine lv_if_ne (tgt := 48) hx hb d_M_window_41 (by decide) (fun c_8 => ?_) (fun c_8 => ?_)
        · have c_8 := er_b_n.mp c_8
          refine lv_iconst (v := 0) hx hb d_M_window_48 (by decide) ?_
          refine lv_iconst (v := 0) hx hb d_M_window_49 (by decide) ?_
          have hPc := hP.sub (ws' := [(m0, .inr (2, [.int th, .ref a1, .ref a2, .ref a3, .ref a4, .ref a5, .int lf, .int tp, .int wd, .int hg, .int ws, .int lk, .int cm, .int mx, .int my]))]) [0] rfl
          have hDc := hD.sub (ws' := [(m0, .inr (2, [.int th, .ref a1, .ref a2, .ref a3, .ref a4, .ref a5, .int lf, .int tp, .int wd, .int hg, .int ws, .int lk, .int cm, .int mx, .int my]))]) [0] (by decide) rfl
          have hKc := hK.sub (tys' := []) [] rfl
          have hFc := va_free (wc := [(m0, .inr (2, [.int th, .ref a1, .ref a2, .ref a3, .ref a4, .ref a5, .int lf, .int tp, .int wd, .int hg, .int ws, .int lk, .int cm, .int mx, .int my]))]) hD hS hA [0] rfl
          refine va_calli (va_runV (As := [.int 0, .int 0]) (rest := []) ⟨hx, hb, hml, hown, hts⟩ (c_M_refuse l dC dI m0 a1 a2 a3 a4 a5 th lf tp wd hg ws lk cm mx my false false s.heap.size) (cwV 2 hts (er_gV k_365 k_366 k_10 k_20 k_367) rfl rfl rfl (by decide +kernel) ⟨Nat.le_of_ble_eq_true rfl, Nat.le_of_ble_eq_true rfl⟩) ⟨PI.blind, va_recv hKc hPc (ci := 2) (q0 := 0) rfl rfl, PI.at hN hKc hPc hDc⟩ rfl rfl hl.1 rfl (lv_room (Nat.le_of_ble_eq_true rfl)) d_M_window_50 ⟨Nat.le_of_ble_eq_true rfl, Nat.le_of_ble_eq_true rfl⟩) hS (fun q _ h => hFc q h) hFc (fun r_9 u t H1 locs ht hvm hw hB hz1 hk1 hS => ?_)
          obtain ⟨hP1, hK1, hD1⟩ := hB
          rw [ht] at hP1
          have hK1 := va_K.moved hvm.symm hK1
          obtain ⟨hP, hD⟩ := va_join (wr := []) (w1 := [(m0, .inr (2, [.int (er_th false false), .ref a1, .ref a2, .ref a3, .ref a4, .ref a5, .int lf, .int tp, .int wd, .int hg, .int ws, .int lk, .int cm, .int mx, .int my]))]) hP hD [0] [] rfl rfl (by decide) (by decide) hk1 hFc hP1 hD1
          have hK := (hK.sub (tys' := []) [] rfl).app hK1
          generalize H1 = H at hP hS ⊢
          have hP : va_P (dC, dI) classes [(m0, .inr (2, [.int (er_th false false), .ref a1, .ref a2, .ref a3, .ref a4, .ref a5, .int lf, .int tp, .int wd, .int hg, .int ws, .int lk, .int cm, .int mx, .int my]))] H := hP
          have hD : va_D A [(m0, .inr (2, [.int (er_th false false), .ref a1, .ref a2, .ref a3, .ref a4, .ref a5, .int lf, .int tp, .int wd, .int hg, .int ws, .int lk, .int cm, .int mx, .int my]))] := hD
          have hK : va_K (dC, dI) classes [] s := hK
          obtain rfl : er_b (false || false) = r_9 := Eq.symm hw
          refine lv_if_eq (tgt := 57) hx hb d_M_window_53 (by decide) (fun _ => ?_) (fun c_10 => absurd c_10 (by decide))
          refine lv_aload_n hx hb d_M_window_57 rfl (lv_at hl 0 rfl) ?_
          refine lv_iload_n hx hb d_M_window_58 rfl (lv_at hl 1 rfl) ?_
          refine va_put (D := (dC, dI)) (ci := 2) (v := .int p0) (ty := .int) (C := R_M) (T := F_M) (N := 15) hx hb hts i_M t_M t_M_ok n_M hown hK hP hD hS 0 rfl rfl 6 (by decide) (hts _ k_312) (fun _ h9 => h9) rfl (by decide +kernel) rfl rfl (Nat.le_of_ble_eq_true rfl) d_M_window_59 (fun H locs hP hD hS => ?_)
          have hP : va_P (dC, dI) classes [(m0, .inr (2, [.int (er_th false false), .ref a1, .ref a2, .ref a3, .ref a4, .ref a5, .int p0, .int tp, .int wd, .int hg, .int ws, .int lk, .int cm, .int mx, .int my]))] H := hP
          have hD : va_D A [(m0, .inr (2, [.int (er_th false false), .ref a1, .ref a2, .ref a3, .ref a4, .ref a5, .int p0, .int tp, .int wd, .int hg, .int ws, .int lk, .int cm, .int mx, .int my]))] := hD
          refine lv_aload_n hx hb d_M_window_62 rfl (lv_at hl 0 rfl) ?_
          refine lv_iload_n hx hb d_M_window_63 rfl (lv_at hl 2 rfl) ?_
          refine va_put (D := (dC, dI)) (ci := 2) (v := .int p1) (ty := .int) (C := R_M) (T := F_M) (N := 15) hx hb hts i_M t_M t_M_ok n_M hown hK hP hD hS 0 rfl rfl 7 (by decide) (hts _ k_313) (fun _ h9 => h9) rfl (by decide +kernel) rfl rfl (Nat.le_of_ble_eq_true rfl) d_M_window_64 (fun H locs hP hD hS => ?_)
          have hP : va_P (dC, dI) classes [(m0, .inr (2, [.int (er_th false false), .ref a1, .ref a2, .ref a3, .ref a4, .ref a5, .int p0, .int p1, .int wd, .int hg, .int ws, .int lk, .int cm, .int mx, .int my]))] H := hP
          have hD : va_D A [(m0, .inr (2, [.int (er_th false false), .ref a1, .ref a2, .ref a3, .ref a4, .ref a5, .int p0, .int p1, .int wd, .int hg, .int ws, .int lk, .int cm, .int mx, .int my]))] := hD
          refine lv_aload_n hx hb d_M_window_67 rfl (lv_at hl 0 rfl) ?_
          refine lv_iload_n hx hb d_M_window_68 rfl (lv_at hl 3 rfl) ?_
          refine va_put (D := (dC, dI)) (ci := 2) (v := .int p2) (ty := .int) (C := R_M) (T := F_M) (N := 15) hx hb hts i_M t_M t_M_ok n_M hown hK hP hD hS 0 rfl rfl 8 (by decide) (hts _ k_314) (fun _ h9 => h9) rfl (by decide +kernel) rfl rfl (Nat.le_of_ble_eq_true rfl) d_M_window_69 (fun H locs hP hD hS => ?_)
          have hP : va_P (dC, dI) classes [(m0, .inr (2, [.int (er_th false false), .ref a1, .ref a2, .ref a3, .ref a4, .ref a5, .int p0, .int p1, .int p2, .int hg, .int ws, .int lk, .int cm, .int mx, .int my]))] H := hP
          have hD : va_D A [(m0, .inr (2, [.int (er_th false false), .ref a1, .ref a2, .ref a3, .ref a4, .ref a5, .int p0, .int p1, .int p2, .int hg, .int ws, .int lk, .int cm, .int mx, .int my]))] := hD
          refine lv_aload_n hx hb d_M_window_72 rfl (lv_at hl 0 rfl) ?_
          refine lv_iload hx hb d_M_window_73 (lv_at hl 4 rfl) ?_
          refine va_put (D := (dC, dI)) (ci := 2) (v := .int p3) (ty := .int) (C := R_M) (T := F_M) (N := 15) hx hb hts i_M t_M t_M_ok n_M hown hK hP hD hS 0 rfl rfl 9 (by decide) (hts _ k_315) (fun _ h9 => h9) rfl (by decide +kernel) rfl rfl (Nat.le_of_ble_eq_true rfl) d_M_window_75 (fun H locs hP hD hS => ?_)
          have hP : va_P (dC, dI) classes [(m0, .inr (2, [.int (er_th false false), .ref a1, .ref a2, .ref a3, .ref a4, .ref a5, .int p0, .int p1, .int p2, .int p3, .int ws, .int lk, .int cm, .int mx, .int my]))] H := hP
          have hD : va_D A [(m0, .inr (2, [.int (er_th false false), .ref a1, .ref a2, .ref a3, .ref a4, .ref a5, .int p0, .int p1, .int p2, .int p3, .int ws, .int lk, .int cm, .int mx, .int my]))] := hD
          refine lv_aload_n hx hb d_M_window_78 rfl (lv_at hl 0 rfl) ?_
          refine lv_iconst (v := 0) hx hb d_M_window_79 (by decide) ?_
          refine va_put (D := (dC, dI)) (ci := 2) (v := .int 0) (ty := .boolean) (C := R_M) (T := F_M) (N := 15) hx hb hts i_M t_M t_M_ok n_M hown hK hP hD hS 0 rfl rfl 10 (by decide) (hts _ k_316) (fun _ h9 => h9) rfl (by decide +kernel) (by decide) rfl (Nat.le_of_ble_eq_true rfl) d_M_window_80 (fun H locs hP hD hS => ?_)
          have hP : va_P (dC, dI) classes [(m0, .inr (2, [.int (er_th false false), .ref a1, .ref a2, .ref a3, .ref a4, .ref a5, .int p0, .int p1, .int p2, .int p3, .int 0, .int lk, .int cm, .int mx, .int my]))] H := hP
          have hD : va_D A [(m0, .inr (2, [.int (er_th false false), .ref a1, .ref a2, .ref a3, .ref a4, .ref a5, .int p0, .int p1, .int p2, .int p3, .int 0, .int lk, .int cm, .int mx, .int my]))] := hD
          have hP9 := hP.sub (ws' := [(m0, .inr (2, [.int (er_th false false), .ref a1, .ref a2, .ref a3, .ref a4, .ref a5, .int p0, .int p1, .int p2, .int p3, .int 0, .int lk, .int cm, .int mx, .int my]))]) [0] rfl
          have hD9 := hD.sub (ws' := [(m0, .inr (2, [.int (er_th false false), .ref a1, .ref a2, .ref a3, .ref a4, .ref a5, .int p0, .int p1, .int p2, .int p3, .int 0, .int lk, .int cm, .int mx, .int my]))]) [0] (by decide) rfl
          have hK9 := hK.sub (tys' := []) [] rfl
          exact W.vret hx hb hr (fun u9 ht hW => ⟨⟨(), rfl, trivial, ⟨by rw [ht]; exact hP9, va_K.moved hW.alike hK9, hD9⟩⟩, hS.F ht⟩) hS.2.2 d_M_window_83
        · have c_8 := er_b_0.mp c_8
          exact absurd c_8 (by simp_all)

set_option maxHeartbeats 1000000 in
set_option maxRecDepth 100000 in
theorem c_M_windowX (l : Launch) (dC : Nat → ClassId) (dI : Nat → Nat → Nat) (m0 a1 a2 a3 a4 a5 : Nat) (th lf tp wd hg ws lk cm mx my : Int32) (p0 p1 p2 p3 : Int32) (hv : (er_win p0 0 1023 && (er_win p1 0 1023 && (er_win p2 1 64 && er_win p3 1 64))) = false) (sz : Nat) : Met l y_M_window w_M_window ({ frames := 1, cells := 0, slots := 0, locals := 22 }) (va_Pc [.ref m0, .int p0, .int p1, .int p2, .int p3] (PI dC dI [] [(m0, .inr (2, [.int th, .ref a1, .ref a2, .ref a3, .ref a4, .ref a5, .int lf, .int tp, .int wd, .int hg, .int ws, .int lk, .int cm, .int mx, .int my]))] sz)) (va_Qv (fun (u : Unit) => True) (fun (u : Unit) t => EI dC dI [] [(m0, .inr (2, [.int (er_th true false), .ref a1, .ref a2, .ref a3, .ref a4, .ref a5, .int lf, .int tp, .int wd, .int hg, .int ws, .int lk, .int cm, .int mx, .int my]))] (va_A [(m0, .inr (2, [.int th, .ref a1, .ref a2, .ref a3, .ref a4, .ref a5, .int lf, .int tp, .int wd, .int hg, .int ws, .int lk, .int cm, .int mx, .int my]))] sz) t) (va_A [(m0, .inr (2, [.int th, .ref a1, .ref a2, .ref a3, .ref a4, .ref a5, .int lf, .int tp, .int wd, .int hg, .int ws, .int lk, .int cm, .int mx, .int my]))] sz)) 0 0 (va_A [(m0, .inr (2, [.int th, .ref a1, .ref a2, .ref a3, .ref a4, .ref a5, .int lf, .int tp, .int wd, .int hg, .int ws, .int lk, .int cm, .int mx, .int my]))] sz) := by
  refine Met.ofW (cc := b_M_window) (maxL := 5) (ret := none) (by decide +kernel) rfl ?_
  intro p e s m args below meth c s₁ B hml hv
  obtain ⟨rfl, hsz, hN, hK, hP, hD0⟩ := hv
  have hx := B.exec
  have hb := B.bytes
  have hr := B.returns
  have hts := er_hts (atoms_spec (ws := w_M_window) B.pre)
  have hown : s.vm.findClass R_M = some m.cls := findClass_of_methodNamed B.named
  have hlocks := B.notSynchronized
  subst hsz
  have hD := hD0.self (sz := s.heap.size)
  generalize hAe : va_A [(m0, .inr (2, [.int th, .ref a1, .ref a2, .ref a3, .ref a4, .ref a5, .int lf, .int tp, .int wd, .int hg, .int ws, .int lk, .int cm, .int mx, .int my]))] s.heap.size = A at hD ⊢
  have hA : ∀ q : Nat, s.heap.size ≤ q → A q := fun q h => by rw [← hAe]; exact Or.inr h
  have hS : va_S A s.heap s.heap [] := va_S.rf
  have hP : va_P (dC, dI) classes [(m0, .inr (2, [.int th, .ref a1, .ref a2, .ref a3, .ref a4, .ref a5, .int lf, .int tp, .int wd, .int hg, .int ws, .int lk, .int cm, .int mx, .int my]))] s.heap := hP
  have hl := lv_entry ([.ref m0, .int p0, .int p1, .int p2, .int p3]) (n := 5) (Nat.le_of_ble_eq_true rfl)
  rw [lg_entry_eq]
  generalize (lg_sl ([.ref m0, .int p0, .int p1, .int p2, .int p3]) ++ List.replicate (5 - (lg_sl ([.ref m0, .int p0, .int p1, .int p2, .int p3])).length) Slot.unset).toArray = ls at hl ⊢
  have hl : lv_has ls 5 [(0, .ref m0), (1, .int p0), (2, .int p1), (3, .int p2), (4, .int p3)] := hl
  refine lv_aload_n hx hb d_M_window_0 rfl (lv_at hl 0 rfl) ?_
  refine lv_iload_n hx hb d_M_window_1 rfl (lv_at hl 1 rfl) ?_
  refine lv_iconst (v := 0) hx hb d_M_window_2 (by decide) ?_
  refine lv_sipush (v := 1023) hx hb d_M_window_3 (by decide) ?_
  have hPc := hP.sub (ws' := []) [] rfl
  have hKc := hK.sub (tys' := []) [] rfl
  refine vp_callSi (va_runS (As := [.int p0, .int 0, .int 1023]) (rest := [.ref m0]) ⟨hx, hb, hml, hown, hts⟩ (c_M_in l dC dI p0 0 1023) (va_cwS 3 hts (er_gS k_360 k_361 k_20 k_362) rfl rfl rfl (by decide +kernel) ⟨Nat.le_of_ble_eq_true rfl, Nat.le_of_ble_eq_true rfl⟩) ⟨PP.blind, PP.at hN hKc hPc⟩ rfl rfl hl.1 rfl (lv_room (Nat.le_of_ble_eq_true rfl)) d_M_window_6 ⟨Nat.zero_le _, Nat.zero_le _⟩).run (fun r_1 hr_1 => ?_)
  obtain rfl : er_b (er_win p0 0 1023) = r_1 := Eq.symm hr_1
  refine lv_if_eq (tgt := 44) hx hb d_M_window_9 (by decide) (fun c_2 => ?_) (fun c_2 => ?_)
  · have c_2 := er_b_0.mp c_2
    refine lv_iconst (v := 1) hx hb d_M_window_44 (by decide) ?_
    refine lv_goto (tgt := 49) hx hb d_M_window_45 (by decide) ?_
    refine lv_iconst (v := 0) hx hb d_M_window_49 (by decide) ?_
    have hPc := hP.sub (ws' := [(m0, .inr (2, [.int th, .ref a1, .ref a2, .ref a3, .ref a4, .ref a5, .int lf, .int tp, .int wd, .int hg, .int ws, .int lk, .int cm, .int mx, .int my]))]) [0] rfl
    have hDc := hD.sub (ws' := [(m0, .inr (2, [.int th, .ref a1, .ref a2, .ref a3, .ref a4, .ref a5, .int lf, .int tp, .int wd, .int hg, .int ws, .int lk, .int cm, .int mx, .int my]))]) [0] (by decide) rfl
    have hKc := hK.sub (tys' := []) [] rfl
    have hFc := va_free (wc := [(m0, .inr (2, [.int th, .ref a1, .ref a2, .ref a3, .ref a4, .ref a5, .int lf, .int tp, .int wd, .int hg, .int ws, .int lk, .int cm, .int mx, .int my]))]) hD hS hA [0] rfl
    refine va_calli (va_runV (As := [.int 1, .int 0]) (rest := []) ⟨hx, hb, hml, hown, hts⟩ (c_M_refuse l dC dI m0 a1 a2 a3 a4 a5 th lf tp wd hg ws lk cm mx my true false s.heap.size) (cwV 2 hts (er_gV k_365 k_366 k_10 k_20 k_367) rfl rfl rfl (by decide +kernel) ⟨Nat.le_of_ble_eq_true rfl, Nat.le_of_ble_eq_true rfl⟩) ⟨PI.blind, va_recv hKc hPc (ci := 2) (q0 := 0) rfl rfl, PI.at hN hKc hPc hDc⟩ rfl rfl hl.1 rfl (lv_room (Nat.le_of_ble_eq_true rfl)) d_M_window_50 ⟨Nat.le_of_ble_eq_true rfl, Nat.le_of_ble_eq_true rfl⟩) hS (fun q _ h => hFc q h) hFc (fun r_3 u t H1 locs ht hvm hw hB hz1 hk1 hS => ?_)
    obtain ⟨hP1, hK1, hD1⟩ := hB
    rw [ht] at hP1
    have hK1 := va_K.moved hvm.symm hK1
    obtain ⟨hP, hD⟩ := va_join (wr := []) (w1 := [(m0, .inr (2, [.int (er_th true false), .ref a1, .ref a2, .ref a3, .ref a4, .ref a5, .int lf, .int tp, .int wd, .int hg, .int ws, .int lk, .int cm, .int mx, .int my]))]) hP hD [0] [] rfl rfl (by decide) (by decide) hk1 hFc hP1 hD1
    have hK := (hK.sub (tys' := []) [] rfl).app hK1
    generalize H1 = H at hP hS ⊢
    have hP : va_P (dC, dI) classes [(m0, .inr (2, [.int (er_th true false), .ref a1, .ref a2, .ref a3, .ref a4, .ref a5, .int lf, .int tp, .int wd, .int hg, .int ws, .int lk, .int cm, .int mx, .int my]))] H := hP
    have hD : va_D A [(m0, .inr (2, [.int (er_th true false), .ref a1, .ref a2, .ref a3, .ref a4, .ref a5, .int lf, .int tp, .int wd, .int hg, .int ws, .int lk, .int cm, .int mx, .int my]))] := hD
    have hK : va_K (dC, dI) classes [] s := hK
    obtain rfl : er_b (true || false) = r_3 := Eq.symm hw
    refine lv_if_eq (tgt := 57) hx hb d_M_window_53 (by decide) (fun c_4 => absurd c_4 (by decide)) (fun _ => ?_)
    have hP9 := hP.sub (ws' := [(m0, .inr (2, [.int (er_th true false), .ref a1, .ref a2, .ref a3, .ref a4, .ref a5, .int lf, .int tp, .int wd, .int hg, .int ws, .int lk, .int cm, .int mx, .int my]))]) [0] rfl
    have hD9 := hD.sub (ws' := [(m0, .inr (2, [.int (er_th true false), .ref a1, .ref a2, .ref a3, .ref a4, .ref a5, .int lf, .int tp, .int wd, .int hg, .int ws, .int lk, .int cm, .int mx, .int my]))]) [0] (by decide) rfl
    have hK9 := hK.sub (tys' := []) [] rfl
    exact W.vret hx hb hr (fun u9 ht hW => ⟨⟨(), rfl, trivial, ⟨by rw [ht]; exact hP9, va_K.moved hW.alike hK9, hD9⟩⟩, hS.F ht⟩) hS.2.2 d_M_window_56
  · have c_2 := er_b_n.mp c_2
    refine lv_iload_n hx hb d_M_window_12 rfl (lv_at hl 2 rfl) ?_
    refine lv_iconst (v := 0) hx hb d_M_window_13 (by decide) ?_
    refine lv_sipush (v := 1023) hx hb d_M_window_14 (by decide) ?_
    have hPc := hP.sub (ws' := []) [] rfl
    have hKc := hK.sub (tys' := []) [] rfl
    refine vp_callSi (va_runS (As := [.int p1, .int 0, .int 1023]) (rest := [.ref m0]) ⟨hx, hb, hml, hown, hts⟩ (c_M_in l dC dI p1 0 1023) (va_cwS 3 hts (er_gS k_360 k_361 k_20 k_362) rfl rfl rfl (by decide +kernel) ⟨Nat.le_of_ble_eq_true rfl, Nat.le_of_ble_eq_true rfl⟩) ⟨PP.blind, PP.at hN hKc hPc⟩ rfl rfl hl.1 rfl (lv_room (Nat.le_of_ble_eq_true rfl)) d_M_window_17 ⟨Nat.zero_le _, Nat.zero_le _⟩).run (fun r_5 hr_5 => ?_)
    obtain rfl : er_b (er_win p1 0 1023) = r_5 := Eq.symm hr_5
    refine lv_if_eq (tgt := 44) hx hb d_M_window_20 (by decide) (fun c_6 => ?_) (fun c_6 => ?_)
    · have c_6 := er_b_0.mp c_6
      refine lv_iconst (v := 1) hx hb d_M_window_44 (by decide) ?_
      refine lv_goto (tgt := 49) hx hb d_M_window_45 (by decide) ?_
      refine lv_iconst (v := 0) hx hb d_M_window_49 (by decide) ?_
      have hPc := hP.sub (ws' := [(m0, .inr (2, [.int th, .ref a1, .ref a2, .ref a3, .ref a4, .ref a5, .int lf, .int tp, .int wd, .int hg, .int ws, .int lk, .int cm, .int mx, .int my]))]) [0] rfl
      have hDc := hD.sub (ws' := [(m0, .inr (2, [.int th, .ref a1, .ref a2, .ref a3, .ref a4, .ref a5, .int lf, .int tp, .int wd, .int hg, .int ws, .int lk, .int cm, .int mx, .int my]))]) [0] (by decide) rfl
      have hKc := hK.sub (tys' := []) [] rfl
      have hFc := va_free (wc := [(m0, .inr (2, [.int th, .ref a1, .ref a2, .ref a3, .ref a4, .ref a5, .int lf, .int tp, .int wd, .int hg, .int ws, .int lk, .int cm, .int mx, .int my]))]) hD hS hA [0] rfl
      refine va_calli (va_runV (As := [.int 1, .int 0]) (rest := []) ⟨hx, hb, hml, hown, hts⟩ (c_M_refuse l dC dI m0 a1 a2 a3 a4 a5 th lf tp wd hg ws lk cm mx my true false s.heap.size) (cwV 2 hts (er_gV k_365 k_366 k_10 k_20 k_367) rfl rfl rfl (by decide +kernel) ⟨Nat.le_of_ble_eq_true rfl, Nat.le_of_ble_eq_true rfl⟩) ⟨PI.blind, va_recv hKc hPc (ci := 2) (q0 := 0) rfl rfl, PI.at hN hKc hPc hDc⟩ rfl rfl hl.1 rfl (lv_room (Nat.le_of_ble_eq_true rfl)) d_M_window_50 ⟨Nat.le_of_ble_eq_true rfl, Nat.le_of_ble_eq_true rfl⟩) hS (fun q _ h => hFc q h) hFc (fun r_7 u t H1 locs ht hvm hw hB hz1 hk1 hS => ?_)
      obtain ⟨hP1, hK1, hD1⟩ := hB
      rw [ht] at hP1
      have hK1 := va_K.moved hvm.symm hK1
      obtain ⟨hP, hD⟩ := va_join (wr := []) (w1 := [(m0, .inr (2, [.int (er_th true false), .ref a1, .ref a2, .ref a3, .ref a4, .ref a5, .int lf, .int tp, .int wd, .int hg, .int ws, .int lk, .int cm, .int mx, .int my]))]) hP hD [0] [] rfl rfl (by decide) (by decide) hk1 hFc hP1 hD1
      have hK := (hK.sub (tys' := []) [] rfl).app hK1
      generalize H1 = H at hP hS ⊢
      have hP : va_P (dC, dI) classes [(m0, .inr (2, [.int (er_th true false), .ref a1, .ref a2, .ref a3, .ref a4, .ref a5, .int lf, .int tp, .int wd, .int hg, .int ws, .int lk, .int cm, .int mx, .int my]))] H := hP
      have hD : va_D A [(m0, .inr (2, [.int (er_th true false), .ref a1, .ref a2, .ref a3, .ref a4, .ref a5, .int lf, .int tp, .int wd, .int hg, .int ws, .int lk, .int cm, .int mx, .int my]))] := hD
      have hK : va_K (dC, dI) classes [] s := hK
      obtain rfl : er_b (true || false) = r_7 := Eq.symm hw
      refine lv_if_eq (tgt := 57) hx hb d_M_window_53 (by decide) (fun c_8 => absurd c_8 (by decide)) (fun _ => ?_)
      have hP9 := hP.sub (ws' := [(m0, .inr (2, [.int (er_th true false), .ref a1, .ref a2, .ref a3, .ref a4, .ref a5, .int lf, .int tp, .int wd, .int hg, .int ws, .int lk, .int cm, .int mx, .int my]))]) [0] rfl
      have hD9 := hD.sub (ws' := [(m0, .inr (2, [.int (er_th true false), .ref a1, .ref a2, .ref a3, .ref a4, .ref a5, .int lf, .int tp, .int wd, .int hg, .int ws, .int lk, .int cm, .int mx, .int my]))]) [0] (by decide) rfl
      have hK9 := hK.sub (tys' := []) [] rfl
      exact W.vret hx hb hr (fun u9 ht hW => ⟨⟨(), rfl, trivial, ⟨by rw [ht]; exact hP9, va_K.moved hW.alike hK9, hD9⟩⟩, hS.F ht⟩) hS.2.2 d_M_window_56
    · have c_6 := er_b_n.mp c_6
      refine lv_iload_n hx hb d_M_window_23 rfl (lv_at hl 3 rfl) ?_
      refine lv_iconst (v := 1) hx hb d_M_window_24 (by decide) ?_
      refine lv_bipush (v := 64) hx hb d_M_window_25 (by decide) ?_
      have hPc := hP.sub (ws' := []) [] rfl
      have hKc := hK.sub (tys' := []) [] rfl
      refine vp_callSi (va_runS (As := [.int p2, .int 1, .int 64]) (rest := [.ref m0]) ⟨hx, hb, hml, hown, hts⟩ (c_M_in l dC dI p2 1 64) (va_cwS 3 hts (er_gS k_360 k_361 k_20 k_362) rfl rfl rfl (by decide +kernel) ⟨Nat.le_of_ble_eq_true rfl, Nat.le_of_ble_eq_true rfl⟩) ⟨PP.blind, PP.at hN hKc hPc⟩ rfl rfl hl.1 rfl (lv_room (Nat.le_of_ble_eq_true rfl)) d_M_window_27 ⟨Nat.zero_le _, Nat.zero_le _⟩).run (fun r_9 hr_9 => ?_)
      obtain rfl : er_b (er_win p2 1 64) = r_9 := Eq.symm hr_9
      refine lv_if_eq (tgt := 44) hx hb d_M_window_30 (by decide) (fun c_10 => ?_) (fun c_10 => ?_)
      · have c_10 := er_b_0.mp c_10
        refine lv_iconst (v := 1) hx hb d_M_window_44 (by decide) ?_
        refine lv_goto (tgt := 49) hx hb d_M_window_45 (by decide) ?_
        refine lv_iconst (v := 0) hx hb d_M_window_49 (by decide) ?_
        have hPc := hP.sub (ws' := [(m0, .inr (2, [.int th, .ref a1, .ref a2, .ref a3, .ref a4, .ref a5, .int lf, .int tp, .int wd, .int hg, .int ws, .int lk, .int cm, .int mx, .int my]))]) [0] rfl
        have hDc := hD.sub (ws' := [(m0, .inr (2, [.int th, .ref a1, .ref a2, .ref a3, .ref a4, .ref a5, .int lf, .int tp, .int wd, .int hg, .int ws, .int lk, .int cm, .int mx, .int my]))]) [0] (by decide) rfl
        have hKc := hK.sub (tys' := []) [] rfl
        have hFc := va_free (wc := [(m0, .inr (2, [.int th, .ref a1, .ref a2, .ref a3, .ref a4, .ref a5, .int lf, .int tp, .int wd, .int hg, .int ws, .int lk, .int cm, .int mx, .int my]))]) hD hS hA [0] rfl
        refine va_calli (va_runV (As := [.int 1, .int 0]) (rest := []) ⟨hx, hb, hml, hown, hts⟩ (c_M_refuse l dC dI m0 a1 a2 a3 a4 a5 th lf tp wd hg ws lk cm mx my true false s.heap.size) (cwV 2 hts (er_gV k_365 k_366 k_10 k_20 k_367) rfl rfl rfl (by decide +kernel) ⟨Nat.le_of_ble_eq_true rfl, Nat.le_of_ble_eq_true rfl⟩) ⟨PI.blind, va_recv hKc hPc (ci := 2) (q0 := 0) rfl rfl, PI.at hN hKc hPc hDc⟩ rfl rfl hl.1 rfl (lv_room (Nat.le_of_ble_eq_true rfl)) d_M_window_50 ⟨Nat.le_of_ble_eq_true rfl, Nat.le_of_ble_eq_true rfl⟩) hS (fun q _ h => hFc q h) hFc (fun r_11 u t H1 locs ht hvm hw hB hz1 hk1 hS => ?_)
        obtain ⟨hP1, hK1, hD1⟩ := hB
        rw [ht] at hP1
        have hK1 := va_K.moved hvm.symm hK1
        obtain ⟨hP, hD⟩ := va_join (wr := []) (w1 := [(m0, .inr (2, [.int (er_th true false), .ref a1, .ref a2, .ref a3, .ref a4, .ref a5, .int lf, .int tp, .int wd, .int hg, .int ws, .int lk, .int cm, .int mx, .int my]))]) hP hD [0] [] rfl rfl (by decide) (by decide) hk1 hFc hP1 hD1
        have hK := (hK.sub (tys' := []) [] rfl).app hK1
        generalize H1 = H at hP hS ⊢
        have hP : va_P (dC, dI) classes [(m0, .inr (2, [.int (er_th true false), .ref a1, .ref a2, .ref a3, .ref a4, .ref a5, .int lf, .int tp, .int wd, .int hg, .int ws, .int lk, .int cm, .int mx, .int my]))] H := hP
        have hD : va_D A [(m0, .inr (2, [.int (er_th true false), .ref a1, .ref a2, .ref a3, .ref a4, .ref a5, .int lf, .int tp, .int wd, .int hg, .int ws, .int lk, .int cm, .int mx, .int my]))] := hD
        have hK : va_K (dC, dI) classes [] s := hK
        obtain rfl : er_b (true || false) = r_11 := Eq.symm hw
        refine lv_if_eq (tgt := 57) hx hb d_M_window_53 (by decide) (fun c_12 => absurd c_12 (by decide)) (fun _ => ?_)
        have hP9 := hP.sub (ws' := [(m0, .inr (2, [.int (er_th true false), .ref a1, .ref a2, .ref a3, .ref a4, .ref a5, .int lf, .int tp, .int wd, .int hg, .int ws, .int lk, .int cm, .int mx, .int my]))]) [0] rfl
        have hD9 := hD.sub (ws' := [(m0, .inr (2, [.int (er_th true false), .ref a1, .ref a2, .ref a3, .ref a4, .ref a5, .int lf, .int tp, .int wd, .int hg, .int ws, .int lk, .int cm, .int mx, .int my]))]) [0] (by decide) rfl
        have hK9 := hK.sub (tys' := []) [] rfl
        exact W.vret hx hb hr (fun u9 ht hW => ⟨⟨(), rfl, trivial, ⟨by rw [ht]; exact hP9, va_K.moved hW.alike hK9, hD9⟩⟩, hS.F ht⟩) hS.2.2 d_M_window_56
      · have c_10 := er_b_n.mp c_10
        refine lv_iload hx hb d_M_window_33 (lv_at hl 4 rfl) ?_
        refine lv_iconst (v := 1) hx hb d_M_window_35 (by decide) ?_
        refine lv_bipush (v := 64) hx hb d_M_window_36 (by decide) ?_
        have hPc := hP.sub (ws' := []) [] rfl
        have hKc := hK.sub (tys' := []) [] rfl
        refine vp_callSi (va_runS (As := [.int p3, .int 1, .int 64]) (rest := [.ref m0]) ⟨hx, hb, hml, hown, hts⟩ (c_M_in l dC dI p3 1 64) (va_cwS 3 hts (er_gS k_360 k_361 k_20 k_362) rfl rfl rfl (by decide +kernel) ⟨Nat.le_of_ble_eq_true rfl, Nat.le_of_ble_eq_true rfl⟩) ⟨PP.blind, PP.at hN hKc hPc⟩ rfl rfl hl.1 rfl (lv_room (Nat.le_of_ble_eq_true rfl)) d_M_window_38 ⟨Nat.zero_le _, Nat.zero_le _⟩).run (fun r_13 hr_13 => ?_)
        obtain rfl : er_b (er_win p3 1 64) = r_13 := Eq.symm hr_13
        refine lv_if_ne (tgt := 48) hx hb d_M_window_41 (by decide) (fun c_14 => ?_) (fun c_14 => ?_)
        · have c_14 := er_b_n.mp c_14
          exfalso
          simp_all
        · have c_14 := er_b_0.mp c_14
          refine lv_iconst (v := 1) hx hb d_M_window_44 (by decide) ?_
          refine lv_goto (tgt := 49) hx hb d_M_window_45 (by decide) ?_
          refine lv_iconst (v := 0) hx hb d_M_window_49 (by decide) ?_
          have hPc := hP.sub (ws' := [(m0, .inr (2, [.int th, .ref a1, .ref a2, .ref a3, .ref a4, .ref a5, .int lf, .int tp, .int wd, .int hg, .int ws, .int lk, .int cm, .int mx, .int my]))]) [0] rfl
          have hDc := hD.sub (ws' := [(m0, .inr (2, [.int th, .ref a1, .ref a2, .ref a3, .ref a4, .ref a5, .int lf, .int tp, .int wd, .int hg, .int ws, .int lk, .int cm, .int mx, .int my]))]) [0] (by decide) rfl
          have hKc := hK.sub (tys' := []) [] rfl
          have hFc := va_free (wc := [(m0, .inr (2, [.int th, .ref a1, .ref a2, .ref a3, .ref a4, .ref a5, .int lf, .int tp, .int wd, .int hg, .int ws, .int lk, .int cm, .int mx, .int my]))]) hD hS hA [0] rfl
          refine va_calli (va_runV (As := [.int 1, .int 0]) (rest := []) ⟨hx, hb, hml, hown, hts⟩ (c_M_refuse l dC dI m0 a1 a2 a3 a4 a5 th lf tp wd hg ws lk cm mx my true false s.heap.size) (cwV 2 hts (er_gV k_365 k_366 k_10 k_20 k_367) rfl rfl rfl (by decide +kernel) ⟨Nat.le_of_ble_eq_true rfl, Nat.le_of_ble_eq_true rfl⟩) ⟨PI.blind, va_recv hKc hPc (ci := 2) (q0 := 0) rfl rfl, PI.at hN hKc hPc hDc⟩ rfl rfl hl.1 rfl (lv_room (Nat.le_of_ble_eq_true rfl)) d_M_window_50 ⟨Nat.le_of_ble_eq_true rfl, Nat.le_of_ble_eq_true rfl⟩) hS (fun q _ h => hFc q h) hFc (fun r_15 u t H1 locs ht hvm hw hB hz1 hk1 hS => ?_)
          obtain ⟨hP1, hK1, hD1⟩ := hB
          rw [ht] at hP1
          have hK1 := va_K.moved hvm.symm hK1
          obtain ⟨hP, hD⟩ := va_join (wr := []) (w1 := [(m0, .inr (2, [.int (er_th true false), .ref a1, .ref a2, .ref a3, .ref a4, .ref a5, .int lf, .int tp, .int wd, .int hg, .int ws, .int lk, .int cm, .int mx, .int my]))]) hP hD [0] [] rfl rfl (by decide) (by decide) hk1 hFc hP1 hD1
          have hK := (hK.sub (tys' := []) [] rfl).app hK1
          generalize H1 = H at hP hS ⊢
          have hP : va_P (dC, dI) classes [(m0, .inr (2, [.int (er_th true false), .ref a1, .ref a2, .ref a3, .ref a4, .ref a5, .int lf, .int tp, .int wd, .int hg, .int ws, .int lk, .int cm, .int mx, .int my]))] H := hP
          have hD : va_D A [(m0, .inr (2, [.int (er_th true false), .ref a1, .ref a2, .ref a3, .ref a4, .ref a5, .int lf, .int tp, .int wd, .int hg, .int ws, .int lk, .int cm, .int mx, .int my]))] := hD
          have hK : va_K (dC, dI) classes [] s := hK
          obtain rfl : er_b (true || false) = r_15 := Eq.symm hw
          refine lv_if_eq (tgt := 57) hx hb d_M_window_53 (by decide) (fun c_16 => absurd c_16 (by decide)) (fun _ => ?_)
          have hP9 := hP.sub (ws' := [(m0, .inr (2, [.int (er_th true false), .ref a1, .ref a2, .ref a3, .ref a4, .ref a5, .int lf, .int tp, .int wd, .int hg, .int ws, .int lk, .int cm, .int mx, .int my]))]) [0] rfl
          have hD9 := hD.sub (ws' := [(m0, .inr (2, [.int (er_th true false), .ref a1, .ref a2, .ref a3, .ref a4, .ref a5, .int lf, .int tp, .int wd, .int hg, .int ws, .int lk, .int cm, .int mx, .int my]))]) [0] (by decide) rfl
          have hK9 := hK.sub (tys' := []) [] rfl
          exact W.vret hx hb hr (fun u9 ht hW => ⟨⟨(), rfl, trivial, ⟨by rw [ht]; exact hP9, va_K.moved hW.alike hK9, hD9⟩⟩, hS.F ht⟩) hS.2.2 d_M_window_56
