set_option maxHeartbeats 1000000 in
set_option maxRecDepth 100000 in
theorem c_M_at (l : Launch) (dC : Nat → ClassId) (dI : Nat → Nat → Nat) (m0 a1 a2 a3 a4 a5 : Nat) (g1 g2 g4 g5 : ClassId) (X Y Q Vm : Nat → Int32) (th lf tp wd hg lk mx my : Int32) (n : Nat) (hn : n < 28) (hsh : ∀ z, z ≤ 34 → er_first (er_m3 X Y Q mx my) z → ¬ er_shs X Y Q mx my z = 0) (sz : Nat) : Met l y_M_at w_M_at ({ frames := 4, cells := 0, slots := 0, locals := 92 }) (va_Pc [.ref m0, .int (nI n)] (PI dC dI [(g1, .int), (g2, .int), (g4, .int), (g5, .int)] [(m0, .inr (2, [.int th, .ref a1, .ref a2, .ref a3, .ref a4, .ref a5, .int lf, .int tp, .int wd, .int hg, .int 1, .int lk, .int 1, .int mx, .int my])), (a1, .inl (g1, 3, .inl X)), (a2, .inl (g2, 3, .inl Y)), (a4, .inl (g4, 3, .inl Q)), (a5, .inl (g5, 84, .inl Vm))] sz)) (va_Qi (fun (r : Int32) (u : Unit) => ∃ z : Nat, z ≤ 34 ∧ er_first (er_m3 X Y Q mx my) z ∧ r = er_atM X Y Q mx my z (Vm n) (Vm (28 + n)) (Vm (56 + n))) (fun (u : Unit) t => EI dC dI [(g1, .int), (g2, .int), (g4, .int), (g5, .int)] [(m0, .inr (2, [.int (er_th false false), .ref a1, .ref a2, .ref a3, .ref a4, .ref a5, .int lf, .int tp, .int wd, .int hg, .int 1, .int lk, .int 1, .int mx, .int my])), (a1, .inl (g1, 3, .inl X)), (a2, .inl (g2, 3, .inl Y)), (a4, .inl (g4, 3, .inl Q)), (a5, .inl (g5, 84, .inl Vm))] (va_A [(m0, .inr (2, [.int th, .ref a1, .ref a2, .ref a3, .ref a4, .ref a5, .int lf, .int tp, .int wd, .int hg, .int 1, .int lk, .int 1, .int mx, .int my])), (a1, .inl (g1, 3, .inl X)), (a2, .inl (g2, 3, .inl Y)), (a4, .inl (g4, 3, .inl Q)), (a5, .inl (g5, 84, .inl Vm))] sz) t) (va_A [(m0, .inr (2, [.int th, .ref a1, .ref a2, .ref a3, .ref a4, .ref a5, .int lf, .int tp, .int wd, .int hg, .int 1, .int lk, .int 1, .int mx, .int my])), (a1, .inl (g1, 3, .inl X)), (a2, .inl (g2, 3, .inl Y)), (a4, .inl (g4, 3, .inl Q)), (a5, .inl (g5, 84, .inl Vm))] sz)) 0 0 (va_A [(m0, .inr (2, [.int th, .ref a1, .ref a2, .ref a3, .ref a4, .ref a5, .int lf, .int tp, .int wd, .int hg, .int 1, .int lk, .int 1, .int mx, .int my])), (a1, .inl (g1, 3, .inl X)), (a2, .inl (g2, 3, .inl Y)), (a4, .inl (g4, 3, .inl Q)), (a5, .inl (g5, 84, .inl Vm))] sz) := by
  refine Met.ofW (cc := b_M_at) (maxL := 10) (ret := (some .int)) (by decide +kernel) rfl ?_
  intro p e s m args below meth c s₁ B hml hv
  obtain ⟨rfl, hsz, hN, hK, hP, hD0⟩ := hv
  have hx := B.exec
  have hb := B.bytes
  have hr := B.returns
  have hts := er_hts (atoms_spec (ws := w_M_at) B.pre)
  have hown : s.vm.findClass R_M = some m.cls := findClass_of_methodNamed B.named
  have hlocks := B.notSynchronized
  subst hsz
  have hD := hD0.self (sz := s.heap.size)
  generalize hAe : va_A [(m0, .inr (2, [.int th, .ref a1, .ref a2, .ref a3, .ref a4, .ref a5, .int lf, .int tp, .int wd, .int hg, .int 1, .int lk, .int 1, .int mx, .int my])), (a1, .inl (g1, 3, .inl X)), (a2, .inl (g2, 3, .inl Y)), (a4, .inl (g4, 3, .inl Q)), (a5, .inl (g5, 84, .inl Vm))] s.heap.size = A at hD ⊢
  have hA : ∀ q : Nat, s.heap.size ≤ q → A q := fun q h => by rw [← hAe]; exact Or.inr h
  have hS : va_S A s.heap s.heap [] := va_S.rf
  have hP : va_P (dC, dI) classes [(m0, .inr (2, [.int th, .ref a1, .ref a2, .ref a3, .ref a4, .ref a5, .int lf, .int tp, .int wd, .int hg, .int 1, .int lk, .int 1, .int mx, .int my])), (a1, .inl (g1, 3, .inl X)), (a2, .inl (g2, 3, .inl Y)), (a4, .inl (g4, 3, .inl Q)), (a5, .inl (g5, 84, .inl Vm))] s.heap := hP
  have hl := lv_entry ([.ref m0, .int (nI n)]) (n := 10) (Nat.le_of_ble_eq_true rfl)
  rw [lg_entry_eq]
  generalize (lg_sl ([.ref m0, .int (nI n)]) ++ List.replicate (10 - (lg_sl ([.ref m0, .int (nI n)])).length) Slot.unset).toArray = ls at hl ⊢
  have hl : lv_has ls 10 [(0, .ref m0), (1, .int (nI n))] := hl
  have u0 : er_win (nI n) 0 27 = true := er_win_nI (k := 27) (by omega) (by decide)
  refine lv_aload_n hx hb d_M_at_0 rfl (lv_at hl 0 rfl) ?_
  refine lv_iload_n hx hb d_M_at_1 rfl (lv_at hl 1 rfl) ?_
  refine lv_iconst (v := 0) hx hb d_M_at_2 (by decide) ?_
  refine lv_bipush (v := 27) hx hb d_M_at_3 (by decide) ?_
  have hPc := hP.sub (ws' := []) [] rfl
  have hKc := hK.sub (tys' := []) [] rfl
  refine vp_callSi (va_runS (As := [.int (nI n), .int 0, .int 27]) (rest := [.ref m0]) ⟨hx, hb, hml, hown, hts⟩ (c_M_in l dC dI (nI n) 0 27) (va_cwS 3 hts (er_gS k_360 k_361 k_20 k_362) rfl rfl rfl (by decide +kernel) ⟨Nat.le_of_ble_eq_true rfl, Nat.le_of_ble_eq_true rfl⟩) ⟨PP.blind, PP.at hN hKc hPc⟩ rfl rfl hl.1 rfl (lv_room (Nat.le_of_ble_eq_true rfl)) d_M_at_5 ⟨Nat.zero_le _, Nat.zero_le _⟩).run (fun r_1 hr_1 => ?_)
  obtain rfl : er_b (er_win (nI n) 0 27) = r_1 := Eq.symm hr_1
  refine lv_if_ne (tgt := 15) hx hb d_M_at_8 (by decide) (fun c_2 => ?_) (fun c_2 => ?_)
  · have c_2 := er_b_n.mp c_2
    refine lv_iconst (v := 0) hx hb d_M_at_15 (by decide) ?_
    refine lv_aload_n hx hb d_M_at_16 rfl (lv_at hl 0 rfl) ?_
    refine va_get (D := (dC, dI)) (ci := 2) (v := .int 1) (C := R_M) (T := F_M) (N := 15) hx hb hts i_M hown hK hP 0 rfl rfl 10 (by decide) (hts _ k_316) (fun _ h9 => h9) rfl d_M_at_17 ?_
    refine lv_if_eq (tgt := 30) hx hb d_M_at_20 (by decide) (fun c_3 => absurd c_3 (by decide)) (fun _ => ?_)
    refine lv_aload_n hx hb d_M_at_23 rfl (lv_at hl 0 rfl) ?_
    refine va_get (D := (dC, dI)) (ci := 2) (v := .int 1) (C := R_M) (T := F_M) (N := 15) hx hb hts i_M hown hK hP 0 rfl rfl 12 (by decide) (hts _ k_318) (fun _ h9 => h9) rfl d_M_at_24 ?_
    refine lv_if_ne (tgt := 34) hx hb d_M_at_27 (by decide) (fun _ => ?_) (fun c_4 => absurd c_4 (by decide))
    refine lv_iconst (v := 0) hx hb d_M_at_34 (by decide) ?_
    have hPc := hP.sub (ws' := [(m0, .inr (2, [.int th, .ref a1, .ref a2, .ref a3, .ref a4, .ref a5, .int lf, .int tp, .int wd, .int hg, .int 1, .int lk, .int 1, .int mx, .int my]))]) [0] rfl
    have hDc := hD.sub (ws' := [(m0, .inr (2, [.int th, .ref a1, .ref a2, .ref a3, .ref a4, .ref a5, .int lf, .int tp, .int wd, .int hg, .int 1, .int lk, .int 1, .int mx, .int my]))]) [0] (by decide) rfl
    have hKc := hK.sub (tys' := []) [] rfl
    have hFc := va_free (wc := [(m0, .inr (2, [.int th, .ref a1, .ref a2, .ref a3, .ref a4, .ref a5, .int lf, .int tp, .int wd, .int hg, .int 1, .int lk, .int 1, .int mx, .int my]))]) hD hS hA [0] rfl
    refine va_calli (va_runV (As := [.int 0, .int 0]) (rest := []) ⟨hx, hb, hml, hown, hts⟩ (c_M_refuse l dC dI m0 a1 a2 a3 a4 a5 th lf tp wd hg 1 lk 1 mx my false false s.heap.size) (cwV 2 hts (er_gV k_365 k_366 k_10 k_20 k_367) rfl rfl rfl (by decide +kernel) ⟨Nat.le_of_ble_eq_true rfl, Nat.le_of_ble_eq_true rfl⟩) ⟨PI.blind, va_recv hKc hPc (ci := 2) (q0 := 0) rfl rfl, PI.at hN hKc hPc hDc⟩ rfl rfl hl.1 rfl (lv_room (Nat.le_of_ble_eq_true rfl)) d_M_at_35 ⟨Nat.le_of_ble_eq_true rfl, Nat.le_of_ble_eq_true rfl⟩) hS (fun q _ h => hFc q h) hFc (fun r_5 u t H1 locs ht hvm hw hB hz1 hk1 hS => ?_)
    obtain ⟨hP1, hK1, hD1⟩ := hB
    rw [ht] at hP1
    have hK1 := va_K.moved hvm.symm hK1
    obtain ⟨hP, hD⟩ := va_join (wr := [(a1, .inl (g1, 3, .inl X)), (a2, .inl (g2, 3, .inl Y)), (a4, .inl (g4, 3, .inl Q)), (a5, .inl (g5, 84, .inl Vm))]) (w1 := [(m0, .inr (2, [.int (er_th false false), .ref a1, .ref a2, .ref a3, .ref a4, .ref a5, .int lf, .int tp, .int wd, .int hg, .int 1, .int lk, .int 1, .int mx, .int my]))]) hP hD [0] [1, 2, 3, 4] rfl rfl (by decide) (by decide) hk1 hFc hP1 hD1
    have hK := (hK.sub (tys' := [(g1, .int), (g2, .int), (g4, .int), (g5, .int)]) [0, 1, 2, 3] rfl).app hK1
    generalize H1 = H at hP hS ⊢
    have hP : va_P (dC, dI) classes [(a1, .inl (g1, 3, .inl X)), (a2, .inl (g2, 3, .inl Y)), (a4, .inl (g4, 3, .inl Q)), (a5, .inl (g5, 84, .inl Vm)), (m0, .inr (2, [.int (er_th false false), .ref a1, .ref a2, .ref a3, .ref a4, .ref a5, .int lf, .int tp, .int wd, .int hg, .int 1, .int lk, .int 1, .int mx, .int my]))] H := hP
    have hD : va_D A [(a1, .inl (g1, 3, .inl X)), (a2, .inl (g2, 3, .inl Y)), (a4, .inl (g4, 3, .inl Q)), (a5, .inl (g5, 84, .inl Vm)), (m0, .inr (2, [.int (er_th false false), .ref a1, .ref a2, .ref a3, .ref a4, .ref a5, .int lf, .int tp, .int wd, .int hg, .int 1, .int lk, .int 1, .int mx, .int my]))] := hD
    have hK : va_K (dC, dI) classes [(g1, .int), (g2, .int), (g4, .int), (g5, .int)] s := hK
    obtain rfl : er_b (false || false) = r_5 := Eq.symm hw
    refine lv_if_eq (tgt := 43) hx hb d_M_at_38 (by decide) (fun _ => ?_) (fun c_6 => absurd c_6 (by decide))
    refine lv_iconst (v := 0) hx hb d_M_at_43 (by decide) ?_
    refine lv_istore_n (lv' := [(2, .int 0), (0, .ref m0), (1, .int (nI n))]) hx hb d_M_at_44 rfl hl (by decide) rfl (fun ls hl => ?_)
    refine lv_iconst (v := 0) hx hb d_M_at_45 (by decide) ?_
    refine lv_istore_n (lv' := [(3, .int 0), (2, .int 0), (0, .ref m0), (1, .int (nI n))]) hx hb d_M_at_46 rfl hl (by decide) rfl (fun ls hl => ?_)
    refine lv_iload_n hx hb d_M_at_47 rfl (lv_at hl 0 rfl) ?_
    refine lv_iconst (v := 3) hx hb d_M_at_48 (by decide) ?_
    refine lv_icmp_ge (tgt := 94) hx hb d_M_at_49 (by decide) (fun c_7 => absurd c_7 (by decide)) (fun _ => ?_)
    obtain ⟨z0, b0, e0, hl2⟩ : ∃ z0 : Nat, (z0 ≤ 34) ∧ (∀ t, t < z0 → ¬ er_sh (er_m3 X Y Q mx my) t < 536870912) ∧ lv_has ls 10 [(3, .int 0), (2, .int (nI z0)), (0, .ref m0), (1, .int (nI n))] := ⟨0, by omega, fun t q => absurd q (by omega), lv_sub hl [0, 1, 2, 3] rfl⟩
    clear hl
    have hl := hl2
    clear hl2
    induction hnz0 : 34 - z0 using Nat.strongRecOn generalizing z0 ls with
    | ind nz0 ihz0 =>
      refine lv_aload_n hx hb d_M_at_52 rfl (lv_at hl 2 rfl) ?_
      refine lv_iload_n hx hb d_M_at_53 rfl (lv_at hl 0 rfl) ?_
      refine lv_aload_n hx hb d_M_at_54 rfl (lv_at hl 2 rfl) ?_
      refine va_get (D := (dC, dI)) (ci := 2) (v := .int mx) (C := R_M) (T := F_M) (N := 15) hx hb hts i_M hown hK hP 4 rfl rfl 13 (by decide) (hts _ k_319) (fun _ h9 => h9) rfl d_M_at_55 ?_
      refine lv_aload_n hx hb d_M_at_58 rfl (lv_at hl 2 rfl) ?_
      refine va_get (D := (dC, dI)) (ci := 2) (v := .int my) (C := R_M) (T := F_M) (N := 15) hx hb hts i_M hown hK hP 4 rfl rfl 14 (by decide) (hts _ k_320) (fun _ h9 => h9) rfl d_M_at_59 ?_
      have hPc := hP.sub (ws' := [(m0, .inr (2, [.int (er_th false false), .ref a1, .ref a2, .ref a3, .ref a4, .ref a5, .int lf, .int tp, .int wd, .int hg, .int 1, .int lk, .int 1, .int mx, .int my])), (a1, .inl (g1, 3, .inl X)), (a2, .inl (g2, 3, .inl Y))]) [4, 0, 1] rfl
      have hKc := hK.sub (tys' := [(g1, .int), (g2, .int)]) [0, 1] rfl
      refine vp_callSl (va_runV (As := [.int 0, .int mx, .int my]) (rest := []) ⟨hx, hb, hml, hown, hts⟩ (c_M_weightOf l dC dI m0 a1 a2 a3 a4 a5 g1 g2 X Y (er_th false false) lf tp wd hg 1 lk 1 mx my 0 mx my (by first | assumption | omega | decide | exact er_fr_lt _ _ _ | exact er_to_lt _ _ _)) (cwV 3 hts (er_gV k_393 k_394 k_14 k_20 k_395) rfl rfl rfl (by decide +kernel) ⟨Nat.le_of_ble_eq_true rfl, Nat.le_of_ble_eq_true rfl⟩) ⟨PP.blind, va_recv hKc hPc (ci := 2) (q0 := 0) rfl rfl, PP.at hN hKc hPc⟩ rfl rfl hl.1 rfl (lv_room (Nat.le_of_ble_eq_true rfl)) d_M_at_62 ⟨Nat.zero_le _, Nat.zero_le _⟩).run (fun r_8 hr_8 => ?_)
      obtain rfl : er_W X Y 0 mx my = r_8 := Eq.symm hr_8
      refine lv_aload_n hx hb d_M_at_65 rfl (lv_at hl 2 rfl) ?_
      refine va_get (D := (dC, dI)) (ci := 2) (v := .ref a4) (C := R_M) (T := F_M) (N := 15) hx hb hts i_M hown hK hP 4 rfl rfl 4 (by decide) (hts _ k_310) (fun _ h9 => h9) rfl d_M_at_66 ?_
      refine lv_iload_n hx hb d_M_at_69 rfl (lv_at hl 0 rfl) ?_
      refine va_iald (i := 0) hx hb hK hP 2 2 rfl rfl (vp_in_nI (n := 0) (by decide) (by decide)) d_M_at_70 ?_
      refine lv_i2l (v := (Q 0).toInt64) hx hb d_M_at_71 rfl ?_
      refine lv_lmul hx hb d_M_at_72 ?_
      refine lv_iload_n hx hb d_M_at_73 rfl (lv_at hl 1 rfl) ?_
      refine lv_lshr (v := ((er_W X Y 0 mx my) * ((Q 0).toInt64)) >>> ((nI z0).toInt64 &&& 63)) hx hb d_M_at_74 rfl ?_
      refine lv_ldc2 (v := 536870912) hx hb hown (hts (.constantLong R_M 95 536870912) (by decide +kernel)) d_M_at_75 ?_
      refine W.lcmp hx hb d_M_at_78 ?_
      refine lv_if_lt (tgt := 88) hx hb d_M_at_79 (by decide) (fun c_9 => ?_) (fun c_9 => ?_)
      · rw [lg_cmp_lt] at c_9
        have c_9 : er_sh (er_nr X Y Q mx my 0) z0 < 536870912 := c_9
        refine lv_iinc (v := 1) (lv' := [(3, .int 1), (2, .int (nI z0)), (0, .ref m0), (1, .int (nI n))]) hx hb d_M_at_88 hl (k := 0) rfl (by first | rfl | decide) (by decide) rfl (fun ls hl => ?_)
        refine lv_goto (tgt := 47) hx hb d_M_at_91 (by decide) ?_
        refine lv_iload_n hx hb d_M_at_47 rfl (lv_at hl 0 rfl) ?_
        refine lv_iconst (v := 3) hx hb d_M_at_48 (by decide) ?_
        refine lv_icmp_ge (tgt := 94) hx hb d_M_at_49 (by decide) (fun c_10 => absurd c_10 (by decide)) (fun _ => ?_)
        obtain ⟨z1, b1, e1, g10, hl2⟩ : ∃ z1 : Nat, (z1 ≤ 34) ∧ (∀ t, t < z1 → ¬ er_sh (er_m3 X Y Q mx my) t < 536870912) ∧ (er_sh (er_nr X Y Q mx my 0) z1 < 536870912) ∧ lv_has ls 10 [(3, .int 1), (2, .int (nI z1)), (0, .ref m0), (1, .int (nI n))] := ⟨z0, b0, e0, c_9, lv_sub hl [0, 1, 2, 3] rfl⟩
        clear hl
        have hl := hl2
        clear hl2
        induction hnz1 : 34 - z1 using Nat.strongRecOn generalizing z1 ls with
        | ind nz1 ihz1 =>
          refine lv_aload_n hx hb d_M_at_52 rfl (lv_at hl 2 rfl) ?_
          refine lv_iload_n hx hb d_M_at_53 rfl (lv_at hl 0 rfl) ?_
          refine lv_aload_n hx hb d_M_at_54 rfl (lv_at hl 2 rfl) ?_
          refine va_get (D := (dC, dI)) (ci := 2) (v := .int mx) (C := R_M) (T := F_M) (N := 15) hx hb hts i_M hown hK hP 4 rfl rfl 13 (by decide) (hts _ k_319) (fun _ h9 => h9) rfl d_M_at_55 ?_
          refine lv_aload_n hx hb d_M_at_58 rfl (lv_at hl 2 rfl) ?_
          refine va_get (D := (dC, dI)) (ci := 2) (v := .int my) (C := R_M) (T := F_M) (N := 15) hx hb hts i_M hown hK hP 4 rfl rfl 14 (by decide) (hts _ k_320) (fun _ h9 => h9) rfl d_M_at_59 ?_
          have hPc := hP.sub (ws' := [(m0, .inr (2, [.int (er_th false false), .ref a1, .ref a2, .ref a3, .ref a4, .ref a5, .int lf, .int tp, .int wd, .int hg, .int 1, .int lk, .int 1, .int mx, .int my])), (a1, .inl (g1, 3, .inl X)), (a2, .inl (g2, 3, .inl Y))]) [4, 0, 1] rfl
          have hKc := hK.sub (tys' := [(g1, .int), (g2, .int)]) [0, 1] rfl
          refine vp_callSl (va_runV (As := [.int 1, .int mx, .int my]) (rest := []) ⟨hx, hb, hml, hown, hts⟩ (c_M_weightOf l dC dI m0 a1 a2 a3 a4 a5 g1 g2 X Y (er_th false false) lf tp wd hg 1 lk 1 mx my 1 mx my (by first | assumption | omega | decide | exact er_fr_lt _ _ _ | exact er_to_lt _ _ _)) (cwV 3 hts (er_gV k_393 k_394 k_14 k_20 k_395) rfl rfl rfl (by decide +kernel) ⟨Nat.le_of_ble_eq_true rfl, Nat.le_of_ble_eq_true rfl⟩) ⟨PP.blind, va_recv hKc hPc (ci := 2) (q0 := 0) rfl rfl, PP.at hN hKc hPc⟩ rfl rfl hl.1 rfl (lv_room (Nat.le_of_ble_eq_true rfl)) d_M_at_62 ⟨Nat.zero_le _, Nat.zero_le _⟩).run (fun r_11 hr_11 => ?_)
          obtain rfl : er_W X Y 1 mx my = r_11 := Eq.symm hr_11
          refine lv_aload_n hx hb d_M_at_65 rfl (lv_at hl 2 rfl) ?_
          refine va_get (D := (dC, dI)) (ci := 2) (v := .ref a4) (C := R_M) (T := F_M) (N := 15) hx hb hts i_M hown hK hP 4 rfl rfl 4 (by decide) (hts _ k_310) (fun _ h9 => h9) rfl d_M_at_66 ?_
          refine lv_iload_n hx hb d_M_at_69 rfl (lv_at hl 0 rfl) ?_
          refine va_iald (i := 1) hx hb hK hP 2 2 rfl rfl (vp_in_nI (n := 1) (by decide) (by decide)) d_M_at_70 ?_
          refine lv_i2l (v := (Q 1).toInt64) hx hb d_M_at_71 rfl ?_
          refine lv_lmul hx hb d_M_at_72 ?_
          refine lv_iload_n hx hb d_M_at_73 rfl (lv_at hl 1 rfl) ?_
          refine lv_lshr (v := ((er_W X Y 1 mx my) * ((Q 1).toInt64)) >>> ((nI z1).toInt64 &&& 63)) hx hb d_M_at_74 rfl ?_
          refine lv_ldc2 (v := 536870912) hx hb hown (hts (.constantLong R_M 95 536870912) (by decide +kernel)) d_M_at_75 ?_
          refine W.lcmp hx hb d_M_at_78 ?_
          refine lv_if_lt (tgt := 88) hx hb d_M_at_79 (by decide) (fun c_12 => ?_) (fun c_12 => ?_)
          · rw [lg_cmp_lt] at c_12
            have c_12 : er_sh (er_nr X Y Q mx my 1) z1 < 536870912 := c_12
            refine lv_iinc (v := 2) (lv' := [(3, .int 2), (2, .int (nI z1)), (0, .ref m0), (1, .int (nI n))]) hx hb d_M_at_88 hl (k := 0) rfl (by first | rfl | decide) (by decide) rfl (fun ls hl => ?_)
            refine lv_goto (tgt := 47) hx hb d_M_at_91 (by decide) ?_
            refine lv_iload_n hx hb d_M_at_47 rfl (lv_at hl 0 rfl) ?_
            refine lv_iconst (v := 3) hx hb d_M_at_48 (by decide) ?_
            refine lv_icmp_ge (tgt := 94) hx hb d_M_at_49 (by decide) (fun c_13 => absurd c_13 (by decide)) (fun _ => ?_)
            obtain ⟨z2, b2, e2, g20, g21, hl2⟩ : ∃ z2 : Nat, (z2 ≤ 34) ∧ (∀ t, t < z2 → ¬ er_sh (er_m3 X Y Q mx my) t < 536870912) ∧ (er_sh (er_nr X Y Q mx my 0) z2 < 536870912) ∧ (er_sh (er_nr X Y Q mx my 1) z2 < 536870912) ∧ lv_has ls 10 [(3, .int 2), (2, .int (nI z2)), (0, .ref m0), (1, .int (nI n))] := ⟨z1, b1, e1, g10, c_12, lv_sub hl [0, 1, 2, 3] rfl⟩
            clear hl
            have hl := hl2
            clear hl2
            induction hnz2 : 34 - z2 using Nat.strongRecOn generalizing z2 ls with
            | ind nz2 ihz2 =>
              refine lv_aload_n hx hb d_M_at_52 rfl (lv_at hl 2 rfl) ?_
              refine lv_iload_n hx hb d_M_at_53 rfl (lv_at hl 0 rfl) ?_
              refine lv_aload_n hx hb d_M_at_54 rfl (lv_at hl 2 rfl) ?_
              refine va_get (D := (dC, dI)) (ci := 2) (v := .int mx) (C := R_M) (T := F_M) (N := 15) hx hb hts i_M hown hK hP 4 rfl rfl 13 (by decide) (hts _ k_319) (fun _ h9 => h9) rfl d_M_at_55 ?_
              refine lv_aload_n hx hb d_M_at_58 rfl (lv_at hl 2 rfl) ?_
              refine va_get (D := (dC, dI)) (ci := 2) (v := .int my) (C := R_M) (T := F_M) (N := 15) hx hb hts i_M hown hK hP 4 rfl rfl 14 (by decide) (hts _ k_320) (fun _ h9 => h9) rfl d_M_at_59 ?_
              have hPc := hP.sub (ws' := [(m0, .inr (2, [.int (er_th false false), .ref a1, .ref a2, .ref a3, .ref a4, .ref a5, .int lf, .int tp, .int wd, .int hg, .int 1, .int lk, .int 1, .int mx, .int my])), (a1, .inl (g1, 3, .inl X)), (a2, .inl (g2, 3, .inl Y))]) [4, 0, 1] rfl
              have hKc := hK.sub (tys' := [(g1, .int), (g2, .int)]) [0, 1] rfl
              refine vp_callSl (va_runV (As := [.int 2, .int mx, .int my]) (rest := []) ⟨hx, hb, hml, hown, hts⟩ (c_M_weightOf l dC dI m0 a1 a2 a3 a4 a5 g1 g2 X Y (er_th false false) lf tp wd hg 1 lk 1 mx my 2 mx my (by first | assumption | omega | decide | exact er_fr_lt _ _ _ | exact er_to_lt _ _ _)) (cwV 3 hts (er_gV k_393 k_394 k_14 k_20 k_395) rfl rfl rfl (by decide +kernel) ⟨Nat.le_of_ble_eq_true rfl, Nat.le_of_ble_eq_true rfl⟩) ⟨PP.blind, va_recv hKc hPc (ci := 2) (q0 := 0) rfl rfl, PP.at hN hKc hPc⟩ rfl rfl hl.1 rfl (lv_room (Nat.le_of_ble_eq_true rfl)) d_M_at_62 ⟨Nat.zero_le _, Nat.zero_le _⟩).run (fun r_14 hr_14 => ?_)
              obtain rfl : er_W X Y 2 mx my = r_14 := Eq.symm hr_14
              refine lv_aload_n hx hb d_M_at_65 rfl (lv_at hl 2 rfl) ?_
              refine va_get (D := (dC, dI)) (ci := 2) (v := .ref a4) (C := R_M) (T := F_M) (N := 15) hx hb hts i_M hown hK hP 4 rfl rfl 4 (by decide) (hts _ k_310) (fun _ h9 => h9) rfl d_M_at_66 ?_
              refine lv_iload_n hx hb d_M_at_69 rfl (lv_at hl 0 rfl) ?_
              refine va_iald (i := 2) hx hb hK hP 2 2 rfl rfl (vp_in_nI (n := 2) (by decide) (by decide)) d_M_at_70 ?_
              refine lv_i2l (v := (Q 2).toInt64) hx hb d_M_at_71 rfl ?_
              refine lv_lmul hx hb d_M_at_72 ?_
              refine lv_iload_n hx hb d_M_at_73 rfl (lv_at hl 1 rfl) ?_
              refine lv_lshr (v := ((er_W X Y 2 mx my) * ((Q 2).toInt64)) >>> ((nI z2).toInt64 &&& 63)) hx hb d_M_at_74 rfl ?_
              refine lv_ldc2 (v := 536870912) hx hb hown (hts (.constantLong R_M 95 536870912) (by decide +kernel)) d_M_at_75 ?_
              refine W.lcmp hx hb d_M_at_78 ?_
              refine lv_if_lt (tgt := 88) hx hb d_M_at_79 (by decide) (fun c_15 => ?_) (fun c_15 => ?_)
              · rw [lg_cmp_lt] at c_15
                have c_15 : er_sh (er_nr X Y Q mx my 2) z2 < 536870912 := c_15
                have hf9 : er_first (er_m3 X Y Q mx my) z2 := ⟨er_m3_lt g20 g21 c_15, e2⟩
                refine lv_iinc (v := 3) (lv' := [(3, .int 3), (2, .int (nI z2)), (0, .ref m0), (1, .int (nI n))]) hx hb d_M_at_88 hl (k := 0) rfl (by first | rfl | decide) (by decide) rfl (fun ls hl => ?_)
                refine lv_goto (tgt := 47) hx hb d_M_at_91 (by decide) ?_
                refine lv_iload_n hx hb d_M_at_47 rfl (lv_at hl 0 rfl) ?_
                refine lv_iconst (v := 3) hx hb d_M_at_48 (by decide) ?_
                refine lv_icmp_ge (tgt := 94) hx hb d_M_at_49 (by decide) (fun _ => ?_) (fun c_16 => absurd c_16 (by decide))
                refine lv_lconst (v := 0) hx hb d_M_at_94 (by decide) ?_
                refine lv_lstore_n (lv' := [(3, .long 0), (2, .int (nI z2)), (0, .ref m0), (1, .int (nI n))]) hx hb d_M_at_95 rfl hl (by decide) rfl (fun ls hl => ?_)
                refine lv_lconst (v := 0) hx hb d_M_at_96 (by decide) ?_
                refine lv_lstore (lv' := [(5, .long 0), (3, .long 0), (2, .int (nI z2)), (0, .ref m0), (1, .int (nI n))]) hx hb d_M_at_97 hl (by decide) rfl (fun ls hl => ?_)
                refine lv_iconst (v := 0) hx hb d_M_at_99 (by decide) ?_
                refine lv_istore (lv' := [(7, .int 0), (5, .long 0), (3, .long 0), (2, .int (nI z2)), (0, .ref m0), (1, .int (nI n))]) hx hb d_M_at_100 hl (by decide) rfl (fun ls hl => ?_)
                refine lv_iload hx hb d_M_at_102 (lv_at hl 0 rfl) ?_
                refine lv_iconst (v := 3) hx hb d_M_at_104 (by decide) ?_
                refine lv_icmp_ge (tgt := 167) hx hb d_M_at_105 (by decide) (fun c_17 => absurd c_17 (by decide)) (fun _ => ?_)
                refine lv_aload_n hx hb d_M_at_108 rfl (lv_at hl 4 rfl) ?_
                refine lv_iload hx hb d_M_at_109 (lv_at hl 0 rfl) ?_
                refine lv_aload_n hx hb d_M_at_111 rfl (lv_at hl 4 rfl) ?_
                refine va_get (D := (dC, dI)) (ci := 2) (v := .int mx) (C := R_M) (T := F_M) (N := 15) hx hb hts i_M hown hK hP 4 rfl rfl 13 (by decide) (hts _ k_319) (fun _ h9 => h9) rfl d_M_at_112 ?_
                refine lv_aload_n hx hb d_M_at_115 rfl (lv_at hl 4 rfl) ?_
                refine va_get (D := (dC, dI)) (ci := 2) (v := .int my) (C := R_M) (T := F_M) (N := 15) hx hb hts i_M hown hK hP 4 rfl rfl 14 (by decide) (hts _ k_320) (fun _ h9 => h9) rfl d_M_at_116 ?_
                have hPc := hP.sub (ws' := [(m0, .inr (2, [.int (er_th false false), .ref a1, .ref a2, .ref a3, .ref a4, .ref a5, .int lf, .int tp, .int wd, .int hg, .int 1, .int lk, .int 1, .int mx, .int my])), (a1, .inl (g1, 3, .inl X)), (a2, .inl (g2, 3, .inl Y))]) [4, 0, 1] rfl
                have hKc := hK.sub (tys' := [(g1, .int), (g2, .int)]) [0, 1] rfl
                refine vp_callSl (va_runV (As := [.int 0, .int mx, .int my]) (rest := []) ⟨hx, hb, hml, hown, hts⟩ (c_M_weightOf l dC dI m0 a1 a2 a3 a4 a5 g1 g2 X Y (er_th false false) lf tp wd hg 1 lk 1 mx my 0 mx my (by first | assumption | omega | decide | exact er_fr_lt _ _ _ | exact er_to_lt _ _ _)) (cwV 3 hts (er_gV k_393 k_394 k_14 k_20 k_395) rfl rfl rfl (by decide +kernel) ⟨Nat.le_of_ble_eq_true rfl, Nat.le_of_ble_eq_true rfl⟩) ⟨PP.blind, va_recv hKc hPc (ci := 2) (q0 := 0) rfl rfl, PP.at hN hKc hPc⟩ rfl rfl hl.1 rfl (lv_room (Nat.le_of_ble_eq_true rfl)) d_M_at_119 ⟨Nat.zero_le _, Nat.zero_le _⟩).run (fun r_18 hr_18 => ?_)
                obtain rfl : er_W X Y 0 mx my = r_18 := Eq.symm hr_18
                refine lv_aload_n hx hb d_M_at_122 rfl (lv_at hl 4 rfl) ?_
                refine va_get (D := (dC, dI)) (ci := 2) (v := .ref a4) (C := R_M) (T := F_M) (N := 15) hx hb hts i_M hown hK hP 4 rfl rfl 4 (by decide) (hts _ k_310) (fun _ h9 => h9) rfl d_M_at_123 ?_
                refine lv_iload hx hb d_M_at_126 (lv_at hl 0 rfl) ?_
                refine va_iald (i := 0) hx hb hK hP 2 2 rfl rfl (vp_in_nI (n := 0) (by decide) (by decide)) d_M_at_128 ?_
                refine lv_i2l (v := (Q 0).toInt64) hx hb d_M_at_129 rfl ?_
                refine lv_lmul hx hb d_M_at_130 ?_
                refine lv_iload_n hx hb d_M_at_131 rfl (lv_at hl 3 rfl) ?_
                refine lv_lshr (v := ((er_W X Y 0 mx my) * ((Q 0).toInt64)) >>> ((nI z2).toInt64 &&& 63)) hx hb d_M_at_132 rfl ?_
                refine lv_lstore (lv' := [(8, .long (((er_W X Y 0 mx my) * ((Q 0).toInt64)) >>> ((nI z2).toInt64 &&& 63))), (7, .int 0), (5, .long 0), (3, .long 0), (2, .int (nI z2)), (0, .ref m0), (1, .int (nI n))]) hx hb d_M_at_133 hl (by decide) rfl (fun ls hl => ?_)
                refine lv_lload_n hx hb d_M_at_135 rfl (lv_at hl 3 rfl) ?_
                refine lv_lload hx hb d_M_at_136 (lv_at hl 0 rfl) ?_
                refine lv_aload_n hx hb d_M_at_138 rfl (lv_at hl 5 rfl) ?_
                refine va_get (D := (dC, dI)) (ci := 2) (v := .ref a5) (C := R_M) (T := F_M) (N := 15) hx hb hts i_M hown hK hP 4 rfl rfl 5 (by decide) (hts _ k_311) (fun _ h9 => h9) rfl d_M_at_139 ?_
                refine lv_bipush (v := 28) hx hb d_M_at_142 (by decide) ?_
                refine lv_iload hx hb d_M_at_144 (lv_at hl 1 rfl) ?_
                refine lv_imul hx hb d_M_at_146 ?_
                refine lv_topi (x := (28 : Int32) * 0) (fun y9 e9 => ?_)
                obtain rfl : y9 = 0 := by rw [e9]; decide
                refine lv_iload_n hx hb d_M_at_147 rfl (lv_at hl 6 rfl) ?_
                refine lv_iadd hx hb d_M_at_148 ?_
                refine lv_topi (x := 0 + (nI n)) (fun y9 e9 => ?_)
                obtain rfl : y9 = nI n := by rw [e9]; exact Int32.zero_add _
                refine va_iald (i := nI n) hx hb hK hP 3 3 rfl rfl (vp_in_nI (by omega) (by decide)) d_M_at_149 ?_
                refine lv_topi (x := Vm (nI n).toNatClampNeg) (fun y9 e9 => ?_)
                obtain rfl : y9 = Vm n := by rw [e9, nI_clamp (by omega)]
                refine lv_i2l (v := (Vm n).toInt64) hx hb d_M_at_150 rfl ?_
                refine lv_lmul hx hb d_M_at_151 ?_
                refine lv_ladd hx hb d_M_at_152 ?_
                refine lv_lstore_n (lv' := [(3, .long (0 + ((((er_W X Y 0 mx my) * ((Q 0).toInt64)) >>> ((nI z2).toInt64 &&& 63)) * ((Vm n).toInt64)))), (8, .long (((er_W X Y 0 mx my) * ((Q 0).toInt64)) >>> ((nI z2).toInt64 &&& 63))), (7, .int 0), (5, .long 0), (2, .int (nI z2)), (0, .ref m0), (1, .int (nI n))]) hx hb d_M_at_153 rfl hl (by decide) rfl (fun ls hl => ?_)
                refine lv_lload hx hb d_M_at_154 (lv_at hl 3 rfl) ?_
                refine lv_lload hx hb d_M_at_156 (lv_at hl 1 rfl) ?_
                refine lv_ladd hx hb d_M_at_158 ?_
                refine lv_lstore (lv' := [(5, .long (0 + (((er_W X Y 0 mx my) * ((Q 0).toInt64)) >>> ((nI z2).toInt64 &&& 63)))), (3, .long (0 + ((((er_W X Y 0 mx my) * ((Q 0).toInt64)) >>> ((nI z2).toInt64 &&& 63)) * ((Vm n).toInt64)))), (8, .long (((er_W X Y 0 mx my) * ((Q 0).toInt64)) >>> ((nI z2).toInt64 &&& 63))), (7, .int 0), (2, .int (nI z2)), (0, .ref m0), (1, .int (nI n))]) hx hb d_M_at_159 hl (by decide) rfl (fun ls hl => ?_)
                refine lv_iinc (v := 1) (lv' := [(7, .int 1), (5, .long (0 + (((er_W X Y 0 mx my) * ((Q 0).toInt64)) >>> ((nI z2).toInt64 &&& 63)))), (3, .long (0 + ((((er_W X Y 0 mx my) * ((Q 0).toInt64)) >>> ((nI z2).toInt64 &&& 63)) * ((Vm n).toInt64)))), (8, .long (((er_W X Y 0 mx my) * ((Q 0).toInt64)) >>> ((nI z2).toInt64 &&& 63))), (2, .int (nI z2)), (0, .ref m0), (1, .int (nI n))]) hx hb d_M_at_161 hl (k := 3) rfl (by first | rfl | decide) (by decide) rfl (fun ls hl => ?_)
                refine lv_goto (tgt := 102) hx hb d_M_at_164 (by decide) ?_
                refine lv_iload hx hb d_M_at_102 (lv_at hl 0 rfl) ?_
                refine lv_iconst (v := 3) hx hb d_M_at_104 (by decide) ?_
                refine lv_icmp_ge (tgt := 167) hx hb d_M_at_105 (by decide) (fun c_19 => absurd c_19 (by decide)) (fun _ => ?_)
                refine lv_aload_n hx hb d_M_at_108 rfl (lv_at hl 5 rfl) ?_
                refine lv_iload hx hb d_M_at_109 (lv_at hl 0 rfl) ?_
                refine lv_aload_n hx hb d_M_at_111 rfl (lv_at hl 5 rfl) ?_
                refine va_get (D := (dC, dI)) (ci := 2) (v := .int mx) (C := R_M) (T := F_M) (N := 15) hx hb hts i_M hown hK hP 4 rfl rfl 13 (by decide) (hts _ k_319) (fun _ h9 => h9) rfl d_M_at_112 ?_
                refine lv_aload_n hx hb d_M_at_115 rfl (lv_at hl 5 rfl) ?_
                refine va_get (D := (dC, dI)) (ci := 2) (v := .int my) (C := R_M) (T := F_M) (N := 15) hx hb hts i_M hown hK hP 4 rfl rfl 14 (by decide) (hts _ k_320) (fun _ h9 => h9) rfl d_M_at_116 ?_
                have hPc := hP.sub (ws' := [(m0, .inr (2, [.int (er_th false false), .ref a1, .ref a2, .ref a3, .ref a4, .ref a5, .int lf, .int tp, .int wd, .int hg, .int 1, .int lk, .int 1, .int mx, .int my])), (a1, .inl (g1, 3, .inl X)), (a2, .inl (g2, 3, .inl Y))]) [4, 0, 1] rfl
                have hKc := hK.sub (tys' := [(g1, .int), (g2, .int)]) [0, 1] rfl
                refine vp_callSl (va_runV (As := [.int 1, .int mx, .int my]) (rest := []) ⟨hx, hb, hml, hown, hts⟩ (c_M_weightOf l dC dI m0 a1 a2 a3 a4 a5 g1 g2 X Y (er_th false false) lf tp wd hg 1 lk 1 mx my 1 mx my (by first | assumption | omega | decide | exact er_fr_lt _ _ _ | exact er_to_lt _ _ _)) (cwV 3 hts (er_gV k_393 k_394 k_14 k_20 k_395) rfl rfl rfl (by decide +kernel) ⟨Nat.le_of_ble_eq_true rfl, Nat.le_of_ble_eq_true rfl⟩) ⟨PP.blind, va_recv hKc hPc (ci := 2) (q0 := 0) rfl rfl, PP.at hN hKc hPc⟩ rfl rfl hl.1 rfl (lv_room (Nat.le_of_ble_eq_true rfl)) d_M_at_119 ⟨Nat.zero_le _, Nat.zero_le _⟩).run (fun r_20 hr_20 => ?_)
                obtain rfl : er_W X Y 1 mx my = r_20 := Eq.symm hr_20
                refine lv_aload_n hx hb d_M_at_122 rfl (lv_at hl 5 rfl) ?_
                refine va_get (D := (dC, dI)) (ci := 2) (v := .ref a4) (C := R_M) (T := F_M) (N := 15) hx hb hts i_M hown hK hP 4 rfl rfl 4 (by decide) (hts _ k_310) (fun _ h9 => h9) rfl d_M_at_123 ?_
                refine lv_iload hx hb d_M_at_126 (lv_at hl 0 rfl) ?_
                refine va_iald (i := 1) hx hb hK hP 2 2 rfl rfl (vp_in_nI (n := 1) (by decide) (by decide)) d_M_at_128 ?_
                refine lv_i2l (v := (Q 1).toInt64) hx hb d_M_at_129 rfl ?_
                refine lv_lmul hx hb d_M_at_130 ?_
                refine lv_iload_n hx hb d_M_at_131 rfl (lv_at hl 4 rfl) ?_
                refine lv_lshr (v := ((er_W X Y 1 mx my) * ((Q 1).toInt64)) >>> ((nI z2).toInt64 &&& 63)) hx hb d_M_at_132 rfl ?_
                refine lv_lstore (lv' := [(8, .long (((er_W X Y 1 mx my) * ((Q 1).toInt64)) >>> ((nI z2).toInt64 &&& 63))), (7, .int 1), (5, .long (0 + (((er_W X Y 0 mx my) * ((Q 0).toInt64)) >>> ((nI z2).toInt64 &&& 63)))), (3, .long (0 + ((((er_W X Y 0 mx my) * ((Q 0).toInt64)) >>> ((nI z2).toInt64 &&& 63)) * ((Vm n).toInt64)))), (2, .int (nI z2)), (0, .ref m0), (1, .int (nI n))]) hx hb d_M_at_133 hl (by decide) rfl (fun ls hl => ?_)
                refine lv_lload_n hx hb d_M_at_135 rfl (lv_at hl 3 rfl) ?_
                refine lv_lload hx hb d_M_at_136 (lv_at hl 0 rfl) ?_
                refine lv_aload_n hx hb d_M_at_138 rfl (lv_at hl 5 rfl) ?_
                refine va_get (D := (dC, dI)) (ci := 2) (v := .ref a5) (C := R_M) (T := F_M) (N := 15) hx hb hts i_M hown hK hP 4 rfl rfl 5 (by decide) (hts _ k_311) (fun _ h9 => h9) rfl d_M_at_139 ?_
                refine lv_bipush (v := 28) hx hb d_M_at_142 (by decide) ?_
                refine lv_iload hx hb d_M_at_144 (lv_at hl 1 rfl) ?_
                refine lv_imul hx hb d_M_at_146 ?_
                refine lv_topi (x := (28 : Int32) * 1) (fun y9 e9 => ?_)
                obtain rfl : y9 = 28 := by rw [e9]; decide
                refine lv_iload_n hx hb d_M_at_147 rfl (lv_at hl 6 rfl) ?_
                refine lv_iadd hx hb d_M_at_148 ?_
                refine lv_topi (x := 28 + (nI n)) (fun y9 e9 => ?_)
                obtain rfl : y9 = nI (28 + n) := by rw [e9]; exact er_ixl 28 n
                refine va_iald (i := nI (28 + n)) hx hb hK hP 3 3 rfl rfl (vp_in_nI (by omega) (by decide)) d_M_at_149 ?_
                refine lv_topi (x := Vm (nI (28 + n)).toNatClampNeg) (fun y9 e9 => ?_)
                obtain rfl : y9 = Vm (28 + n) := by rw [e9, nI_clamp (by omega)]
                refine lv_i2l (v := (Vm (28 + n)).toInt64) hx hb d_M_at_150 rfl ?_
                refine lv_lmul hx hb d_M_at_151 ?_
                refine lv_ladd hx hb d_M_at_152 ?_
                refine lv_lstore_n (lv' := [(3, .long ((0 + ((((er_W X Y 0 mx my) * ((Q 0).toInt64)) >>> ((nI z2).toInt64 &&& 63)) * ((Vm n).toInt64))) + ((((er_W X Y 1 mx my) * ((Q 1).toInt64)) >>> ((nI z2).toInt64 &&& 63)) * ((Vm (28 + n)).toInt64)))), (8, .long (((er_W X Y 1 mx my) * ((Q 1).toInt64)) >>> ((nI z2).toInt64 &&& 63))), (7, .int 1), (5, .long (0 + (((er_W X Y 0 mx my) * ((Q 0).toInt64)) >>> ((nI z2).toInt64 &&& 63)))), (2, .int (nI z2)), (0, .ref m0), (1, .int (nI n))]) hx hb d_M_at_153 rfl hl (by decide) rfl (fun ls hl => ?_)
                refine lv_lload hx hb d_M_at_154 (lv_at hl 3 rfl) ?_
                refine lv_lload hx hb d_M_at_156 (lv_at hl 1 rfl) ?_
                refine lv_ladd hx hb d_M_at_158 ?_
                refine lv_lstore (lv' := [(5, .long ((0 + (((er_W X Y 0 mx my) * ((Q 0).toInt64)) >>> ((nI z2).toInt64 &&& 63))) + (((er_W X Y 1 mx my) * ((Q 1).toInt64)) >>> ((nI z2).toInt64 &&& 63)))), (3, .long ((0 + ((((er_W X Y 0 mx my) * ((Q 0).toInt64)) >>> ((nI z2).toInt64 &&& 63)) * ((Vm n).toInt64))) + ((((er_W X Y 1 mx my) * ((Q 1).toInt64)) >>> ((nI z2).toInt64 &&& 63)) * ((Vm (28 + n)).toInt64)))), (8, .long (((er_W X Y 1 mx my) * ((Q 1).toInt64)) >>> ((nI z2).toInt64 &&& 63))), (7, .int 1), (2, .int (nI z2)), (0, .ref m0), (1, .int (nI n))]) hx hb d_M_at_159 hl (by decide) rfl (fun ls hl => ?_)
                refine lv_iinc (v := 2) (lv' := [(7, .int 2), (5, .long ((0 + (((er_W X Y 0 mx my) * ((Q 0).toInt64)) >>> ((nI z2).toInt64 &&& 63))) + (((er_W X Y 1 mx my) * ((Q 1).toInt64)) >>> ((nI z2).toInt64 &&& 63)))), (3, .long ((0 + ((((er_W X Y 0 mx my) * ((Q 0).toInt64)) >>> ((nI z2).toInt64 &&& 63)) * ((Vm n).toInt64))) + ((((er_W X Y 1 mx my) * ((Q 1).toInt64)) >>> ((nI z2).toInt64 &&& 63)) * ((Vm (28 + n)).toInt64)))), (8, .long (((er_W X Y 1 mx my) * ((Q 1).toInt64)) >>> ((nI z2).toInt64 &&& 63))), (2, .int (nI z2)), (0, .ref m0), (1, .int (nI n))]) hx hb d_M_at_161 hl (k := 3) rfl (by first | rfl | decide) (by decide) rfl (fun ls hl => ?_)
                refine lv_goto (tgt := 102) hx hb d_M_at_164 (by decide) ?_
                refine lv_iload hx hb d_M_at_102 (lv_at hl 0 rfl) ?_
                refine lv_iconst (v := 3) hx hb d_M_at_104 (by decide) ?_
                refine lv_icmp_ge (tgt := 167) hx hb d_M_at_105 (by decide) (fun c_21 => absurd c_21 (by decide)) (fun _ => ?_)
                refine lv_aload_n hx hb d_M_at_108 rfl (lv_at hl 5 rfl) ?_
                refine lv_iload hx hb d_M_at_109 (lv_at hl 0 rfl) ?_
                refine lv_aload_n hx hb d_M_at_111 rfl (lv_at hl 5 rfl) ?_
                refine va_get (D := (dC, dI)) (ci := 2) (v := .int mx) (C := R_M) (T := F_M) (N := 15) hx hb hts i_M hown hK hP 4 rfl rfl 13 (by decide) (hts _ k_319) (fun _ h9 => h9) rfl d_M_at_112 ?_
                refine lv_aload_n hx hb d_M_at_115 rfl (lv_at hl 5 rfl) ?_
                refine va_get (D := (dC, dI)) (ci := 2) (v := .int my) (C := R_M) (T := F_M) (N := 15) hx hb hts i_M hown hK hP 4 rfl rfl 14 (by decide) (hts _ k_320) (fun _ h9 => h9) rfl d_M_at_116 ?_
                have hPc := hP.sub (ws' := [(m0, .inr (2, [.int (er_th false false), .ref a1, .ref a2, .ref a3, .ref a4, .ref a5, .int lf, .int tp, .int wd, .int hg, .int 1, .int lk, .int 1, .int mx, .int my])), (a1, .inl (g1, 3, .inl X)), (a2, .inl (g2, 3, .inl Y))]) [4, 0, 1] rfl
                have hKc := hK.sub (tys' := [(g1, .int), (g2, .int)]) [0, 1] rfl
                refine vp_callSl (va_runV (As := [.int 2, .int mx, .int my]) (rest := []) ⟨hx, hb, hml, hown, hts⟩ (c_M_weightOf l dC dI m0 a1 a2 a3 a4 a5 g1 g2 X Y (er_th false false) lf tp wd hg 1 lk 1 mx my 2 mx my (by first | assumption | omega | decide | exact er_fr_lt _ _ _ | exact er_to_lt _ _ _)) (cwV 3 hts (er_gV k_393 k_394 k_14 k_20 k_395) rfl rfl rfl (by decide +kernel) ⟨Nat.le_of_ble_eq_true rfl, Nat.le_of_ble_eq_true rfl⟩) ⟨PP.blind, va_recv hKc hPc (ci := 2) (q0 := 0) rfl rfl, PP.at hN hKc hPc⟩ rfl rfl hl.1 rfl (lv_room (Nat.le_of_ble_eq_true rfl)) d_M_at_119 ⟨Nat.zero_le _, Nat.zero_le _⟩).run (fun r_22 hr_22 => ?_)
                obtain rfl : er_W X Y 2 mx my = r_22 := Eq.symm hr_22
                refine lv_aload_n hx hb d_M_at_122 rfl (lv_at hl 5 rfl) ?_
                refine va_get (D := (dC, dI)) (ci := 2) (v := .ref a4) (C := R_M) (T := F_M) (N := 15) hx hb hts i_M hown hK hP 4 rfl rfl 4 (by decide) (hts _ k_310) (fun _ h9 => h9) rfl d_M_at_123 ?_
                refine lv_iload hx hb d_M_at_126 (lv_at hl 0 rfl) ?_
                refine va_iald (i := 2) hx hb hK hP 2 2 rfl rfl (vp_in_nI (n := 2) (by decide) (by decide)) d_M_at_128 ?_
                refine lv_i2l (v := (Q 2).toInt64) hx hb d_M_at_129 rfl ?_
                refine lv_lmul hx hb d_M_at_130 ?_
                refine lv_iload_n hx hb d_M_at_131 rfl (lv_at hl 4 rfl) ?_
                refine lv_lshr (v := ((er_W X Y 2 mx my) * ((Q 2).toInt64)) >>> ((nI z2).toInt64 &&& 63)) hx hb d_M_at_132 rfl ?_
                refine lv_lstore (lv' := [(8, .long (((er_W X Y 2 mx my) * ((Q 2).toInt64)) >>> ((nI z2).toInt64 &&& 63))), (7, .int 2), (5, .long ((0 + (((er_W X Y 0 mx my) * ((Q 0).toInt64)) >>> ((nI z2).toInt64 &&& 63))) + (((er_W X Y 1 mx my) * ((Q 1).toInt64)) >>> ((nI z2).toInt64 &&& 63)))), (3, .long ((0 + ((((er_W X Y 0 mx my) * ((Q 0).toInt64)) >>> ((nI z2).toInt64 &&& 63)) * ((Vm n).toInt64))) + ((((er_W X Y 1 mx my) * ((Q 1).toInt64)) >>> ((nI z2).toInt64 &&& 63)) * ((Vm (28 + n)).toInt64)))), (2, .int (nI z2)), (0, .ref m0), (1, .int (nI n))]) hx hb d_M_at_133 hl (by decide) rfl (fun ls hl => ?_)
                refine lv_lload_n hx hb d_M_at_135 rfl (lv_at hl 3 rfl) ?_
                refine lv_lload hx hb d_M_at_136 (lv_at hl 0 rfl) ?_
                refine lv_aload_n hx hb d_M_at_138 rfl (lv_at hl 5 rfl) ?_
                refine va_get (D := (dC, dI)) (ci := 2) (v := .ref a5) (C := R_M) (T := F_M) (N := 15) hx hb hts i_M hown hK hP 4 rfl rfl 5 (by decide) (hts _ k_311) (fun _ h9 => h9) rfl d_M_at_139 ?_
                refine lv_bipush (v := 28) hx hb d_M_at_142 (by decide) ?_
                refine lv_iload hx hb d_M_at_144 (lv_at hl 1 rfl) ?_
                refine lv_imul hx hb d_M_at_146 ?_
                refine lv_topi (x := (28 : Int32) * 2) (fun y9 e9 => ?_)
                obtain rfl : y9 = 56 := by rw [e9]; decide
                refine lv_iload_n hx hb d_M_at_147 rfl (lv_at hl 6 rfl) ?_
                refine lv_iadd hx hb d_M_at_148 ?_
                refine lv_topi (x := 56 + (nI n)) (fun y9 e9 => ?_)
                obtain rfl : y9 = nI (56 + n) := by rw [e9]; exact er_ixl 56 n
                refine va_iald (i := nI (56 + n)) hx hb hK hP 3 3 rfl rfl (vp_in_nI (by omega) (by decide)) d_M_at_149 ?_
                refine lv_topi (x := Vm (nI (56 + n)).toNatClampNeg) (fun y9 e9 => ?_)
                obtain rfl : y9 = Vm (56 + n) := by rw [e9, nI_clamp (by omega)]
                refine lv_i2l (v := (Vm (56 + n)).toInt64) hx hb d_M_at_150 rfl ?_
                refine lv_lmul hx hb d_M_at_151 ?_
                refine lv_ladd hx hb d_M_at_152 ?_
                refine lv_lstore_n (lv' := [(3, .long (((0 + ((((er_W X Y 0 mx my) * ((Q 0).toInt64)) >>> ((nI z2).toInt64 &&& 63)) * ((Vm n).toInt64))) + ((((er_W X Y 1 mx my) * ((Q 1).toInt64)) >>> ((nI z2).toInt64 &&& 63)) * ((Vm (28 + n)).toInt64))) + ((((er_W X Y 2 mx my) * ((Q 2).toInt64)) >>> ((nI z2).toInt64 &&& 63)) * ((Vm (56 + n)).toInt64)))), (8, .long (((er_W X Y 2 mx my) * ((Q 2).toInt64)) >>> ((nI z2).toInt64 &&& 63))), (7, .int 2), (5, .long ((0 + (((er_W X Y 0 mx my) * ((Q 0).toInt64)) >>> ((nI z2).toInt64 &&& 63))) + (((er_W X Y 1 mx my) * ((Q 1).toInt64)) >>> ((nI z2).toInt64 &&& 63)))), (2, .int (nI z2)), (0, .ref m0), (1, .int (nI n))]) hx hb d_M_at_153 rfl hl (by decide) rfl (fun ls hl => ?_)
                refine lv_lload hx hb d_M_at_154 (lv_at hl 3 rfl) ?_
                refine lv_lload hx hb d_M_at_156 (lv_at hl 1 rfl) ?_
                refine lv_ladd hx hb d_M_at_158 ?_
                refine lv_lstore (lv' := [(5, .long (((0 + (((er_W X Y 0 mx my) * ((Q 0).toInt64)) >>> ((nI z2).toInt64 &&& 63))) + (((er_W X Y 1 mx my) * ((Q 1).toInt64)) >>> ((nI z2).toInt64 &&& 63))) + (((er_W X Y 2 mx my) * ((Q 2).toInt64)) >>> ((nI z2).toInt64 &&& 63)))), (3, .long (((0 + ((((er_W X Y 0 mx my) * ((Q 0).toInt64)) >>> ((nI z2).toInt64 &&& 63)) * ((Vm n).toInt64))) + ((((er_W X Y 1 mx my) * ((Q 1).toInt64)) >>> ((nI z2).toInt64 &&& 63)) * ((Vm (28 + n)).toInt64))) + ((((er_W X Y 2 mx my) * ((Q 2).toInt64)) >>> ((nI z2).toInt64 &&& 63)) * ((Vm (56 + n)).toInt64)))), (8, .long (((er_W X Y 2 mx my) * ((Q 2).toInt64)) >>> ((nI z2).toInt64 &&& 63))), (7, .int 2), (2, .int (nI z2)), (0, .ref m0), (1, .int (nI n))]) hx hb d_M_at_159 hl (by decide) rfl (fun ls hl => ?_)
                refine lv_iinc (v := 3) (lv' := [(7, .int 3), (5, .long (((0 + (((er_W X Y 0 mx my) * ((Q 0).toInt64)) >>> ((nI z2).toInt64 &&& 63))) + (((er_W X Y 1 mx my) * ((Q 1).toInt64)) >>> ((nI z2).toInt64 &&& 63))) + (((er_W X Y 2 mx my) * ((Q 2).toInt64)) >>> ((nI z2).toInt64 &&& 63)))), (3, .long (((0 + ((((er_W X Y 0 mx my) * ((Q 0).toInt64)) >>> ((nI z2).toInt64 &&& 63)) * ((Vm n).toInt64))) + ((((er_W X Y 1 mx my) * ((Q 1).toInt64)) >>> ((nI z2).toInt64 &&& 63)) * ((Vm (28 + n)).toInt64))) + ((((er_W X Y 2 mx my) * ((Q 2).toInt64)) >>> ((nI z2).toInt64 &&& 63)) * ((Vm (56 + n)).toInt64)))), (8, .long (((er_W X Y 2 mx my) * ((Q 2).toInt64)) >>> ((nI z2).toInt64 &&& 63))), (2, .int (nI z2)), (0, .ref m0), (1, .int (nI n))]) hx hb d_M_at_161 hl (k := 3) rfl (by first | rfl | decide) (by decide) rfl (fun ls hl => ?_)
                refine lv_goto (tgt := 102) hx hb d_M_at_164 (by decide) ?_
                refine lv_iload hx hb d_M_at_102 (lv_at hl 0 rfl) ?_
                refine lv_iconst (v := 3) hx hb d_M_at_104 (by decide) ?_
                refine lv_icmp_ge (tgt := 167) hx hb d_M_at_105 (by decide) (fun _ => ?_) (fun c_23 => absurd c_23 (by decide))
                refine lv_lload_n hx hb d_M_at_167 rfl (lv_at hl 2 rfl) ?_
                refine lv_lload hx hb d_M_at_168 (lv_at hl 1 rfl) ?_
                have hPc := hP.sub (ws' := []) [] rfl
                have hKc := hK.sub (tys' := []) [] rfl
                refine vp_callSl (va_runS (As := [.long (((0 + ((((er_W X Y 0 mx my) * ((Q 0).toInt64)) >>> ((nI z2).toInt64 &&& 63)) * ((Vm n).toInt64))) + ((((er_W X Y 1 mx my) * ((Q 1).toInt64)) >>> ((nI z2).toInt64 &&& 63)) * ((Vm (28 + n)).toInt64))) + ((((er_W X Y 2 mx my) * ((Q 2).toInt64)) >>> ((nI z2).toInt64 &&& 63)) * ((Vm (56 + n)).toInt64))), .long (((0 + (((er_W X Y 0 mx my) * ((Q 0).toInt64)) >>> ((nI z2).toInt64 &&& 63))) + (((er_W X Y 1 mx my) * ((Q 1).toInt64)) >>> ((nI z2).toInt64 &&& 63))) + (((er_W X Y 2 mx my) * ((Q 2).toInt64)) >>> ((nI z2).toInt64 &&& 63)))]) (rest := []) ⟨hx, hb, hml, hown, hts⟩ (c_M_down l dC dI (((0 + ((((er_W X Y 0 mx my) * ((Q 0).toInt64)) >>> ((nI z2).toInt64 &&& 63)) * ((Vm n).toInt64))) + ((((er_W X Y 1 mx my) * ((Q 1).toInt64)) >>> ((nI z2).toInt64 &&& 63)) * ((Vm (28 + n)).toInt64))) + ((((er_W X Y 2 mx my) * ((Q 2).toInt64)) >>> ((nI z2).toInt64 &&& 63)) * ((Vm (56 + n)).toInt64))) (((0 + (((er_W X Y 0 mx my) * ((Q 0).toInt64)) >>> ((nI z2).toInt64 &&& 63))) + (((er_W X Y 1 mx my) * ((Q 1).toInt64)) >>> ((nI z2).toInt64 &&& 63))) + (((er_W X Y 2 mx my) * ((Q 2).toInt64)) >>> ((nI z2).toInt64 &&& 63))) (hsh z2 b2 hf9)) (va_cwS 2 hts (er_gS k_423 k_424 k_20 k_425) rfl rfl rfl (by decide +kernel) ⟨Nat.le_of_ble_eq_true rfl, Nat.le_of_ble_eq_true rfl⟩) ⟨PP.blind, PP.at hN hKc hPc⟩ rfl rfl hl.1 rfl (lv_room (Nat.le_of_ble_eq_true rfl)) d_M_at_170 ⟨Nat.zero_le _, Nat.zero_le _⟩).run (fun r_24 hr_24 => ?_)
                obtain rfl : er_down (((0 + ((((er_W X Y 0 mx my) * ((Q 0).toInt64)) >>> ((nI z2).toInt64 &&& 63)) * ((Vm n).toInt64))) + ((((er_W X Y 1 mx my) * ((Q 1).toInt64)) >>> ((nI z2).toInt64 &&& 63)) * ((Vm (28 + n)).toInt64))) + ((((er_W X Y 2 mx my) * ((Q 2).toInt64)) >>> ((nI z2).toInt64 &&& 63)) * ((Vm (56 + n)).toInt64))) (((0 + (((er_W X Y 0 mx my) * ((Q 0).toInt64)) >>> ((nI z2).toInt64 &&& 63))) + (((er_W X Y 1 mx my) * ((Q 1).toInt64)) >>> ((nI z2).toInt64 &&& 63))) + (((er_W X Y 2 mx my) * ((Q 2).toInt64)) >>> ((nI z2).toInt64 &&& 63))) = r_24 := Eq.symm hr_24
                refine lv_l2i (v := (er_down (((0 + ((((er_W X Y 0 mx my) * ((Q 0).toInt64)) >>> ((nI z2).toInt64 &&& 63)) * ((Vm n).toInt64))) + ((((er_W X Y 1 mx my) * ((Q 1).toInt64)) >>> ((nI z2).toInt64 &&& 63)) * ((Vm (28 + n)).toInt64))) + ((((er_W X Y 2 mx my) * ((Q 2).toInt64)) >>> ((nI z2).toInt64 &&& 63)) * ((Vm (56 + n)).toInt64))) (((0 + (((er_W X Y 0 mx my) * ((Q 0).toInt64)) >>> ((nI z2).toInt64 &&& 63))) + (((er_W X Y 1 mx my) * ((Q 1).toInt64)) >>> ((nI z2).toInt64 &&& 63))) + (((er_W X Y 2 mx my) * ((Q 2).toInt64)) >>> ((nI z2).toInt64 &&& 63)))).toInt32) hx hb d_M_at_173 rfl ?_
                have hP9 := hP.sub (ws' := [(m0, .inr (2, [.int (er_th false false), .ref a1, .ref a2, .ref a3, .ref a4, .ref a5, .int lf, .int tp, .int wd, .int hg, .int 1, .int lk, .int 1, .int mx, .int my])), (a1, .inl (g1, 3, .inl X)), (a2, .inl (g2, 3, .inl Y)), (a4, .inl (g4, 3, .inl Q)), (a5, .inl (g5, 84, .inl Vm))]) [4, 0, 1, 2, 3] rfl
                have hD9 := hD.sub (ws' := [(m0, .inr (2, [.int (er_th false false), .ref a1, .ref a2, .ref a3, .ref a4, .ref a5, .int lf, .int tp, .int wd, .int hg, .int 1, .int lk, .int 1, .int mx, .int my])), (a1, .inl (g1, 3, .inl X)), (a2, .inl (g2, 3, .inl Y)), (a4, .inl (g4, 3, .inl Q)), (a5, .inl (g5, 84, .inl Vm))]) [4, 0, 1, 2, 3] (by decide) rfl
                have hK9 := hK.sub (tys' := [(g1, .int), (g2, .int), (g4, .int), (g5, .int)]) [0, 1, 2, 3] rfl
                exact W.iret (v := (er_down (((0 + ((((er_W X Y 0 mx my) * ((Q 0).toInt64)) >>> ((nI z2).toInt64 &&& 63)) * ((Vm n).toInt64))) + ((((er_W X Y 1 mx my) * ((Q 1).toInt64)) >>> ((nI z2).toInt64 &&& 63)) * ((Vm (28 + n)).toInt64))) + ((((er_W X Y 2 mx my) * ((Q 2).toInt64)) >>> ((nI z2).toInt64 &&& 63)) * ((Vm (56 + n)).toInt64))) (((0 + (((er_W X Y 0 mx my) * ((Q 0).toInt64)) >>> ((nI z2).toInt64 &&& 63))) + (((er_W X Y 1 mx my) * ((Q 1).toInt64)) >>> ((nI z2).toInt64 &&& 63))) + (((er_W X Y 2 mx my) * ((Q 2).toInt64)) >>> ((nI z2).toInt64 &&& 63)))).toInt32) hx hb hr (fun u9 ht hW => ⟨⟨_, (), rfl, ⟨z2, b2, hf9, rfl⟩, ⟨by rw [ht]; exact hP9, va_K.moved hW.alike hK9, hD9⟩⟩, hS.F ht⟩) hS.2.2 d_M_at_174
              · rw [lg_cmp_lt] at c_15
                have c_15 : ¬ er_sh (er_nr X Y Q mx my 2) z2 < 536870912 := c_15
                have q7 := er_sh_step b2 c_15
                refine lv_iinc (v := (nI z2) + 1) (lv' := [(2, .int ((nI z2) + 1)), (3, .int 2), (0, .ref m0), (1, .int (nI n))]) hx hb d_M_at_82 hl (k := 1) rfl (by first | rfl | decide) (by decide) rfl (fun ls hl => ?_)
                refine lv_goto (tgt := 52) hx hb d_M_at_85 (by decide) ?_
                exact ihz2 _ (by omega) (ls := ls) (z2 := z2 + 1) (b2 := er_sh_step b2 c_15) (e2 := er_e_step e2 (er_m3_2 (by omega) c_15)) (g20 := er_sh_mono _ (Nat.le_succ _) (by have := er_sh_step b2 c_15; omega) g20) (g21 := er_sh_mono _ (Nat.le_succ _) (by have := er_sh_step b2 c_15; omega) g21) (hl := by have hl := lv_sub hl [1, 0, 2, 3] rfl; rw [nI_1 z2] at hl; exact hl) (hnz2 := rfl)
          · rw [lg_cmp_lt] at c_12
            have c_12 : ¬ er_sh (er_nr X Y Q mx my 1) z1 < 536870912 := c_12
            have q7 := er_sh_step b1 c_12
            refine lv_iinc (v := (nI z1) + 1) (lv' := [(2, .int ((nI z1) + 1)), (3, .int 1), (0, .ref m0), (1, .int (nI n))]) hx hb d_M_at_82 hl (k := 1) rfl (by first | rfl | decide) (by decide) rfl (fun ls hl => ?_)
            refine lv_goto (tgt := 52) hx hb d_M_at_85 (by decide) ?_
            exact ihz1 _ (by omega) (ls := ls) (z1 := z1 + 1) (b1 := er_sh_step b1 c_12) (e1 := er_e_step e1 (er_m3_1 (by omega) c_12)) (g10 := er_sh_mono _ (Nat.le_succ _) (by have := er_sh_step b1 c_12; omega) g10) (hl := by have hl := lv_sub hl [1, 0, 2, 3] rfl; rw [nI_1 z1] at hl; exact hl) (hnz1 := rfl)
      · rw [lg_cmp_lt] at c_9
        have c_9 : ¬ er_sh (er_nr X Y Q mx my 0) z0 < 536870912 := c_9
        have q7 := er_sh_step b0 c_9
        refine lv_iinc (v := (nI z0) + 1) (lv' := [(2, .int ((nI z0) + 1)), (3, .int 0), (0, .ref m0), (1, .int (nI n))]) hx hb d_M_at_82 hl (k := 1) rfl (by first | rfl | decide) (by decide) rfl (fun ls hl => ?_)
        refine lv_goto (tgt := 52) hx hb d_M_at_85 (by decide) ?_
        exact ihz0 _ (by omega) (ls := ls) (z0 := z0 + 1) (b0 := er_sh_step b0 c_9) (e0 := er_e_step e0 (er_m3_0 (by omega) c_9)) (hl := by have hl := lv_sub hl [1, 0, 2, 3] rfl; rw [nI_1 z0] at hl; exact hl) (hnz0 := rfl)
  · have c_2 := er_b_0.mp c_2
    exact absurd c_2 (by simp_all)
