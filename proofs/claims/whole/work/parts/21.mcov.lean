set_option maxHeartbeats 1000000 in
set_option maxRecDepth 100000 in
theorem c_M_isCovered (l : Launch) (dC : Nat → ClassId) (dI : Nat → Nat → Nat) (m0 a1 a2 a3 a4 a5 : Nat) (g1 g2 : ClassId) (X Y : Nat → Int32) (th lf tp wd hg ws lk cm mx my : Int32) (p0 p1 : Int32) : Met l y_M_isCovered w_M_isCovered ({ frames := 4, cells := 0, slots := 0, locals := 92 }) (va_Pc [.ref m0, .int p0, .int p1] (PP dC dI [(g1, .int), (g2, .int)] [(m0, .inr (2, [.int th, .ref a1, .ref a2, .ref a3, .ref a4, .ref a5, .int lf, .int tp, .int wd, .int hg, .int ws, .int lk, .int cm, .int mx, .int my])), (a1, .inl (g1, 3, .inl X)), (a2, .inl (g2, 3, .inl Y))])) (vp_Si (fun r : Int32 => r = er_b (er_cov X Y p0 p1))) 0 0 (fun _ => False) := by
  refine Met.ofW (cc := b_M_isCovered) (maxL := 10) (ret := (some .boolean)) (by decide +kernel) rfl ?_
  intro p e s m args below meth c s₁ B hml hv
  obtain ⟨rfl, hN, hK, hP⟩ := hv
  have hx := B.exec
  have hb := B.bytes
  have hr := B.returns
  have hts := er_hts (atoms_spec (ws := w_M_isCovered) B.pre)
  have hown : s.vm.findClass R_M = some m.cls := findClass_of_methodNamed B.named
  have hlocks := B.notSynchronized
  have hP : va_P (dC, dI) classes [(m0, .inr (2, [.int th, .ref a1, .ref a2, .ref a3, .ref a4, .ref a5, .int lf, .int tp, .int wd, .int hg, .int ws, .int lk, .int cm, .int mx, .int my])), (a1, .inl (g1, 3, .inl X)), (a2, .inl (g2, 3, .inl Y))] s.heap := hP
  have hl := lv_entry ([.ref m0, .int p0, .int p1]) (n := 10) (Nat.le_of_ble_eq_true rfl)
  rw [lg_entry_eq]
  generalize (lg_sl ([.ref m0, .int p0, .int p1]) ++ List.replicate (10 - (lg_sl ([.ref m0, .int p0, .int p1])).length) Slot.unset).toArray = ls at hl ⊢
  have hl : lv_has ls 10 [(0, .ref m0), (1, .int p0), (2, .int p1)] := hl
  refine lv_aload_n hx hb d_M_isCovered_0 rfl (lv_at hl 0 rfl) ?_
  have hPc := hP.sub (ws' := [(m0, .inr (2, [.int th, .ref a1, .ref a2, .ref a3, .ref a4, .ref a5, .int lf, .int tp, .int wd, .int hg, .int ws, .int lk, .int cm, .int mx, .int my])), (a1, .inl (g1, 3, .inl X)), (a2, .inl (g2, 3, .inl Y))]) [0, 1, 2] rfl
  have hKc := hK.sub (tys' := [(g1, .int), (g2, .int)]) [0, 1] rfl
  refine vp_callSl (va_runV (As := []) (rest := []) ⟨hx, hb, hml, hown, hts⟩ (c_M_whole l dC dI m0 a1 a2 a3 a4 a5 g1 g2 X Y th lf tp wd hg ws lk cm mx my) (cwV 0 hts (er_gV k_380 k_381 k_11 k_20 k_382) rfl rfl rfl (by decide +kernel) ⟨Nat.le_of_ble_eq_true rfl, Nat.le_of_ble_eq_true rfl⟩) ⟨PP.blind, va_recv hKc hPc (ci := 2) (q0 := 0) rfl rfl, PP.at hN hKc hPc⟩ rfl rfl hl.1 rfl (lv_room (Nat.le_of_ble_eq_true rfl)) d_M_isCovered_1 ⟨Nat.zero_le _, Nat.zero_le _⟩).run (fun r_1 hr_1 => ?_)
  obtain rfl : er_ar X Y = r_1 := Eq.symm hr_1
  have J_14 : ∀ v : Int32, v = er_b (er_covj X Y p0 p1 0) → W p l e (headSpec w_M_isCovered ({ frames := 4, cells := 0, slots := 0, locals := 92 })).room s m ([.ref m0, .int p0, .int p1] : List Value).toArray below meth c s.heap [] 0 0 (MQ below (vp_Si (fun r : Int32 => r = er_b (er_cov X Y p0 p1))) ([.ref m0, .int p0, .int p1] : List Value).toArray s 0 0 (fun _ => False)) (F0 m 14 ls [.int v]) := by
    intro v hv
    subst hv
    refine lv_istore_n (lv' := [(3, .int (er_b (er_covj X Y p0 p1 0))), (0, .ref m0), (1, .int p0), (2, .int p1)]) hx hb d_M_isCovered_14 rfl hl (by decide) rfl (fun ls hl => ?_)
    refine lv_iconst (v := 0) hx hb d_M_isCovered_15 (by decide) ?_
    refine lv_istore (lv' := [(4, .int 0), (3, .int (er_b (er_covj X Y p0 p1 0))), (0, .ref m0), (1, .int p0), (2, .int p1)]) hx hb d_M_isCovered_16 hl (by decide) rfl (fun ls hl => ?_)
    obtain ⟨j, b1, hl2⟩ : ∃ j : Nat, (j ≤ 3) ∧ lv_has ls 10 [(4, .int (nI j)), (3, .int (er_b (er_covj X Y p0 p1 j))), (0, .ref m0), (1, .int p0), (2, .int p1)] := ⟨0, by omega, lv_sub hl [0, 1, 2, 3, 4] rfl⟩
    clear hl
    have hl := hl2
    clear hl2
    induction hnj : 3 - j using Nat.strongRecOn generalizing j ls with
    | ind nj ihj =>
      refine lv_iload hx hb d_M_isCovered_18 (lv_at hl 0 rfl) ?_
      refine lv_iconst (v := 3) hx hb d_M_isCovered_20 (by decide) ?_
      refine lv_icmp_ge (tgt := 141) hx hb d_M_isCovered_21 (by decide) (fun c_2 => ?_) (fun c_2 => ?_)
      · have c_2 := er_le (a := 3) c_2 (by omega) (by omega)
        refine lv_iload_n hx hb d_M_isCovered_141 rfl (lv_at hl 1 rfl) ?_
        exact W.zret (v := er_b (er_covj X Y p0 p1 j)) (ty := .boolean) hx hb hr (er_b_nar _) (fun u9 ht hW => ⟨_, rfl, (by rw [show j = 3 by omega]; rfl), ht⟩) (fun q hq => by cases hq) d_M_isCovered_142
      · have c_2 := er_nle (a := 3) c_2 (by omega) (by omega)
        have q8 := er_fr_lt X Y j
        have q9 := er_to_lt X Y j
        refine lv_iload_n hx hb d_M_isCovered_24 rfl (lv_at hl 1 rfl) ?_
        refine lv_if_eq (tgt := 141) hx hb d_M_isCovered_25 (by decide) (fun c_3 => ?_) (fun c_3 => ?_)
        · have c_3 := er_b_0.mp c_3
          refine lv_iload_n hx hb d_M_isCovered_141 rfl (lv_at hl 1 rfl) ?_
          exact W.zret (v := er_b (er_covj X Y p0 p1 j)) (ty := .boolean) hx hb hr (er_b_nar _) (fun u9 ht hW => ⟨_, rfl, (er_cvF b1 c_3), ht⟩) (fun q hq => by cases hq) d_M_isCovered_142
        · have c_3 := er_b_n.mp c_3
          refine lv_aload_n hx hb d_M_isCovered_28 rfl (lv_at hl 2 rfl) ?_
          refine lv_iload hx hb d_M_isCovered_29 (lv_at hl 0 rfl) ?_
          refine lv_iload_n hx hb d_M_isCovered_31 rfl (lv_at hl 3 rfl) ?_
          refine lv_iload_n hx hb d_M_isCovered_32 rfl (lv_at hl 4 rfl) ?_
          have hPc := hP.sub (ws' := [(m0, .inr (2, [.int th, .ref a1, .ref a2, .ref a3, .ref a4, .ref a5, .int lf, .int tp, .int wd, .int hg, .int ws, .int lk, .int cm, .int mx, .int my])), (a1, .inl (g1, 3, .inl X)), (a2, .inl (g2, 3, .inl Y))]) [0, 1, 2] rfl
          have hKc := hK.sub (tys' := [(g1, .int), (g2, .int)]) [0, 1] rfl
          refine vp_callSl (va_runV (As := [.int (nI j), .int p0, .int p1]) (rest := []) ⟨hx, hb, hml, hown, hts⟩ (c_M_weightOf l dC dI m0 a1 a2 a3 a4 a5 g1 g2 X Y th lf tp wd hg ws lk cm mx my j p0 p1 (by first | assumption | omega | decide | exact er_fr_lt _ _ _ | exact er_to_lt _ _ _)) (cwV 3 hts (er_gV k_393 k_394 k_14 k_20 k_395) rfl rfl rfl (by decide +kernel) ⟨Nat.le_of_ble_eq_true rfl, Nat.le_of_ble_eq_true rfl⟩) ⟨PP.blind, va_recv hKc hPc (ci := 2) (q0 := 0) rfl rfl, PP.at hN hKc hPc⟩ rfl rfl hl.1 rfl (lv_room (Nat.le_of_ble_eq_true rfl)) d_M_isCovered_33 ⟨Nat.zero_le _, Nat.zero_le _⟩).run (fun r_4 hr_4 => ?_)
          obtain rfl : er_W X Y j p0 p1 = r_4 := Eq.symm hr_4
          refine lv_lstore (lv' := [(5, .long (er_W X Y j p0 p1)), (4, .int (nI j)), (3, .int (er_b (er_covj X Y p0 p1 j))), (0, .ref m0), (1, .int p0), (2, .int p1)]) hx hb d_M_isCovered_36 hl (by decide) rfl (fun ls hl => ?_)
          refine lv_aload_n hx hb d_M_isCovered_38 rfl (lv_at hl 3 rfl) ?_
          refine va_get (D := (dC, dI)) (ci := 2) (v := .ref a1) (C := R_M) (T := F_M) (N := 15) hx hb hts i_M hown hK hP 0 rfl rfl 1 (by decide) (hts _ k_307) (fun _ h9 => h9) rfl d_M_isCovered_39 ?_
          refine lv_aload_n hx hb d_M_isCovered_42 rfl (lv_at hl 3 rfl) ?_
          refine lv_iload hx hb d_M_isCovered_43 (lv_at hl 1 rfl) ?_
          have hPc := hP.sub (ws' := [(m0, .inr (2, [.int th, .ref a1, .ref a2, .ref a3, .ref a4, .ref a5, .int lf, .int tp, .int wd, .int hg, .int ws, .int lk, .int cm, .int mx, .int my])), (a1, .inl (g1, 3, .inl X)), (a2, .inl (g2, 3, .inl Y))]) [0, 1, 2] rfl
          have hKc := hK.sub (tys' := [(g1, .int), (g2, .int)]) [0, 1] rfl
          refine vp_callSi (va_runV (As := [.int (nI j)]) (rest := [.ref a1]) ⟨hx, hb, hml, hown, hts⟩ (c_M_to l dC dI m0 a1 a2 a3 a4 a5 g1 g2 X Y th lf tp wd hg ws lk cm mx my j (by first | assumption | omega | decide | exact er_fr_lt _ _ _ | exact er_to_lt _ _ _)) (cwV 1 hts (er_gV k_399 k_400 k_16 k_20 k_401) rfl rfl rfl (by decide +kernel) ⟨Nat.le_of_ble_eq_true rfl, Nat.le_of_ble_eq_true rfl⟩) ⟨PP.blind, va_recv hKc hPc (ci := 2) (q0 := 0) rfl rfl, PP.at hN hKc hPc⟩ rfl rfl hl.1 rfl (lv_room (Nat.le_of_ble_eq_true rfl)) d_M_isCovered_45 ⟨Nat.zero_le _, Nat.zero_le _⟩).run (fun r_5 hr_5 => ?_)
          obtain rfl : nI (er_to X Y j) = r_5 := Eq.symm hr_5
          refine va_iald (i := nI (er_to X Y j)) hx hb hK hP 1 0 rfl rfl (vp_in_nI (by omega) (by decide)) d_M_isCovered_48 ?_
          refine lv_topi (x := X (nI (er_to X Y j)).toNatClampNeg) (fun y9 e9 => ?_)
          obtain rfl : y9 = X (er_to X Y j) := by rw [e9, nI_clamp (by omega)]
          refine lv_aload_n hx hb d_M_isCovered_49 rfl (lv_at hl 3 rfl) ?_
          refine va_get (D := (dC, dI)) (ci := 2) (v := .ref a1) (C := R_M) (T := F_M) (N := 15) hx hb hts i_M hown hK hP 0 rfl rfl 1 (by decide) (hts _ k_307) (fun _ h9 => h9) rfl d_M_isCovered_50 ?_
          refine lv_aload_n hx hb d_M_isCovered_53 rfl (lv_at hl 3 rfl) ?_
          refine lv_iload hx hb d_M_isCovered_54 (lv_at hl 1 rfl) ?_
          have hPc := hP.sub (ws' := [(m0, .inr (2, [.int th, .ref a1, .ref a2, .ref a3, .ref a4, .ref a5, .int lf, .int tp, .int wd, .int hg, .int ws, .int lk, .int cm, .int mx, .int my])), (a1, .inl (g1, 3, .inl X)), (a2, .inl (g2, 3, .inl Y))]) [0, 1, 2] rfl
          have hKc := hK.sub (tys' := [(g1, .int), (g2, .int)]) [0, 1] rfl
          refine vp_callSi (va_runV (As := [.int (nI j)]) (rest := [.ref a1, .int (X (er_to X Y j))]) ⟨hx, hb, hml, hown, hts⟩ (c_M_from l dC dI m0 a1 a2 a3 a4 a5 g1 g2 X Y th lf tp wd hg ws lk cm mx my j (by first | assumption | omega | decide | exact er_fr_lt _ _ _ | exact er_to_lt _ _ _)) (cwV 1 hts (er_gV k_396 k_397 k_15 k_20 k_398) rfl rfl rfl (by decide +kernel) ⟨Nat.le_of_ble_eq_true rfl, Nat.le_of_ble_eq_true rfl⟩) ⟨PP.blind, va_recv hKc hPc (ci := 2) (q0 := 0) rfl rfl, PP.at hN hKc hPc⟩ rfl rfl hl.1 rfl (lv_room (Nat.le_of_ble_eq_true rfl)) d_M_isCovered_56 ⟨Nat.zero_le _, Nat.zero_le _⟩).run (fun r_6 hr_6 => ?_)
          obtain rfl : nI (er_fr X Y j) = r_6 := Eq.symm hr_6
          refine va_iald (i := nI (er_fr X Y j)) hx hb hK hP 1 0 rfl rfl (vp_in_nI (by omega) (by decide)) d_M_isCovered_59 ?_
          refine lv_topi (x := X (nI (er_fr X Y j)).toNatClampNeg) (fun y9 e9 => ?_)
          obtain rfl : y9 = X (er_fr X Y j) := by rw [e9, nI_clamp (by omega)]
          refine lv_isub hx hb d_M_isCovered_60 ?_
          refine lv_istore (lv' := [(7, .int ((X (er_to X Y j)) - (X (er_fr X Y j)))), (5, .long (er_W X Y j p0 p1)), (4, .int (nI j)), (3, .int (er_b (er_covj X Y p0 p1 j))), (0, .ref m0), (1, .int p0), (2, .int p1)]) hx hb d_M_isCovered_61 hl (by decide) rfl (fun ls hl => ?_)
          refine lv_aload_n hx hb d_M_isCovered_63 rfl (lv_at hl 4 rfl) ?_
          refine va_get (D := (dC, dI)) (ci := 2) (v := .ref a2) (C := R_M) (T := F_M) (N := 15) hx hb hts i_M hown hK hP 0 rfl rfl 2 (by decide) (hts _ k_308) (fun _ h9 => h9) rfl d_M_isCovered_64 ?_
          refine lv_aload_n hx hb d_M_isCovered_67 rfl (lv_at hl 4 rfl) ?_
          refine lv_iload hx hb d_M_isCovered_68 (lv_at hl 2 rfl) ?_
          have hPc := hP.sub (ws' := [(m0, .inr (2, [.int th, .ref a1, .ref a2, .ref a3, .ref a4, .ref a5, .int lf, .int tp, .int wd, .int hg, .int ws, .int lk, .int cm, .int mx, .int my])), (a1, .inl (g1, 3, .inl X)), (a2, .inl (g2, 3, .inl Y))]) [0, 1, 2] rfl
          have hKc := hK.sub (tys' := [(g1, .int), (g2, .int)]) [0, 1] rfl
          refine vp_callSi (va_runV (As := [.int (nI j)]) (rest := [.ref a2]) ⟨hx, hb, hml, hown, hts⟩ (c_M_to l dC dI m0 a1 a2 a3 a4 a5 g1 g2 X Y th lf tp wd hg ws lk cm mx my j (by first | assumption | omega | decide | exact er_fr_lt _ _ _ | exact er_to_lt _ _ _)) (cwV 1 hts (er_gV k_399 k_400 k_16 k_20 k_401) rfl rfl rfl (by decide +kernel) ⟨Nat.le_of_ble_eq_true rfl, Nat.le_of_ble_eq_true rfl⟩) ⟨PP.blind, va_recv hKc hPc (ci := 2) (q0 := 0) rfl rfl, PP.at hN hKc hPc⟩ rfl rfl hl.1 rfl (lv_room (Nat.le_of_ble_eq_true rfl)) d_M_isCovered_70 ⟨Nat.zero_le _, Nat.zero_le _⟩).run (fun r_7 hr_7 => ?_)
          obtain rfl : nI (er_to X Y j) = r_7 := Eq.symm hr_7
          refine va_iald (i := nI (er_to X Y j)) hx hb hK hP 2 1 rfl rfl (vp_in_nI (by omega) (by decide)) d_M_isCovered_73 ?_
          refine lv_topi (x := Y (nI (er_to X Y j)).toNatClampNeg) (fun y9 e9 => ?_)
          obtain rfl : y9 = Y (er_to X Y j) := by rw [e9, nI_clamp (by omega)]
          refine lv_aload_n hx hb d_M_isCovered_74 rfl (lv_at hl 4 rfl) ?_
          refine va_get (D := (dC, dI)) (ci := 2) (v := .ref a2) (C := R_M) (T := F_M) (N := 15) hx hb hts i_M hown hK hP 0 rfl rfl 2 (by decide) (hts _ k_308) (fun _ h9 => h9) rfl d_M_isCovered_75 ?_
          refine lv_aload_n hx hb d_M_isCovered_78 rfl (lv_at hl 4 rfl) ?_
          refine lv_iload hx hb d_M_isCovered_79 (lv_at hl 2 rfl) ?_
          have hPc := hP.sub (ws' := [(m0, .inr (2, [.int th, .ref a1, .ref a2, .ref a3, .ref a4, .ref a5, .int lf, .int tp, .int wd, .int hg, .int ws, .int lk, .int cm, .int mx, .int my])), (a1, .inl (g1, 3, .inl X)), (a2, .inl (g2, 3, .inl Y))]) [0, 1, 2] rfl
          have hKc := hK.sub (tys' := [(g1, .int), (g2, .int)]) [0, 1] rfl
          refine vp_callSi (va_runV (As := [.int (nI j)]) (rest := [.ref a2, .int (Y (er_to X Y j))]) ⟨hx, hb, hml, hown, hts⟩ (c_M_from l dC dI m0 a1 a2 a3 a4 a5 g1 g2 X Y th lf tp wd hg ws lk cm mx my j (by first | assumption | omega | decide | exact er_fr_lt _ _ _ | exact er_to_lt _ _ _)) (cwV 1 hts (er_gV k_396 k_397 k_15 k_20 k_398) rfl rfl rfl (by decide +kernel) ⟨Nat.le_of_ble_eq_true rfl, Nat.le_of_ble_eq_true rfl⟩) ⟨PP.blind, va_recv hKc hPc (ci := 2) (q0 := 0) rfl rfl, PP.at hN hKc hPc⟩ rfl rfl hl.1 rfl (lv_room (Nat.le_of_ble_eq_true rfl)) d_M_isCovered_81 ⟨Nat.zero_le _, Nat.zero_le _⟩).run (fun r_8 hr_8 => ?_)
          obtain rfl : nI (er_fr X Y j) = r_8 := Eq.symm hr_8
          refine va_iald (i := nI (er_fr X Y j)) hx hb hK hP 2 1 rfl rfl (vp_in_nI (by omega) (by decide)) d_M_isCovered_84 ?_
          refine lv_topi (x := Y (nI (er_fr X Y j)).toNatClampNeg) (fun y9 e9 => ?_)
          obtain rfl : y9 = Y (er_fr X Y j) := by rw [e9, nI_clamp (by omega)]
          refine lv_isub hx hb d_M_isCovered_85 ?_
          refine lv_istore (lv' := [(8, .int ((Y (er_to X Y j)) - (Y (er_fr X Y j)))), (7, .int ((X (er_to X Y j)) - (X (er_fr X Y j)))), (5, .long (er_W X Y j p0 p1)), (4, .int (nI j)), (3, .int (er_b (er_covj X Y p0 p1 j))), (0, .ref m0), (1, .int p0), (2, .int p1)]) hx hb d_M_isCovered_86 hl (by decide) rfl (fun ls hl => ?_)
          have J_108 : ∀ v : Int32, v = er_b (er_own (er_ea X Y j) (er_ed X Y j)) → W p l e (headSpec w_M_isCovered ({ frames := 4, cells := 0, slots := 0, locals := 92 })).room s m ([.ref m0, .int p0, .int p1] : List Value).toArray below meth c s.heap [] 0 0 (MQ below (vp_Si (fun r : Int32 => r = er_b (er_cov X Y p0 p1))) ([.ref m0, .int p0, .int p1] : List Value).toArray s 0 0 (fun _ => False)) (F0 m 108 ls [.int v]) := by
            intro v hv
            subst hv
            refine lv_istore (lv' := [(9, .int (er_b (er_own (er_ea X Y j) (er_ed X Y j)))), (8, .int ((Y (er_to X Y j)) - (Y (er_fr X Y j)))), (7, .int ((X (er_to X Y j)) - (X (er_fr X Y j)))), (5, .long (er_W X Y j p0 p1)), (4, .int (nI j)), (3, .int (er_b (er_covj X Y p0 p1 j))), (0, .ref m0), (1, .int p0), (2, .int p1)]) hx hb d_M_isCovered_108 hl (by decide) rfl (fun ls hl => ?_)
            have J_134 : ∀ v : Int32, v = er_b (er_covj X Y p0 p1 (j + 1)) → W p l e (headSpec w_M_isCovered ({ frames := 4, cells := 0, slots := 0, locals := 92 })).room s m ([.ref m0, .int p0, .int p1] : List Value).toArray below meth c s.heap [] 0 0 (MQ below (vp_Si (fun r : Int32 => r = er_b (er_cov X Y p0 p1))) ([.ref m0, .int p0, .int p1] : List Value).toArray s 0 0 (fun _ => False)) (F0 m 134 ls [.int v]) := by
              intro v hv
              subst hv
              refine lv_istore_n (lv' := [(3, .int (er_b (er_covj X Y p0 p1 (j + 1)))), (9, .int (er_b (er_own (er_ea X Y j) (er_ed X Y j)))), (8, .int ((Y (er_to X Y j)) - (Y (er_fr X Y j)))), (7, .int ((X (er_to X Y j)) - (X (er_fr X Y j)))), (5, .long (er_W X Y j p0 p1)), (4, .int (nI j)), (0, .ref m0), (1, .int p0), (2, .int p1)]) hx hb d_M_isCovered_134 rfl hl (by decide) rfl (fun ls hl => ?_)
              refine lv_iinc (v := (nI j) + 1) (lv' := [(4, .int ((nI j) + 1)), (3, .int (er_b (er_covj X Y p0 p1 (j + 1)))), (9, .int (er_b (er_own (er_ea X Y j) (er_ed X Y j)))), (8, .int ((Y (er_to X Y j)) - (Y (er_fr X Y j)))), (7, .int ((X (er_to X Y j)) - (X (er_fr X Y j)))), (5, .long (er_W X Y j p0 p1)), (0, .ref m0), (1, .int p0), (2, .int p1)]) hx hb d_M_isCovered_135 hl (k := 5) rfl (by first | rfl | decide) (by decide) rfl (fun ls hl => ?_)
              refine lv_goto (tgt := 18) hx hb d_M_isCovered_138 (by decide) ?_
              exact ihj _ (by omega) (ls := ls) (j := j + 1) (b1 := by omega) (hl := by have hl := lv_sub hl [0, 1, 6, 7, 8] rfl; rw [nI_1] at hl; exact hl) (hnj := rfl)
            refine lv_lload hx hb d_M_isCovered_110 (lv_at hl 3 rfl) ?_
            refine lv_lconst (v := 0) hx hb d_M_isCovered_112 (by decide) ?_
            refine W.lcmp hx hb d_M_isCovered_113 ?_
            refine lv_if_gt (tgt := 129) hx hb d_M_isCovered_114 (by decide) (fun c_9 => ?_) (fun c_9 => ?_)
            · rw [lg_cmp_gt] at c_9
              refine lv_iconst (v := 1) hx hb d_M_isCovered_129 (by decide) ?_
              refine lv_goto (tgt := 134) hx hb d_M_isCovered_130 (by decide) ?_
              exact J_134 _ (by simp_all [er_covj, er_in, er_b])
            · rw [lg_cmp_gt] at c_9
              refine lv_lload hx hb d_M_isCovered_117 (lv_at hl 3 rfl) ?_
              refine lv_lconst (v := 0) hx hb d_M_isCovered_119 (by decide) ?_
              refine W.lcmp hx hb d_M_isCovered_120 ?_
              refine lv_if_ne (tgt := 133) hx hb d_M_isCovered_121 (by decide) (fun c_10 => ?_) (fun c_10 => ?_)
              · rw [lg_cmp_eq] at c_10
                refine lv_iconst (v := 0) hx hb d_M_isCovered_133 (by decide) ?_
                exact J_134 _ (by simp_all [er_covj, er_in, er_b])
              · rw [lg_cmp_eq] at c_10
                refine lv_iload hx hb d_M_isCovered_124 (lv_at hl 0 rfl) ?_
                refine lv_if_eq (tgt := 133) hx hb d_M_isCovered_126 (by decide) (fun c_11 => ?_) (fun c_11 => ?_)
                · have c_11 := er_b_0.mp c_11
                  refine lv_iconst (v := 0) hx hb d_M_isCovered_133 (by decide) ?_
                  exact J_134 _ (by simp_all [er_covj, er_in, er_b])
                · have c_11 := er_b_n.mp c_11
                  refine lv_iconst (v := 1) hx hb d_M_isCovered_129 (by decide) ?_
                  refine lv_goto (tgt := 134) hx hb d_M_isCovered_130 (by decide) ?_
                  exact J_134 _ (by simp_all [er_covj, er_in, er_b])
          refine lv_iload hx hb d_M_isCovered_88 (lv_at hl 0 rfl) ?_
          refine lv_if_ne (tgt := 98) hx hb d_M_isCovered_90 (by decide) (fun c_12 => ?_) (fun c_12 => ?_)
          · refine lv_iload hx hb d_M_isCovered_98 (lv_at hl 0 rfl) ?_
            refine lv_if_ge (tgt := 107) hx hb d_M_isCovered_100 (by decide) (fun c_13 => ?_) (fun c_13 => ?_)
            · refine lv_iconst (v := 0) hx hb d_M_isCovered_107 (by decide) ?_
              exact J_108 _ (er_own_ok (by simp_all [er_ea, er_ed]))
            · refine lv_iconst (v := 1) hx hb d_M_isCovered_103 (by decide) ?_
              refine lv_goto (tgt := 108) hx hb d_M_isCovered_104 (by decide) ?_
              exact J_108 _ (er_own_ok (by simp_all [er_ea, er_ed]))
          · refine lv_iload hx hb d_M_isCovered_93 (lv_at hl 1 rfl) ?_
            refine lv_if_gt (tgt := 103) hx hb d_M_isCovered_95 (by decide) (fun c_14 => ?_) (fun c_14 => ?_)
            · refine lv_iconst (v := 1) hx hb d_M_isCovered_103 (by decide) ?_
              refine lv_goto (tgt := 108) hx hb d_M_isCovered_104 (by decide) ?_
              exact J_108 _ (er_own_ok (by simp_all [er_ea, er_ed]))
            · refine lv_iload hx hb d_M_isCovered_98 (lv_at hl 0 rfl) ?_
              refine lv_if_ge (tgt := 107) hx hb d_M_isCovered_100 (by decide) (fun c_15 => ?_) (fun c_15 => ?_)
              · refine lv_iconst (v := 0) hx hb d_M_isCovered_107 (by decide) ?_
                exact J_108 _ (er_own_ok (by simp_all [er_ea, er_ed]))
              · refine lv_iconst (v := 1) hx hb d_M_isCovered_103 (by decide) ?_
                refine lv_goto (tgt := 108) hx hb d_M_isCovered_104 (by decide) ?_
                exact J_108 _ (er_own_ok (by simp_all [er_ea, er_ed]))
  refine lv_lconst (v := 0) hx hb d_M_isCovered_4 (by decide) ?_
  refine W.lcmp hx hb d_M_isCovered_5 ?_
  refine lv_if_eq (tgt := 13) hx hb d_M_isCovered_6 (by decide) (fun c_16 => ?_) (fun c_16 => ?_)
  · rw [lg_cmp_eq] at c_16
    refine lv_iconst (v := 0) hx hb d_M_isCovered_13 (by decide) ?_
    exact J_14 _ (by simp_all [er_covj, er_b])
  · rw [lg_cmp_eq] at c_16
    refine lv_iconst (v := 1) hx hb d_M_isCovered_9 (by decide) ?_
    refine lv_goto (tgt := 14) hx hb d_M_isCovered_10 (by decide) ?_
    exact J_14 _ (by simp_all [er_covj, er_b])
