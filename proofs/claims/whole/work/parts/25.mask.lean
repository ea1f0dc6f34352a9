set_option maxHeartbeats 1000000 in
set_option maxRecDepth 100000 in
theorem c_M_area (l : Launch) (dC : Nat → ClassId) (dI : Nat → Nat → Nat) (m0 a1 a2 a3 a4 a5 : Nat) (g1 g2 : ClassId) (X Y : Nat → Int32) (th lf tp wd hg ws lk cm mx my : Int32) (sz : Nat) : Met l y_M_area w_M_area ({ frames := 2, cells := 0, slots := 0, locals := 48 }) (va_Pc [.ref m0] (PI dC dI [(g1, .int), (g2, .int)] [(m0, .inr (2, [.int th, .ref a1, .ref a2, .ref a3, .ref a4, .ref a5, .int lf, .int tp, .int wd, .int hg, .int ws, .int lk, .int cm, .int mx, .int my])), (a1, .inl (g1, 3, .inl X)), (a2, .inl (g2, 3, .inl Y))] sz)) (va_Ql (fun (r : Int64) (u : Unit) => r = er_ar X Y) (fun (u : Unit) t => EI dC dI [(g1, .int), (g2, .int)] [(m0, .inr (2, [.int 0, .ref a1, .ref a2, .ref a3, .ref a4, .ref a5, .int lf, .int tp, .int wd, .int hg, .int ws, .int lk, .int cm, .int mx, .int my])), (a1, .inl (g1, 3, .inl X)), (a2, .inl (g2, 3, .inl Y))] (va_A [(m0, .inr (2, [.int th, .ref a1, .ref a2, .ref a3, .ref a4, .ref a5, .int lf, .int tp, .int wd, .int hg, .int ws, .int lk, .int cm, .int mx, .int my])), (a1, .inl (g1, 3, .inl X)), (a2, .inl (g2, 3, .inl Y))] sz) t) (va_A [(m0, .inr (2, [.int th, .ref a1, .ref a2, .ref a3, .ref a4, .ref a5, .int lf, .int tp, .int wd, .int hg, .int ws, .int lk, .int cm, .int mx, .int my])), (a1, .inl (g1, 3, .inl X)), (a2, .inl (g2, 3, .inl Y))] sz)) 0 0 (va_A [(m0, .inr (2, [.int th, .ref a1, .ref a2, .ref a3, .ref a4, .ref a5, .int lf, .int tp, .int wd, .int hg, .int ws, .int lk, .int cm, .int mx, .int my])), (a1, .inl (g1, 3, .inl X)), (a2, .inl (g2, 3, .inl Y))] sz) := by
  refine Met.ofW (cc := b_M_area) (maxL := 1) (ret := (some .long)) (by decide +kernel) rfl ?_
  intro p e s m args below meth c s₁ B hml hv
  obtain ⟨rfl, hsz, hN, hK, hP, hD0⟩ := hv
  have hx := B.exec
  have hb := B.bytes
  have hr := B.returns
  have hts := er_hts (atoms_spec (ws := w_M_area) B.pre)
  have hown : s.vm.findClass R_M = some m.cls := findClass_of_methodNamed B.named
  have hlocks := B.notSynchronized
  subst hsz
  have hD := hD0.self (sz := s.heap.size)
  generalize hAe : va_A [(m0, .inr (2, [.int th, .ref a1, .ref a2, .ref a3, .ref a4, .ref a5, .int lf, .int tp, .int wd, .int hg, .int ws, .int lk, .int cm, .int mx, .int my])), (a1, .inl (g1, 3, .inl X)), (a2, .inl (g2, 3, .inl Y))] s.heap.size = A at hD ⊢
  have hA : ∀ q : Nat, s.heap.size ≤ q → A q := fun q h => by rw [← hAe]; exact Or.inr h
  have hS : va_S A s.heap s.heap [] := va_S.rf
  have hP : va_P (dC, dI) classes [(m0, .inr (2, [.int th, .ref a1, .ref a2, .ref a3, .ref a4, .ref a5, .int lf, .int tp, .int wd, .int hg, .int ws, .int lk, .int cm, .int mx, .int my])), (a1, .inl (g1, 3, .inl X)), (a2, .inl (g2, 3, .inl Y))] s.heap := hP
  have hl := lv_entry ([.ref m0]) (n := 1) (Nat.le_of_ble_eq_true rfl)
  rw [lg_entry_eq]
  generalize (lg_sl ([.ref m0]) ++ List.replicate (1 - (lg_sl ([.ref m0])).length) Slot.unset).toArray = ls at hl ⊢
  have hl : lv_has ls 1 [(0, .ref m0)] := hl
  refine lv_aload_n hx hb d_M_area_0 rfl (lv_at hl 0 rfl) ?_
  refine lv_iconst (v := 0) hx hb d_M_area_1 (by decide) ?_
  refine va_put (D := (dC, dI)) (ci := 2) (v := .int 0) (ty := .int) (C := R_M) (T := F_M) (N := 15) hx hb hts i_M t_M t_M_ok n_M hown hK hP hD hS 0 rfl rfl 0 (by decide) (hts _ k_306) (fun _ h9 => h9) rfl (by decide +kernel) rfl rfl (Nat.le_of_ble_eq_true rfl) d_M_area_2 (fun H locs hP hD hS => ?_)
  have hP : va_P (dC, dI) classes [(m0, .inr (2, [.int 0, .ref a1, .ref a2, .ref a3, .ref a4, .ref a5, .int lf, .int tp, .int wd, .int hg, .int ws, .int lk, .int cm, .int mx, .int my])), (a1, .inl (g1, 3, .inl X)), (a2, .inl (g2, 3, .inl Y))] H := hP
  have hD : va_D A [(m0, .inr (2, [.int 0, .ref a1, .ref a2, .ref a3, .ref a4, .ref a5, .int lf, .int tp, .int wd, .int hg, .int ws, .int lk, .int cm, .int mx, .int my])), (a1, .inl (g1, 3, .inl X)), (a2, .inl (g2, 3, .inl Y))] := hD
  refine lv_aload_n hx hb d_M_area_5 rfl (lv_at hl 0 rfl) ?_
  have hPc := hP.sub (ws' := [(m0, .inr (2, [.int 0, .ref a1, .ref a2, .ref a3, .ref a4, .ref a5, .int lf, .int tp, .int wd, .int hg, .int ws, .int lk, .int cm, .int mx, .int my])), (a1, .inl (g1, 3, .inl X)), (a2, .inl (g2, 3, .inl Y))]) [0, 1, 2] rfl
  have hKc := hK.sub (tys' := [(g1, .int), (g2, .int)]) [0, 1] rfl
  refine vp_callSl (va_runV (As := []) (rest := []) ⟨hx, hb, hml, hown, hts⟩ (c_M_whole l dC dI m0 a1 a2 a3 a4 a5 g1 g2 X Y 0 lf tp wd hg ws lk cm mx my) (cwV 0 hts (er_gV k_380 k_381 k_11 k_20 k_382) rfl rfl rfl (by decide +kernel) ⟨Nat.le_of_ble_eq_true rfl, Nat.le_of_ble_eq_true rfl⟩) ⟨PP.blind, va_recv hKc hPc (ci := 2) (q0 := 0) rfl rfl, PP.at hN hKc hPc⟩ rfl rfl hl.1 rfl (lv_room (Nat.le_of_ble_eq_true rfl)) d_M_area_6 ⟨Nat.zero_le _, Nat.zero_le _⟩).run (fun r_1 hr_1 => ?_)
  obtain rfl : er_ar X Y = r_1 := Eq.symm hr_1
  have hP9 := hP.sub (ws' := [(m0, .inr (2, [.int 0, .ref a1, .ref a2, .ref a3, .ref a4, .ref a5, .int lf, .int tp, .int wd, .int hg, .int ws, .int lk, .int cm, .int mx, .int my])), (a1, .inl (g1, 3, .inl X)), (a2, .inl (g2, 3, .inl Y))]) [0, 1, 2] rfl
  have hD9 := hD.sub (ws' := [(m0, .inr (2, [.int 0, .ref a1, .ref a2, .ref a3, .ref a4, .ref a5, .int lf, .int tp, .int wd, .int hg, .int ws, .int lk, .int cm, .int mx, .int my])), (a1, .inl (g1, 3, .inl X)), (a2, .inl (g2, 3, .inl Y))]) [0, 1, 2] (by decide) rfl
  have hK9 := hK.sub (tys' := [(g1, .int), (g2, .int)]) [0, 1] rfl
  exact W.lret (v := er_ar X Y) hx hb hr (fun u9 ht hW => ⟨⟨_, (), rfl, rfl, ⟨by rw [ht]; exact hP9, va_K.moved hW.alike hK9, hD9⟩⟩, hS.F ht⟩) hS.2.2 d_M_area_9

set_option maxHeartbeats 1000000 in
set_option maxRecDepth 100000 in
theorem c_M_covers (l : Launch) (dC : Nat → ClassId) (dI : Nat → Nat → Nat) (m0 a1 a2 a3 a4 a5 : Nat) (g1 g2 : ClassId) (X Y : Nat → Int32) (th lf tp wd hg ws lk cm mx my : Int32) (p0 p1 : Int32) (u1 : er_win p0 (-1024) 2047 = true) (u2 : er_win p1 (-1024) 2047 = true) (sz : Nat) : Met l y_M_covers w_M_covers ({ frames := 5, cells := 0, slots := 0, locals := 121 }) (va_Pc [.ref m0, .int p0, .int p1] (PI dC dI [(g1, .int), (g2, .int)] [(m0, .inr (2, [.int th, .ref a1, .ref a2, .ref a3, .ref a4, .ref a5, .int lf, .int tp, .int wd, .int hg, .int ws, .int lk, .int cm, .int mx, .int my])), (a1, .inl (g1, 3, .inl X)), (a2, .inl (g2, 3, .inl Y))] sz)) (va_Qi (fun (r : Int32) (u : Unit) => r = er_b (er_cov X Y p0 p1)) (fun (u : Unit) t => EI dC dI [(g1, .int), (g2, .int)] [(m0, .inr (2, [.int (er_th false false), .ref a1, .ref a2, .ref a3, .ref a4, .ref a5, .int lf, .int tp, .int wd, .int hg, .int ws, .int lk, .int cm, .int mx, .int my])), (a1, .inl (g1, 3, .inl X)), (a2, .inl (g2, 3, .inl Y))] (va_A [(m0, .inr (2, [.int th, .ref a1, .ref a2, .ref a3, .ref a4, .ref a5, .int lf, .int tp, .int wd, .int hg, .int ws, .int lk, .int cm, .int mx, .int my])), (a1, .inl (g1, 3, .inl X)), (a2, .inl (g2, 3, .inl Y))] sz) t) (va_A [(m0, .inr (2, [.int th, .ref a1, .ref a2, .ref a3, .ref a4, .ref a5, .int lf, .int tp, .int wd, .int hg, .int ws, .int lk, .int cm, .int mx, .int my])), (a1, .inl (g1, 3, .inl X)), (a2, .inl (g2, 3, .inl Y))] sz)) 0 0 (va_A [(m0, .inr (2, [.int th, .ref a1, .ref a2, .ref a3, .ref a4, .ref a5, .int lf, .int tp, .int wd, .int hg, .int ws, .int lk, .int cm, .int mx, .int my])), (a1, .inl (g1, 3, .inl X)), (a2, .inl (g2, 3, .inl Y))] sz) := by
  refine Met.ofW (cc := b_M_covers) (maxL := 3) (ret := (some .boolean)) (by decide +kernel) rfl ?_
  intro p e s m args below meth c s₁ B hml hv
  obtain ⟨rfl, hsz, hN, hK, hP, hD0⟩ := hv
  have hx := B.exec
  have hb := B.bytes
  have hr := B.returns
  have hts := er_hts (atoms_spec (ws := w_M_covers) B.pre)
  have hown : s.vm.findClass R_M = some m.cls := findClass_of_methodNamed B.named
  have hlocks := B.notSynchronized
  subst hsz
  have hD := hD0.self (sz := s.heap.size)
  generalize hAe : va_A [(m0, .inr (2, [.int th, .ref a1, .ref a2, .ref a3, .ref a4, .ref a5, .int lf, .int tp, .int wd, .int hg, .int ws, .int lk, .int cm, .int mx, .int my])), (a1, .inl (g1, 3, .inl X)), (a2, .inl (g2, 3, .inl Y))] s.heap.size = A at hD ⊢
  have hA : ∀ q : Nat, s.heap.size ≤ q → A q := fun q h => by rw [← hAe]; exact Or.inr h
  have hS : va_S A s.heap s.heap [] := va_S.rf
  have hP : va_P (dC, dI) classes [(m0, .inr (2, [.int th, .ref a1, .ref a2, .ref a3, .ref a4, .ref a5, .int lf, .int tp, .int wd, .int hg, .int ws, .int lk, .int cm, .int mx, .int my])), (a1, .inl (g1, 3, .inl X)), (a2, .inl (g2, 3, .inl Y))] s.heap := hP
  have hl := lv_entry ([.ref m0, .int p0, .int p1]) (n := 3) (Nat.le_of_ble_eq_true rfl)
  rw [lg_entry_eq]
  generalize (lg_sl ([.ref m0, .int p0, .int p1]) ++ List.replicate (3 - (lg_sl ([.ref m0, .int p0, .int p1])).length) Slot.unset).toArray = ls at hl ⊢
  have hl : lv_has ls 3 [(0, .ref m0), (1, .int p0), (2, .int p1)] := hl
  refine lv_aload_n hx hb d_M_covers_0 rfl (lv_at hl 0 rfl) ?_
  refine lv_iload_n hx hb d_M_covers_1 rfl (lv_at hl 1 rfl) ?_
  refine lv_sipush (v := (-1024)) hx hb d_M_covers_2 (by decide) ?_
  refine lv_sipush (v := 2047) hx hb d_M_covers_5 (by decide) ?_
  have hPc := hP.sub (ws' := []) [] rfl
  have hKc := hK.sub (tys' := []) [] rfl
  refine vp_callSi (va_runS (As := [.int p0, .int (-1024), .int 2047]) (rest := [.ref m0]) ⟨hx, hb, hml, hown, hts⟩ (c_M_in l dC dI p0 (-1024) 2047) (va_cwS 3 hts (er_gS k_360 k_361 k_20 k_362) rfl rfl rfl (by decide +kernel) ⟨Nat.le_of_ble_eq_true rfl, Nat.le_of_ble_eq_true rfl⟩) ⟨PP.blind, PP.at hN hKc hPc⟩ rfl rfl hl.1 rfl (lv_room (Nat.le_of_ble_eq_true rfl)) d_M_covers_8 ⟨Nat.zero_le _, Nat.zero_le _⟩).run (fun r_1 hr_1 => ?_)
  obtain rfl : er_b (er_win p0 (-1024) 2047) = r_1 := Eq.symm hr_1
  refine lv_if_eq (tgt := 27) hx hb d_M_covers_11 (by decide) (fun c_2 => ?_) (fun c_2 => ?_)
  · have c_2 := er_b_0.mp c_2
    exact absurd c_2 (by simp_all)
  · have c_2 := er_b_n.mp c_2
    refine lv_iload_n hx hb d_M_covers_14 rfl (lv_at hl 2 rfl) ?_
    refine lv_sipush (v := (-1024)) hx hb d_M_covers_15 (by decide) ?_
    refine lv_sipush (v := 2047) hx hb d_M_covers_18 (by decide) ?_
    have hPc := hP.sub (ws' := []) [] rfl
    have hKc := hK.sub (tys' := []) [] rfl
    refine vp_callSi (va_runS (As := [.int p1, .int (-1024), .int 2047]) (rest := [.ref m0]) ⟨hx, hb, hml, hown, hts⟩ (c_M_in l dC dI p1 (-1024) 2047) (va_cwS 3 hts (er_gS k_360 k_361 k_20 k_362) rfl rfl rfl (by decide +kernel) ⟨Nat.le_of_ble_eq_true rfl, Nat.le_of_ble_eq_true rfl⟩) ⟨PP.blind, PP.at hN hKc hPc⟩ rfl rfl hl.1 rfl (lv_room (Nat.le_of_ble_eq_true rfl)) d_M_covers_21 ⟨Nat.zero_le _, Nat.zero_le _⟩).run (fun r_3 hr_3 => ?_)
    obtain rfl : er_b (er_win p1 (-1024) 2047) = r_3 := Eq.symm hr_3
    refine lv_if_ne (tgt := 31) hx hb d_M_covers_24 (by decide) (fun c_4 => ?_) (fun c_4 => ?_)
    · have c_4 := er_b_n.mp c_4
      refine lv_iconst (v := 0) hx hb d_M_covers_31 (by decide) ?_
      refine lv_iconst (v := 0) hx hb d_M_covers_32 (by decide) ?_
      have hPc := hP.sub (ws' := [(m0, .inr (2, [.int th, .ref a1, .ref a2, .ref a3, .ref a4, .ref a5, .int lf, .int tp, .int wd, .int hg, .int ws, .int lk, .int cm, .int mx, .int my]))]) [0] rfl
      have hDc := hD.sub (ws' := [(m0, .inr (2, [.int th, .ref a1, .ref a2, .ref a3, .ref a4, .ref a5, .int lf, .int tp, .int wd, .int hg, .int ws, .int lk, .int cm, .int mx, .int my]))]) [0] (by decide) rfl
      have hKc := hK.sub (tys' := []) [] rfl
      have hFc := va_free (wc := [(m0, .inr (2, [.int th, .ref a1, .ref a2, .ref a3, .ref a4, .ref a5, .int lf, .int tp, .int wd, .int hg, .int ws, .int lk, .int cm, .int mx, .int my]))]) hD hS hA [0] rfl
      refine va_calli (va_runV (As := [.int 0, .int 0]) (rest := []) ⟨hx, hb, hml, hown, hts⟩ (c_M_refuse l dC dI m0 a1 a2 a3 a4 a5 th lf tp wd hg ws lk cm mx my false false s.heap.size) (cwV 2 hts (er_gV k_365 k_366 k_10 k_20 k_367) rfl rfl rfl (by decide +kernel) ⟨Nat.le_of_ble_eq_true rfl, Nat.le_of_ble_eq_true rfl⟩) ⟨PI.blind, va_recv hKc hPc (ci := 2) (q0 := 0) rfl rfl, PI.at hN hKc hPc hDc⟩ rfl rfl hl.1 rfl (lv_room (Nat.le_of_ble_eq_true rfl)) d_M_covers_33 ⟨Nat.le_of_ble_eq_true rfl, Nat.le_of_ble_eq_true rfl⟩) hS (fun q _ h => hFc q h) hFc (fun r_5 u t H1 locs ht hvm hw hB hz1 hk1 hS => ?_)
      obtain ⟨hP1, hK1, hD1⟩ := hB
      rw [ht] at hP1
      have hK1 := va_K.moved hvm.symm hK1
      obtain ⟨hP, hD⟩ := va_join (wr := [(a1, .inl (g1, 3, .inl X)), (a2, .inl (g2, 3, .inl Y))]) (w1 := [(m0, .inr (2, [.int (er_th false false), .ref a1, .ref a2, .ref a3, .ref a4, .ref a5, .int lf, .int tp, .int wd, .int hg, .int ws, .int lk, .int cm, .int mx, .int my]))]) hP hD [0] [1, 2] rfl rfl (by decide) (by decide) hk1 hFc hP1 hD1
      have hK := (hK.sub (tys' := [(g1, .int), (g2, .int)]) [0, 1] rfl).app hK1
      generalize H1 = H at hP hS ⊢
      have hP : va_P (dC, dI) classes [(a1, .inl (g1, 3, .inl X)), (a2, .inl (g2, 3, .inl Y)), (m0, .inr (2, [.int (er_th false false), .ref a1, .ref a2, .ref a3, .ref a4, .ref a5, .int lf, .int tp, .int wd, .int hg, .int ws, .int lk, .int cm, .int mx, .int my]))] H := hP
      have hD : va_D A [(a1, .inl (g1, 3, .inl X)), (a2, .inl (g2, 3, .inl Y)), (m0, .inr (2, [.int (er_th false false), .ref a1, .ref a2, .ref a3, .ref a4, .ref a5, .int lf, .int tp, .int wd, .int hg, .int ws, .int lk, .int cm, .int mx, .int my]))] := hD
      have hK : va_K (dC, dI) classes [(g1, .int), (g2, .int)] s := hK
      obtain rfl : er_b (false || false) = r_5 := Eq.symm hw
      refine lv_if_eq (tgt := 41) hx hb d_M_covers_36 (by decide) (fun _ => ?_) (fun c_6 => absurd c_6 (by decide))
      refine lv_aload_n hx hb d_M_covers_41 rfl (lv_at hl 0 rfl) ?_
      refine lv_iload_n hx hb d_M_covers_42 rfl (lv_at hl 1 rfl) ?_
      refine lv_iload_n hx hb d_M_covers_43 rfl (lv_at hl 2 rfl) ?_
      have hPc := hP.sub (ws' := [(m0, .inr (2, [.int (er_th false false), .ref a1, .ref a2, .ref a3, .ref a4, .ref a5, .int lf, .int tp, .int wd, .int hg, .int ws, .int lk, .int cm, .int mx, .int my])), (a1, .inl (g1, 3, .inl X)), (a2, .inl (g2, 3, .inl Y))]) [2, 0, 1] rfl
      have hKc := hK.sub (tys' := [(g1, .int), (g2, .int)]) [0, 1] rfl
      refine vp_callSi (va_runV (As := [.int p0, .int p1]) (rest := []) ⟨hx, hb, hml, hown, hts⟩ (c_M_isCovered l dC dI m0 a1 a2 a3 a4 a5 g1 g2 X Y (er_th false false) lf tp wd hg ws lk cm mx my p0 p1) (cwV 2 hts (er_gV k_390 k_391 k_13 k_20 k_392) rfl rfl rfl (by decide +kernel) ⟨Nat.le_of_ble_eq_true rfl, Nat.le_of_ble_eq_true rfl⟩) ⟨PP.blind, va_recv hKc hPc (ci := 2) (q0 := 0) rfl rfl, PP.at hN hKc hPc⟩ rfl rfl hl.1 rfl (lv_room (Nat.le_of_ble_eq_true rfl)) d_M_covers_44 ⟨Nat.zero_le _, Nat.zero_le _⟩).run (fun r_7 hr_7 => ?_)
      obtain rfl : er_b (er_cov X Y p0 p1) = r_7 := Eq.symm hr_7
      have hP9 := hP.sub (ws' := [(m0, .inr (2, [.int (er_th false false), .ref a1, .ref a2, .ref a3, .ref a4, .ref a5, .int lf, .int tp, .int wd, .int hg, .int ws, .int lk, .int cm, .int mx, .int my])), (a1, .inl (g1, 3, .inl X)), (a2, .inl (g2, 3, .inl Y))]) [2, 0, 1] rfl
      have hD9 := hD.sub (ws' := [(m0, .inr (2, [.int (er_th false false), .ref a1, .ref a2, .ref a3, .ref a4, .ref a5, .int lf, .int tp, .int wd, .int hg, .int ws, .int lk, .int cm, .int mx, .int my])), (a1, .inl (g1, 3, .inl X)), (a2, .inl (g2, 3, .inl Y))]) [2, 0, 1] (by decide) rfl
      have hK9 := hK.sub (tys' := [(g1, .int), (g2, .int)]) [0, 1] rfl
      exact W.zret (v := er_b (er_cov X Y p0 p1)) (ty := .boolean) hx hb hr (er_b_nar _) (fun u9 ht hW => ⟨⟨_, (), rfl, rfl, ⟨by rw [ht]; exact hP9, va_K.moved hW.alike hK9, hD9⟩⟩, hS.F ht⟩) hS.2.2 d_M_covers_47
    · have c_4 := er_b_0.mp c_4
      exact absurd c_4 (by simp_all)

set_option maxHeartbeats 1000000 in
set_option maxRecDepth 100000 in
theorem c_M_coversX (l : Launch) (dC : Nat → ClassId) (dI : Nat → Nat → Nat) (m0 a1 a2 a3 a4 a5 : Nat) (th lf tp wd hg ws lk cm mx my : Int32) (p0 p1 : Int32) (hv : (er_win p0 (-1024) 2047 && er_win p1 (-1024) 2047) = false) (sz : Nat) : Met l y_M_covers w_M_covers ({ frames := 1, cells := 0, slots := 0, locals := 22 }) (va_Pc [.ref m0, .int p0, .int p1] (PI dC dI [] [(m0, .inr (2, [.int th, .ref a1, .ref a2, .ref a3, .ref a4, .ref a5, .int lf, .int tp, .int wd, .int hg, .int ws, .int lk, .int cm, .int mx, .int my]))] sz)) (va_Qi (fun (r : Int32) (u : Unit) => True) (fun (u : Unit) t => EI dC dI [] [(m0, .inr (2, [.int (er_th true false), .ref a1, .ref a2, .ref a3, .ref a4, .ref a5, .int lf, .int tp, .int wd, .int hg, .int ws, .int lk, .int cm, .int mx, .int my]))] (va_A [(m0, .inr (2, [.int th, .ref a1, .ref a2, .ref a3, .ref a4, .ref a5, .int lf, .int tp, .int wd, .int hg, .int ws, .int lk, .int cm, .int mx, .int my]))] sz) t) (va_A [(m0, .inr (2, [.int th, .ref a1, .ref a2, .ref a3, .ref a4, .ref a5, .int lf, .int tp, .int wd, .int hg, .int ws, .int lk, .int cm, .int mx, .int my]))] sz)) 0 0 (va_A [(m0, .inr (2, [.int th, .ref a1, .ref a2, .ref a3, .ref a4, .ref a5, .int lf, .int tp, .int wd, .int hg, .int ws, .int lk, .int cm, .int mx, .int my]))] sz) := by
  refine Met.ofW (cc := b_M_covers) (maxL := 3) (ret := (some .boolean)) (by decide +kernel) rfl ?_
  intro p e s m args below meth c s₁ B hml hv
  obtain ⟨rfl, hsz, hN, hK, hP, hD0⟩ := hv
  have hx := B.exec
  have hb := B.bytes
  have hr := B.returns
  have hts := er_hts (atoms_spec (ws := w_M_covers) B.pre)
  have hown : s.vm.findClass R_M = some m.cls := findClass_of_methodNamed B.named
  have hlocks := B.notSynchronized
  subst hsz
  have hD := hD0.self (sz := s.heap.size)
  generalize hAe : va_A [(m0, .inr (2, [.int th, .ref a1, .ref a2, .ref a3, .ref a4, .ref a5, .int lf, .int tp, .int wd, .int hg, .int ws, .int lk, .int cm, .int mx, .int my]))] s.heap.size = A at hD ⊢
  have hA : ∀ q : Nat, s.heap.size ≤ q → A q := fun q h => by rw [← hAe]; exact Or.inr h
  have hS : va_S A s.heap s.heap [] := va_S.rf
  have hP : va_P (dC, dI) classes [(m0, .inr (2, [.int th, .ref a1, .ref a2, .ref a3, .ref a4, .ref a5, .int lf, .int tp, .int wd, .int hg, .int ws, .int lk, .int cm, .int mx, .int my]))] s.heap := hP
  have hl := lv_entry ([.ref m0, .int p0, .int p1]) (n := 3) (Nat.le_of_ble_eq_true rfl)
  rw [lg_entry_eq]
  generalize (lg_sl ([.ref m0, .int p0, .int p1]) ++ List.replicate (3 - (lg_sl ([.ref m0, .int p0, .int p1])).length) Slot.unset).toArray = ls at hl ⊢
  have hl : lv_has ls 3 [(0, .ref m0), (1, .int p0), (2, .int p1)] := hl
  refine lv_aload_n hx hb d_M_covers_0 rfl (lv_at hl 0 rfl) ?_
  refine lv_iload_n hx hb d_M_covers_1 rfl (lv_at hl 1 rfl) ?_
  refine lv_sipush (v := (-1024)) hx hb d_M_covers_2 (by decide) ?_
  refine lv_sipush (v := 2047) hx hb d_M_covers_5 (by decide) ?_
  have hPc := hP.sub (ws' := []) [] rfl
  have hKc := hK.sub (tys' := []) [] rfl
  refine vp_callSi (va_runS (As := [.int p0, .int (-1024), .int 2047]) (rest := [.ref m0]) ⟨hx, hb, hml, hown, hts⟩ (c_M_in l dC dI p0 (-1024) 2047) (va_cwS 3 hts (er_gS k_360 k_361 k_20 k_362) rfl rfl rfl (by decide +kernel) ⟨Nat.le_of_ble_eq_true rfl, Nat.le_of_ble_eq_true rfl⟩) ⟨PP.blind, PP.at hN hKc hPc⟩ rfl rfl hl.1 rfl (lv_room (Nat.le_of_ble_eq_true rfl)) d_M_covers_8 ⟨Nat.zero_le _, Nat.zero_le _⟩).run (fun r_1 hr_1 => ?_)
  obtain rfl : er_b (er_win p0 (-1024) 2047) = r_1 := Eq.symm hr_1
  refine lv_if_eq (tgt := 27) hx hb d_M_covers_11 (by decide) (fun c_2 => ?_) (fun c_2 => ?_)
  · have c_2 := er_b_0.mp c_2
    refine lv_iconst (v := 1) hx hb d_M_covers_27 (by decide) ?_
    refine lv_goto (tgt := 32) hx hb d_M_covers_28 (by decide) ?_
    refine lv_iconst (v := 0) hx hb d_M_covers_32 (by decide) ?_
    have hPc := hP.sub (ws' := [(m0, .inr (2, [.int th, .ref a1, .ref a2, .ref a3, .ref a4, .ref a5, .int lf, .int tp, .int wd, .int hg, .int ws, .int lk, .int cm, .int mx, .int my]))]) [0] rfl
    have hDc := hD.sub (ws' := [(m0, .inr (2, [.int th, .ref a1, .ref a2, .ref a3, .ref a4, .ref a5, .int lf, .int tp, .int wd, .int hg, .int ws, .int lk, .int cm, .int mx, .int my]))]) [0] (by decide) rfl
    have hKc := hK.sub (tys' := []) [] rfl
    have hFc := va_free (wc := [(m0, .inr (2, [.int th, .ref a1, .ref a2, .ref a3, .ref a4, .ref a5, .int lf, .int tp, .int wd, .int hg, .int ws, .int lk, .int cm, .int mx, .int my]))]) hD hS hA [0] rfl
    refine va_calli (va_runV (As := [.int 1, .int 0]) (rest := []) ⟨hx, hb, hml, hown, hts⟩ (c_M_refuse l dC dI m0 a1 a2 a3 a4 a5 th lf tp wd hg ws lk cm mx my true false s.heap.size) (cwV 2 hts (er_gV k_365 k_366 k_10 k_20 k_367) rfl rfl rfl (by decide +kernel) ⟨Nat.le_of_ble_eq_true rfl, Nat.le_of_ble_eq_true rfl⟩) ⟨PI.blind, va_recv hKc hPc (ci := 2) (q0 := 0) rfl rfl, PI.at hN hKc hPc hDc⟩ rfl rfl hl.1 rfl (lv_room (Nat.le_of_ble_eq_true rfl)) d_M_covers_33 ⟨Nat.le_of_ble_eq_true rfl, Nat.le_of_ble_eq_true rfl⟩) hS (fun q _ h => hFc q h) hFc (fun r_3 u t H1 locs ht hvm hw hB hz1 hk1 hS => ?_)
    obtain ⟨hP1, hK1, hD1⟩ := hB
    rw [ht] at hP1
    have hK1 := va_K.moved hvm.symm hK1
    obtain ⟨hP, hD⟩ := va_join (wr := []) (w1 := [(m0, .inr (2, [.int (er_th true false), .ref a1, .ref a2, .ref a3, .ref a4, .ref a5, .int lf, .int tp, .int wd, .int hg, .int ws, .int lk, .int cm, .int mx, .int my]))]) hP hD [0] [] rfl rfl (by decide) (by decide) hk1 hFc hP1 hD1
    have hK := (hK.sub (tys' := []) [] rfl).app hK1
    generalize H1 = H at hP hS ⊢
    have hP : va_P (dC, dI) classes [(m0, .inr (2, [.int (er_th true false), .ref a1, .ref a2, .ref a3, .ref a4, .ref a5, .int lf, .int tp, .int wd, .int hg, .int ws, .int lk, .int cm, .int mx, .int my]))] H := hP
    have hD : va_D A [(m0, .inr (2, [.int (er_th true false), .ref a1, .ref a2, .ref a3, .ref a4, .ref a5, .int lf, .int tp, .int wd, .int hg, .int ws, .int lk, .int cm, .int mx, .int my]))] := hD
    have hK : va_K (dC, dI) classes [] s := hK
    obtain rfl : er_b (true || false) = r_3 := Eq.symm hw
    refine lv_if_eq (tgt := 41) hx hb d_M_covers_36 (by decide) (fun c_4 => absurd c_4 (by decide)) (fun _ => ?_)
    refine lv_iconst (v := 0) hx hb d_M_covers_39 (by decide) ?_
    have hP9 := hP.sub (ws' := [(m0, .inr (2, [.int (er_th true false), .ref a1, .ref a2, .ref a3, .ref a4, .ref a5, .int lf, .int tp, .int wd, .int hg, .int ws, .int lk, .int cm, .int mx, .int my]))]) [0] rfl
    have hD9 := hD.sub (ws' := [(m0, .inr (2, [.int (er_th true false), .ref a1, .ref a2, .ref a3, .ref a4, .ref a5, .int lf, .int tp, .int wd, .int hg, .int ws, .int lk, .int cm, .int mx, .int my]))]) [0] (by decide) rfl
    have hK9 := hK.sub (tys' := []) [] rfl
    exact W.zret (v := 0) (ty := .boolean) hx hb hr (by decide) (fun u9 ht hW => ⟨⟨_, (), rfl, trivial, ⟨by rw [ht]; exact hP9, va_K.moved hW.alike hK9, hD9⟩⟩, hS.F ht⟩) hS.2.2 d_M_covers_40
  · have c_2 := er_b_n.mp c_2
    refine lv_iload_n hx hb d_M_covers_14 rfl (lv_at hl 2 rfl) ?_
    refine lv_sipush (v := (-1024)) hx hb d_M_covers_15 (by decide) ?_
    refine lv_sipush (v := 2047) hx hb d_M_covers_18 (by decide) ?_
    have hPc := hP.sub (ws' := []) [] rfl
    have hKc := hK.sub (tys' := []) [] rfl
    refine vp_callSi (va_runS (As := [.int p1, .int (-1024), .int 2047]) (rest := [.ref m0]) ⟨hx, hb, hml, hown, hts⟩ (c_M_in l dC dI p1 (-1024) 2047) (va_cwS 3 hts (er_gS k_360 k_361 k_20 k_362) rfl rfl rfl (by decide +kernel) ⟨Nat.le_of_ble_eq_true rfl, Nat.le_of_ble_eq_true rfl⟩) ⟨PP.blind, PP.at hN hKc hPc⟩ rfl rfl hl.1 rfl (lv_room (Nat.le_of_ble_eq_true rfl)) d_M_covers_21 ⟨Nat.zero_le _, Nat.zero_le _⟩).run (fun r_5 hr_5 => ?_)
    obtain rfl : er_b (er_win p1 (-1024) 2047) = r_5 := Eq.symm hr_5
    refine lv_if_ne (tgt := 31) hx hb d_M_covers_24 (by decide) (fun c_6 => ?_) (fun c_6 => ?_)
    · have c_6 := er_b_n.mp c_6
      exfalso
      simp_all
    · have c_6 := er_b_0.mp c_6
      refine lv_iconst (v := 1) hx hb d_M_covers_27 (by decide) ?_
      refine lv_goto (tgt := 32) hx hb d_M_covers_28 (by decide) ?_
      refine lv_iconst (v := 0) hx hb d_M_covers_32 (by decide) ?_
      have hPc := hP.sub (ws' := [(m0, .inr (2, [.int th, .ref a1, .ref a2, .ref a3, .ref a4, .ref a5, .int lf, .int tp, .int wd, .int hg, .int ws, .int lk, .int cm, .int mx, .int my]))]) [0] rfl
      have hDc := hD.sub (ws' := [(m0, .inr (2, [.int th, .ref a1, .ref a2, .ref a3, .ref a4, .ref a5, .int lf, .int tp, .int wd, .int hg, .int ws, .int lk, .int cm, .int mx, .int my]))]) [0] (by decide) rfl
      have hKc := hK.sub (tys' := []) [] rfl
      have hFc := va_free (wc := [(m0, .inr (2, [.int th, .ref a1, .ref a2, .ref a3, .ref a4, .ref a5, .int lf, .int tp, .int wd, .int hg, .int ws, .int lk, .int cm, .int mx, .int my]))]) hD hS hA [0] rfl
      refine va_calli (va_runV (As := [.int 1, .int 0]) (rest := []) ⟨hx, hb, hml, hown, hts⟩ (c_M_refuse l dC dI m0 a1 a2 a3 a4 a5 th lf tp wd hg ws lk cm mx my true false s.heap.size) (cwV 2 hts (er_gV k_365 k_366 k_10 k_20 k_367) rfl rfl rfl (by decide +kernel) ⟨Nat.le_of_ble_eq_true rfl, Nat.le_of_ble_eq_true rfl⟩) ⟨PI.blind, va_recv hKc hPc (ci := 2) (q0 := 0) rfl rfl, PI.at hN hKc hPc hDc⟩ rfl rfl hl.1 rfl (lv_room (Nat.le_of_ble_eq_true rfl)) d_M_covers_33 ⟨Nat.le_of_ble_eq_true rfl, Nat.le_of_ble_eq_true rfl⟩) hS (fun q _ h => hFc q h) hFc (fun r_7 u t H1 locs ht hvm hw hB hz1 hk1 hS => ?_)
      obtain ⟨hP1, hK1, hD1⟩ := hB
      rw [ht] at hP1
      have hK1 := va_K.moved hvm.symm hK1
      obtain ⟨hP, hD⟩ := va_join (wr := []) (w1 := [(m0, .inr (2, [.int (er_th true false), .ref a1, .ref a2, .ref a3, .ref a4, .ref a5, .int lf, .int tp, .int wd, .int hg, .int ws, .int lk, .int cm, .int mx, .int my]))]) hP hD [0] [] rfl rfl (by decide) (by decide) hk1 hFc hP1 hD1
      have hK := (hK.sub (tys' := []) [] rfl).app hK1
      generalize H1 = H at hP hS ⊢
      have hP : va_P (dC, dI) classes [(m0, .inr (2, [.int (er_th true false), .ref a1, .ref a2, .ref a3, .ref a4, .ref a5, .int lf, .int tp, .int wd, .int hg, .int ws, .int lk, .int cm, .int mx, .int my]))] H := hP
      have hD : va_D A [(m0, .inr (2, [.int (er_th true false), .ref a1, .ref a2, .ref a3, .ref a4, .ref a5, .int lf, .int tp, .int wd, .int hg, .int ws, .int lk, .int cm, .int mx, .int my]))] := hD
      have hK : va_K (dC, dI) classes [] s := hK
      obtain rfl : er_b (true || false) = r_7 := Eq.symm hw
      refine lv_if_eq (tgt := 41) hx hb d_M_covers_36 (by decide) (fun c_8 => absurd c_8 (by decide)) (fun _ => ?_)
      refine lv_iconst (v := 0) hx hb d_M_covers_39 (by decide) ?_
      have hP9 := hP.sub (ws' := [(m0, .inr (2, [.int (er_th true false), .ref a1, .ref a2, .ref a3, .ref a4, .ref a5, .int lf, .int tp, .int wd, .int hg, .int ws, .int lk, .int cm, .int mx, .int my]))]) [0] rfl
      have hD9 := hD.sub (ws' := [(m0, .inr (2, [.int (er_th true false), .ref a1, .ref a2, .ref a3, .ref a4, .ref a5, .int lf, .int tp, .int wd, .int hg, .int ws, .int lk, .int cm, .int mx, .int my]))]) [0] (by decide) rfl
      have hK9 := hK.sub (tys' := []) [] rfl
      exact W.zret (v := 0) (ty := .boolean) hx hb hr (by decide) (fun u9 ht hW => ⟨⟨_, (), rfl, trivial, ⟨by rw [ht]; exact hP9, va_K.moved hW.alike hK9, hD9⟩⟩, hS.F ht⟩) hS.2.2 d_M_covers_40

set_option maxHeartbeats 1000000 in
set_option maxRecDepth 100000 in
theorem c_M_walk (l : Launch) (dC : Nat → ClassId) (dI : Nat → Nat → Nat) (m0 a1 a2 a3 a4 a5 : Nat) (th lf tp wd hg ws lk cm mx my : Int32) (sz : Nat) : Met l y_M_walk w_M_walk ({ frames := 0, cells := 0, slots := 0, locals := 0 }) (va_Pc [.ref m0] (PI dC dI [] [(m0, .inr (2, [.int th, .ref a1, .ref a2, .ref a3, .ref a4, .ref a5, .int lf, .int tp, .int wd, .int hg, .int ws, .int lk, .int cm, .int mx, .int my]))] sz)) (va_Qv (fun (u : Unit) => True) (fun (u : Unit) t => EI dC dI [] [(m0, .inr (2, [.int 0, .ref a1, .ref a2, .ref a3, .ref a4, .ref a5, .int lf, .int tp, .int wd, .int hg, .int 1, .int 0, .int 0, .int mx, .int my]))] (va_A [(m0, .inr (2, [.int th, .ref a1, .ref a2, .ref a3, .ref a4, .ref a5, .int lf, .int tp, .int wd, .int hg, .int ws, .int lk, .int cm, .int mx, .int my]))] sz) t) (va_A [(m0, .inr (2, [.int th, .ref a1, .ref a2, .ref a3, .ref a4, .ref a5, .int lf, .int tp, .int wd, .int hg, .int ws, .int lk, .int cm, .int mx, .int my]))] sz)) 0 0 (va_A [(m0, .inr (2, [.int th, .ref a1, .ref a2, .ref a3, .ref a4, .ref a5, .int lf, .int tp, .int wd, .int hg, .int ws, .int lk, .int cm, .int mx, .int my]))] sz) := by
  refine Met.ofW (cc := b_M_walk) (maxL := 1) (ret := none) (by decide +kernel) rfl ?_
  intro p e s m args below meth c s₁ B hml hv
  obtain ⟨rfl, hsz, hN, hK, hP, hD0⟩ := hv
  have hx := B.exec
  have hb := B.bytes
  have hr := B.returns
  have hts := er_hts (atoms_spec (ws := w_M_walk) B.pre)
  have hown : s.vm.findClass R_M = some m.cls := findClass_of_methodNamed B.named
  have hlocks := B.notSynchronized
  subst hsz
  have hD := hD0.self (sz := s.heap.size)
  generalize hAe : va_A [(m0, .inr (2, [.int th, .ref a1, .ref a2, .ref a3, .ref a4, .ref a5, .int lf, .int tp, .int wd, .int hg, .int ws, .int lk, .int cm, .int mx, .int my]))] s.heap.size = A at hD ⊢
  have hA : ∀ q : Nat, s.heap.size ≤ q → A q := fun q h => by rw [← hAe]; exact Or.inr h
  have hS : va_S A s.heap s.heap [] := va_S.rf
  have hP : va_P (dC, dI) classes [(m0, .inr (2, [.int th, .ref a1, .ref a2, .ref a3, .ref a4, .ref a5, .int lf, .int tp, .int wd, .int hg, .int ws, .int lk, .int cm, .int mx, .int my]))] s.heap := hP
  have hl := lv_entry ([.ref m0]) (n := 1) (Nat.le_of_ble_eq_true rfl)
  rw [lg_entry_eq]
  generalize (lg_sl ([.ref m0]) ++ List.replicate (1 - (lg_sl ([.ref m0])).length) Slot.unset).toArray = ls at hl ⊢
  have hl : lv_has ls 1 [(0, .ref m0)] := hl
  refine lv_aload_n hx hb d_M_walk_0 rfl (lv_at hl 0 rfl) ?_
  refine lv_iconst (v := 0) hx hb d_M_walk_1 (by decide) ?_
  refine va_put (D := (dC, dI)) (ci := 2) (v := .int 0) (ty := .int) (C := R_M) (T := F_M) (N := 15) hx hb hts i_M t_M t_M_ok n_M hown hK hP hD hS 0 rfl rfl 0 (by decide) (hts _ k_306) (fun _ h9 => h9) rfl (by decide +kernel) rfl rfl (Nat.le_of_ble_eq_true rfl) d_M_walk_2 (fun H locs hP hD hS => ?_)
  have hP : va_P (dC, dI) classes [(m0, .inr (2, [.int 0, .ref a1, .ref a2, .ref a3, .ref a4, .ref a5, .int lf, .int tp, .int wd, .int hg, .int ws, .int lk, .int cm, .int mx, .int my]))] H := hP
  have hD : va_D A [(m0, .inr (2, [.int 0, .ref a1, .ref a2, .ref a3, .ref a4, .ref a5, .int lf, .int tp, .int wd, .int hg, .int ws, .int lk, .int cm, .int mx, .int my]))] := hD
  refine lv_aload_n hx hb d_M_walk_5 rfl (lv_at hl 0 rfl) ?_
  refine lv_iconst (v := 1) hx hb d_M_walk_6 (by decide) ?_
  refine va_put (D := (dC, dI)) (ci := 2) (v := .int 1) (ty := .boolean) (C := R_M) (T := F_M) (N := 15) hx hb hts i_M t_M t_M_ok n_M hown hK hP hD hS 0 rfl rfl 10 (by decide) (hts _ k_316) (fun _ h9 => h9) rfl (by decide +kernel) (by decide) rfl (Nat.le_of_ble_eq_true rfl) d_M_walk_7 (fun H locs hP hD hS => ?_)
  have hP : va_P (dC, dI) classes [(m0, .inr (2, [.int 0, .ref a1, .ref a2, .ref a3, .ref a4, .ref a5, .int lf, .int tp, .int wd, .int hg, .int 1, .int lk, .int cm, .int mx, .int my]))] H := hP
  have hD : va_D A [(m0, .inr (2, [.int 0, .ref a1, .ref a2, .ref a3, .ref a4, .ref a5, .int lf, .int tp, .int wd, .int hg, .int 1, .int lk, .int cm, .int mx, .int my]))] := hD
  refine lv_aload_n hx hb d_M_walk_10 rfl (lv_at hl 0 rfl) ?_
  refine lv_iconst (v := 0) hx hb d_M_walk_11 (by decide) ?_
  refine va_put (D := (dC, dI)) (ci := 2) (v := .int 0) (ty := .int) (C := R_M) (T := F_M) (N := 15) hx hb hts i_M t_M t_M_ok n_M hown hK hP hD hS 0 rfl rfl 11 (by decide) (hts _ k_317) (fun _ h9 => h9) rfl (by decide +kernel) rfl rfl (Nat.le_of_ble_eq_true rfl) d_M_walk_12 (fun H locs hP hD hS => ?_)
  have hP : va_P (dC, dI) classes [(m0, .inr (2, [.int 0, .ref a1, .ref a2, .ref a3, .ref a4, .ref a5, .int lf, .int tp, .int wd, .int hg, .int 1, .int 0, .int cm, .int mx, .int my]))] H := hP
  have hD : va_D A [(m0, .inr (2, [.int 0, .ref a1, .ref a2, .ref a3, .ref a4, .ref a5, .int lf, .int tp, .int wd, .int hg, .int 1, .int 0, .int cm, .int mx, .int my]))] := hD
  refine lv_aload_n hx hb d_M_walk_15 rfl (lv_at hl 0 rfl) ?_
  refine lv_iconst (v := 0) hx hb d_M_walk_16 (by decide) ?_
  refine va_put (D := (dC, dI)) (ci := 2) (v := .int 0) (ty := .boolean) (C := R_M) (T := F_M) (N := 15) hx hb hts i_M t_M t_M_ok n_M hown hK hP hD hS 0 rfl rfl 12 (by decide) (hts _ k_318) (fun _ h9 => h9) rfl (by decide +kernel) (by decide) rfl (Nat.le_of_ble_eq_true rfl) d_M_walk_17 (fun H locs hP hD hS => ?_)
  have hP : va_P (dC, dI) classes [(m0, .inr (2, [.int 0, .ref a1, .ref a2, .ref a3, .ref a4, .ref a5, .int lf, .int tp, .int wd, .int hg, .int 1, .int 0, .int 0, .int mx, .int my]))] H := hP
  have hD : va_D A [(m0, .inr (2, [.int 0, .ref a1, .ref a2, .ref a3, .ref a4, .ref a5, .int lf, .int tp, .int wd, .int hg, .int 1, .int 0, .int 0, .int mx, .int my]))] := hD
  have hP9 := hP.sub (ws' := [(m0, .inr (2, [.int 0, .ref a1, .ref a2, .ref a3, .ref a4, .ref a5, .int lf, .int tp, .int wd, .int hg, .int 1, .int 0, .int 0, .int mx, .int my]))]) [0] rfl
  have hD9 := hD.sub (ws' := [(m0, .inr (2, [.int 0, .ref a1, .ref a2, .ref a3, .ref a4, .ref a5, .int lf, .int tp, .int wd, .int hg, .int 1, .int 0, .int 0, .int mx, .int my]))]) [0] (by decide) rfl
  have hK9 := hK.sub (tys' := []) [] rfl
  exact W.vret hx hb hr (fun u9 ht hW => ⟨⟨(), rfl, trivial, ⟨by rw [ht]; exact hP9, va_K.moved hW.alike hK9, hD9⟩⟩, hS.F ht⟩) hS.2.2 d_M_walk_20
