set_option maxHeartbeats 1000000 in
set_option maxRecDepth 100000 in
theorem c_M_weight (l : Launch) (dC : Nat → ClassId) (dI : Nat → Nat → Nat) (m0 a1 a2 a3 a4 a5 : Nat) (g1 g2 : ClassId) (X Y : Nat → Int32) (th lf tp wd hg lk mx my : Int32) (j : Nat) (hj : j < 3) (sz : Nat) : Met l y_M_weight w_M_weight ({ frames := 4, cells := 0, slots := 0, locals := 92 }) (va_Pc [.ref m0, .int (nI j)] (PI dC dI [(g1, .int), (g2, .int)] [(m0, .inr (2, [.int th, .ref a1, .ref a2, .ref a3, .ref a4, .ref a5, .int lf, .int tp, .int wd, .int hg, .int 1, .int lk, .int 1, .int mx, .int my])), (a1, .inl (g1, 3, .inl X)), (a2, .inl (g2, 3, .inl Y))] sz)) (va_Ql (fun (r : Int64) (u : Unit) => r = er_W X Y j mx my) (fun (u : Unit) t => EI dC dI [(g1, .int), (g2, .int)] [(m0, .inr (2, [.int (er_th false false), .ref a1, .ref a2, .ref a3, .ref a4, .ref a5, .int lf, .int tp, .int wd, .int hg, .int 1, .int lk, .int 1, .int mx, .int my])), (a1, .inl (g1, 3, .inl X)), (a2, .inl (g2, 3, .inl Y))] (va_A [(m0, .inr (2, [.int th, .ref a1, .ref a2, .ref a3, .ref a4, .ref a5, .int lf, .int tp, .int wd, .int hg, .int 1, .int lk, .int 1, .int mx, .int my])), (a1, .inl (g1, 3, .inl X)), (a2, .inl (g2, 3, .inl Y))] sz) t) (va_A [(m0, .inr (2, [.int th, .ref a1, .ref a2, .ref a3, .ref a4, .ref a5, .int lf, .int tp, .int wd, .int hg, .int 1, .int lk, .int 1, .int mx, .int my])), (a1, .inl (g1, 3, .inl X)), (a2, .inl (g2, 3, .inl Y))] sz)) 0 0 (va_A [(m0, .inr (2, [.int th, .ref a1, .ref a2, .ref a3, .ref a4, .ref a5, .int lf, .int tp, .int wd, .int hg, .int 1, .int lk, .int 1, .int mx, .int my])), (a1, .inl (g1, 3, .inl X)), (a2, .inl (g2, 3, .inl Y))] sz) := by
  refine Met.ofW (cc := b_M_weight) (maxL := 2) (ret := (some .long)) (by decide +kernel) rfl ?_
  intro p e s m args below meth c s₁ B hml hv
  obtain ⟨rfl, hsz, hN, hK, hP, hD0⟩ := hv
  have hx := B.exec
  have hb := B.bytes
  have hr := B.returns
  have hts := er_hts (atoms_spec (ws := w_M_weight) B.pre)
  have hown : s.vm.findClass R_M = some m.cls := findClass_of_methodNamed B.named
  have hlocks := B.notSynchronized
  subst hsz
  have hD := hD0.self (sz := s.heap.size)
  generalize hAe : va_A [(m0, .inr (2, [.int th, .ref a1, .ref a2, .ref a3, .ref a4, .ref a5, .int lf, .int tp, .int wd, .int hg, .int 1, .int lk, .int 1, .int mx, .int my])), (a1, .inl (g1, 3, .inl X)), (a2, .inl (g2, 3, .inl Y))] s.heap.size = A at hD ⊢
  have hA : ∀ q : Nat, s.heap.size ≤ q → A q := fun q h => by rw [← hAe]; exact Or.inr h
  have hS : va_S A s.heap s.heap [] := va_S.rf
  have hP : va_P (dC, dI) classes [(m0, .inr (2, [.int th, .ref a1, .ref a2, .ref a3, .ref a4, .ref a5, .int lf, .int tp, .int wd, .int hg, .int 1, .int lk, .int 1, .int mx, .int my])), (a1, .inl (g1, 3, .inl X)), (a2, .inl (g2, 3, .inl Y))] s.heap := hP
  have hl := lv_entry ([.ref m0, .int (nI j)]) (n := 2) (Nat.le_of_ble_eq_true rfl)
  rw [lg_entry_eq]
  generalize (lg_sl ([.ref m0, .int (nI j)]) ++ List.replicate (2 - (lg_sl ([.ref m0, .int (nI j)])).length) Slot.unset).toArray = ls at hl ⊢
  have hl : lv_has ls 2 [(0, .ref m0), (1, .int (nI j))] := hl
  have u0 : er_win (nI j) 0 2 = true := er_win_nI (k := 2) (by omega) (by decide)
  refine lv_aload_n hx hb d_M_weight_0 rfl (lv_at hl 0 rfl) ?_
  refine lv_iload_n hx hb d_M_weight_1 rfl (lv_at hl 1 rfl) ?_
  refine lv_iconst (v := 0) hx hb d_M_weight_2 (by decide) ?_
  refine lv_iconst (v := 2) hx hb d_M_weight_3 (by decide) ?_
  have hPc := hP.sub (ws' := []) [] rfl
  have hKc := hK.sub (tys' := []) [] rfl
  refine vp_callSi (va_runS (As := [.int (nI j), .int 0, .int 2]) (rest := [.ref m0]) ⟨hx, hb, hml, hown, hts⟩ (c_M_in l dC dI (nI j) 0 2) (va_cwS 3 hts (er_gS k_360 k_361 k_20 k_362) rfl rfl rfl (by decide +kernel) ⟨Nat.le_of_ble_eq_true rfl, Nat.le_of_ble_eq_true rfl⟩) ⟨PP.blind, PP.at hN hKc hPc⟩ rfl rfl hl.1 rfl (lv_room (Nat.le_of_ble_eq_true rfl)) d_M_weight_4 ⟨Nat.zero_le _, Nat.zero_le _⟩).run (fun r_1 hr_1 => ?_)
  obtain rfl : er_b (er_win (nI j) 0 2) = r_1 := Eq.symm hr_1
  refine lv_if_ne (tgt := 14) hx hb d_M_weight_7 (by decide) (fun c_2 => ?_) (fun c_2 => ?_)
  · have c_2 := er_b_n.mp c_2
    refine lv_iconst (v := 0) hx hb d_M_weight_14 (by decide) ?_
    refine lv_aload_n hx hb d_M_weight_15 rfl (lv_at hl 0 rfl) ?_
    refine va_get (D := (dC, dI)) (ci := 2) (v := .int 1) (C := R_M) (T := F_M) (N := 15) hx hb hts i_M hown hK hP 0 rfl rfl 10 (by decide) (hts _ k_316) (fun _ h9 => h9) rfl d_M_weight_16 ?_
    refine lv_if_eq (tgt := 29) hx hb d_M_weight_19 (by decide) (fun c_3 => absurd c_3 (by decide)) (fun _ => ?_)
    refine lv_aload_n hx hb d_M_weight_22 rfl (lv_at hl 0 rfl) ?_
    refine va_get (D := (dC, dI)) (ci := 2) (v := .int 1) (C := R_M) (T := F_M) (N := 15) hx hb hts i_M hown hK hP 0 rfl rfl 12 (by decide) (hts _ k_318) (fun _ h9 => h9) rfl d_M_weight_23 ?_
    refine lv_if_ne (tgt := 33) hx hb d_M_weight_26 (by decide) (fun _ => ?_) (fun c_4 => absurd c_4 (by decide))
    refine lv_iconst (v := 0) hx hb d_M_weight_33 (by decide) ?_
    have hPc := hP.sub (ws' := [(m0, .inr (2, [.int th, .ref a1, .ref a2, .ref a3, .ref a4, .ref a5, .int lf, .int tp, .int wd, .int hg, .int 1, .int lk, .int 1, .int mx, .int my]))]) [0] rfl
    have hDc := hD.sub (ws' := [(m0, .inr (2, [.int th, .ref a1, .ref a2, .ref a3, .ref a4, .ref a5, .int lf, .int tp, .int wd, .int hg, .int 1, .int lk, .int 1, .int mx, .int my]))]) [0] (by decide) rfl
    have hKc := hK.sub (tys' := []) [] rfl
    have hFc := va_free (wc := [(m0, .inr (2, [.int th, .ref a1, .ref a2, .ref a3, .ref a4, .ref a5, .int lf, .int tp, .int wd, .int hg, .int 1, .int lk, .int 1, .int mx, .int my]))]) hD hS hA [0] rfl
    refine va_calli (va_runV (As := [.int 0, .int 0]) (rest := []) ⟨hx, hb, hml, hown, hts⟩ (c_M_refuse l dC dI m0 a1 a2 a3 a4 a5 th lf tp wd hg 1 lk 1 mx my false false s.heap.size) (cwV 2 hts (er_gV k_365 k_366 k_10 k_20 k_367) rfl rfl rfl (by decide +kernel) ⟨Nat.le_of_ble_eq_true rfl, Nat.le_of_ble_eq_true rfl⟩) ⟨PI.blind, va_recv hKc hPc (ci := 2) (q0 := 0) rfl rfl, PI.at hN hKc hPc hDc⟩ rfl rfl hl.1 rfl (lv_room (Nat.le_of_ble_eq_true rfl)) d_M_weight_34 ⟨Nat.le_of_ble_eq_true rfl, Nat.le_of_ble_eq_true rfl⟩) hS (fun q _ h => hFc q h) hFc (fun r_5 u t H1 locs ht hvm hw hB hz1 hk1 hS => ?_)
    obtain ⟨hP1, hK1, hD1⟩ := hB
    rw [ht] at hP1
    have hK1 := va_K.moved hvm.symm hK1
    obtain ⟨hP, hD⟩ := va_join (wr := [(a1, .inl (g1, 3, .inl X)), (a2, .inl (g2, 3, .inl Y))]) (w1 := [(m0, .inr (2, [.int (er_th false false), .ref a1, .ref a2, .ref a3, .ref a4, .ref a5, .int lf, .int tp, .int wd, .int hg, .int 1, .int lk, .int 1, .int mx, .int my]))]) hP hD [0] [1, 2] rfl rfl (by decide) (by decide) hk1 hFc hP1 hD1
    have hK := (hK.sub (tys' := [(g1, .int), (g2, .int)]) [0, 1] rfl).app hK1
    generalize H1 = H at hP hS ⊢
    have hP : va_P (dC, dI) classes [(a1, .inl (g1, 3, .inl X)), (a2, .inl (g2, 3, .inl Y)), (m0, .inr (2, [.int (er_th false false), .ref a1, .ref a2, .ref a3, .ref a4, .ref a5, .int lf, .int tp, .int wd, .int hg, .int 1, .int lk, .int 1, .int mx, .int my]))] H := hP
    have hD : va_D A [(a1, .inl (g1, 3, .inl X)), (a2, .inl (g2, 3, .inl Y)), (m0, .inr (2, [.int (er_th false false), .ref a1, .ref a2, .ref a3, .ref a4, .ref a5, .int lf, .int tp, .int wd, .int hg, .int 1, .int lk, .int 1, .int mx, .int my]))] := hD
    have hK : va_K (dC, dI) classes [(g1, .int), (g2, .int)] s := hK
    obtain rfl : er_b (false || false) = r_5 := Eq.symm hw
    refine lv_if_eq (tgt := 42) hx hb d_M_weight_37 (by decide) (fun _ => ?_) (fun c_6 => absurd c_6 (by decide))
    refine lv_aload_n hx hb d_M_weight_42 rfl (lv_at hl 0 rfl) ?_
    refine lv_iload_n hx hb d_M_weight_43 rfl (lv_at hl 1 rfl) ?_
    refine lv_aload_n hx hb d_M_weight_44 rfl (lv_at hl 0 rfl) ?_
    refine va_get (D := (dC, dI)) (ci := 2) (v := .int mx) (C := R_M) (T := F_M) (N := 15) hx hb hts i_M hown hK hP 2 rfl rfl 13 (by decide) (hts _ k_319) (fun _ h9 => h9) rfl d_M_weight_45 ?_
    refine lv_aload_n hx hb d_M_weight_48 rfl (lv_at hl 0 rfl) ?_
    refine va_get (D := (dC, dI)) (ci := 2) (v := .int my) (C := R_M) (T := F_M) (N := 15) hx hb hts i_M hown hK hP 2 rfl rfl 14 (by decide) (hts _ k_320) (fun _ h9 => h9) rfl d_M_weight_49 ?_
    have hPc := hP.sub (ws' := [(m0, .inr (2, [.int (er_th false false), .ref a1, .ref a2, .ref a3, .ref a4, .ref a5, .int lf, .int tp, .int wd, .int hg, .int 1, .int lk, .int 1, .int mx, .int my])), (a1, .inl (g1, 3, .inl X)), (a2, .inl (g2, 3, .inl Y))]) [2, 0, 1] rfl
    have hKc := hK.sub (tys' := [(g1, .int), (g2, .int)]) [0, 1] rfl
    refine vp_callSl (va_runV (As := [.int (nI j), .int mx, .int my]) (rest := []) ⟨hx, hb, hml, hown, hts⟩ (c_M_weightOf l dC dI m0 a1 a2 a3 a4 a5 g1 g2 X Y (er_th false false) lf tp wd hg 1 lk 1 mx my j mx my (by first | assumption | omega | decide | exact er_fr_lt _ _ _ | exact er_to_lt _ _ _)) (cwV 3 hts (er_gV k_393 k_394 k_14 k_20 k_395) rfl rfl rfl (by decide +kernel) ⟨Nat.le_of_ble_eq_true rfl, Nat.le_of_ble_eq_true rfl⟩) ⟨PP.blind, va_recv hKc hPc (ci := 2) (q0 := 0) rfl rfl, PP.at hN hKc hPc⟩ rfl rfl hl.1 rfl (lv_room (Nat.le_of_ble_eq_true rfl)) d_M_weight_52 ⟨Nat.zero_le _, Nat.zero_le _⟩).run (fun r_7 hr_7 => ?_)
    obtain rfl : er_W X Y j mx my = r_7 := Eq.symm hr_7
    have hP9 := hP.sub (ws' := [(m0, .inr (2, [.int (er_th false false), .ref a1, .ref a2, .ref a3, .ref a4, .ref a5, .int lf, .int tp, .int wd, .int hg, .int 1, .int lk, .int 1, .int mx, .int my])), (a1, .inl (g1, 3, .inl X)), (a2, .inl (g2, 3, .inl Y))]) [2, 0, 1] rfl
    have hD9 := hD.sub (ws' := [(m0, .inr (2, [.int (er_th false false), .ref a1, .ref a2, .ref a3, .ref a4, .ref a5, .int lf, .int tp, .int wd, .int hg, .int 1, .int lk, .int 1, .int mx, .int my])), (a1, .inl (g1, 3, .inl X)), (a2, .inl (g2, 3, .inl Y))]) [2, 0, 1] (by decide) rfl
    have hK9 := hK.sub (tys' := [(g1, .int), (g2, .int)]) [0, 1] rfl
    exact W.lret (v := er_W X Y j mx my) hx hb hr (fun u9 ht hW => ⟨⟨_, (), rfl, rfl, ⟨by rw [ht]; exact hP9, va_K.moved hW.alike hK9, hD9⟩⟩, hS.F ht⟩) hS.2.2 d_M_weight_55
  · have c_2 := er_b_0.mp c_2
    exact absurd c_2 (by simp_all)

set_option maxHeartbeats 1000000 in
set_option maxRecDepth 100000 in
theorem c_M_weightX (l : Launch) (dC : Nat → ClassId) (dI : Nat → Nat → Nat) (m0 a1 a2 a3 a4 a5 : Nat) (th lf tp wd hg lk mx my : Int32) (wk cv : Bool) (p0 : Int32) (hv : er_win p0 0 2 = false) (sz : Nat) : Met l y_M_weight w_M_weight ({ frames := 1, cells := 0, slots := 0, locals := 22 }) (va_Pc [.ref m0, .int p0] (PI dC dI [] [(m0, .inr (2, [.int th, .ref a1, .ref a2, .ref a3, .ref a4, .ref a5, .int lf, .int tp, .int wd, .int hg, .int (er_b wk), .int lk, .int (er_b cv), .int mx, .int my]))] sz)) (va_Ql (fun (r : Int64) (u : Unit) => True) (fun (u : Unit) t => EI dC dI [] [(m0, .inr (2, [.int 1, .ref a1, .ref a2, .ref a3, .ref a4, .ref a5, .int lf, .int tp, .int wd, .int hg, .int (er_b wk), .int lk, .int (er_b cv), .int mx, .int my]))] (va_A [(m0, .inr (2, [.int th, .ref a1, .ref a2, .ref a3, .ref a4, .ref a5, .int lf, .int tp, .int wd, .int hg, .int (er_b wk), .int lk, .int (er_b cv), .int mx, .int my]))] sz) t) (va_A [(m0, .inr (2, [.int th, .ref a1, .ref a2, .ref a3, .ref a4, .ref a5, .int lf, .int tp, .int wd, .int hg, .int (er_b wk), .int lk, .int (er_b cv), .int mx, .int my]))] sz)) 0 0 (va_A [(m0, .inr (2, [.int th, .ref a1, .ref a2, .ref a3, .ref a4, .ref a5, .int lf, .int tp, .int wd, .int hg, .int (er_b wk), .int lk, .int (er_b cv), .int mx, .int my]))] sz) := by
  refine Met.ofW (cc := b_M_weight) (maxL := 2) (ret := (some .long)) (by decide +kernel) rfl ?_
  intro p e s m args below meth c s₁ B hml hv
  obtain ⟨rfl, hsz, hN, hK, hP, hD0⟩ := hv
  have hx := B.exec
  have hb := B.bytes
  have hr := B.returns
  have hts := er_hts (atoms_spec (ws := w_M_weight) B.pre)
  have hown : s.vm.findClass R_M = some m.cls := findClass_of_methodNamed B.named
  have hlocks := B.notSynchronized
  subst hsz
  have hD := hD0.self (sz := s.heap.size)
  generalize hAe : va_A [(m0, .inr (2, [.int th, .ref a1, .ref a2, .ref a3, .ref a4, .ref a5, .int lf, .int tp, .int wd, .int hg, .int (er_b wk), .int lk, .int (er_b cv), .int mx, .int my]))] s.heap.size = A at hD ⊢
  have hA : ∀ q : Nat, s.heap.size ≤ q → A q := fun q h => by rw [← hAe]; exact Or.inr h
  have hS : va_S A s.heap s.heap [] := va_S.rf
  have hP : va_P (dC, dI) classes [(m0, .inr (2, [.int th, .ref a1, .ref a2, .ref a3, .ref a4, .ref a5, .int lf, .int tp, .int wd, .int hg, .int (er_b wk), .int lk, .int (er_b cv), .int mx, .int my]))] s.heap := hP
  have hl := lv_entry ([.ref m0, .int p0]) (n := 2) (Nat.le_of_ble_eq_true rfl)
  rw [lg_entry_eq]
  generalize (lg_sl ([.ref m0, .int p0]) ++ List.replicate (2 - (lg_sl ([.ref m0, .int p0])).length) Slot.unset).toArray = ls at hl ⊢
  have hl : lv_has ls 2 [(0, .ref m0), (1, .int p0)] := hl
  refine lv_aload_n hx hb d_M_weight_0 rfl (lv_at hl 0 rfl) ?_
  refine lv_iload_n hx hb d_M_weight_1 rfl (lv_at hl 1 rfl) ?_
  refine lv_iconst (v := 0) hx hb d_M_weight_2 (by decide) ?_
  refine lv_iconst (v := 2) hx hb d_M_weight_3 (by decide) ?_
  have hPc := hP.sub (ws' := []) [] rfl
  have hKc := hK.sub (tys' := []) [] rfl
  refine vp_callSi (va_runS (As := [.int p0, .int 0, .int 2]) (rest := [.ref m0]) ⟨hx, hb, hml, hown, hts⟩ (c_M_in l dC dI p0 0 2) (va_cwS 3 hts (er_gS k_360 k_361 k_20 k_362) rfl rfl rfl (by decide +kernel) ⟨Nat.le_of_ble_eq_true rfl, Nat.le_of_ble_eq_true rfl⟩) ⟨PP.blind, PP.at hN hKc hPc⟩ rfl rfl hl.1 rfl (lv_room (Nat.le_of_ble_eq_true rfl)) d_M_weight_4 ⟨Nat.zero_le _, Nat.zero_le _⟩).run (fun r_1 hr_1 => ?_)
  obtain rfl : er_b (er_win p0 0 2) = r_1 := Eq.symm hr_1
  refine lv_if_ne (tgt := 14) hx hb d_M_weight_7 (by decide) (fun c_2 => ?_) (fun c_2 => ?_)
  · have c_2 := er_b_n.mp c_2
    exfalso
    simp_all
  · have c_2 := er_b_0.mp c_2
    refine lv_iconst (v := 1) hx hb d_M_weight_10 (by decide) ?_
    refine lv_goto (tgt := 15) hx hb d_M_weight_11 (by decide) ?_
    refine lv_aload_n hx hb d_M_weight_15 rfl (lv_at hl 0 rfl) ?_
    refine va_get (D := (dC, dI)) (ci := 2) (v := .int (er_b wk)) (C := R_M) (T := F_M) (N := 15) hx hb hts i_M hown hK hP 0 rfl rfl 10 (by decide) (hts _ k_316) (fun _ h9 => h9) rfl d_M_weight_16 ?_
    refine lv_if_eq (tgt := 29) hx hb d_M_weight_19 (by decide) (fun c_3 => ?_) (fun c_3 => ?_)
    · have c_3 := er_b_0.mp c_3
      refine lv_iconst (v := 1) hx hb d_M_weight_29 (by decide) ?_
      refine lv_goto (tgt := 34) hx hb d_M_weight_30 (by decide) ?_
      have hPc := hP.sub (ws' := [(m0, .inr (2, [.int th, .ref a1, .ref a2, .ref a3, .ref a4, .ref a5, .int lf, .int tp, .int wd, .int hg, .int (er_b wk), .int lk, .int (er_b cv), .int mx, .int my]))]) [0] rfl
      have hDc := hD.sub (ws' := [(m0, .inr (2, [.int th, .ref a1, .ref a2, .ref a3, .ref a4, .ref a5, .int lf, .int tp, .int wd, .int hg, .int (er_b wk), .int lk, .int (er_b cv), .int mx, .int my]))]) [0] (by decide) rfl
      have hKc := hK.sub (tys' := []) [] rfl
      have hFc := va_free (wc := [(m0, .inr (2, [.int th, .ref a1, .ref a2, .ref a3, .ref a4, .ref a5, .int lf, .int tp, .int wd, .int hg, .int (er_b wk), .int lk, .int (er_b cv), .int mx, .int my]))]) hD hS hA [0] rfl
      refine va_calli (va_runV (As := [.int 1, .int 1]) (rest := []) ⟨hx, hb, hml, hown, hts⟩ (c_M_refuse l dC dI m0 a1 a2 a3 a4 a5 th lf tp wd hg (er_b wk) lk (er_b cv) mx my true true s.heap.size) (cwV 2 hts (er_gV k_365 k_366 k_10 k_20 k_367) rfl rfl rfl (by decide +kernel) ⟨Nat.le_of_ble_eq_true rfl, Nat.le_of_ble_eq_true rfl⟩) ⟨PI.blind, va_recv hKc hPc (ci := 2) (q0 := 0) rfl rfl, PI.at hN hKc hPc hDc⟩ rfl rfl hl.1 rfl (lv_room (Nat.le_of_ble_eq_true rfl)) d_M_weight_34 ⟨Nat.le_of_ble_eq_true rfl, Nat.le_of_ble_eq_true rfl⟩) hS (fun q _ h => hFc q h) hFc (fun r_4 u t H1 locs ht hvm hw hB hz1 hk1 hS => ?_)
      obtain ⟨hP1, hK1, hD1⟩ := hB
      rw [ht] at hP1
      have hK1 := va_K.moved hvm.symm hK1
      obtain ⟨hP, hD⟩ := va_join (wr := []) (w1 := [(m0, .inr (2, [.int (er_th true true), .ref a1, .ref a2, .ref a3, .ref a4, .ref a5, .int lf, .int tp, .int wd, .int hg, .int (er_b wk), .int lk, .int (er_b cv), .int mx, .int my]))]) hP hD [0] [] rfl rfl (by decide) (by decide) hk1 hFc hP1 hD1
      have hK := (hK.sub (tys' := []) [] rfl).app hK1
      generalize H1 = H at hP hS ⊢
      have hP : va_P (dC, dI) classes [(m0, .inr (2, [.int (er_th true true), .ref a1, .ref a2, .ref a3, .ref a4, .ref a5, .int lf, .int tp, .int wd, .int hg, .int (er_b wk), .int lk, .int (er_b cv), .int mx, .int my]))] H := hP
      have hD : va_D A [(m0, .inr (2, [.int (er_th true true), .ref a1, .ref a2, .ref a3, .ref a4, .ref a5, .int lf, .int tp, .int wd, .int hg, .int (er_b wk), .int lk, .int (er_b cv), .int mx, .int my]))] := hD
      have hK : va_K (dC, dI) classes [] s := hK
      obtain rfl : er_b (true || true) = r_4 := Eq.symm hw
      refine lv_if_eq (tgt := 42) hx hb d_M_weight_37 (by decide) (fun c_5 => absurd c_5 (by decide)) (fun _ => ?_)
      refine lv_lconst (v := 0) hx hb d_M_weight_40 (by decide) ?_
      have hP9 := hP.sub (ws' := [(m0, .inr (2, [.int (er_th true true), .ref a1, .ref a2, .ref a3, .ref a4, .ref a5, .int lf, .int tp, .int wd, .int hg, .int (er_b wk), .int lk, .int (er_b cv), .int mx, .int my]))]) [0] rfl
      have hD9 := hD.sub (ws' := [(m0, .inr (2, [.int (er_th true true), .ref a1, .ref a2, .ref a3, .ref a4, .ref a5, .int lf, .int tp, .int wd, .int hg, .int (er_b wk), .int lk, .int (er_b cv), .int mx, .int my]))]) [0] (by decide) rfl
      have hK9 := hK.sub (tys' := []) [] rfl
      have hP9 : va_P (dC, dI) classes [(m0, .inr (2, [.int 1, .ref a1, .ref a2, .ref a3, .ref a4, .ref a5, .int lf, .int tp, .int wd, .int hg, .int (er_b wk), .int lk, .int (er_b cv), .int mx, .int my]))] H := by skip; exact hP9
      have hD9 : va_D A [(m0, .inr (2, [.int 1, .ref a1, .ref a2, .ref a3, .ref a4, .ref a5, .int lf, .int tp, .int wd, .int hg, .int (er_b wk), .int lk, .int (er_b cv), .int mx, .int my]))] := by skip; exact hD9
      exact W.lret (v := 0) hx hb hr (fun u9 ht hW => ⟨⟨_, (), rfl, trivial, ⟨by rw [ht]; exact hP9, va_K.moved hW.alike hK9, hD9⟩⟩, hS.F ht⟩) hS.2.2 d_M_weight_41
    · have c_3 := er_b_n.mp c_3
      refine lv_aload_n hx hb d_M_weight_22 rfl (lv_at hl 0 rfl) ?_
      refine va_get (D := (dC, dI)) (ci := 2) (v := .int (er_b cv)) (C := R_M) (T := F_M) (N := 15) hx hb hts i_M hown hK hP 0 rfl rfl 12 (by decide) (hts _ k_318) (fun _ h9 => h9) rfl d_M_weight_23 ?_
      refine lv_if_ne (tgt := 33) hx hb d_M_weight_26 (by decide) (fun c_6 => ?_) (fun c_6 => ?_)
      · have c_6 := er_b_n.mp c_6
        refine lv_iconst (v := 0) hx hb d_M_weight_33 (by decide) ?_
        have hPc := hP.sub (ws' := [(m0, .inr (2, [.int th, .ref a1, .ref a2, .ref a3, .ref a4, .ref a5, .int lf, .int tp, .int wd, .int hg, .int (er_b wk), .int lk, .int (er_b cv), .int mx, .int my]))]) [0] rfl
        have hDc := hD.sub (ws' := [(m0, .inr (2, [.int th, .ref a1, .ref a2, .ref a3, .ref a4, .ref a5, .int lf, .int tp, .int wd, .int hg, .int (er_b wk), .int lk, .int (er_b cv), .int mx, .int my]))]) [0] (by decide) rfl
        have hKc := hK.sub (tys' := []) [] rfl
        have hFc := va_free (wc := [(m0, .inr (2, [.int th, .ref a1, .ref a2, .ref a3, .ref a4, .ref a5, .int lf, .int tp, .int wd, .int hg, .int (er_b wk), .int lk, .int (er_b cv), .int mx, .int my]))]) hD hS hA [0] rfl
        refine va_calli (va_runV (As := [.int 1, .int 0]) (rest := []) ⟨hx, hb, hml, hown, hts⟩ (c_M_refuse l dC dI m0 a1 a2 a3 a4 a5 th lf tp wd hg (er_b wk) lk (er_b cv) mx my true false s.heap.size) (cwV 2 hts (er_gV k_365 k_366 k_10 k_20 k_367) rfl rfl rfl (by decide +kernel) ⟨Nat.le_of_ble_eq_true rfl, Nat.le_of_ble_eq_true rfl⟩) ⟨PI.blind, va_recv hKc hPc (ci := 2) (q0 := 0) rfl rfl, PI.at hN hKc hPc hDc⟩ rfl rfl hl.1 rfl (lv_room (Nat.le_of_ble_eq_true rfl)) d_M_weight_34 ⟨Nat.le_of_ble_eq_true rfl, Nat.le_of_ble_eq_true rfl⟩) hS (fun q _ h => hFc q h) hFc (fun r_7 u t H1 locs ht hvm hw hB hz1 hk1 hS => ?_)
        obtain ⟨hP1, hK1, hD1⟩ := hB
        rw [ht] at hP1
        have hK1 := va_K.moved hvm.symm hK1
        obtain ⟨hP, hD⟩ := va_join (wr := []) (w1 := [(m0, .inr (2, [.int (er_th true false), .ref a1, .ref a2, .ref a3, .ref a4, .ref a5, .int lf, .int tp, .int wd, .int hg, .int (er_b wk), .int lk, .int (er_b cv), .int mx, .int my]))]) hP hD [0] [] rfl rfl (by decide) (by decide) hk1 hFc hP1 hD1
        have hK := (hK.sub (tys' := []) [] rfl).app hK1
        generalize H1 = H at hP hS ⊢
        have hP : va_P (dC, dI) classes [(m0, .inr (2, [.int (er_th true false), .ref a1, .ref a2, .ref a3, .ref a4, .ref a5, .int lf, .int tp, .int wd, .int hg, .int (er_b wk), .int lk, .int (er_b cv), .int mx, .int my]))] H := hP
        have hD : va_D A [(m0, .inr (2, [.int (er_th true false), .ref a1, .ref a2, .ref a3, .ref a4, .ref a5, .int lf, .int tp, .int wd, .int hg, .int (er_b wk), .int lk, .int (er_b cv), .int mx, .int my]))] := hD
        have hK : va_K (dC, dI) classes [] s := hK
        obtain rfl : er_b (true || false) = r_7 := Eq.symm hw
        refine lv_if_eq (tgt := 42) hx hb d_M_weight_37 (by decide) (fun c_8 => absurd c_8 (by decide)) (fun _ => ?_)
        refine lv_lconst (v := 0) hx hb d_M_weight_40 (by decide) ?_
        have hP9 := hP.sub (ws' := [(m0, .inr (2, [.int (er_th true false), .ref a1, .ref a2, .ref a3, .ref a4, .ref a5, .int lf, .int tp, .int wd, .int hg, .int (er_b wk), .int lk, .int (er_b cv), .int mx, .int my]))]) [0] rfl
        have hD9 := hD.sub (ws' := [(m0, .inr (2, [.int (er_th true false), .ref a1, .ref a2, .ref a3, .ref a4, .ref a5, .int lf, .int tp, .int wd, .int hg, .int (er_b wk), .int lk, .int (er_b cv), .int mx, .int my]))]) [0] (by decide) rfl
        have hK9 := hK.sub (tys' := []) [] rfl
        have hP9 : va_P (dC, dI) classes [(m0, .inr (2, [.int 1, .ref a1, .ref a2, .ref a3, .ref a4, .ref a5, .int lf, .int tp, .int wd, .int hg, .int (er_b wk), .int lk, .int (er_b cv), .int mx, .int my]))] H := by skip; exact hP9
        have hD9 : va_D A [(m0, .inr (2, [.int 1, .ref a1, .ref a2, .ref a3, .ref a4, .ref a5, .int lf, .int tp, .int wd, .int hg, .int (er_b wk), .int lk, .int (er_b cv), .int mx, .int my]))] := by skip; exact hD9
        exact W.lret (v := 0) hx hb hr (fun u9 ht hW => ⟨⟨_, (), rfl, trivial, ⟨by rw [ht]; exact hP9, va_K.moved hW.alike hK9, hD9⟩⟩, hS.F ht⟩) hS.2.2 d_M_weight_41
      · have c_6 := er_b_0.mp c_6
        refine lv_iconst (v := 1) hx hb d_M_weight_29 (by decide) ?_
        refine lv_goto (tgt := 34) hx hb d_M_weight_30 (by decide) ?_
        have hPc := hP.sub (ws' := [(m0, .inr (2, [.int th, .ref a1, .ref a2, .ref a3, .ref a4, .ref a5, .int lf, .int tp, .int wd, .int hg, .int (er_b wk), .int lk, .int (er_b cv), .int mx, .int my]))]) [0] rfl
        have hDc := hD.sub (ws' := [(m0, .inr (2, [.int th, .ref a1, .ref a2, .ref a3, .ref a4, .ref a5, .int lf, .int tp, .int wd, .int hg, .int (er_b wk), .int lk, .int (er_b cv), .int mx, .int my]))]) [0] (by decide) rfl
        have hKc := hK.sub (tys' := []) [] rfl
        have hFc := va_free (wc := [(m0, .inr (2, [.int th, .ref a1, .ref a2, .ref a3, .ref a4, .ref a5, .int lf, .int tp, .int wd, .int hg, .int (er_b wk), .int lk, .int (er_b cv), .int mx, .int my]))]) hD hS hA [0] rfl
        refine va_calli (va_runV (As := [.int 1, .int 1]) (rest := []) ⟨hx, hb, hml, hown, hts⟩ (c_M_refuse l dC dI m0 a1 a2 a3 a4 a5 th lf tp wd hg (er_b wk) lk (er_b cv) mx my true true s.heap.size) (cwV 2 hts (er_gV k_365 k_366 k_10 k_20 k_367) rfl rfl rfl (by decide +kernel) ⟨Nat.le_of_ble_eq_true rfl, Nat.le_of_ble_eq_true rfl⟩) ⟨PI.blind, va_recv hKc hPc (ci := 2) (q0 := 0) rfl rfl, PI.at hN hKc hPc hDc⟩ rfl rfl hl.1 rfl (lv_room (Nat.le_of_ble_eq_true rfl)) d_M_weight_34 ⟨Nat.le_of_ble_eq_true rfl, Nat.le_of_ble_eq_true rfl⟩) hS (fun q _ h => hFc q h) hFc (fun r_9 u t H1 locs ht hvm hw hB hz1 hk1 hS => ?_)
        obtain ⟨hP1, hK1, hD1⟩ := hB
        rw [ht] at hP1
        have hK1 := va_K.moved hvm.symm hK1
        obtain ⟨hP, hD⟩ := va_join (wr := []) (w1 := [(m0, .inr (2, [.int (er_th true true), .ref a1, .ref a2, .ref a3, .ref a4, .ref a5, .int lf, .int tp, .int wd, .int hg, .int (er_b wk), .int lk, .int (er_b cv), .int mx, .int my]))]) hP hD [0] [] rfl rfl (by decide) (by decide) hk1 hFc hP1 hD1
        have hK := (hK.sub (tys' := []) [] rfl).app hK1
        generalize H1 = H at hP hS ⊢
        have hP : va_P (dC, dI) classes [(m0, .inr (2, [.int (er_th true true), .ref a1, .ref a2, .ref a3, .ref a4, .ref a5, .int lf, .int tp, .int wd, .int hg, .int (er_b wk), .int lk, .int (er_b cv), .int mx, .int my]))] H := hP
        have hD : va_D A [(m0, .inr (2, [.int (er_th true true), .ref a1, .ref a2, .ref a3, .ref a4, .ref a5, .int lf, .int tp, .int wd, .int hg, .int (er_b wk), .int lk, .int (er_b cv), .int mx, .int my]))] := hD
        have hK : va_K (dC, dI) classes [] s := hK
        obtain rfl : er_b (true || true) = r_9 := Eq.symm hw
        refine lv_if_eq (tgt := 42) hx hb d_M_weight_37 (by decide) (fun c_10 => absurd c_10 (by decide)) (fun _ => ?_)
        refine lv_lconst (v := 0) hx hb d_M_weight_40 (by decide) ?_
        have hP9 := hP.sub (ws' := [(m0, .inr (2, [.int (er_th true true), .ref a1, .ref a2, .ref a3, .ref a4, .ref a5, .int lf, .int tp, .int wd, .int hg, .int (er_b wk), .int lk, .int (er_b cv), .int mx, .int my]))]) [0] rfl
        have hD9 := hD.sub (ws' := [(m0, .inr (2, [.int (er_th true true), .ref a1, .ref a2, .ref a3, .ref a4, .ref a5, .int lf, .int tp, .int wd, .int hg, .int (er_b wk), .int lk, .int (er_b cv), .int mx, .int my]))]) [0] (by decide) rfl
        have hK9 := hK.sub (tys' := []) [] rfl
        have hP9 : va_P (dC, dI) classes [(m0, .inr (2, [.int 1, .ref a1, .ref a2, .ref a3, .ref a4, .ref a5, .int lf, .int tp, .int wd, .int hg, .int (er_b wk), .int lk, .int (er_b cv), .int mx, .int my]))] H := by skip; exact hP9
        have hD9 : va_D A [(m0, .inr (2, [.int 1, .ref a1, .ref a2, .ref a3, .ref a4, .ref a5, .int lf, .int tp, .int wd, .int hg, .int (er_b wk), .int lk, .int (er_b cv), .int mx, .int my]))] := by skip; exact hD9
        exact W.lret (v := 0) hx hb hr (fun u9 ht hW => ⟨⟨_, (), rfl, trivial, ⟨by rw [ht]; exact hP9, va_K.moved hW.alike hK9, hD9⟩⟩, hS.F ht⟩) hS.2.2 d_M_weight_41

set_option maxHeartbeats 1000000 in
set_option maxRecDepth 100000 in
theorem c_M_weightY (l : Launch) (dC : Nat → ClassId) (dI : Nat → Nat → Nat) (m0 a1 a2 a3 a4 a5 : Nat) (th lf tp wd hg lk mx my : Int32) (wk cv : Bool) (p0 : Int32) (u0 : er_win p0 0 2 = true) (hv : (wk && cv) = false) (sz : Nat) : Met l y_M_weight w_M_weight ({ frames := 1, cells := 0, slots := 0, locals := 22 }) (va_Pc [.ref m0, .int p0] (PI dC dI [] [(m0, .inr (2, [.int th, .ref a1, .ref a2, .ref a3, .ref a4, .ref a5, .int lf, .int tp, .int wd, .int hg, .int (er_b wk), .int lk, .int (er_b cv), .int mx, .int my]))] sz)) (va_Ql (fun (r : Int64) (u : Unit) => True) (fun (u : Unit) t => EI dC dI [] [(m0, .inr (2, [.int 2, .ref a1, .ref a2, .ref a3, .ref a4, .ref a5, .int lf, .int tp, .int wd, .int hg, .int (er_b wk), .int lk, .int (er_b cv), .int mx, .int my]))] (va_A [(m0, .inr (2, [.int th, .ref a1, .ref a2, .ref a3, .ref a4, .ref a5, .int lf, .int tp, .int wd, .int hg, .int (er_b wk), .int lk, .int (er_b cv), .int mx, .int my]))] sz) t) (va_A [(m0, .inr (2, [.int th, .ref a1, .ref a2, .ref a3, .ref a4, .ref a5, .int lf, .int tp, .int wd, .int hg, .int (er_b wk), .int lk, .int (er_b cv), .int mx, .int my]))] sz)) 0 0 (va_A [(m0, .inr (2, [.int th, .ref a1, .ref a2, .ref a3, .ref a4, .ref a5, .int lf, .int tp, .int wd, .int hg, .int (er_b wk), .int lk, .int (er_b cv), .int mx, .int my]))] sz) := by
  refine Met.ofW (cc := b_M_weight) (maxL := 2) (ret := (some .long)) (by decide +kernel) rfl ?_
  intro p e s m args below meth c s₁ B hml hv
  obtain ⟨rfl, hsz, hN, hK, hP, hD0⟩ := hv
  have hx := B.exec
  have hb := B.bytes
  have hr := B.returns
  have hts := er_hts (atoms_spec (ws := w_M_weight) B.pre)
  have hown : s.vm.findClass R_M = some m.cls := findClass_of_methodNamed B.named
  have hlocks := B.notSynchronized
  subst hsz
  have hD := hD0.self (sz := s.heap.size)
  generalize hAe : va_A [(m0, .inr (2, [.int th, .ref a1, .ref a2, .ref a3, .ref a4, .ref a5, .int lf, .int tp, .int wd, .int hg, .int (er_b wk), .int lk, .int (er_b cv), .int mx, .int my]))] s.heap.size = A at hD ⊢
  have hA : ∀ q : Nat, s.heap.size ≤ q → A q := fun q h => by rw [← hAe]; exact Or.inr h
  have hS : va_S A s.heap s.heap [] := va_S.rf
  have hP : va_P (dC, dI) classes [(m0, .inr (2, [.int th, .ref a1, .ref a2, .ref a3, .ref a4, .ref a5, .int lf, .int tp, .int wd, .int hg, .int (er_b wk), .int lk, .int (er_b cv), .int mx, .int my]))] s.heap := hP
  have hl := lv_entry ([.ref m0, .int p0]) (n := 2) (Nat.le_of_ble_eq_true rfl)
  rw [lg_entry_eq]
  generalize (lg_sl ([.ref m0, .int p0]) ++ List.replicate (2 - (lg_sl ([.ref m0, .int p0])).length) Slot.unset).toArray = ls at hl ⊢
  have hl : lv_has ls 2 [(0, .ref m0), (1, .int p0)] := hl
  refine lv_aload_n hx hb d_M_weight_0 rfl (lv_at hl 0 rfl) ?_
  refine lv_iload_n hx hb d_M_weight_1 rfl (lv_at hl 1 rfl) ?_
  refine lv_iconst (v := 0) hx hb d_M_weight_2 (by decide) ?_
  refine lv_iconst (v := 2) hx hb d_M_weight_3 (by decide) ?_
  have hPc := hP.sub (ws' := []) [] rfl
  have hKc := hK.sub (tys' := []) [] rfl
  refine vp_callSi (va_runS (As := [.int p0, .int 0, .int 2]) (rest := [.ref m0]) ⟨hx, hb, hml, hown, hts⟩ (c_M_in l dC dI p0 0 2) (va_cwS 3 hts (er_gS k_360 k_361 k_20 k_362) rfl rfl rfl (by decide +kernel) ⟨Nat.le_of_ble_eq_true rfl, Nat.le_of_ble_eq_true rfl⟩) ⟨PP.blind, PP.at hN hKc hPc⟩ rfl rfl hl.1 rfl (lv_room (Nat.le_of_ble_eq_true rfl)) d_M_weight_4 ⟨Nat.zero_le _, Nat.zero_le _⟩).run (fun r_1 hr_1 => ?_)
  obtain rfl : er_b (er_win p0 0 2) = r_1 := Eq.symm hr_1
  refine lv_if_ne (tgt := 14) hx hb d_M_weight_7 (by decide) (fun c_2 => ?_) (fun c_2 => ?_)
  · have c_2 := er_b_n.mp c_2
    refine lv_iconst (v := 0) hx hb d_M_weight_14 (by decide) ?_
    refine lv_aload_n hx hb d_M_weight_15 rfl (lv_at hl 0 rfl) ?_
    refine va_get (D := (dC, dI)) (ci := 2) (v := .int (er_b wk)) (C := R_M) (T := F_M) (N := 15) hx hb hts i_M hown hK hP 0 rfl rfl 10 (by decide) (hts _ k_316) (fun _ h9 => h9) rfl d_M_weight_16 ?_
    refine lv_if_eq (tgt := 29) hx hb d_M_weight_19 (by decide) (fun c_3 => ?_) (fun c_3 => ?_)
    · have c_3 := er_b_0.mp c_3
      refine lv_iconst (v := 1) hx hb d_M_weight_29 (by decide) ?_
      refine lv_goto (tgt := 34) hx hb d_M_weight_30 (by decide) ?_
      have hPc := hP.sub (ws' := [(m0, .inr (2, [.int th, .ref a1, .ref a2, .ref a3, .ref a4, .ref a5, .int lf, .int tp, .int wd, .int hg, .int (er_b wk), .int lk, .int (er_b cv), .int mx, .int my]))]) [0] rfl
      have hDc := hD.sub (ws' := [(m0, .inr (2, [.int th, .ref a1, .ref a2, .ref a3, .ref a4, .ref a5, .int lf, .int tp, .int wd, .int hg, .int (er_b wk), .int lk, .int (er_b cv), .int mx, .int my]))]) [0] (by decide) rfl
      have hKc := hK.sub (tys' := []) [] rfl
      have hFc := va_free (wc := [(m0, .inr (2, [.int th, .ref a1, .ref a2, .ref a3, .ref a4, .ref a5, .int lf, .int tp, .int wd, .int hg, .int (er_b wk), .int lk, .int (er_b cv), .int mx, .int my]))]) hD hS hA [0] rfl
      refine va_calli (va_runV (As := [.int 0, .int 1]) (rest := []) ⟨hx, hb, hml, hown, hts⟩ (c_M_refuse l dC dI m0 a1 a2 a3 a4 a5 th lf tp wd hg (er_b wk) lk (er_b cv) mx my false true s.heap.size) (cwV 2 hts (er_gV k_365 k_366 k_10 k_20 k_367) rfl rfl rfl (by decide +kernel) ⟨Nat.le_of_ble_eq_true rfl, Nat.le_of_ble_eq_true rfl⟩) ⟨PI.blind, va_recv hKc hPc (ci := 2) (q0 := 0) rfl rfl, PI.at hN hKc hPc hDc⟩ rfl rfl hl.1 rfl (lv_room (Nat.le_of_ble_eq_true rfl)) d_M_weight_34 ⟨Nat.le_of_ble_eq_true rfl, Nat.le_of_ble_eq_true rfl⟩) hS (fun q _ h => hFc q h) hFc (fun r_4 u t H1 locs ht hvm hw hB hz1 hk1 hS => ?_)
      obtain ⟨hP1, hK1, hD1⟩ := hB
      rw [ht] at hP1
      have hK1 := va_K.moved hvm.symm hK1
      obtain ⟨hP, hD⟩ := va_join (wr := []) (w1 := [(m0, .inr (2, [.int (er_th false true), .ref a1, .ref a2, .ref a3, .ref a4, .ref a5, .int lf, .int tp, .int wd, .int hg, .int (er_b wk), .int lk, .int (er_b cv), .int mx, .int my]))]) hP hD [0] [] rfl rfl (by decide) (by decide) hk1 hFc hP1 hD1
      have hK := (hK.sub (tys' := []) [] rfl).app hK1
      generalize H1 = H at hP hS ⊢
      have hP : va_P (dC, dI) classes [(m0, .inr (2, [.int (er_th false true), .ref a1, .ref a2, .ref a3, .ref a4, .ref a5, .int lf, .int tp, .int wd, .int hg, .int (er_b wk), .int lk, .int (er_b cv), .int mx, .int my]))] H := hP
      have hD : va_D A [(m0, .inr (2, [.int (er_th false true), .ref a1, .ref a2, .ref a3, .ref a4, .ref a5, .int lf, .int tp, .int wd, .int hg, .int (er_b wk), .int lk, .int (er_b cv), .int mx, .int my]))] := hD
      have hK : va_K (dC, dI) classes [] s := hK
      obtain rfl : er_b (false || true) = r_4 := Eq.symm hw
      refine lv_if_eq (tgt := 42) hx hb d_M_weight_37 (by decide) (fun c_5 => absurd c_5 (by decide)) (fun _ => ?_)
      refine lv_lconst (v := 0) hx hb d_M_weight_40 (by decide) ?_
      have hP9 := hP.sub (ws' := [(m0, .inr (2, [.int (er_th false true), .ref a1, .ref a2, .ref a3, .ref a4, .ref a5, .int lf, .int tp, .int wd, .int hg, .int (er_b wk), .int lk, .int (er_b cv), .int mx, .int my]))]) [0] rfl
      have hD9 := hD.sub (ws' := [(m0, .inr (2, [.int (er_th false true), .ref a1, .ref a2, .ref a3, .ref a4, .ref a5, .int lf, .int tp, .int wd, .int hg, .int (er_b wk), .int lk, .int (er_b cv), .int mx, .int my]))]) [0] (by decide) rfl
      have hK9 := hK.sub (tys' := []) [] rfl
      have hP9 : va_P (dC, dI) classes [(m0, .inr (2, [.int 2, .ref a1, .ref a2, .ref a3, .ref a4, .ref a5, .int lf, .int tp, .int wd, .int hg, .int (er_b wk), .int lk, .int (er_b cv), .int mx, .int my]))] H := by skip; exact hP9
      have hD9 : va_D A [(m0, .inr (2, [.int 2, .ref a1, .ref a2, .ref a3, .ref a4, .ref a5, .int lf, .int tp, .int wd, .int hg, .int (er_b wk), .int lk, .int (er_b cv), .int mx, .int my]))] := by skip; exact hD9
      exact W.lret (v := 0) hx hb hr (fun u9 ht hW => ⟨⟨_, (), rfl, trivial, ⟨by rw [ht]; exact hP9, va_K.moved hW.alike hK9, hD9⟩⟩, hS.F ht⟩) hS.2.2 d_M_weight_41
    · have c_3 := er_b_n.mp c_3
      refine lv_aload_n hx hb d_M_weight_22 rfl (lv_at hl 0 rfl) ?_
      refine va_get (D := (dC, dI)) (ci := 2) (v := .int (er_b cv)) (C := R_M) (T := F_M) (N := 15) hx hb hts i_M hown hK hP 0 rfl rfl 12 (by decide) (hts _ k_318) (fun _ h9 => h9) rfl d_M_weight_23 ?_
      refine lv_if_ne (tgt := 33) hx hb d_M_weight_26 (by decide) (fun c_6 => ?_) (fun c_6 => ?_)
      · have c_6 := er_b_n.mp c_6
        exfalso
        simp_all
      · have c_6 := er_b_0.mp c_6
        refine lv_iconst (v := 1) hx hb d_M_weight_29 (by decide) ?_
        refine lv_goto (tgt := 34) hx hb d_M_weight_30 (by decide) ?_
        have hPc := hP.sub (ws' := [(m0, .inr (2, [.int th, .ref a1, .ref a2, .ref a3, .ref a4, .ref a5, .int lf, .int tp, .int wd, .int hg, .int (er_b wk), .int lk, .int (er_b cv), .int mx, .int my]))]) [0] rfl
        have hDc := hD.sub (ws' := [(m0, .inr (2, [.int th, .ref a1, .ref a2, .ref a3, .ref a4, .ref a5, .int lf, .int tp, .int wd, .int hg, .int (er_b wk), .int lk, .int (er_b cv), .int mx, .int my]))]) [0] (by decide) rfl
        have hKc := hK.sub (tys' := []) [] rfl
        have hFc := va_free (wc := [(m0, .inr (2, [.int th, .ref a1, .ref a2, .ref a3, .ref a4, .ref a5, .int lf, .int tp, .int wd, .int hg, .int (er_b wk), .int lk, .int (er_b cv), .int mx, .int my]))]) hD hS hA [0] rfl
        refine va_calli (va_runV (As := [.int 0, .int 1]) (rest := []) ⟨hx, hb, hml, hown, hts⟩ (c_M_refuse l dC dI m0 a1 a2 a3 a4 a5 th lf tp wd hg (er_b wk) lk (er_b cv) mx my false true s.heap.size) (cwV 2 hts (er_gV k_365 k_366 k_10 k_20 k_367) rfl rfl rfl (by decide +kernel) ⟨Nat.le_of_ble_eq_true rfl, Nat.le_of_ble_eq_true rfl⟩) ⟨PI.blind, va_recv hKc hPc (ci := 2) (q0 := 0) rfl rfl, PI.at hN hKc hPc hDc⟩ rfl rfl hl.1 rfl (lv_room (Nat.le_of_ble_eq_true rfl)) d_M_weight_34 ⟨Nat.le_of_ble_eq_true rfl, Nat.le_of_ble_eq_true rfl⟩) hS (fun q _ h => hFc q h) hFc (fun r_7 u t H1 locs ht hvm hw hB hz1 hk1 hS => ?_)
        obtain ⟨hP1, hK1, hD1⟩ := hB
        rw [ht] at hP1
        have hK1 := va_K.moved hvm.symm hK1
        obtain ⟨hP, hD⟩ := va_join (wr := []) (w1 := [(m0, .inr (2, [.int (er_th false true), .ref a1, .ref a2, .ref a3, .ref a4, .ref a5, .int lf, .int tp, .int wd, .int hg, .int (er_b wk), .int lk, .int (er_b cv), .int mx, .int my]))]) hP hD [0] [] rfl rfl (by decide) (by decide) hk1 hFc hP1 hD1
        have hK := (hK.sub (tys' := []) [] rfl).app hK1
        generalize H1 = H at hP hS ⊢
        have hP : va_P (dC, dI) classes [(m0, .inr (2, [.int (er_th false true), .ref a1, .ref a2, .ref a3, .ref a4, .ref a5, .int lf, .int tp, .int wd, .int hg, .int (er_b wk), .int lk, .int (er_b cv), .int mx, .int my]))] H := hP
        have hD : va_D A [(m0, .inr (2, [.int (er_th false true), .ref a1, .ref a2, .ref a3, .ref a4, .ref a5, .int lf, .int tp, .int wd, .int hg, .int (er_b wk), .int lk, .int (er_b cv), .int mx, .int my]))] := hD
        have hK : va_K (dC, dI) classes [] s := hK
        obtain rfl : er_b (false || true) = r_7 := Eq.symm hw
        refine lv_if_eq (tgt := 42) hx hb d_M_weight_37 (by decide) (fun c_8 => absurd c_8 (by decide)) (fun _ => ?_)
        refine lv_lconst (v := 0) hx hb d_M_weight_40 (by decide) ?_
        have hP9 := hP.sub (ws' := [(m0, .inr (2, [.int (er_th false true), .ref a1, .ref a2, .ref a3, .ref a4, .ref a5, .int lf, .int tp, .int wd, .int hg, .int (er_b wk), .int lk, .int (er_b cv), .int mx, .int my]))]) [0] rfl
        have hD9 := hD.sub (ws' := [(m0, .inr (2, [.int (er_th false true), .ref a1, .ref a2, .ref a3, .ref a4, .ref a5, .int lf, .int tp, .int wd, .int hg, .int (er_b wk), .int lk, .int (er_b cv), .int mx, .int my]))]) [0] (by decide) rfl
        have hK9 := hK.sub (tys' := []) [] rfl
        have hP9 : va_P (dC, dI) classes [(m0, .inr (2, [.int 2, .ref a1, .ref a2, .ref a3, .ref a4, .ref a5, .int lf, .int tp, .int wd, .int hg, .int (er_b wk), .int lk, .int (er_b cv), .int mx, .int my]))] H := by skip; exact hP9
        have hD9 : va_D A [(m0, .inr (2, [.int 2, .ref a1, .ref a2, .ref a3, .ref a4, .ref a5, .int lf, .int tp, .int wd, .int hg, .int (er_b wk), .int lk, .int (er_b cv), .int mx, .int my]))] := by skip; exact hD9
        exact W.lret (v := 0) hx hb hr (fun u9 ht hW => ⟨⟨_, (), rfl, trivial, ⟨by rw [ht]; exact hP9, va_K.moved hW.alike hK9, hD9⟩⟩, hS.F ht⟩) hS.2.2 d_M_weight_41
  · have c_2 := er_b_0.mp c_2
    exact absurd c_2 (by simp_all)

set_option maxHeartbeats 1000000 in
set_option maxRecDepth 100000 in
theorem c_M_depth (l : Launch) (dC : Nat → ClassId) (dI : Nat → Nat → Nat) (m0 a1 a2 a3 a4 a5 : Nat) (g1 g2 g3 : ClassId) (X Y D : Nat → Int32) (th lf tp wd hg lk mx my : Int32) (hsz : ¬ er_sz X Y = 0) (sz : Nat) : Met l y_M_depth w_M_depth ({ frames := 4, cells := 0, slots := 0, locals := 92 }) (va_Pc [.ref m0] (PI dC dI [(g1, .int), (g2, .int), (g3, .int)] [(m0, .inr (2, [.int th, .ref a1, .ref a2, .ref a3, .ref a4, .ref a5, .int lf, .int tp, .int wd, .int hg, .int 1, .int lk, .int 1, .int mx, .int my])), (a1, .inl (g1, 3, .inl X)), (a2, .inl (g2, 3, .inl Y)), (a3, .inl (g3, 3, .inl D))] sz)) (va_Qi (fun (r : Int32) (u : Unit) => r = (er_down (er_ds X Y D mx my) (er_sz X Y)).toInt32) (fun (u : Unit) t => EI dC dI [(g1, .int), (g2, .int), (g3, .int)] [(m0, .inr (2, [.int (er_th false false), .ref a1, .ref a2, .ref a3, .ref a4, .ref a5, .int lf, .int tp, .int wd, .int hg, .int 1, .int lk, .int 1, .int mx, .int my])), (a1, .inl (g1, 3, .inl X)), (a2, .inl (g2, 3, .inl Y)), (a3, .inl (g3, 3, .inl D))] (va_A [(m0, .inr (2, [.int th, .ref a1, .ref a2, .ref a3, .ref a4, .ref a5, .int lf, .int tp, .int wd, .int hg, .int 1, .int lk, .int 1, .int mx, .int my])), (a1, .inl (g1, 3, .inl X)), (a2, .inl (g2, 3, .inl Y)), (a3, .inl (g3, 3, .inl D))] sz) t) (va_A [(m0, .inr (2, [.int th, .ref a1, .ref a2, .ref a3, .ref a4, .ref a5, .int lf, .int tp, .int wd, .int hg, .int 1, .int lk, .int 1, .int mx, .int my])), (a1, .inl (g1, 3, .inl X)), (a2, .inl (g2, 3, .inl Y)), (a3, .inl (g3, 3, .inl D))] sz)) 0 0 (va_A [(m0, .inr (2, [.int th, .ref a1, .ref a2, .ref a3, .ref a4, .ref a5, .int lf, .int tp, .int wd, .int hg, .int 1, .int lk, .int 1, .int mx, .int my])), (a1, .inl (g1, 3, .inl X)), (a2, .inl (g2, 3, .inl Y)), (a3, .inl (g3, 3, .inl D))] sz) := by
  refine Met.ofW (cc := b_M_depth) (maxL := 5) (ret := (some .int)) (by decide +kernel) rfl ?_
  intro p e s m args below meth c s₁ B hml hv
  obtain ⟨rfl, hsz, hN, hK, hP, hD0⟩ := hv
  have hx := B.exec
  have hb := B.bytes
  have hr := B.returns
  have hts := er_hts (atoms_spec (ws := w_M_depth) B.pre)
  have hown : s.vm.findClass R_M = some m.cls := findClass_of_methodNamed B.named
  have hlocks := B.notSynchronized
  subst hsz
  have hD := hD0.self (sz := s.heap.size)
  generalize hAe : va_A [(m0, .inr (2, [.int th, .ref a1, .ref a2, .ref a3, .ref a4, .ref a5, .int lf, .int tp, .int wd, .int hg, .int 1, .int lk, .int 1, .int mx, .int my])), (a1, .inl (g1, 3, .inl X)), (a2, .inl (g2, 3, .inl Y)), (a3, .inl (g3, 3, .inl D))] s.heap.size = A at hD ⊢
  have hA : ∀ q : Nat, s.heap.size ≤ q → A q := fun q h => by rw [← hAe]; exact Or.inr h
  have hS : va_S A s.heap s.heap [] := va_S.rf
  have hP : va_P (dC, dI) classes [(m0, .inr (2, [.int th, .ref a1, .ref a2, .ref a3, .ref a4, .ref a5, .int lf, .int tp, .int wd, .int hg, .int 1, .int lk, .int 1, .int mx, .int my])), (a1, .inl (g1, 3, .inl X)), (a2, .inl (g2, 3, .inl Y)), (a3, .inl (g3, 3, .inl D))] s.heap := hP
  have hl := lv_entry ([.ref m0]) (n := 5) (Nat.le_of_ble_eq_true rfl)
  rw [lg_entry_eq]
  generalize (lg_sl ([.ref m0]) ++ List.replicate (5 - (lg_sl ([.ref m0])).length) Slot.unset).toArray = ls at hl ⊢
  have hl : lv_has ls 5 [(0, .ref m0)] := hl
  refine lv_aload_n hx hb d_M_depth_0 rfl (lv_at hl 0 rfl) ?_
  refine lv_aload_n hx hb d_M_depth_1 rfl (lv_at hl 0 rfl) ?_
  refine va_get (D := (dC, dI)) (ci := 2) (v := .int 1) (C := R_M) (T := F_M) (N := 15) hx hb hts i_M hown hK hP 0 rfl rfl 10 (by decide) (hts _ k_316) (fun _ h9 => h9) rfl d_M_depth_2 ?_
  refine lv_if_eq (tgt := 15) hx hb d_M_depth_5 (by decide) (fun c_1 => absurd c_1 (by decide)) (fun _ => ?_)
  refine lv_aload_n hx hb d_M_depth_8 rfl (lv_at hl 0 rfl) ?_
  refine va_get (D := (dC, dI)) (ci := 2) (v := .int 1) (C := R_M) (T := F_M) (N := 15) hx hb hts i_M hown hK hP 0 rfl rfl 12 (by decide) (hts _ k_318) (fun _ h9 => h9) rfl d_M_depth_9 ?_
  refine lv_if_ne (tgt := 19) hx hb d_M_depth_12 (by decide) (fun _ => ?_) (fun c_2 => absurd c_2 (by decide))
  refine lv_iconst (v := 0) hx hb d_M_depth_19 (by decide) ?_
  refine lv_iconst (v := 0) hx hb d_M_depth_20 (by decide) ?_
  have hPc := hP.sub (ws' := [(m0, .inr (2, [.int th, .ref a1, .ref a2, .ref a3, .ref a4, .ref a5, .int lf, .int tp, .int wd, .int hg, .int 1, .int lk, .int 1, .int mx, .int my]))]) [0] rfl
  have hDc := hD.sub (ws' := [(m0, .inr (2, [.int th, .ref a1, .ref a2, .ref a3, .ref a4, .ref a5, .int lf, .int tp, .int wd, .int hg, .int 1, .int lk, .int 1, .int mx, .int my]))]) [0] (by decide) rfl
  have hKc := hK.sub (tys' := []) [] rfl
  have hFc := va_free (wc := [(m0, .inr (2, [.int th, .ref a1, .ref a2, .ref a3, .ref a4, .ref a5, .int lf, .int tp, .int wd, .int hg, .int 1, .int lk, .int 1, .int mx, .int my]))]) hD hS hA [0] rfl
  refine va_calli (va_runV (As := [.int 0, .int 0]) (rest := []) ⟨hx, hb, hml, hown, hts⟩ (c_M_refuse l dC dI m0 a1 a2 a3 a4 a5 th lf tp wd hg 1 lk 1 mx my false false s.heap.size) (cwV 2 hts (er_gV k_365 k_366 k_10 k_20 k_367) rfl rfl rfl (by decide +kernel) ⟨Nat.le_of_ble_eq_true rfl, Nat.le_of_ble_eq_true rfl⟩) ⟨PI.blind, va_recv hKc hPc (ci := 2) (q0 := 0) rfl rfl, PI.at hN hKc hPc hDc⟩ rfl rfl hl.1 rfl (lv_room (Nat.le_of_ble_eq_true rfl)) d_M_depth_21 ⟨Nat.le_of_ble_eq_true rfl, Nat.le_of_ble_eq_true rfl⟩) hS (fun q _ h => hFc q h) hFc (fun r_3 u t H1 locs ht hvm hw hB hz1 hk1 hS => ?_)
  obtain ⟨hP1, hK1, hD1⟩ := hB
  rw [ht] at hP1
  have hK1 := va_K.moved hvm.symm hK1
  obtain ⟨hP, hD⟩ := va_join (wr := [(a1, .inl (g1, 3, .inl X)), (a2, .inl (g2, 3, .inl Y)), (a3, .inl (g3, 3, .inl D))]) (w1 := [(m0, .inr (2, [.int (er_th false false), .ref a1, .ref a2, .ref a3, .ref a4, .ref a5, .int lf, .int tp, .int wd, .int hg, .int 1, .int lk, .int 1, .int mx, .int my]))]) hP hD [0] [1, 2, 3] rfl rfl (by decide) (by decide) hk1 hFc hP1 hD1
  have hK := (hK.sub (tys' := [(g1, .int), (g2, .int), (g3, .int)]) [0, 1, 2] rfl).app hK1
  generalize H1 = H at hP hS ⊢
  have hP : va_P (dC, dI) classes [(a1, .inl (g1, 3, .inl X)), (a2, .inl (g2, 3, .inl Y)), (a3, .inl (g3, 3, .inl D)), (m0, .inr (2, [.int (er_th false false), .ref a1, .ref a2, .ref a3, .ref a4, .ref a5, .int lf, .int tp, .int wd, .int hg, .int 1, .int lk, .int 1, .int mx, .int my]))] H := hP
  have hD : va_D A [(a1, .inl (g1, 3, .inl X)), (a2, .inl (g2, 3, .inl Y)), (a3, .inl (g3, 3, .inl D)), (m0, .inr (2, [.int (er_th false false), .ref a1, .ref a2, .ref a3, .ref a4, .ref a5, .int lf, .int tp, .int wd, .int hg, .int 1, .int lk, .int 1, .int mx, .int my]))] := hD
  have hK : va_K (dC, dI) classes [(g1, .int), (g2, .int), (g3, .int)] s := hK
  obtain rfl : er_b (false || false) = r_3 := Eq.symm hw
  refine lv_if_eq (tgt := 29) hx hb d_M_depth_24 (by decide) (fun _ => ?_) (fun c_4 => absurd c_4 (by decide))
  refine lv_lconst (v := 0) hx hb d_M_depth_29 (by decide) ?_
  refine lv_lstore_n (lv' := [(1, .long 0), (0, .ref m0)]) hx hb d_M_depth_30 rfl hl (by decide) rfl (fun ls hl => ?_)
  refine lv_iconst (v := 0) hx hb d_M_depth_31 (by decide) ?_
  refine lv_istore_n (lv' := [(3, .int 0), (1, .long 0), (0, .ref m0)]) hx hb d_M_depth_32 rfl hl (by decide) rfl (fun ls hl => ?_)
  refine lv_iload_n hx hb d_M_depth_33 rfl (lv_at hl 0 rfl) ?_
  refine lv_iconst (v := 3) hx hb d_M_depth_34 (by decide) ?_
  refine lv_icmp_ge (tgt := 68) hx hb d_M_depth_35 (by decide) (fun c_5 => absurd c_5 (by decide)) (fun _ => ?_)
  refine lv_lload_n hx hb d_M_depth_38 rfl (lv_at hl 1 rfl) ?_
  refine lv_aload_n hx hb d_M_depth_39 rfl (lv_at hl 2 rfl) ?_
  refine lv_iload_n hx hb d_M_depth_40 rfl (lv_at hl 0 rfl) ?_
  refine lv_aload_n hx hb d_M_depth_41 rfl (lv_at hl 2 rfl) ?_
  refine va_get (D := (dC, dI)) (ci := 2) (v := .int mx) (C := R_M) (T := F_M) (N := 15) hx hb hts i_M hown hK hP 3 rfl rfl 13 (by decide) (hts _ k_319) (fun _ h9 => h9) rfl d_M_depth_42 ?_
  refine lv_aload_n hx hb d_M_depth_45 rfl (lv_at hl 2 rfl) ?_
  refine va_get (D := (dC, dI)) (ci := 2) (v := .int my) (C := R_M) (T := F_M) (N := 15) hx hb hts i_M hown hK hP 3 rfl rfl 14 (by decide) (hts _ k_320) (fun _ h9 => h9) rfl d_M_depth_46 ?_
  have hPc := hP.sub (ws' := [(m0, .inr (2, [.int (er_th false false), .ref a1, .ref a2, .ref a3, .ref a4, .ref a5, .int lf, .int tp, .int wd, .int hg, .int 1, .int lk, .int 1, .int mx, .int my])), (a1, .inl (g1, 3, .inl X)), (a2, .inl (g2, 3, .inl Y))]) [3, 0, 1] rfl
  have hKc := hK.sub (tys' := [(g1, .int), (g2, .int)]) [0, 1] rfl
  refine vp_callSl (va_runV (As := [.int 0, .int mx, .int my]) (rest := [.long 0]) ⟨hx, hb, hml, hown, hts⟩ (c_M_weightOf l dC dI m0 a1 a2 a3 a4 a5 g1 g2 X Y (er_th false false) lf tp wd hg 1 lk 1 mx my 0 mx my (by first | assumption | omega | decide | exact er_fr_lt _ _ _ | exact er_to_lt _ _ _)) (cwV 3 hts (er_gV k_393 k_394 k_14 k_20 k_395) rfl rfl rfl (by decide +kernel) ⟨Nat.le_of_ble_eq_true rfl, Nat.le_of_ble_eq_true rfl⟩) ⟨PP.blind, va_recv hKc hPc (ci := 2) (q0 := 0) rfl rfl, PP.at hN hKc hPc⟩ rfl rfl hl.1 rfl (lv_room (Nat.le_of_ble_eq_true rfl)) d_M_depth_49 ⟨Nat.zero_le _, Nat.zero_le _⟩).run (fun r_6 hr_6 => ?_)
  obtain rfl : er_W X Y 0 mx my = r_6 := Eq.symm hr_6
  refine lv_aload_n hx hb d_M_depth_52 rfl (lv_at hl 2 rfl) ?_
  refine va_get (D := (dC, dI)) (ci := 2) (v := .ref a3) (C := R_M) (T := F_M) (N := 15) hx hb hts i_M hown hK hP 3 rfl rfl 3 (by decide) (hts _ k_309) (fun _ h9 => h9) rfl d_M_depth_53 ?_
  refine lv_iload_n hx hb d_M_depth_56 rfl (lv_at hl 0 rfl) ?_
  refine va_iald (i := 0) hx hb hK hP 2 2 rfl rfl (vp_in_nI (n := 0) (by decide) (by decide)) d_M_depth_57 ?_
  refine lv_i2l (v := (D 0).toInt64) hx hb d_M_depth_58 rfl ?_
  refine lv_lmul hx hb d_M_depth_59 ?_
  refine lv_ladd hx hb d_M_depth_60 ?_
  refine lv_lstore_n (lv' := [(1, .long (0 + ((er_W X Y 0 mx my) * ((D 0).toInt64)))), (3, .int 0), (0, .ref m0)]) hx hb d_M_depth_61 rfl hl (by decide) rfl (fun ls hl => ?_)
  refine lv_iinc (v := 1) (lv' := [(3, .int 1), (1, .long (0 + ((er_W X Y 0 mx my) * ((D 0).toInt64)))), (0, .ref m0)]) hx hb d_M_depth_62 hl (k := 1) rfl (by first | rfl | decide) (by decide) rfl (fun ls hl => ?_)
  refine lv_goto (tgt := 33) hx hb d_M_depth_65 (by decide) ?_
  refine lv_iload_n hx hb d_M_depth_33 rfl (lv_at hl 0 rfl) ?_
  refine lv_iconst (v := 3) hx hb d_M_depth_34 (by decide) ?_
  refine lv_icmp_ge (tgt := 68) hx hb d_M_depth_35 (by decide) (fun c_7 => absurd c_7 (by decide)) (fun _ => ?_)
  refine lv_lload_n hx hb d_M_depth_38 rfl (lv_at hl 1 rfl) ?_
  refine lv_aload_n hx hb d_M_depth_39 rfl (lv_at hl 2 rfl) ?_
  refine lv_iload_n hx hb d_M_depth_40 rfl (lv_at hl 0 rfl) ?_
  refine lv_aload_n hx hb d_M_depth_41 rfl (lv_at hl 2 rfl) ?_
  refine va_get (D := (dC, dI)) (ci := 2) (v := .int mx) (C := R_M) (T := F_M) (N := 15) hx hb hts i_M hown hK hP 3 rfl rfl 13 (by decide) (hts _ k_319) (fun _ h9 => h9) rfl d_M_depth_42 ?_
  refine lv_aload_n hx hb d_M_depth_45 rfl (lv_at hl 2 rfl) ?_
  refine va_get (D := (dC, dI)) (ci := 2) (v := .int my) (C := R_M) (T := F_M) (N := 15) hx hb hts i_M hown hK hP 3 rfl rfl 14 (by decide) (hts _ k_320) (fun _ h9 => h9) rfl d_M_depth_46 ?_
  have hPc := hP.sub (ws' := [(m0, .inr (2, [.int (er_th false false), .ref a1, .ref a2, .ref a3, .ref a4, .ref a5, .int lf, .int tp, .int wd, .int hg, .int 1, .int lk, .int 1, .int mx, .int my])), (a1, .inl (g1, 3, .inl X)), (a2, .inl (g2, 3, .inl Y))]) [3, 0, 1] rfl
  have hKc := hK.sub (tys' := [(g1, .int), (g2, .int)]) [0, 1] rfl
  refine vp_callSl (va_runV (As := [.int 1, .int mx, .int my]) (rest := [.long (0 + ((er_W X Y 0 mx my) * ((D 0).toInt64)))]) ⟨hx, hb, hml, hown, hts⟩ (c_M_weightOf l dC dI m0 a1 a2 a3 a4 a5 g1 g2 X Y (er_th false false) lf tp wd hg 1 lk 1 mx my 1 mx my (by first | assumption | omega | decide | exact er_fr_lt _ _ _ | exact er_to_lt _ _ _)) (cwV 3 hts (er_gV k_393 k_394 k_14 k_20 k_395) rfl rfl rfl (by decide +kernel) ⟨Nat.le_of_ble_eq_true rfl, Nat.le_of_ble_eq_true rfl⟩) ⟨PP.blind, va_recv hKc hPc (ci := 2) (q0 := 0) rfl rfl, PP.at hN hKc hPc⟩ rfl rfl hl.1 rfl (lv_room (Nat.le_of_ble_eq_true rfl)) d_M_depth_49 ⟨Nat.zero_le _, Nat.zero_le _⟩).run (fun r_8 hr_8 => ?_)
  obtain rfl : er_W X Y 1 mx my = r_8 := Eq.symm hr_8
  refine lv_aload_n hx hb d_M_depth_52 rfl (lv_at hl 2 rfl) ?_
  refine va_get (D := (dC, dI)) (ci := 2) (v := .ref a3) (C := R_M) (T := F_M) (N := 15) hx hb hts i_M hown hK hP 3 rfl rfl 3 (by decide) (hts _ k_309) (fun _ h9 => h9) rfl d_M_depth_53 ?_
  refine lv_iload_n hx hb d_M_depth_56 rfl (lv_at hl 0 rfl) ?_
  refine va_iald (i := 1) hx hb hK hP 2 2 rfl rfl (vp_in_nI (n := 1) (by decide) (by decide)) d_M_depth_57 ?_
  refine lv_i2l (v := (D 1).toInt64) hx hb d_M_depth_58 rfl ?_
  refine lv_lmul hx hb d_M_depth_59 ?_
  refine lv_ladd hx hb d_M_depth_60 ?_
  refine lv_lstore_n (lv' := [(1, .long ((0 + ((er_W X Y 0 mx my) * ((D 0).toInt64))) + ((er_W X Y 1 mx my) * ((D 1).toInt64)))), (3, .int 1), (0, .ref m0)]) hx hb d_M_depth_61 rfl hl (by decide) rfl (fun ls hl => ?_)
  refine lv_iinc (v := 2) (lv' := [(3, .int 2), (1, .long ((0 + ((er_W X Y 0 mx my) * ((D 0).toInt64))) + ((er_W X Y 1 mx my) * ((D 1).toInt64)))), (0, .ref m0)]) hx hb d_M_depth_62 hl (k := 1) rfl (by first | rfl | decide) (by decide) rfl (fun ls hl => ?_)
  refine lv_goto (tgt := 33) hx hb d_M_depth_65 (by decide) ?_
  refine lv_iload_n hx hb d_M_depth_33 rfl (lv_at hl 0 rfl) ?_
  refine lv_iconst (v := 3) hx hb d_M_depth_34 (by decide) ?_
  refine lv_icmp_ge (tgt := 68) hx hb d_M_depth_35 (by decide) (fun c_9 => absurd c_9 (by decide)) (fun _ => ?_)
  refine lv_lload_n hx hb d_M_depth_38 rfl (lv_at hl 1 rfl) ?_
  refine lv_aload_n hx hb d_M_depth_39 rfl (lv_at hl 2 rfl) ?_
  refine lv_iload_n hx hb d_M_depth_40 rfl (lv_at hl 0 rfl) ?_
  refine lv_aload_n hx hb d_M_depth_41 rfl (lv_at hl 2 rfl) ?_
  refine va_get (D := (dC, dI)) (ci := 2) (v := .int mx) (C := R_M) (T := F_M) (N := 15) hx hb hts i_M hown hK hP 3 rfl rfl 13 (by decide) (hts _ k_319) (fun _ h9 => h9) rfl d_M_depth_42 ?_
  refine lv_aload_n hx hb d_M_depth_45 rfl (lv_at hl 2 rfl) ?_
  refine va_get (D := (dC, dI)) (ci := 2) (v := .int my) (C := R_M) (T := F_M) (N := 15) hx hb hts i_M hown hK hP 3 rfl rfl 14 (by decide) (hts _ k_320) (fun _ h9 => h9) rfl d_M_depth_46 ?_
  have hPc := hP.sub (ws' := [(m0, .inr (2, [.int (er_th false false), .ref a1, .ref a2, .ref a3, .ref a4, .ref a5, .int lf, .int tp, .int wd, .int hg, .int 1, .int lk, .int 1, .int mx, .int my])), (a1, .inl (g1, 3, .inl X)), (a2, .inl (g2, 3, .inl Y))]) [3, 0, 1] rfl
  have hKc := hK.sub (tys' := [(g1, .int), (g2, .int)]) [0, 1] rfl
  refine vp_callSl (va_runV (As := [.int 2, .int mx, .int my]) (rest := [.long ((0 + ((er_W X Y 0 mx my) * ((D 0).toInt64))) + ((er_W X Y 1 mx my) * ((D 1).toInt64)))]) ⟨hx, hb, hml, hown, hts⟩ (c_M_weightOf l dC dI m0 a1 a2 a3 a4 a5 g1 g2 X Y (er_th false false) lf tp wd hg 1 lk 1 mx my 2 mx my (by first | assumption | omega | decide | exact er_fr_lt _ _ _ | exact er_to_lt _ _ _)) (cwV 3 hts (er_gV k_393 k_394 k_14 k_20 k_395) rfl rfl rfl (by decide +kernel) ⟨Nat.le_of_ble_eq_true rfl, Nat.le_of_ble_eq_true rfl⟩) ⟨PP.blind, va_recv hKc hPc (ci := 2) (q0 := 0) rfl rfl, PP.at hN hKc hPc⟩ rfl rfl hl.1 rfl (lv_room (Nat.le_of_ble_eq_true rfl)) d_M_depth_49 ⟨Nat.zero_le _, Nat.zero_le _⟩).run (fun r_10 hr_10 => ?_)
  obtain rfl : er_W X Y 2 mx my = r_10 := Eq.symm hr_10
  refine lv_aload_n hx hb d_M_depth_52 rfl (lv_at hl 2 rfl) ?_
  refine va_get (D := (dC, dI)) (ci := 2) (v := .ref a3) (C := R_M) (T := F_M) (N := 15) hx hb hts i_M hown hK hP 3 rfl rfl 3 (by decide) (hts _ k_309) (fun _ h9 => h9) rfl d_M_depth_53 ?_
  refine lv_iload_n hx hb d_M_depth_56 rfl (lv_at hl 0 rfl) ?_
  refine va_iald (i := 2) hx hb hK hP 2 2 rfl rfl (vp_in_nI (n := 2) (by decide) (by decide)) d_M_depth_57 ?_
  refine lv_i2l (v := (D 2).toInt64) hx hb d_M_depth_58 rfl ?_
  refine lv_lmul hx hb d_M_depth_59 ?_
  refine lv_ladd hx hb d_M_depth_60 ?_
  refine lv_lstore_n (lv' := [(1, .long (((0 + ((er_W X Y 0 mx my) * ((D 0).toInt64))) + ((er_W X Y 1 mx my) * ((D 1).toInt64))) + ((er_W X Y 2 mx my) * ((D 2).toInt64)))), (3, .int 2), (0, .ref m0)]) hx hb d_M_depth_61 rfl hl (by decide) rfl (fun ls hl => ?_)
  refine lv_iinc (v := 3) (lv' := [(3, .int 3), (1, .long (((0 + ((er_W X Y 0 mx my) * ((D 0).toInt64))) + ((er_W X Y 1 mx my) * ((D 1).toInt64))) + ((er_W X Y 2 mx my) * ((D 2).toInt64)))), (0, .ref m0)]) hx hb d_M_depth_62 hl (k := 1) rfl (by first | rfl | decide) (by decide) rfl (fun ls hl => ?_)
  refine lv_goto (tgt := 33) hx hb d_M_depth_65 (by decide) ?_
  refine lv_iload_n hx hb d_M_depth_33 rfl (lv_at hl 0 rfl) ?_
  refine lv_iconst (v := 3) hx hb d_M_depth_34 (by decide) ?_
  refine lv_icmp_ge (tgt := 68) hx hb d_M_depth_35 (by decide) (fun _ => ?_) (fun c_11 => absurd c_11 (by decide))
  refine lv_aload_n hx hb d_M_depth_68 rfl (lv_at hl 2 rfl) ?_
  have hPc := hP.sub (ws' := [(m0, .inr (2, [.int (er_th false false), .ref a1, .ref a2, .ref a3, .ref a4, .ref a5, .int lf, .int tp, .int wd, .int hg, .int 1, .int lk, .int 1, .int mx, .int my])), (a1, .inl (g1, 3, .inl X)), (a2, .inl (g2, 3, .inl Y))]) [3, 0, 1] rfl
  have hKc := hK.sub (tys' := [(g1, .int), (g2, .int)]) [0, 1] rfl
  refine vp_callSl (va_runV (As := []) (rest := []) ⟨hx, hb, hml, hown, hts⟩ (c_M_whole l dC dI m0 a1 a2 a3 a4 a5 g1 g2 X Y (er_th false false) lf tp wd hg 1 lk 1 mx my) (cwV 0 hts (er_gV k_380 k_381 k_11 k_20 k_382) rfl rfl rfl (by decide +kernel) ⟨Nat.le_of_ble_eq_true rfl, Nat.le_of_ble_eq_true rfl⟩) ⟨PP.blind, va_recv hKc hPc (ci := 2) (q0 := 0) rfl rfl, PP.at hN hKc hPc⟩ rfl rfl hl.1 rfl (lv_room (Nat.le_of_ble_eq_true rfl)) d_M_depth_69 ⟨Nat.zero_le _, Nat.zero_le _⟩).run (fun r_12 hr_12 => ?_)
  obtain rfl : er_ar X Y = r_12 := Eq.symm hr_12
  refine lv_lconst (v := 0) hx hb d_M_depth_72 (by decide) ?_
  refine W.lcmp hx hb d_M_depth_73 ?_
  refine lv_if_ge (tgt := 85) hx hb d_M_depth_74 (by decide) (fun c_13 => ?_) (fun c_13 => ?_)
  · rw [lg_cmp_ge] at c_13
    refine lv_aload_n hx hb d_M_depth_85 rfl (lv_at hl 2 rfl) ?_
    have hPc := hP.sub (ws' := [(m0, .inr (2, [.int (er_th false false), .ref a1, .ref a2, .ref a3, .ref a4, .ref a5, .int lf, .int tp, .int wd, .int hg, .int 1, .int lk, .int 1, .int mx, .int my])), (a1, .inl (g1, 3, .inl X)), (a2, .inl (g2, 3, .inl Y))]) [3, 0, 1] rfl
    have hKc := hK.sub (tys' := [(g1, .int), (g2, .int)]) [0, 1] rfl
    refine vp_callSl (va_runV (As := []) (rest := []) ⟨hx, hb, hml, hown, hts⟩ (c_M_whole l dC dI m0 a1 a2 a3 a4 a5 g1 g2 X Y (er_th false false) lf tp wd hg 1 lk 1 mx my) (cwV 0 hts (er_gV k_380 k_381 k_11 k_20 k_382) rfl rfl rfl (by decide +kernel) ⟨Nat.le_of_ble_eq_true rfl, Nat.le_of_ble_eq_true rfl⟩) ⟨PP.blind, va_recv hKc hPc (ci := 2) (q0 := 0) rfl rfl, PP.at hN hKc hPc⟩ rfl rfl hl.1 rfl (lv_room (Nat.le_of_ble_eq_true rfl)) d_M_depth_86 ⟨Nat.zero_le _, Nat.zero_le _⟩).run (fun r_14 hr_14 => ?_)
    obtain rfl : er_ar X Y = r_14 := Eq.symm hr_14
    refine lv_topl (x := er_ar X Y) (fun y9 e9 => ?_)
    obtain rfl : y9 = er_sz X Y := by rw [e9]; exact er_sz_n c_13
    refine lv_lstore_n (lv' := [(3, .long (er_sz X Y)), (1, .long (((0 + ((er_W X Y 0 mx my) * ((D 0).toInt64))) + ((er_W X Y 1 mx my) * ((D 1).toInt64))) + ((er_W X Y 2 mx my) * ((D 2).toInt64)))), (0, .ref m0)]) hx hb d_M_depth_89 rfl hl (by decide) rfl (fun ls hl => ?_)
    refine lv_lload_n hx hb d_M_depth_90 rfl (lv_at hl 1 rfl) ?_
    refine lv_lload_n hx hb d_M_depth_91 rfl (lv_at hl 0 rfl) ?_
    have hPc := hP.sub (ws' := []) [] rfl
    have hKc := hK.sub (tys' := []) [] rfl
    refine vp_callSl (va_runS (As := [.long (((0 + ((er_W X Y 0 mx my) * ((D 0).toInt64))) + ((er_W X Y 1 mx my) * ((D 1).toInt64))) + ((er_W X Y 2 mx my) * ((D 2).toInt64))), .long (er_sz X Y)]) (rest := []) ⟨hx, hb, hml, hown, hts⟩ (c_M_down l dC dI (((0 + ((er_W X Y 0 mx my) * ((D 0).toInt64))) + ((er_W X Y 1 mx my) * ((D 1).toInt64))) + ((er_W X Y 2 mx my) * ((D 2).toInt64))) (er_sz X Y) hsz) (va_cwS 2 hts (er_gS k_423 k_424 k_20 k_425) rfl rfl rfl (by decide +kernel) ⟨Nat.le_of_ble_eq_true rfl, Nat.le_of_ble_eq_true rfl⟩) ⟨PP.blind, PP.at hN hKc hPc⟩ rfl rfl hl.1 rfl (lv_room (Nat.le_of_ble_eq_true rfl)) d_M_depth_92 ⟨Nat.zero_le _, Nat.zero_le _⟩).run (fun r_15 hr_15 => ?_)
    obtain rfl : er_down (((0 + ((er_W X Y 0 mx my) * ((D 0).toInt64))) + ((er_W X Y 1 mx my) * ((D 1).toInt64))) + ((er_W X Y 2 mx my) * ((D 2).toInt64))) (er_sz X Y) = r_15 := Eq.symm hr_15
    refine lv_l2i (v := (er_down (((0 + ((er_W X Y 0 mx my) * ((D 0).toInt64))) + ((er_W X Y 1 mx my) * ((D 1).toInt64))) + ((er_W X Y 2 mx my) * ((D 2).toInt64))) (er_sz X Y)).toInt32) hx hb d_M_depth_95 rfl ?_
    have hP9 := hP.sub (ws' := [(m0, .inr (2, [.int (er_th false false), .ref a1, .ref a2, .ref a3, .ref a4, .ref a5, .int lf, .int tp, .int wd, .int hg, .int 1, .int lk, .int 1, .int mx, .int my])), (a1, .inl (g1, 3, .inl X)), (a2, .inl (g2, 3, .inl Y)), (a3, .inl (g3, 3, .inl D))]) [3, 0, 1, 2] rfl
    have hD9 := hD.sub (ws' := [(m0, .inr (2, [.int (er_th false false), .ref a1, .ref a2, .ref a3, .ref a4, .ref a5, .int lf, .int tp, .int wd, .int hg, .int 1, .int lk, .int 1, .int mx, .int my])), (a1, .inl (g1, 3, .inl X)), (a2, .inl (g2, 3, .inl Y)), (a3, .inl (g3, 3, .inl D))]) [3, 0, 1, 2] (by decide) rfl
    have hK9 := hK.sub (tys' := [(g1, .int), (g2, .int), (g3, .int)]) [0, 1, 2] rfl
    exact W.iret (v := (er_down (((0 + ((er_W X Y 0 mx my) * ((D 0).toInt64))) + ((er_W X Y 1 mx my) * ((D 1).toInt64))) + ((er_W X Y 2 mx my) * ((D 2).toInt64))) (er_sz X Y)).toInt32) hx hb hr (fun u9 ht hW => ⟨⟨_, (), rfl, (by rw [er_ds0]), ⟨by rw [ht]; exact hP9, va_K.moved hW.alike hK9, hD9⟩⟩, hS.F ht⟩) hS.2.2 d_M_depth_96
  · rw [lg_cmp_ge] at c_13
    refine lv_aload_n hx hb d_M_depth_77 rfl (lv_at hl 2 rfl) ?_
    have hPc := hP.sub (ws' := [(m0, .inr (2, [.int (er_th false false), .ref a1, .ref a2, .ref a3, .ref a4, .ref a5, .int lf, .int tp, .int wd, .int hg, .int 1, .int lk, .int 1, .int mx, .int my])), (a1, .inl (g1, 3, .inl X)), (a2, .inl (g2, 3, .inl Y))]) [3, 0, 1] rfl
    have hKc := hK.sub (tys' := [(g1, .int), (g2, .int)]) [0, 1] rfl
    refine vp_callSl (va_runV (As := []) (rest := []) ⟨hx, hb, hml, hown, hts⟩ (c_M_whole l dC dI m0 a1 a2 a3 a4 a5 g1 g2 X Y (er_th false false) lf tp wd hg 1 lk 1 mx my) (cwV 0 hts (er_gV k_380 k_381 k_11 k_20 k_382) rfl rfl rfl (by decide +kernel) ⟨Nat.le_of_ble_eq_true rfl, Nat.le_of_ble_eq_true rfl⟩) ⟨PP.blind, va_recv hKc hPc (ci := 2) (q0 := 0) rfl rfl, PP.at hN hKc hPc⟩ rfl rfl hl.1 rfl (lv_room (Nat.le_of_ble_eq_true rfl)) d_M_depth_78 ⟨Nat.zero_le _, Nat.zero_le _⟩).run (fun r_16 hr_16 => ?_)
    obtain rfl : er_ar X Y = r_16 := Eq.symm hr_16
    refine lv_lneg hx hb d_M_depth_81 ?_
    refine lv_goto (tgt := 89) hx hb d_M_depth_82 (by decide) ?_
    refine lv_topl (x := -(er_ar X Y)) (fun y9 e9 => ?_)
    obtain rfl : y9 = er_sz X Y := by rw [e9]; exact er_sz_t c_13
    refine lv_lstore_n (lv' := [(3, .long (er_sz X Y)), (1, .long (((0 + ((er_W X Y 0 mx my) * ((D 0).toInt64))) + ((er_W X Y 1 mx my) * ((D 1).toInt64))) + ((er_W X Y 2 mx my) * ((D 2).toInt64)))), (0, .ref m0)]) hx hb d_M_depth_89 rfl hl (by decide) rfl (fun ls hl => ?_)
    refine lv_lload_n hx hb d_M_depth_90 rfl (lv_at hl 1 rfl) ?_
    refine lv_lload_n hx hb d_M_depth_91 rfl (lv_at hl 0 rfl) ?_
    have hPc := hP.sub (ws' := []) [] rfl
    have hKc := hK.sub (tys' := []) [] rfl
    refine vp_callSl (va_runS (As := [.long (((0 + ((er_W X Y 0 mx my) * ((D 0).toInt64))) + ((er_W X Y 1 mx my) * ((D 1).toInt64))) + ((er_W X Y 2 mx my) * ((D 2).toInt64))), .long (er_sz X Y)]) (rest := []) ⟨hx, hb, hml, hown, hts⟩ (c_M_down l dC dI (((0 + ((er_W X Y 0 mx my) * ((D 0).toInt64))) + ((er_W X Y 1 mx my) * ((D 1).toInt64))) + ((er_W X Y 2 mx my) * ((D 2).toInt64))) (er_sz X Y) hsz) (va_cwS 2 hts (er_gS k_423 k_424 k_20 k_425) rfl rfl rfl (by decide +kernel) ⟨Nat.le_of_ble_eq_true rfl, Nat.le_of_ble_eq_true rfl⟩) ⟨PP.blind, PP.at hN hKc hPc⟩ rfl rfl hl.1 rfl (lv_room (Nat.le_of_ble_eq_true rfl)) d_M_depth_92 ⟨Nat.zero_le _, Nat.zero_le _⟩).run (fun r_17 hr_17 => ?_)
    obtain rfl : er_down (((0 + ((er_W X Y 0 mx my) * ((D 0).toInt64))) + ((er_W X Y 1 mx my) * ((D 1).toInt64))) + ((er_W X Y 2 mx my) * ((D 2).toInt64))) (er_sz X Y) = r_17 := Eq.symm hr_17
    refine lv_l2i (v := (er_down (((0 + ((er_W X Y 0 mx my) * ((D 0).toInt64))) + ((er_W X Y 1 mx my) * ((D 1).toInt64))) + ((er_W X Y 2 mx my) * ((D 2).toInt64))) (er_sz X Y)).toInt32) hx hb d_M_depth_95 rfl ?_
    have hP9 := hP.sub (ws' := [(m0, .inr (2, [.int (er_th false false), .ref a1, .ref a2, .ref a3, .ref a4, .ref a5, .int lf, .int tp, .int wd, .int hg, .int 1, .int lk, .int 1, .int mx, .int my])), (a1, .inl (g1, 3, .inl X)), (a2, .inl (g2, 3, .inl Y)), (a3, .inl (g3, 3, .inl D))]) [3, 0, 1, 2] rfl
    have hD9 := hD.sub (ws' := [(m0, .inr (2, [.int (er_th false false), .ref a1, .ref a2, .ref a3, .ref a4, .ref a5, .int lf, .int tp, .int wd, .int hg, .int 1, .int lk, .int 1, .int mx, .int my])), (a1, .inl (g1, 3, .inl X)), (a2, .inl (g2, 3, .inl Y)), (a3, .inl (g3, 3, .inl D))]) [3, 0, 1, 2] (by decide) rfl
    have hK9 := hK.sub (tys' := [(g1, .int), (g2, .int), (g3, .int)]) [0, 1, 2] rfl
    exact W.iret (v := (er_down (((0 + ((er_W X Y 0 mx my) * ((D 0).toInt64))) + ((er_W X Y 1 mx my) * ((D 1).toInt64))) + ((er_W X Y 2 mx my) * ((D 2).toInt64))) (er_sz X Y)).toInt32) hx hb hr (fun u9 ht hW => ⟨⟨_, (), rfl, (by rw [er_ds0]), ⟨by rw [ht]; exact hP9, va_K.moved hW.alike hK9, hD9⟩⟩, hS.F ht⟩) hS.2.2 d_M_depth_96

set_option maxHeartbeats 1000000 in
set_option maxRecDepth 100000 in
theorem c_M_depthY (l : Launch) (dC : Nat → ClassId) (dI : Nat → Nat → Nat) (m0 a1 a2 a3 a4 a5 : Nat) (th lf tp wd hg lk mx my : Int32) (wk cv : Bool) (hv : (wk && cv) = false) (sz : Nat) : Met l y_M_depth w_M_depth ({ frames := 1, cells := 0, slots := 0, locals := 22 }) (va_Pc [.ref m0] (PI dC dI [] [(m0, .inr (2, [.int th, .ref a1, .ref a2, .ref a3, .ref a4, .ref a5, .int lf, .int tp, .int wd, .int hg, .int (er_b wk), .int lk, .int (er_b cv), .int mx, .int my]))] sz)) (va_Qi (fun (r : Int32) (u : Unit) => True) (fun (u : Unit) t => EI dC dI [] [(m0, .inr (2, [.int 1, .ref a1, .ref a2, .ref a3, .ref a4, .ref a5, .int lf, .int tp, .int wd, .int hg, .int (er_b wk), .int lk, .int (er_b cv), .int mx, .int my]))] (va_A [(m0, .inr (2, [.int th, .ref a1, .ref a2, .ref a3, .ref a4, .ref a5, .int lf, .int tp, .int wd, .int hg, .int (er_b wk), .int lk, .int (er_b cv), .int mx, .int my]))] sz) t) (va_A [(m0, .inr (2, [.int th, .ref a1, .ref a2, .ref a3, .ref a4, .ref a5, .int lf, .int tp, .int wd, .int hg, .int (er_b wk), .int lk, .int (er_b cv), .int mx, .int my]))] sz)) 0 0 (va_A [(m0, .inr (2, [.int th, .ref a1, .ref a2, .ref a3, .ref a4, .ref a5, .int lf, .int tp, .int wd, .int hg, .int (er_b wk), .int lk, .int (er_b cv), .int mx, .int my]))] sz) := by
  refine Met.ofW (cc := b_M_depth) (maxL := 5) (ret := (some .int)) (by decide +kernel) rfl ?_
  intro p e s m args below meth c s₁ B hml hv
  obtain ⟨rfl, hsz, hN, hK, hP, hD0⟩ := hv
  have hx := B.exec
  have hb := B.bytes
  have hr := B.returns
  have hts := er_hts (atoms_spec (ws := w_M_depth) B.pre)
  have hown : s.vm.findClass R_M = some m.cls := findClass_of_methodNamed B.named
  have hlocks := B.notSynchronized
  subst hsz
  have hD := hD0.self (sz := s.heap.size)
  generalize hAe : va_A [(m0, .inr (2, [.int th, .ref a1, .ref a2, .ref a3, .ref a4, .ref a5, .int lf, .int tp, .int wd, .int hg, .int (er_b wk), .int lk, .int (er_b cv), .int mx, .int my]))] s.heap.size = A at hD ⊢
  have hA : ∀ q : Nat, s.heap.size ≤ q → A q := fun q h => by rw [← hAe]; exact Or.inr h
  have hS : va_S A s.heap s.heap [] := va_S.rf
  have hP : va_P (dC, dI) classes [(m0, .inr (2, [.int th, .ref a1, .ref a2, .ref a3, .ref a4, .ref a5, .int lf, .int tp, .int wd, .int hg, .int (er_b wk), .int lk, .int (er_b cv), .int mx, .int my]))] s.heap := hP
  have hl := lv_entry ([.ref m0]) (n := 5) (Nat.le_of_ble_eq_true rfl)
  rw [lg_entry_eq]
  generalize (lg_sl ([.ref m0]) ++ List.replicate (5 - (lg_sl ([.ref m0])).length) Slot.unset).toArray = ls at hl ⊢
  have hl : lv_has ls 5 [(0, .ref m0)] := hl
  refine lv_aload_n hx hb d_M_depth_0 rfl (lv_at hl 0 rfl) ?_
  refine lv_aload_n hx hb d_M_depth_1 rfl (lv_at hl 0 rfl) ?_
  refine va_get (D := (dC, dI)) (ci := 2) (v := .int (er_b wk)) (C := R_M) (T := F_M) (N := 15) hx hb hts i_M hown hK hP 0 rfl rfl 10 (by decide) (hts _ k_316) (fun _ h9 => h9) rfl d_M_depth_2 ?_
  refine lv_if_eq (tgt := 15) hx hb d_M_depth_5 (by decide) (fun c_1 => ?_) (fun c_1 => ?_)
  · have c_1 := er_b_0.mp c_1
    refine lv_iconst (v := 1) hx hb d_M_depth_15 (by decide) ?_
    refine lv_goto (tgt := 20) hx hb d_M_depth_16 (by decide) ?_
    refine lv_iconst (v := 0) hx hb d_M_depth_20 (by decide) ?_
    have hPc := hP.sub (ws' := [(m0, .inr (2, [.int th, .ref a1, .ref a2, .ref a3, .ref a4, .ref a5, .int lf, .int tp, .int wd, .int hg, .int (er_b wk), .int lk, .int (er_b cv), .int mx, .int my]))]) [0] rfl
    have hDc := hD.sub (ws' := [(m0, .inr (2, [.int th, .ref a1, .ref a2, .ref a3, .ref a4, .ref a5, .int lf, .int tp, .int wd, .int hg, .int (er_b wk), .int lk, .int (er_b cv), .int mx, .int my]))]) [0] (by decide) rfl
    have hKc := hK.sub (tys' := []) [] rfl
    have hFc := va_free (wc := [(m0, .inr (2, [.int th, .ref a1, .ref a2, .ref a3, .ref a4, .ref a5, .int lf, .int tp, .int wd, .int hg, .int (er_b wk), .int lk, .int (er_b cv), .int mx, .int my]))]) hD hS hA [0] rfl
    refine va_calli (va_runV (As := [.int 1, .int 0]) (rest := []) ⟨hx, hb, hml, hown, hts⟩ (c_M_refuse l dC dI m0 a1 a2 a3 a4 a5 th lf tp wd hg (er_b wk) lk (er_b cv) mx my true false s.heap.size) (cwV 2 hts (er_gV k_365 k_366 k_10 k_20 k_367) rfl rfl rfl (by decide +kernel) ⟨Nat.le_of_ble_eq_true rfl, Nat.le_of_ble_eq_true rfl⟩) ⟨PI.blind, va_recv hKc hPc (ci := 2) (q0 := 0) rfl rfl, PI.at hN hKc hPc hDc⟩ rfl rfl hl.1 rfl (lv_room (Nat.le_of_ble_eq_true rfl)) d_M_depth_21 ⟨Nat.le_of_ble_eq_true rfl, Nat.le_of_ble_eq_true rfl⟩) hS (fun q _ h => hFc q h) hFc (fun r_2 u t H1 locs ht hvm hw hB hz1 hk1 hS => ?_)
    obtain ⟨hP1, hK1, hD1⟩ := hB
    rw [ht] at hP1
    have hK1 := va_K.moved hvm.symm hK1
    obtain ⟨hP, hD⟩ := va_join (wr := []) (w1 := [(m0, .inr (2, [.int (er_th true false), .ref a1, .ref a2, .ref a3, .ref a4, .ref a5, .int lf, .int tp, .int wd, .int hg, .int (er_b wk), .int lk, .int (er_b cv), .int mx, .int my]))]) hP hD [0] [] rfl rfl (by decide) (by decide) hk1 hFc hP1 hD1
    have hK := (hK.sub (tys' := []) [] rfl).app hK1
    generalize H1 = H at hP hS ⊢
    have hP : va_P (dC, dI) classes [(m0, .inr (2, [.int (er_th true false), .ref a1, .ref a2, .ref a3, .ref a4, .ref a5, .int lf, .int tp, .int wd, .int hg, .int (er_b wk), .int lk, .int (er_b cv), .int mx, .int my]))] H := hP
    have hD : va_D A [(m0, .inr (2, [.int (er_th true false), .ref a1, .ref a2, .ref a3, .ref a4, .ref a5, .int lf, .int tp, .int wd, .int hg, .int (er_b wk), .int lk, .int (er_b cv), .int mx, .int my]))] := hD
    have hK : va_K (dC, dI) classes [] s := hK
    obtain rfl : er_b (true || false) = r_2 := Eq.symm hw
    refine lv_if_eq (tgt := 29) hx hb d_M_depth_24 (by decide) (fun c_3 => absurd c_3 (by decide)) (fun _ => ?_)
    refine lv_iconst (v := 0) hx hb d_M_depth_27 (by decide) ?_
    have hP9 := hP.sub (ws' := [(m0, .inr (2, [.int (er_th true false), .ref a1, .ref a2, .ref a3, .ref a4, .ref a5, .int lf, .int tp, .int wd, .int hg, .int (er_b wk), .int lk, .int (er_b cv), .int mx, .int my]))]) [0] rfl
    have hD9 := hD.sub (ws' := [(m0, .inr (2, [.int (er_th true false), .ref a1, .ref a2, .ref a3, .ref a4, .ref a5, .int lf, .int tp, .int wd, .int hg, .int (er_b wk), .int lk, .int (er_b cv), .int mx, .int my]))]) [0] (by decide) rfl
    have hK9 := hK.sub (tys' := []) [] rfl
    have hP9 : va_P (dC, dI) classes [(m0, .inr (2, [.int 1, .ref a1, .ref a2, .ref a3, .ref a4, .ref a5, .int lf, .int tp, .int wd, .int hg, .int (er_b wk), .int lk, .int (er_b cv), .int mx, .int my]))] H := by skip; exact hP9
    have hD9 : va_D A [(m0, .inr (2, [.int 1, .ref a1, .ref a2, .ref a3, .ref a4, .ref a5, .int lf, .int tp, .int wd, .int hg, .int (er_b wk), .int lk, .int (er_b cv), .int mx, .int my]))] := by skip; exact hD9
    exact W.iret (v := 0) hx hb hr (fun u9 ht hW => ⟨⟨_, (), rfl, trivial, ⟨by rw [ht]; exact hP9, va_K.moved hW.alike hK9, hD9⟩⟩, hS.F ht⟩) hS.2.2 d_M_depth_28
  · have c_1 := er_b_n.mp c_1
    refine lv_aload_n hx hb d_M_depth_8 rfl (lv_at hl 0 rfl) ?_
    refine va_get (D := (dC, dI)) (ci := 2) (v := .int (er_b cv)) (C := R_M) (T := F_M) (N := 15) hx hb hts i_M hown hK hP 0 rfl rfl 12 (by decide) (hts _ k_318) (fun _ h9 => h9) rfl d_M_depth_9 ?_
    refine lv_if_ne (tgt := 19) hx hb d_M_depth_12 (by decide) (fun c_4 => ?_) (fun c_4 => ?_)
    · have c_4 := er_b_n.mp c_4
      exfalso
      simp_all
    · have c_4 := er_b_0.mp c_4
      refine lv_iconst (v := 1) hx hb d_M_depth_15 (by decide) ?_
      refine lv_goto (tgt := 20) hx hb d_M_depth_16 (by decide) ?_
      refine lv_iconst (v := 0) hx hb d_M_depth_20 (by decide) ?_
      have hPc := hP.sub (ws' := [(m0, .inr (2, [.int th, .ref a1, .ref a2, .ref a3, .ref a4, .ref a5, .int lf, .int tp, .int wd, .int hg, .int (er_b wk), .int lk, .int (er_b cv), .int mx, .int my]))]) [0] rfl
      have hDc := hD.sub (ws' := [(m0, .inr (2, [.int th, .ref a1, .ref a2, .ref a3, .ref a4, .ref a5, .int lf, .int tp, .int wd, .int hg, .int (er_b wk), .int lk, .int (er_b cv), .int mx, .int my]))]) [0] (by decide) rfl
      have hKc := hK.sub (tys' := []) [] rfl
      have hFc := va_free (wc := [(m0, .inr (2, [.int th, .ref a1, .ref a2, .ref a3, .ref a4, .ref a5, .int lf, .int tp, .int wd, .int hg, .int (er_b wk), .int lk, .int (er_b cv), .int mx, .int my]))]) hD hS hA [0] rfl
      refine va_calli (va_runV (As := [.int 1, .int 0]) (rest := []) ⟨hx, hb, hml, hown, hts⟩ (c_M_refuse l dC dI m0 a1 a2 a3 a4 a5 th lf tp wd hg (er_b wk) lk (er_b cv) mx my true false s.heap.size) (cwV 2 hts (er_gV k_365 k_366 k_10 k_20 k_367) rfl rfl rfl (by decide +kernel) ⟨Nat.le_of_ble_eq_true rfl, Nat.le_of_ble_eq_true rfl⟩) ⟨PI.blind, va_recv hKc hPc (ci := 2) (q0 := 0) rfl rfl, PI.at hN hKc hPc hDc⟩ rfl rfl hl.1 rfl (lv_room (Nat.le_of_ble_eq_true rfl)) d_M_depth_21 ⟨Nat.le_of_ble_eq_true rfl, Nat.le_of_ble_eq_true rfl⟩) hS (fun q _ h => hFc q h) hFc (fun r_5 u t H1 locs ht hvm hw hB hz1 hk1 hS => ?_)
      obtain ⟨hP1, hK1, hD1⟩ := hB
      rw [ht] at hP1
      have hK1 := va_K.moved hvm.symm hK1
      obtain ⟨hP, hD⟩ := va_join (wr := []) (w1 := [(m0, .inr (2, [.int (er_th true false), .ref a1, .ref a2, .ref a3, .ref a4, .ref a5, .int lf, .int tp, .int wd, .int hg, .int (er_b wk), .int lk, .int (er_b cv), .int mx, .int my]))]) hP hD [0] [] rfl rfl (by decide) (by decide) hk1 hFc hP1 hD1
      have hK := (hK.sub (tys' := []) [] rfl).app hK1
      generalize H1 = H at hP hS ⊢
      have hP : va_P (dC, dI) classes [(m0, .inr (2, [.int (er_th true false), .ref a1, .ref a2, .ref a3, .ref a4, .ref a5, .int lf, .int tp, .int wd, .int hg, .int (er_b wk), .int lk, .int (er_b cv), .int mx, .int my]))] H := hP
      have hD : va_D A [(m0, .inr (2, [.int (er_th true false), .ref a1, .ref a2, .ref a3, .ref a4, .ref a5, .int lf, .int tp, .int wd, .int hg, .int (er_b wk), .int lk, .int (er_b cv), .int mx, .int my]))] := hD
      have hK : va_K (dC, dI) classes [] s := hK
      obtain rfl : er_b (true || false) = r_5 := Eq.symm hw
      refine lv_if_eq (tgt := 29) hx hb d_M_depth_24 (by decide) (fun c_6 => absurd c_6 (by decide)) (fun _ => ?_)
      refine lv_iconst (v := 0) hx hb d_M_depth_27 (by decide) ?_
      have hP9 := hP.sub (ws' := [(m0, .inr (2, [.int (er_th true false), .ref a1, .ref a2, .ref a3, .ref a4, .ref a5, .int lf, .int tp, .int wd, .int hg, .int (er_b wk), .int lk, .int (er_b cv), .int mx, .int my]))]) [0] rfl
      have hD9 := hD.sub (ws' := [(m0, .inr (2, [.int (er_th true false), .ref a1, .ref a2, .ref a3, .ref a4, .ref a5, .int lf, .int tp, .int wd, .int hg, .int (er_b wk), .int lk, .int (er_b cv), .int mx, .int my]))]) [0] (by decide) rfl
      have hK9 := hK.sub (tys' := []) [] rfl
      have hP9 : va_P (dC, dI) classes [(m0, .inr (2, [.int 1, .ref a1, .ref a2, .ref a3, .ref a4, .ref a5, .int lf, .int tp, .int wd, .int hg, .int (er_b wk), .int lk, .int (er_b cv), .int mx, .int my]))] H := by skip; exact hP9
      have hD9 : va_D A [(m0, .inr (2, [.int 1, .ref a1, .ref a2, .ref a3, .ref a4, .ref a5, .int lf, .int tp, .int wd, .int hg, .int (er_b wk), .int lk, .int (er_b cv), .int mx, .int my]))] := by skip; exact hD9
      exact W.iret (v := 0) hx hb hr (fun u9 ht hW => ⟨⟨_, (), rfl, trivial, ⟨by rw [ht]; exact hP9, va_K.moved hW.alike hK9, hD9⟩⟩, hS.F ht⟩) hS.2.2 d_M_depth_28

set_option maxHeartbeats 1000000 in
set_option maxRecDepth 100000 in
theorem c_M_atX (l : Launch) (dC : Nat → ClassId) (dI : Nat → Nat → Nat) (m0 a1 a2 a3 a4 a5 : Nat) (th lf tp wd hg lk mx my : Int32) (wk cv : Bool) (p0 : Int32) (hv : er_win p0 0 27 = false) (sz : Nat) : Met l y_M_at w_M_at ({ frames := 1, cells := 0, slots := 0, locals := 22 }) (va_Pc [.ref m0, .int p0] (PI dC dI [] [(m0, .inr (2, [.int th, .ref a1, .ref a2, .ref a3, .ref a4, .ref a5, .int lf, .int tp, .int wd, .int hg, .int (er_b wk), .int lk, .int (er_b cv), .int mx, .int my]))] sz)) (va_Qi (fun (r : Int32) (u : Unit) => True) (fun (u : Unit) t => EI dC dI [] [(m0, .inr (2, [.int 1, .ref a1, .ref a2, .ref a3, .ref a4, .ref a5, .int lf, .int tp, .int wd, .int hg, .int (er_b wk), .int lk, .int (er_b cv), .int mx, .int my]))] (va_A [(m0, .inr (2, [.int th, .ref a1, .ref a2, .ref a3, .ref a4, .ref a5, .int lf, .int tp, .int wd, .int hg, .int (er_b wk), .int lk, .int (er_b cv), .int mx, .int my]))] sz) t) (va_A [(m0, .inr (2, [.int th, .ref a1, .ref a2, .ref a3, .ref a4, .ref a5, .int lf, .int tp, .int wd, .int hg, .int (er_b wk), .int lk, .int (er_b cv), .int mx, .int my]))] sz)) 0 0 (va_A [(m0, .inr (2, [.int th, .ref a1, .ref a2, .ref a3, .ref a4, .ref a5, .int lf, .int tp, .int wd, .int hg, .int (er_b wk), .int lk, .int (er_b cv), .int mx, .int my]))] sz) := by
  refine Met.ofW (cc := b_M_at) (maxL := 10) (ret := (some .int)) (by decide +kernel) rfl ?_
  intro p e s m args below meth c s₁ B hml hv
  obtain ⟨rfl, hsz, hN, hK, hP, hD0⟩ := hv
  have hx := B.exec
  have hb := B.bytes
  have hr := B.returns
  have hts := er_hts (atoms_spec (ws := w_M_at) B.pre)
  have hown : s.vm.findClass R_M = some m.cls := findClass_of_methodNamed B.named
  have hlocks := B.notSynchronized
  subst hsz
  have hD := hD0.self (sz := s.heap.size)
  generalize hAe : va_A [(m0, .inr (2, [.int th, .ref a1, .ref a2, .ref a3, .ref a4, .ref a5, .int lf, .int tp, .int wd, .int hg, .int (er_b wk), .int lk, .int (er_b cv), .int mx, .int my]))] s.heap.size = A at hD ⊢
  have hA : ∀ q : Nat, s.heap.size ≤ q → A q := fun q h => by rw [← hAe]; exact Or.inr h
  have hS : va_S A s.heap s.heap [] := va_S.rf
  have hP : va_P (dC, dI) classes [(m0, .inr (2, [.int th, .ref a1, .ref a2, .ref a3, .ref a4, .ref a5, .int lf, .int tp, .int wd, .int hg, .int (er_b wk), .int lk, .int (er_b cv), .int mx, .int my]))] s.heap := hP
  have hl := lv_entry ([.ref m0, .int p0]) (n := 10) (Nat.le_of_ble_eq_true rfl)
  rw [lg_entry_eq]
  generalize (lg_sl ([.ref m0, .int p0]) ++ List.replicate (10 - (lg_sl ([.ref m0, .int p0])).length) Slot.unset).toArray = ls at hl ⊢
  have hl : lv_has ls 10 [(0, .ref m0), (1, .int p0)] := hl
  refine lv_aload_n hx hb d_M_at_0 rfl (lv_at hl 0 rfl) ?_
  refine lv_iload_n hx hb d_M_at_1 rfl (lv_at hl 1 rfl) ?_
  refine lv_iconst (v := 0) hx hb d_M_at_2 (by decide) ?_
  refine lv_bipush (v := 27) hx hb d_M_at_3 (by decide) ?_
  have hPc := hP.sub (ws' := []) [] rfl
  have hKc := hK.sub (tys' := []) [] rfl
  refine vp_callSi (va_runS (As := [.int p0, .int 0, .int 27]) (rest := [.ref m0]) ⟨hx, hb, hml, hown, hts⟩ (c_M_in l dC dI p0 0 27) (va_cwS 3 hts (er_gS k_360 k_361 k_20 k_362) rfl rfl rfl (by decide +kernel) ⟨Nat.le_of_ble_eq_true rfl, Nat.le_of_ble_eq_true rfl⟩) ⟨PP.blind, PP.at hN hKc hPc⟩ rfl rfl hl.1 rfl (lv_room (Nat.le_of_ble_eq_true rfl)) d_M_at_5 ⟨Nat.zero_le _, Nat.zero_le _⟩).run (fun r_1 hr_1 => ?_)
  obtain rfl : er_b (er_win p0 0 27) = r_1 := Eq.symm hr_1
  refine lv_if_ne (tgt := 15) hx hb d_M_at_8 (by decide) (fun c_2 => ?_) (fun c_2 => ?_)
  · have c_2 := er_b_n.mp c_2
    exfalso
    simp_all
  · have c_2 := er_b_0.mp c_2
    refine lv_iconst (v := 1) hx hb d_M_at_11 (by decide) ?_
    refine lv_goto (tgt := 16) hx hb d_M_at_12 (by decide) ?_
    refine lv_aload_n hx hb d_M_at_16 rfl (lv_at hl 0 rfl) ?_
    refine va_get (D := (dC, dI)) (ci := 2) (v := .int (er_b wk)) (C := R_M) (T := F_M) (N := 15) hx hb hts i_M hown hK hP 0 rfl rfl 10 (by decide) (hts _ k_316) (fun _ h9 => h9) rfl d_M_at_17 ?_
    refine lv_if_eq (tgt := 30) hx hb d_M_at_20 (by decide) (fun c_3 => ?_) (fun c_3 => ?_)
    · have c_3 := er_b_0.mp c_3
      refine lv_iconst (v := 1) hx hb d_M_at_30 (by decide) ?_
      refine lv_goto (tgt := 35) hx hb d_M_at_31 (by decide) ?_
      have hPc := hP.sub (ws' := [(m0, .inr (2, [.int th, .ref a1, .ref a2, .ref a3, .ref a4, .ref a5, .int lf, .int tp, .int wd, .int hg, .int (er_b wk), .int lk, .int (er_b cv), .int mx, .int my]))]) [0] rfl
      have hDc := hD.sub (ws' := [(m0, .inr (2, [.int th, .ref a1, .ref a2, .ref a3, .ref a4, .ref a5, .int lf, .int tp, .int wd, .int hg, .int (er_b wk), .int lk, .int (er_b cv), .int mx, .int my]))]) [0] (by decide) rfl
      have hKc := hK.sub (tys' := []) [] rfl
      have hFc := va_free (wc := [(m0, .inr (2, [.int th, .ref a1, .ref a2, .ref a3, .ref a4, .ref a5, .int lf, .int tp, .int wd, .int hg, .int (er_b wk), .int lk, .int (er_b cv), .int mx, .int my]))]) hD hS hA [0] rfl
      refine va_calli (va_runV (As := [.int 1, .int 1]) (rest := []) ⟨hx, hb, hml, hown, hts⟩ (c_M_refuse l dC dI m0 a1 a2 a3 a4 a5 th lf tp wd hg (er_b wk) lk (er_b cv) mx my true true s.heap.size) (cwV 2 hts (er_gV k_365 k_366 k_10 k_20 k_367) rfl rfl rfl (by decide +kernel) ⟨Nat.le_of_ble_eq_true rfl, Nat.le_of_ble_eq_true rfl⟩) ⟨PI.blind, va_recv hKc hPc (ci := 2) (q0 := 0) rfl rfl, PI.at hN hKc hPc hDc⟩ rfl rfl hl.1 rfl (lv_room (Nat.le_of_ble_eq_true rfl)) d_M_at_35 ⟨Nat.le_of_ble_eq_true rfl, Nat.le_of_ble_eq_true rfl⟩) hS (fun q _ h => hFc q h) hFc (fun r_4 u t H1 locs ht hvm hw hB hz1 hk1 hS => ?_)
      obtain ⟨hP1, hK1, hD1⟩ := hB
      rw [ht] at hP1
      have hK1 := va_K.moved hvm.symm hK1
      obtain ⟨hP, hD⟩ := va_join (wr := []) (w1 := [(m0, .inr (2, [.int (er_th true true), .ref a1, .ref a2, .ref a3, .ref a4, .ref a5, .int lf, .int tp, .int wd, .int hg, .int (er_b wk), .int lk, .int (er_b cv), .int mx, .int my]))]) hP hD [0] [] rfl rfl (by decide) (by decide) hk1 hFc hP1 hD1
      have hK := (hK.sub (tys' := []) [] rfl).app hK1
      generalize H1 = H at hP hS ⊢
      have hP : va_P (dC, dI) classes [(m0, .inr (2, [.int (er_th true true), .ref a1, .ref a2, .ref a3, .ref a4, .ref a5, .int lf, .int tp, .int wd, .int hg, .int (er_b wk), .int lk, .int (er_b cv), .int mx, .int my]))] H := hP
      have hD : va_D A [(m0, .inr (2, [.int (er_th true true), .ref a1, .ref a2, .ref a3, .ref a4, .ref a5, .int lf, .int tp, .int wd, .int hg, .int (er_b wk), .int lk, .int (er_b cv), .int mx, .int my]))] := hD
      have hK : va_K (dC, dI) classes [] s := hK
      obtain rfl : er_b (true || true) = r_4 := Eq.symm hw
      refine lv_if_eq (tgt := 43) hx hb d_M_at_38 (by decide) (fun c_5 => absurd c_5 (by decide)) (fun _ => ?_)
      refine lv_iconst (v := 0) hx hb d_M_at_41 (by decide) ?_
      have hP9 := hP.sub (ws' := [(m0, .inr (2, [.int (er_th true true), .ref a1, .ref a2, .ref a3, .ref a4, .ref a5, .int lf, .int tp, .int wd, .int hg, .int (er_b wk), .int lk, .int (er_b cv), .int mx, .int my]))]) [0] rfl
      have hD9 := hD.sub (ws' := [(m0, .inr (2, [.int (er_th true true), .ref a1, .ref a2, .ref a3, .ref a4, .ref a5, .int lf, .int tp, .int wd, .int hg, .int (er_b wk), .int lk, .int (er_b cv), .int mx, .int my]))]) [0] (by decide) rfl
      have hK9 := hK.sub (tys' := []) [] rfl
      have hP9 : va_P (dC, dI) classes [(m0, .inr (2, [.int 1, .ref a1, .ref a2, .ref a3, .ref a4, .ref a5, .int lf, .int tp, .int wd, .int hg, .int (er_b wk), .int lk, .int (er_b cv), .int mx, .int my]))] H := by skip; exact hP9
      have hD9 : va_D A [(m0, .inr (2, [.int 1, .ref a1, .ref a2, .ref a3, .ref a4, .ref a5, .int lf, .int tp, .int wd, .int hg, .int (er_b wk), .int lk, .int (er_b cv), .int mx, .int my]))] := by skip; exact hD9
      exact W.iret (v := 0) hx hb hr (fun u9 ht hW => ⟨⟨_, (), rfl, trivial, ⟨by rw [ht]; exact hP9, va_K.moved hW.alike hK9, hD9⟩⟩, hS.F ht⟩) hS.2.2 d_M_at_42
    · have c_3 := er_b_n.mp c_3
      refine lv_aload_n hx hb d_M_at_23 rfl (lv_at hl 0 rfl) ?_
      refine va_get (D := (dC, dI)) (ci := 2) (v := .int (er_b cv)) (C := R_M) (T := F_M) (N := 15) hx hb hts i_M hown hK hP 0 rfl rfl 12 (by decide) (hts _ k_318) (fun _ h9 => h9) rfl d_M_at_24 ?_
      refine lv_if_ne (tgt := 34) hx hb d_M_at_27 (by decide) (fun c_6 => ?_) (fun c_6 => ?_)
      · have c_6 := er_b_n.mp c_6
        refine lv_iconst (v := 0) hx hb d_M_at_34 (by decide) ?_
        have hPc := hP.sub (ws' := [(m0, .inr (2, [.int th, .ref a1, .ref a2, .ref a3, .ref a4, .ref a5, .int lf, .int tp, .int wd, .int hg, .int (er_b wk), .int lk, .int (er_b cv), .int mx, .int my]))]) [0] rfl
        have hDc := hD.sub (ws' := [(m0, .inr (2, [.int th, .ref a1, .ref a2, .ref a3, .ref a4, .ref a5, .int lf, .int tp, .int wd, .int hg, .int (er_b wk), .int lk, .int (er_b cv), .int mx, .int my]))]) [0] (by decide) rfl
        have hKc := hK.sub (tys' := []) [] rfl
        have hFc := va_free (wc := [(m0, .inr (2, [.int th, .ref a1, .ref a2, .ref a3, .ref a4, .ref a5, .int lf, .int tp, .int wd, .int hg, .int (er_b wk), .int lk, .int (er_b cv), .int mx, .int my]))]) hD hS hA [0] rfl
        refine va_calli (va_runV (As := [.int 1, .int 0]) (rest := []) ⟨hx, hb, hml, hown, hts⟩ (c_M_refuse l dC dI m0 a1 a2 a3 a4 a5 th lf tp wd hg (er_b wk) lk (er_b cv) mx my true false s.heap.size) (cwV 2 hts (er_gV k_365 k_366 k_10 k_20 k_367) rfl rfl rfl (by decide +kernel) ⟨Nat.le_of_ble_eq_true rfl, Nat.le_of_ble_eq_true rfl⟩) ⟨PI.blind, va_recv hKc hPc (ci := 2) (q0 := 0) rfl rfl, PI.at hN hKc hPc hDc⟩ rfl rfl hl.1 rfl (lv_room (Nat.le_of_ble_eq_true rfl)) d_M_at_35 ⟨Nat.le_of_ble_eq_true rfl, Nat.le_of_ble_eq_true rfl⟩) hS (fun q _ h => hFc q h) hFc (fun r_7 u t H1 locs ht hvm hw hB hz1 hk1 hS => ?_)
        obtain ⟨hP1, hK1, hD1⟩ := hB
        rw [ht] at hP1
        have hK1 := va_K.moved hvm.symm hK1
        obtain ⟨hP, hD⟩ := va_join (wr := []) (w1 := [(m0, .inr (2, [.int (er_th true false), .ref a1, .ref a2, .ref a3, .ref a4, .ref a5, .int lf, .int tp, .int wd, .int hg, .int (er_b wk), .int lk, .int (er_b cv), .int mx, .int my]))]) hP hD [0] [] rfl rfl (by decide) (by decide) hk1 hFc hP1 hD1
        have hK := (hK.sub (tys' := []) [] rfl).app hK1
        generalize H1 = H at hP hS ⊢
        have hP : va_P (dC, dI) classes [(m0, .inr (2, [.int (er_th true false), .ref a1, .ref a2, .ref a3, .ref a4, .ref a5, .int lf, .int tp, .int wd, .int hg, .int (er_b wk), .int lk, .int (er_b cv), .int mx, .int my]))] H := hP
        have hD : va_D A [(m0, .inr (2, [.int (er_th true false), .ref a1, .ref a2, .ref a3, .ref a4, .ref a5, .int lf, .int tp, .int wd, .int hg, .int (er_b wk), .int lk, .int (er_b cv), .int mx, .int my]))] := hD
        have hK : va_K (dC, dI) classes [] s := hK
        obtain rfl : er_b (true || false) = r_7 := Eq.symm hw
        refine lv_if_eq (tgt := 43) hx hb d_M_at_38 (by decide) (fun c_8 => absurd c_8 (by decide)) (fun _ => ?_)
        refine lv_iconst (v := 0) hx hb d_M_at_41 (by decide) ?_
        have hP9 := hP.sub (ws' := [(m0, .inr (2, [.int (er_th true false), .ref a1, .ref a2, .ref a3, .ref a4, .ref a5, .int lf, .int tp, .int wd, .int hg, .int (er_b wk), .int lk, .int (er_b cv), .int mx, .int my]))]) [0] rfl
        have hD9 := hD.sub (ws' := [(m0, .inr (2, [.int (er_th true false), .ref a1, .ref a2, .ref a3, .ref a4, .ref a5, .int lf, .int tp, .int wd, .int hg, .int (er_b wk), .int lk, .int (er_b cv), .int mx, .int my]))]) [0] (by decide) rfl
        have hK9 := hK.sub (tys' := []) [] rfl
        have hP9 : va_P (dC, dI) classes [(m0, .inr (2, [.int 1, .ref a1, .ref a2, .ref a3, .ref a4, .ref a5, .int lf, .int tp, .int wd, .int hg, .int (er_b wk), .int lk, .int (er_b cv), .int mx, .int my]))] H := by skip; exact hP9
        have hD9 : va_D A [(m0, .inr (2, [.int 1, .ref a1, .ref a2, .ref a3, .ref a4, .ref a5, .int lf, .int tp, .int wd, .int hg, .int (er_b wk), .int lk, .int (er_b cv), .int mx, .int my]))] := by skip; exact hD9
        exact W.iret (v := 0) hx hb hr (fun u9 ht hW => ⟨⟨_, (), rfl, trivial, ⟨by rw [ht]; exact hP9, va_K.moved hW.alike hK9, hD9⟩⟩, hS.F ht⟩) hS.2.2 d_M_at_42
      · have c_6 := er_b_0.mp c_6
        refine lv_iconst (v := 1) hx hb d_M_at_30 (by decide) ?_
        refine lv_goto (tgt := 35) hx hb d_M_at_31 (by decide) ?_
        have hPc := hP.sub (ws' := [(m0, .inr (2, [.int th, .ref a1, .ref a2, .ref a3, .ref a4, .ref a5, .int lf, .int tp, .int wd, .int hg, .int (er_b wk), .int lk, .int (er_b cv), .int mx, .int my]))]) [0] rfl
        have hDc := hD.sub (ws' := [(m0, .inr (2, [.int th, .ref a1, .ref a2, .ref a3, .ref a4, .ref a5, .int lf, .int tp, .int wd, .int hg, .int (er_b wk), .int lk, .int (er_b cv), .int mx, .int my]))]) [0] (by decide) rfl
        have hKc := hK.sub (tys' := []) [] rfl
        have hFc := va_free (wc := [(m0, .inr (2, [.int th, .ref a1, .ref a2, .ref a3, .ref a4, .ref a5, .int lf, .int tp, .int wd, .int hg, .int (er_b wk), .int lk, .int (er_b cv), .int mx, .int my]))]) hD hS hA [0] rfl
        refine va_calli (va_runV (As := [.int 1, .int 1]) (rest := []) ⟨hx, hb, hml, hown, hts⟩ (c_M_refuse l dC dI m0 a1 a2 a3 a4 a5 th lf tp wd hg (er_b wk) lk (er_b cv) mx my true true s.heap.size) (cwV 2 hts (er_gV k_365 k_366 k_10 k_20 k_367) rfl rfl rfl (by decide +kernel) ⟨Nat.le_of_ble_eq_true rfl, Nat.le_of_ble_eq_true rfl⟩) ⟨PI.blind, va_recv hKc hPc (ci := 2) (q0 := 0) rfl rfl, PI.at hN hKc hPc hDc⟩ rfl rfl hl.1 rfl (lv_room (Nat.le_of_ble_eq_true rfl)) d_M_at_35 ⟨Nat.le_of_ble_eq_true rfl, Nat.le_of_ble_eq_true rfl⟩) hS (fun q _ h => hFc q h) hFc (fun r_9 u t H1 locs ht hvm hw hB hz1 hk1 hS => ?_)
        obtain ⟨hP1, hK1, hD1⟩ := hB
        rw [ht] at hP1
        have hK1 := va_K.moved hvm.symm hK1
        obtain ⟨hP, hD⟩ := va_join (wr := []) (w1 := [(m0, .inr (2, [.int (er_th true true), .ref a1, .ref a2, .ref a3, .ref a4, .ref a5, .int lf, .int tp, .int wd, .int hg, .int (er_b wk), .int lk, .int (er_b cv), .int mx, .int my]))]) hP hD [0] [] rfl rfl (by decide) (by decide) hk1 hFc hP1 hD1
        have hK := (hK.sub (tys' := []) [] rfl).app hK1
        generalize H1 = H at hP hS ⊢
        have hP : va_P (dC, dI) classes [(m0, .inr (2, [.int (er_th true true), .ref a1, .ref a2, .ref a3, .ref a4, .ref a5, .int lf, .int tp, .int wd, .int hg, .int (er_b wk), .int lk, .int (er_b cv), .int mx, .int my]))] H := hP
        have hD : va_D A [(m0, .inr (2, [.int (er_th true true), .ref a1, .ref a2, .ref a3, .ref a4, .ref a5, .int lf, .int tp, .int wd, .int hg, .int (er_b wk), .int lk, .int (er_b cv), .int mx, .int my]))] := hD
        have hK : va_K (dC, dI) classes [] s := hK
        obtain rfl : er_b (true || true) = r_9 := Eq.symm hw
        refine lv_if_eq (tgt := 43) hx hb d_M_at_38 (by decide) (fun c_10 => absurd c_10 (by decide)) (fun _ => ?_)
        refine lv_iconst (v := 0) hx hb d_M_at_41 (by decide) ?_
        have hP9 := hP.sub (ws' := [(m0, .inr (2, [.int (er_th true true), .ref a1, .ref a2, .ref a3, .ref a4, .ref a5, .int lf, .int tp, .int wd, .int hg, .int (er_b wk), .int lk, .int (er_b cv), .int mx, .int my]))]) [0] rfl
        have hD9 := hD.sub (ws' := [(m0, .inr (2, [.int (er_th true true), .ref a1, .ref a2, .ref a3, .ref a4, .ref a5, .int lf, .int tp, .int wd, .int hg, .int (er_b wk), .int lk, .int (er_b cv), .int mx, .int my]))]) [0] (by decide) rfl
        have hK9 := hK.sub (tys' := []) [] rfl
        have hP9 : va_P (dC, dI) classes [(m0, .inr (2, [.int 1, .ref a1, .ref a2, .ref a3, .ref a4, .ref a5, .int lf, .int tp, .int wd, .int hg, .int (er_b wk), .int lk, .int (er_b cv), .int mx, .int my]))] H := by skip; exact hP9
        have hD9 : va_D A [(m0, .inr (2, [.int 1, .ref a1, .ref a2, .ref a3, .ref a4, .ref a5, .int lf, .int tp, .int wd, .int hg, .int (er_b wk), .int lk, .int (er_b cv), .int mx, .int my]))] := by skip; exact hD9
        exact W.iret (v := 0) hx hb hr (fun u9 ht hW => ⟨⟨_, (), rfl, trivial, ⟨by rw [ht]; exact hP9, va_K.moved hW.alike hK9, hD9⟩⟩, hS.F ht⟩) hS.2.2 d_M_at_42

set_option maxHeartbeats 1000000 in
set_option maxRecDepth 100000 in
theorem c_M_atY (l : Launch) (dC : Nat → ClassId) (dI : Nat → Nat → Nat) (m0 a1 a2 a3 a4 a5 : Nat) (th lf tp wd hg lk mx my : Int32) (wk cv : Bool) (p0 : Int32) (u0 : er_win p0 0 27 = true) (hv : (wk && cv) = false) (sz : Nat) : Met l y_M_at w_M_at ({ frames := 1, cells := 0, slots := 0, locals := 22 }) (va_Pc [.ref m0, .int p0] (PI dC dI [] [(m0, .inr (2, [.int th, .ref a1, .ref a2, .ref a3, .ref a4, .ref a5, .int lf, .int tp, .int wd, .int hg, .int (er_b wk), .int lk, .int (er_b cv), .int mx, .int my]))] sz)) (va_Qi (fun (r : Int32) (u : Unit) => True) (fun (u : Unit) t => EI dC dI [] [(m0, .inr (2, [.int 2, .ref a1, .ref a2, .ref a3, .ref a4, .ref a5, .int lf, .int tp, .int wd, .int hg, .int (er_b wk), .int lk, .int (er_b cv), .int mx, .int my]))] (va_A [(m0, .inr (2, [.int th, .ref a1, .ref a2, .ref a3, .ref a4, .ref a5, .int lf, .int tp, .int wd, .int hg, .int (er_b wk), .int lk, .int (er_b cv), .int mx, .int my]))] sz) t) (va_A [(m0, .inr (2, [.int th, .ref a1, .ref a2, .ref a3, .ref a4, .ref a5, .int lf, .int tp, .int wd, .int hg, .int (er_b wk), .int lk, .int (er_b cv), .int mx, .int my]))] sz)) 0 0 (va_A [(m0, .inr (2, [.int th, .ref a1, .ref a2, .ref a3, .ref a4, .ref a5, .int lf, .int tp, .int wd, .int hg, .int (er_b wk), .int lk, .int (er_b cv), .int mx, .int my]))] sz) := by
  refine Met.ofW (cc := b_M_at) (maxL := 10) (ret := (some .int)) (by decide +kernel) rfl ?_
  intro p e s m args below meth c s₁ B hml hv
  obtain ⟨rfl, hsz, hN, hK, hP, hD0⟩ := hv
  have hx := B.exec
  have hb := B.bytes
  have hr := B.returns
  have hts := er_hts (atoms_spec (ws := w_M_at) B.pre)
  have hown : s.vm.findClass R_M = some m.cls := findClass_of_methodNamed B.named
  have hlocks := B.notSynchronized
  subst hsz
  have hD := hD0.self (sz := s.heap.size)
  generalize hAe : va_A [(m0, .inr (2, [.int th, .ref a1, .ref a2, .ref a3, .ref a4, .ref a5, .int lf, .int tp, .int wd, .int hg, .int (er_b wk), .int lk, .int (er_b cv), .int mx, .int my]))] s.heap.size = A at hD ⊢
  have hA : ∀ q : Nat, s.heap.size ≤ q → A q := fun q h => by rw [← hAe]; exact Or.inr h
  have hS : va_S A s.heap s.heap [] := va_S.rf
  have hP : va_P (dC, dI) classes [(m0, .inr (2, [.int th, .ref a1, .ref a2, .ref a3, .ref a4, .ref a5, .int lf, .int tp, .int wd, .int hg, .int (er_b wk), .int lk, .int (er_b cv), .int mx, .int my]))] s.heap := hP
  have hl := lv_entry ([.ref m0, .int p0]) (n := 10) (Nat.le_of_ble_eq_true rfl)
  rw [lg_entry_eq]
  generalize (lg_sl ([.ref m0, .int p0]) ++ List.replicate (10 - (lg_sl ([.ref m0, .int p0])).length) Slot.unset).toArray = ls at hl ⊢
  have hl : lv_has ls 10 [(0, .ref m0), (1, .int p0)] := hl
  refine lv_aload_n hx hb d_M_at_0 rfl (lv_at hl 0 rfl) ?_
  refine lv_iload_n hx hb d_M_at_1 rfl (lv_at hl 1 rfl) ?_
  refine lv_iconst (v := 0) hx hb d_M_at_2 (by decide) ?_
  refine lv_bipush (v := 27) hx hb d_M_at_3 (by decide) ?_
  have hPc := hP.sub (ws' := []) [] rfl
  have hKc := hK.sub (tys' := []) [] rfl
  refine vp_callSi (va_runS (As := [.int p0, .int 0, .int 27]) (rest := [.ref m0]) ⟨hx, hb, hml, hown, hts⟩ (c_M_in l dC dI p0 0 27) (va_cwS 3 hts (er_gS k_360 k_361 k_20 k_362) rfl rfl rfl (by decide +kernel) ⟨Nat.le_of_ble_eq_true rfl, Nat.le_of_ble_eq_true rfl⟩) ⟨PP.blind, PP.at hN hKc hPc⟩ rfl rfl hl.1 rfl (lv_room (Nat.le_of_ble_eq_true rfl)) d_M_at_5 ⟨Nat.zero_le _, Nat.zero_le _⟩).run (fun r_1 hr_1 => ?_)
  obtain rfl : er_b (er_win p0 0 27) = r_1 := Eq.symm hr_1
  refine lv_if_ne (tgt := 15) hx hb d_M_at_8 (by decide) (fun c_2 => ?_) (fun c_2 => ?_)
  · have c_2 := er_b_n.mp c_2
    refine lv_iconst (v := 0) hx hb d_M_at_15 (by decide) ?_
    refine lv_aload_n hx hb d_M_at_16 rfl (lv_at hl 0 rfl) ?_
    refine va_get (D := (dC, dI)) (ci := 2) (v := .int (er_b wk)) (C := R_M) (T := F_M) (N := 15) hx hb hts i_M hown hK hP 0 rfl rfl 10 (by decide) (hts _ k_316) (fun _ h9 => h9) rfl d_M_at_17 ?_
    refine lv_if_eq (tgt := 30) hx hb d_M_at_20 (by decide) (fun c_3 => ?_) (fun c_3 => ?_)
    · have c_3 := er_b_0.mp c_3
      refine lv_iconst (v := 1) hx hb d_M_at_30 (by decide) ?_
      refine lv_goto (tgt := 35) hx hb d_M_at_31 (by decide) ?_
      have hPc := hP.sub (ws' := [(m0, .inr (2, [.int th, .ref a1, .ref a2, .ref a3, .ref a4, .ref a5, .int lf, .int tp, .int wd, .int hg, .int (er_b wk), .int lk, .int (er_b cv), .int mx, .int my]))]) [0] rfl
      have hDc := hD.sub (ws' := [(m0, .inr (2, [.int th, .ref a1, .ref a2, .ref a3, .ref a4, .ref a5, .int lf, .int tp, .int wd, .int hg, .int (er_b wk), .int lk, .int (er_b cv), .int mx, .int my]))]) [0] (by decide) rfl
      have hKc := hK.sub (tys' := []) [] rfl
      have hFc := va_free (wc := [(m0, .inr (2, [.int th, .ref a1, .ref a2, .ref a3, .ref a4, .ref a5, .int lf, .int tp, .int wd, .int hg, .int (er_b wk), .int lk, .int (er_b cv), .int mx, .int my]))]) hD hS hA [0] rfl
      refine va_calli (va_runV (As := [.int 0, .int 1]) (rest := []) ⟨hx, hb, hml, hown, hts⟩ (c_M_refuse l dC dI m0 a1 a2 a3 a4 a5 th lf tp wd hg (er_b wk) lk (er_b cv) mx my false true s.heap.size) (cwV 2 hts (er_gV k_365 k_366 k_10 k_20 k_367) rfl rfl rfl (by decide +kernel) ⟨Nat.le_of_ble_eq_true rfl, Nat.le_of_ble_eq_true rfl⟩) ⟨PI.blind, va_recv hKc hPc (ci := 2) (q0 := 0) rfl rfl, PI.at hN hKc hPc hDc⟩ rfl rfl hl.1 rfl (lv_room (Nat.le_of_ble_eq_true rfl)) d_M_at_35 ⟨Nat.le_of_ble_eq_true rfl, Nat.le_of_ble_eq_true rfl⟩) hS (fun q _ h => hFc q h) hFc (fun r_4 u t H1 locs ht hvm hw hB hz1 hk1 hS => ?_)
      obtain ⟨hP1, hK1, hD1⟩ := hB
      rw [ht] at hP1
      have hK1 := va_K.moved hvm.symm hK1
      obtain ⟨hP, hD⟩ := va_join (wr := []) (w1 := [(m0, .inr (2, [.int (er_th false true), .ref a1, .ref a2, .ref a3, .ref a4, .ref a5, .int lf, .int tp, .int wd, .int hg, .int (er_b wk), .int lk, .int (er_b cv), .int mx, .int my]))]) hP hD [0] [] rfl rfl (by decide) (by decide) hk1 hFc hP1 hD1
      have hK := (hK.sub (tys' := []) [] rfl).app hK1
      generalize H1 = H at hP hS ⊢
      have hP : va_P (dC, dI) classes [(m0, .inr (2, [.int (er_th false true), .ref a1, .ref a2, .ref a3, .ref a4, .ref a5, .int lf, .int tp, .int wd, .int hg, .int (er_b wk), .int lk, .int (er_b cv), .int mx, .int my]))] H := hP
      have hD : va_D A [(m0, .inr (2, [.int (er_th false true), .ref a1, .ref a2, .ref a3, .ref a4, .ref a5, .int lf, .int tp, .int wd, .int hg, .int (er_b wk), .int lk, .int (er_b cv), .int mx, .int my]))] := hD
      have hK : va_K (dC, dI) classes [] s := hK
      obtain rfl : er_b (false || true) = r_4 := Eq.symm hw
      refine lv_if_eq (tgt := 43) hx hb d_M_at_38 (by decide) (fun c_5 => absurd c_5 (by decide)) (fun _ => ?_)
      refine lv_iconst (v := 0) hx hb d_M_at_41 (by decide) ?_
      have hP9 := hP.sub (ws' := [(m0, .inr (2, [.int (er_th false true), .ref a1, .ref a2, .ref a3, .ref a4, .ref a5, .int lf, .int tp, .int wd, .int hg, .int (er_b wk), .int lk, .int (er_b cv), .int mx, .int my]))]) [0] rfl
      have hD9 := hD.sub (ws' := [(m0, .inr (2, [.int (er_th false true), .ref a1, .ref a2, .ref a3, .ref a4, .ref a5, .int lf, .int tp, .int wd, .int hg, .int (er_b wk), .int lk, .int (er_b cv), .int mx, .int my]))]) [0] (by decide) rfl
      have hK9 := hK.sub (tys' := []) [] rfl
      have hP9 : va_P (dC, dI) classes [(m0, .inr (2, [.int 2, .ref a1, .ref a2, .ref a3, .ref a4, .ref a5, .int lf, .int tp, .int wd, .int hg, .int (er_b wk), .int lk, .int (er_b cv), .int mx, .int my]))] H := by skip; exact hP9
      have hD9 : va_D A [(m0, .inr (2, [.int 2, .ref a1, .ref a2, .ref a3, .ref a4, .ref a5, .int lf, .int tp, .int wd, .int hg, .int (er_b wk), .int lk, .int (er_b cv), .int mx, .int my]))] := by skip; exact hD9
      exact W.iret (v := 0) hx hb hr (fun u9 ht hW => ⟨⟨_, (), rfl, trivial, ⟨by rw [ht]; exact hP9, va_K.moved hW.alike hK9, hD9⟩⟩, hS.F ht⟩) hS.2.2 d_M_at_42
    · have c_3 := er_b_n.mp c_3
      refine lv_aload_n hx hb d_M_at_23 rfl (lv_at hl 0 rfl) ?_
      refine va_get (D := (dC, dI)) (ci := 2) (v := .int (er_b cv)) (C := R_M) (T := F_M) (N := 15) hx hb hts i_M hown hK hP 0 rfl rfl 12 (by decide) (hts _ k_318) (fun _ h9 => h9) rfl d_M_at_24 ?_
      refine lv_if_ne (tgt := 34) hx hb d_M_at_27 (by decide) (fun c_6 => ?_) (fun c_6 => ?_)
      · have c_6 := er_b_n.mp c_6
        exfalso
        simp_all
      · have c_6 := er_b_0.mp c_6
        refine lv_iconst (v := 1) hx hb d_M_at_30 (by decide) ?_
        refine lv_goto (tgt := 35) hx hb d_M_at_31 (by decide) ?_
        have hPc := hP.sub (ws' := [(m0, .inr (2, [.int th, .ref a1, .ref a2, .ref a3, .ref a4, .ref a5, .int lf, .int tp, .int wd, .int hg, .int (er_b wk), .int lk, .int (er_b cv), .int mx, .int my]))]) [0] rfl
        have hDc := hD.sub (ws' := [(m0, .inr (2, [.int th, .ref a1, .ref a2, .ref a3, .ref a4, .ref a5, .int lf, .int tp, .int wd, .int hg, .int (er_b wk), .int lk, .int (er_b cv), .int mx, .int my]))]) [0] (by decide) rfl
        have hKc := hK.sub (tys' := []) [] rfl
        have hFc := va_free (wc := [(m0, .inr (2, [.int th, .ref a1, .ref a2, .ref a3, .ref a4, .ref a5, .int lf, .int tp, .int wd, .int hg, .int (er_b wk), .int lk, .int (er_b cv), .int mx, .int my]))]) hD hS hA [0] rfl
        refine va_calli (va_runV (As := [.int 0, .int 1]) (rest := []) ⟨hx, hb, hml, hown, hts⟩ (c_M_refuse l dC dI m0 a1 a2 a3 a4 a5 th lf tp wd hg (er_b wk) lk (er_b cv) mx my false true s.heap.size) (cwV 2 hts (er_gV k_365 k_366 k_10 k_20 k_367) rfl rfl rfl (by decide +kernel) ⟨Nat.le_of_ble_eq_true rfl, Nat.le_of_ble_eq_true rfl⟩) ⟨PI.blind, va_recv hKc hPc (ci := 2) (q0 := 0) rfl rfl, PI.at hN hKc hPc hDc⟩ rfl rfl hl.1 rfl (lv_room (Nat.le_of_ble_eq_true rfl)) d_M_at_35 ⟨Nat.le_of_ble_eq_true rfl, Nat.le_of_ble_eq_true rfl⟩) hS (fun q _ h => hFc q h) hFc (fun r_7 u t H1 locs ht hvm hw hB hz1 hk1 hS => ?_)
        obtain ⟨hP1, hK1, hD1⟩ := hB
        rw [ht] at hP1
        have hK1 := va_K.moved hvm.symm hK1
        obtain ⟨hP, hD⟩ := va_join (wr := []) (w1 := [(m0, .inr (2, [.int (er_th false true), .ref a1, .ref a2, .ref a3, .ref a4, .ref a5, .int lf, .int tp, .int wd, .int hg, .int (er_b wk), .int lk, .int (er_b cv), .int mx, .int my]))]) hP hD [0] [] rfl rfl (by decide) (by decide) hk1 hFc hP1 hD1
        have hK := (hK.sub (tys' := []) [] rfl).app hK1
        generalize H1 = H at hP hS ⊢
        have hP : va_P (dC, dI) classes [(m0, .inr (2, [.int (er_th false true), .ref a1, .ref a2, .ref a3, .ref a4, .ref a5, .int lf, .int tp, .int wd, .int hg, .int (er_b wk), .int lk, .int (er_b cv), .int mx, .int my]))] H := hP
        have hD : va_D A [(m0, .inr (2, [.int (er_th false true), .ref a1, .ref a2, .ref a3, .ref a4, .ref a5, .int lf, .int tp, .int wd, .int hg, .int (er_b wk), .int lk, .int (er_b cv), .int mx, .int my]))] := hD
        have hK : va_K (dC, dI) classes [] s := hK
        obtain rfl : er_b (false || true) = r_7 := Eq.symm hw
        refine lv_if_eq (tgt := 43) hx hb d_M_at_38 (by decide) (fun c_8 => absurd c_8 (by decide)) (fun _ => ?_)
        refine lv_iconst (v := 0) hx hb d_M_at_41 (by decide) ?_
        have hP9 := hP.sub (ws' := [(m0, .inr (2, [.int (er_th false true), .ref a1, .ref a2, .ref a3, .ref a4, .ref a5, .int lf, .int tp, .int wd, .int hg, .int (er_b wk), .int lk, .int (er_b cv), .int mx, .int my]))]) [0] rfl
        have hD9 := hD.sub (ws' := [(m0, .inr (2, [.int (er_th false true), .ref a1, .ref a2, .ref a3, .ref a4, .ref a5, .int lf, .int tp, .int wd, .int hg, .int (er_b wk), .int lk, .int (er_b cv), .int mx, .int my]))]) [0] (by decide) rfl
        have hK9 := hK.sub (tys' := []) [] rfl
        have hP9 : va_P (dC, dI) classes [(m0, .inr (2, [.int 2, .ref a1, .ref a2, .ref a3, .ref a4, .ref a5, .int lf, .int tp, .int wd, .int hg, .int (er_b wk), .int lk, .int (er_b cv), .int mx, .int my]))] H := by skip; exact hP9
        have hD9 : va_D A [(m0, .inr (2, [.int 2, .ref a1, .ref a2, .ref a3, .ref a4, .ref a5, .int lf, .int tp, .int wd, .int hg, .int (er_b wk), .int lk, .int (er_b cv), .int mx, .int my]))] := by skip; exact hD9
        exact W.iret (v := 0) hx hb hr (fun u9 ht hW => ⟨⟨_, (), rfl, trivial, ⟨by rw [ht]; exact hP9, va_K.moved hW.alike hK9, hD9⟩⟩, hS.F ht⟩) hS.2.2 d_M_at_42
  · have c_2 := er_b_0.mp c_2
    exact absurd c_2 (by simp_all)
