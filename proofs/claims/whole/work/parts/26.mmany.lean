set_option maxHeartbeats 1000000 in
set_option maxRecDepth 100000 in
theorem c_M_many (l : Launch) (dC : Nat → ClassId) (dI : Nat → Nat → Nat) (m0 a1 a2 a3 a4 a5 : Nat) (g1 g2 : ClassId) (X Y : Nat → Int32) (th ws lk cm mx my : Int32) (a b c9 d : Nat) (hc : 0 < c9) (hc9 : c9 < 100000) (hcd : c9 * d < 100000) (sz : Nat) : Met l y_M_many w_M_many ({ frames := 5, cells := 0, slots := 0, locals := 121 }) (va_Pc [.ref m0] (PI dC dI [(g1, .int), (g2, .int)] [(m0, .inr (2, [.int th, .ref a1, .ref a2, .ref a3, .ref a4, .ref a5, .int (nI a), .int (nI b), .int (nI c9), .int (nI d), .int ws, .int lk, .int cm, .int mx, .int my])), (a1, .inl (g1, 3, .inl X)), (a2, .inl (g2, 3, .inl Y))] sz)) (va_Qi (fun (r : Int32) (u : Unit) => r = nI (er_cnt (er_f X Y a b c9) (c9 * d))) (fun (u : Unit) t => EI dC dI [(g1, .int), (g2, .int)] [(m0, .inr (2, [.int 0, .ref a1, .ref a2, .ref a3, .ref a4, .ref a5, .int (nI a), .int (nI b), .int (nI c9), .int (nI d), .int ws, .int lk, .int cm, .int mx, .int my])), (a1, .inl (g1, 3, .inl X)), (a2, .inl (g2, 3, .inl Y))] (va_A [(m0, .inr (2, [.int th, .ref a1, .ref a2, .ref a3, .ref a4, .ref a5, .int (nI a), .int (nI b), .int (nI c9), .int (nI d), .int ws, .int lk, .int cm, .int mx, .int my])), (a1, .inl (g1, 3, .inl X)), (a2, .inl (g2, 3, .inl Y))] sz) t) (va_A [(m0, .inr (2, [.int th, .ref a1, .ref a2, .ref a3, .ref a4, .ref a5, .int (nI a), .int (nI b), .int (nI c9), .int (nI d), .int ws, .int lk, .int cm, .int mx, .int my])), (a1, .inl (g1, 3, .inl X)), (a2, .inl (g2, 3, .inl Y))] sz)) 0 0 (va_A [(m0, .inr (2, [.int th, .ref a1, .ref a2, .ref a3, .ref a4, .ref a5, .int (nI a), .int (nI b), .int (nI c9), .int (nI d), .int ws, .int lk, .int cm, .int mx, .int my])), (a1, .inl (g1, 3, .inl X)), (a2, .inl (g2, 3, .inl Y))] sz) := by
  refine Met.ofW (cc := b_M_many) (maxL := 3) (ret := (some .int)) (by decide +kernel) rfl ?_
  intro p e s m args below meth c s₁ B hml hv
  obtain ⟨rfl, hsz, hN, hK, hP, hD0⟩ := hv
  have hx := B.exec
  have hb := B.bytes
  have hr := B.returns
  have hts := er_hts (atoms_spec (ws := w_M_many) B.pre)
  have hown : s.vm.findClass R_M = some m.cls := findClass_of_methodNamed B.named
  have hlocks := B.notSynchronized
  subst hsz
  have hD := hD0.self (sz := s.heap.size)
  generalize hAe : va_A [(m0, .inr (2, [.int th, .ref a1, .ref a2, .ref a3, .ref a4, .ref a5, .int (nI a), .int (nI b), .int (nI c9), .int (nI d), .int ws, .int lk, .int cm, .int mx, .int my])), (a1, .inl (g1, 3, .inl X)), (a2, .inl (g2, 3, .inl Y))] s.heap.size = A at hD ⊢
  have hA : ∀ q : Nat, s.heap.size ≤ q → A q := fun q h => by rw [← hAe]; exact Or.inr h
  have hS : va_S A s.heap s.heap [] := va_S.rf
  have hP : va_P (dC, dI) classes [(m0, .inr (2, [.int th, .ref a1, .ref a2, .ref a3, .ref a4, .ref a5, .int (nI a), .int (nI b), .int (nI c9), .int (nI d), .int ws, .int lk, .int cm, .int mx, .int my])), (a1, .inl (g1, 3, .inl X)), (a2, .inl (g2, 3, .inl Y))] s.heap := hP
  have hl := lv_entry ([.ref m0]) (n := 3) (Nat.le_of_ble_eq_true rfl)
  rw [lg_entry_eq]
  generalize (lg_sl ([.ref m0]) ++ List.replicate (3 - (lg_sl ([.ref m0])).length) Slot.unset).toArray = ls at hl ⊢
  have hl : lv_has ls 3 [(0, .ref m0)] := hl
  refine lv_aload_n hx hb d_M_many_0 rfl (lv_at hl 0 rfl) ?_
  refine lv_iconst (v := 0) hx hb d_M_many_1 (by decide) ?_
  refine va_put (D := (dC, dI)) (ci := 2) (v := .int 0) (ty := .int) (C := R_M) (T := F_M) (N := 15) hx hb hts i_M t_M t_M_ok n_M hown hK hP hD hS 0 rfl rfl 0 (by decide) (hts _ k_306) (fun _ h9 => h9) rfl (by decide +kernel) rfl rfl (Nat.le_of_ble_eq_true rfl) d_M_many_2 (fun H locs hP hD hS => ?_)
  have hP : va_P (dC, dI) classes [(m0, .inr (2, [.int 0, .ref a1, .ref a2, .ref a3, .ref a4, .ref a5, .int (nI a), .int (nI b), .int (nI c9), .int (nI d), .int ws, .int lk, .int cm, .int mx, .int my])), (a1, .inl (g1, 3, .inl X)), (a2, .inl (g2, 3, .inl Y))] H := hP
  have hD : va_D A [(m0, .inr (2, [.int 0, .ref a1, .ref a2, .ref a3, .ref a4, .ref a5, .int (nI a), .int (nI b), .int (nI c9), .int (nI d), .int ws, .int lk, .int cm, .int mx, .int my])), (a1, .inl (g1, 3, .inl X)), (a2, .inl (g2, 3, .inl Y))] := hD
  refine lv_iconst (v := 0) hx hb d_M_many_5 (by decide) ?_
  refine lv_istore_n (lv' := [(1, .int 0), (0, .ref m0)]) hx hb d_M_many_6 rfl hl (by decide) rfl (fun ls hl => ?_)
  refine lv_iconst (v := 0) hx hb d_M_many_7 (by decide) ?_
  refine lv_istore_n (lv' := [(2, .int 0), (1, .int 0), (0, .ref m0)]) hx hb d_M_many_8 rfl hl (by decide) rfl (fun ls hl => ?_)
  obtain ⟨t, b1, hl2⟩ : ∃ t : Nat, (t ≤ c9 * d) ∧ lv_has ls 3 [(2, .int (nI t)), (1, .int (nI (er_cnt (er_f X Y a b c9) t))), (0, .ref m0)] := ⟨0, by omega, lv_sub hl [0, 1, 2] rfl⟩
  clear hl
  have hl := hl2
  clear hl2
  induction hnt : c9 * d - t using Nat.strongRecOn generalizing t ls with
  | ind nt iht =>
    refine lv_iload_n hx hb d_M_many_9 rfl (lv_at hl 0 rfl) ?_
    refine lv_aload_n hx hb d_M_many_10 rfl (lv_at hl 2 rfl) ?_
    refine va_get (D := (dC, dI)) (ci := 2) (v := .int (nI c9)) (C := R_M) (T := F_M) (N := 15) hx hb hts i_M hown hK hP 0 rfl rfl 8 (by decide) (hts _ k_314) (fun _ h9 => h9) rfl d_M_many_11 ?_
    refine lv_aload_n hx hb d_M_many_14 rfl (lv_at hl 2 rfl) ?_
    refine va_get (D := (dC, dI)) (ci := 2) (v := .int (nI d)) (C := R_M) (T := F_M) (N := 15) hx hb hts i_M hown hK hP 0 rfl rfl 9 (by decide) (hts _ k_315) (fun _ h9 => h9) rfl d_M_many_15 ?_
    refine lv_imul hx hb d_M_many_18 ?_
    refine lv_icmp_ge (tgt := 65) hx hb d_M_many_19 (by decide) (fun c_1 => ?_) (fun c_1 => ?_)
    · rw [pk_mul] at c_1
      have c_1 := er_le c_1 (by omega) (by omega)
      refine lv_iload_n hx hb d_M_many_65 rfl (lv_at hl 1 rfl) ?_
      have hP9 := hP.sub (ws' := [(m0, .inr (2, [.int 0, .ref a1, .ref a2, .ref a3, .ref a4, .ref a5, .int (nI a), .int (nI b), .int (nI c9), .int (nI d), .int ws, .int lk, .int cm, .int mx, .int my])), (a1, .inl (g1, 3, .inl X)), (a2, .inl (g2, 3, .inl Y))]) [0, 1, 2] rfl
      have hD9 := hD.sub (ws' := [(m0, .inr (2, [.int 0, .ref a1, .ref a2, .ref a3, .ref a4, .ref a5, .int (nI a), .int (nI b), .int (nI c9), .int (nI d), .int ws, .int lk, .int cm, .int mx, .int my])), (a1, .inl (g1, 3, .inl X)), (a2, .inl (g2, 3, .inl Y))]) [0, 1, 2] (by decide) rfl
      have hK9 := hK.sub (tys' := [(g1, .int), (g2, .int)]) [0, 1] rfl
      exact W.iret (v := nI (er_cnt (er_f X Y a b c9) t)) hx hb hr (fun u9 ht hW => ⟨⟨_, (), rfl, (by rw [show t = c9 * d by omega]), ⟨by rw [ht]; exact hP9, va_K.moved hW.alike hK9, hD9⟩⟩, hS.F ht⟩) hS.2.2 d_M_many_66
    · rw [pk_mul] at c_1
      have c_1 := er_nle c_1 (by omega) (by omega)
      refine lv_iload_n hx hb d_M_many_22 rfl (lv_at hl 1 rfl) ?_
      refine lv_aload_n hx hb d_M_many_23 rfl (lv_at hl 2 rfl) ?_
      refine lv_aload_n hx hb d_M_many_24 rfl (lv_at hl 2 rfl) ?_
      refine va_get (D := (dC, dI)) (ci := 2) (v := .int (nI a)) (C := R_M) (T := F_M) (N := 15) hx hb hts i_M hown hK hP 0 rfl rfl 6 (by decide) (hts _ k_312) (fun _ h9 => h9) rfl d_M_many_25 ?_
      refine lv_iload_n hx hb d_M_many_28 rfl (lv_at hl 0 rfl) ?_
      refine lv_aload_n hx hb d_M_many_29 rfl (lv_at hl 2 rfl) ?_
      refine va_get (D := (dC, dI)) (ci := 2) (v := .int (nI c9)) (C := R_M) (T := F_M) (N := 15) hx hb hts i_M hown hK hP 0 rfl rfl 8 (by decide) (hts _ k_314) (fun _ h9 => h9) rfl d_M_many_30 ?_
      refine lv_irem hx hb d_M_many_33 (nI_ne0 hc (by omega)) ?_
      refine lv_iadd hx hb d_M_many_34 ?_
      refine lv_topi (x := (nI a) + ((nI t) - (nI t) / (nI c9) * (nI c9))) (fun y9 e9 => ?_)
      obtain rfl : y9 = er_px a c9 t := by rw [e9]; exact er_pxm hc (by omega) (by omega)
      refine lv_aload_n hx hb d_M_many_35 rfl (lv_at hl 2 rfl) ?_
      refine va_get (D := (dC, dI)) (ci := 2) (v := .int (nI b)) (C := R_M) (T := F_M) (N := 15) hx hb hts i_M hown hK hP 0 rfl rfl 7 (by decide) (hts _ k_313) (fun _ h9 => h9) rfl d_M_many_36 ?_
      refine lv_iload_n hx hb d_M_many_39 rfl (lv_at hl 0 rfl) ?_
      refine lv_aload_n hx hb d_M_many_40 rfl (lv_at hl 2 rfl) ?_
      refine va_get (D := (dC, dI)) (ci := 2) (v := .int (nI c9)) (C := R_M) (T := F_M) (N := 15) hx hb hts i_M hown hK hP 0 rfl rfl 8 (by decide) (hts _ k_314) (fun _ h9 => h9) rfl d_M_many_41 ?_
      refine lv_idiv hx hb d_M_many_44 (nI_ne0 hc (by omega)) ?_
      refine lv_iadd hx hb d_M_many_45 ?_
      refine lv_topi (x := (nI b) + ((nI t) / (nI c9))) (fun y9 e9 => ?_)
      obtain rfl : y9 = er_py b c9 t := by rw [e9]; exact er_pym hc (by omega) (by omega)
      have hPc := hP.sub (ws' := [(m0, .inr (2, [.int 0, .ref a1, .ref a2, .ref a3, .ref a4, .ref a5, .int (nI a), .int (nI b), .int (nI c9), .int (nI d), .int ws, .int lk, .int cm, .int mx, .int my])), (a1, .inl (g1, 3, .inl X)), (a2, .inl (g2, 3, .inl Y))]) [0, 1, 2] rfl
      have hKc := hK.sub (tys' := [(g1, .int), (g2, .int)]) [0, 1] rfl
      refine vp_callSi (va_runV (As := [.int (er_px a c9 t), .int (er_py b c9 t)]) (rest := [.int (nI (er_cnt (er_f X Y a b c9) t))]) ⟨hx, hb, hml, hown, hts⟩ (c_M_isCovered l dC dI m0 a1 a2 a3 a4 a5 g1 g2 X Y 0 (nI a) (nI b) (nI c9) (nI d) ws lk cm mx my (er_px a c9 t) (er_py b c9 t)) (cwV 2 hts (er_gV k_390 k_391 k_13 k_20 k_392) rfl rfl rfl (by decide +kernel) ⟨Nat.le_of_ble_eq_true rfl, Nat.le_of_ble_eq_true rfl⟩) ⟨PP.blind, va_recv hKc hPc (ci := 2) (q0 := 0) rfl rfl, PP.at hN hKc hPc⟩ rfl rfl hl.1 rfl (lv_room (Nat.le_of_ble_eq_true rfl)) d_M_many_46 ⟨Nat.zero_le _, Nat.zero_le _⟩).run (fun r_2 hr_2 => ?_)
      obtain rfl : er_b (er_cov X Y (er_px a c9 t) (er_py b c9 t)) = r_2 := Eq.symm hr_2
      refine lv_if_eq (tgt := 56) hx hb d_M_many_49 (by decide) (fun c_3 => ?_) (fun c_3 => ?_)
      · have c_3 := er_b_0.mp c_3
        refine lv_iconst (v := 0) hx hb d_M_many_56 (by decide) ?_
        refine lv_iadd hx hb d_M_many_57 ?_
        refine lv_istore_n (lv' := [(1, .int ((nI (er_cnt (er_f X Y a b c9) t)) + 0)), (2, .int (nI t)), (0, .ref m0)]) hx hb d_M_many_58 rfl hl (by decide) rfl (fun ls hl => ?_)
        refine lv_iinc (v := (nI t) + 1) (lv' := [(2, .int ((nI t) + 1)), (1, .int ((nI (er_cnt (er_f X Y a b c9) t)) + 0)), (0, .ref m0)]) hx hb d_M_many_59 hl (k := 1) rfl (by first | rfl | decide) (by decide) rfl (fun ls hl => ?_)
        refine lv_goto (tgt := 9) hx hb d_M_many_62 (by decide) ?_
        exact iht _ (by omega) (ls := ls) (t := t + 1) (b1 := by omega) (hl := by have hl := lv_sub hl [0, 1, 2] rfl; rw [nI_1 t, Int32.add_zero, er_cnt_f (show er_f X Y a b c9 t = _ from c_3)] at hl; exact hl) (hnt := rfl)
      · have c_3 := er_b_n.mp c_3
        refine lv_iconst (v := 1) hx hb d_M_many_52 (by decide) ?_
        refine lv_goto (tgt := 57) hx hb d_M_many_53 (by decide) ?_
        refine lv_iadd hx hb d_M_many_57 ?_
        refine lv_istore_n (lv' := [(1, .int ((nI (er_cnt (er_f X Y a b c9) t)) + 1)), (2, .int (nI t)), (0, .ref m0)]) hx hb d_M_many_58 rfl hl (by decide) rfl (fun ls hl => ?_)
        refine lv_iinc (v := (nI t) + 1) (lv' := [(2, .int ((nI t) + 1)), (1, .int ((nI (er_cnt (er_f X Y a b c9) t)) + 1)), (0, .ref m0)]) hx hb d_M_many_59 hl (k := 1) rfl (by first | rfl | decide) (by decide) rfl (fun ls hl => ?_)
        refine lv_goto (tgt := 9) hx hb d_M_many_62 (by decide) ?_
        exact iht _ (by omega) (ls := ls) (t := t + 1) (b1 := by omega) (hl := by have hl := lv_sub hl [0, 1, 2] rfl; rw [nI_1 t, er_cnt_t (show er_f X Y a b c9 t = _ from c_3)] at hl; exact hl) (hnt := rfl)
