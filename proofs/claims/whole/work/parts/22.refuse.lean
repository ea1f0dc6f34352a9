set_option maxHeartbeats 1000000 in
set_option maxRecDepth 100000 in
theorem c_M_refuse (l : Launch) (dC : Nat → ClassId) (dI : Nat → Nat → Nat) (m0 a1 a2 a3 a4 a5 : Nat) (th lf tp wd hg ws lk cm mx my : Int32) (f g : Bool) (sz : Nat) : Met l y_M_refuse w_M_refuse ({ frames := 0, cells := 0, slots := 0, locals := 0 }) (va_Pc [.ref m0, .int (er_b f), .int (er_b g)] (PI dC dI [] [(m0, .inr (2, [.int th, .ref a1, .ref a2, .ref a3, .ref a4, .ref a5, .int lf, .int tp, .int wd, .int hg, .int ws, .int lk, .int cm, .int mx, .int my]))] sz)) (va_Qi (fun (r : Int32) (u : Unit) => r = er_b (f || g)) (fun (u : Unit) t => EI dC dI [] [(m0, .inr (2, [.int (er_th f g), .ref a1, .ref a2, .ref a3, .ref a4, .ref a5, .int lf, .int tp, .int wd, .int hg, .int ws, .int lk, .int cm, .int mx, .int my]))] (va_A [(m0, .inr (2, [.int th, .ref a1, .ref a2, .ref a3, .ref a4, .ref a5, .int lf, .int tp, .int wd, .int hg, .int ws, .int lk, .int cm, .int mx, .int my]))] sz) t) (va_A [(m0, .inr (2, [.int th, .ref a1, .ref a2, .ref a3, .ref a4, .ref a5, .int lf, .int tp, .int wd, .int hg, .int ws, .int lk, .int cm, .int mx, .int my]))] sz)) 0 0 (va_A [(m0, .inr (2, [.int th, .ref a1, .ref a2, .ref a3, .ref a4, .ref a5, .int lf, .int tp, .int wd, .int hg, .int ws, .int lk, .int cm, .int mx, .int my]))] sz) := by
  refine Met.ofW (cc := b_M_refuse) (maxL := 3) (ret := (some .boolean)) (by decide +kernel) rfl ?_
  intro p e s m args below meth c s₁ B hml hv
  obtain ⟨rfl, hsz, hN, hK, hP, hD0⟩ := hv
  have hx := B.exec
  have hb := B.bytes
  have hr := B.returns
  have hts := er_hts (atoms_spec (ws := w_M_refuse) B.pre)
  have hown : s.vm.findClass R_M = some m.cls := findClass_of_methodNamed B.named
  have hlocks := B.notSynchronized
  subst hsz
  have hD := hD0.self (sz := s.heap.size)
  generalize hAe : va_A [(m0, .inr (2, [.int th, .ref a1, .ref a2, .ref a3, .ref a4, .ref a5, .int lf, .int tp, .int wd, .int hg, .int ws, .int lk, .int cm, .int mx, .int my]))] s.heap.size = A at hD ⊢
  have hA : ∀ q : Nat, s.heap.size ≤ q → A q := fun q h => by rw [← hAe]; exact Or.inr h
  have hS : va_S A s.heap s.heap [] := va_S.rf
  have hP : va_P (dC, dI) classes [(m0, .inr (2, [.int th, .ref a1, .ref a2, .ref a3, .ref a4, .ref a5, .int lf, .int tp, .int wd, .int hg, .int ws, .int lk, .int cm, .int mx, .int my]))] s.heap := hP
  have hl := lv_entry ([.ref m0, .int (er_b f), .int (er_b g)]) (n := 3) (Nat.le_of_ble_eq_true rfl)
  rw [lg_entry_eq]
  generalize (lg_sl ([.ref m0, .int (er_b f), .int (er_b g)]) ++ List.replicate (3 - (lg_sl ([.ref m0, .int (er_b f), .int (er_b g)])).length) Slot.unset).toArray = ls at hl ⊢
  have hl : lv_has ls 3 [(0, .ref m0), (1, .int (er_b f)), (2, .int (er_b g))] := hl
  refine lv_aload_n hx hb d_M_refuse_0 rfl (lv_at hl 0 rfl) ?_
  refine lv_iload_n hx hb d_M_refuse_1 rfl (lv_at hl 1 rfl) ?_
  refine lv_if_eq (tgt := 9) hx hb d_M_refuse_2 (by decide) (fun c_1 => ?_) (fun c_1 => ?_)
  · have c_1 := er_b_0.mp c_1
    refine lv_iload_n hx hb d_M_refuse_9 rfl (lv_at hl 2 rfl) ?_
    refine lv_if_eq (tgt := 17) hx hb d_M_refuse_10 (by decide) (fun c_2 => ?_) (fun c_2 => ?_)
    · have c_2 := er_b_0.mp c_2
      refine lv_iconst (v := 0) hx hb d_M_refuse_17 (by decide) ?_
      refine va_put (D := (dC, dI)) (ci := 2) (v := .int 0) (ty := .int) (C := R_M) (T := F_M) (N := 15) hx hb hts i_M t_M t_M_ok n_M hown hK hP hD hS 0 rfl rfl 0 (by decide) (hts _ k_306) (fun _ h9 => h9) rfl (by decide +kernel) rfl rfl (Nat.le_of_ble_eq_true rfl) d_M_refuse_18 (fun H locs hP hD hS => ?_)
      have hP : va_P (dC, dI) classes [(m0, .inr (2, [.int 0, .ref a1, .ref a2, .ref a3, .ref a4, .ref a5, .int lf, .int tp, .int wd, .int hg, .int ws, .int lk, .int cm, .int mx, .int my]))] H := hP
      have hD : va_D A [(m0, .inr (2, [.int 0, .ref a1, .ref a2, .ref a3, .ref a4, .ref a5, .int lf, .int tp, .int wd, .int hg, .int ws, .int lk, .int cm, .int mx, .int my]))] := hD
      refine lv_aload_n hx hb d_M_refuse_21 rfl (lv_at hl 0 rfl) ?_
      refine va_get (D := (dC, dI)) (ci := 2) (v := .int 0) (C := R_M) (T := F_M) (N := 15) hx hb hts i_M hown hK hP 0 rfl rfl 0 (by decide) (hts _ k_306) (fun _ h9 => h9) rfl d_M_refuse_22 ?_
      refine lv_if_le (tgt := 32) hx hb d_M_refuse_25 (by decide) (fun _ => ?_) (fun c_3 => absurd c_3 (by decide))
      refine lv_iconst (v := 0) hx hb d_M_refuse_32 (by decide) ?_
      have hP9 := hP.sub (ws' := [(m0, .inr (2, [.int 0, .ref a1, .ref a2, .ref a3, .ref a4, .ref a5, .int lf, .int tp, .int wd, .int hg, .int ws, .int lk, .int cm, .int mx, .int my]))]) [0] rfl
      have hD9 := hD.sub (ws' := [(m0, .inr (2, [.int 0, .ref a1, .ref a2, .ref a3, .ref a4, .ref a5, .int lf, .int tp, .int wd, .int hg, .int ws, .int lk, .int cm, .int mx, .int my]))]) [0] (by decide) rfl
      have hK9 := hK.sub (tys' := []) [] rfl
      have hP9 : va_P (dC, dI) classes [(m0, .inr (2, [.int (er_th f g), .ref a1, .ref a2, .ref a3, .ref a4, .ref a5, .int lf, .int tp, .int wd, .int hg, .int ws, .int lk, .int cm, .int mx, .int my]))] H := by rw [show er_th f g = 0 by simp_all [er_th]]; exact hP9
      have hD9 : va_D A [(m0, .inr (2, [.int (er_th f g), .ref a1, .ref a2, .ref a3, .ref a4, .ref a5, .int lf, .int tp, .int wd, .int hg, .int ws, .int lk, .int cm, .int mx, .int my]))] := by rw [show er_th f g = 0 by simp_all [er_th]]; exact hD9
      exact W.zret (v := 0) (ty := .boolean) hx hb hr (by decide) (fun u9 ht hW => ⟨⟨_, (), rfl, (by simp_all [er_b]), ⟨by rw [ht]; exact hP9, va_K.moved hW.alike hK9, hD9⟩⟩, hS.F ht⟩) hS.2.2 d_M_refuse_33
    · have c_2 := er_b_n.mp c_2
      refine lv_iconst (v := 2) hx hb d_M_refuse_13 (by decide) ?_
      refine lv_goto (tgt := 18) hx hb d_M_refuse_14 (by decide) ?_
      refine va_put (D := (dC, dI)) (ci := 2) (v := .int 2) (ty := .int) (C := R_M) (T := F_M) (N := 15) hx hb hts i_M t_M t_M_ok n_M hown hK hP hD hS 0 rfl rfl 0 (by decide) (hts _ k_306) (fun _ h9 => h9) rfl (by decide +kernel) rfl rfl (Nat.le_of_ble_eq_true rfl) d_M_refuse_18 (fun H locs hP hD hS => ?_)
      have hP : va_P (dC, dI) classes [(m0, .inr (2, [.int 2, .ref a1, .ref a2, .ref a3, .ref a4, .ref a5, .int lf, .int tp, .int wd, .int hg, .int ws, .int lk, .int cm, .int mx, .int my]))] H := hP
      have hD : va_D A [(m0, .inr (2, [.int 2, .ref a1, .ref a2, .ref a3, .ref a4, .ref a5, .int lf, .int tp, .int wd, .int hg, .int ws, .int lk, .int cm, .int mx, .int my]))] := hD
      refine lv_aload_n hx hb d_M_refuse_21 rfl (lv_at hl 0 rfl) ?_
      refine va_get (D := (dC, dI)) (ci := 2) (v := .int 2) (C := R_M) (T := F_M) (N := 15) hx hb hts i_M hown hK hP 0 rfl rfl 0 (by decide) (hts _ k_306) (fun _ h9 => h9) rfl d_M_refuse_22 ?_
      refine lv_if_le (tgt := 32) hx hb d_M_refuse_25 (by decide) (fun c_4 => absurd c_4 (by decide)) (fun _ => ?_)
      refine lv_iconst (v := 1) hx hb d_M_refuse_28 (by decide) ?_
      refine lv_goto (tgt := 33) hx hb d_M_refuse_29 (by decide) ?_
      have hP9 := hP.sub (ws' := [(m0, .inr (2, [.int 2, .ref a1, .ref a2, .ref a3, .ref a4, .ref a5, .int lf, .int tp, .int wd, .int hg, .int ws, .int lk, .int cm, .int mx, .int my]))]) [0] rfl
      have hD9 := hD.sub (ws' := [(m0, .inr (2, [.int 2, .ref a1, .ref a2, .ref a3, .ref a4, .ref a5, .int lf, .int tp, .int wd, .int hg, .int ws, .int lk, .int cm, .int mx, .int my]))]) [0] (by decide) rfl
      have hK9 := hK.sub (tys' := []) [] rfl
      have hP9 : va_P (dC, dI) classes [(m0, .inr (2, [.int (er_th f g), .ref a1, .ref a2, .ref a3, .ref a4, .ref a5, .int lf, .int tp, .int wd, .int hg, .int ws, .int lk, .int cm, .int mx, .int my]))] H := by rw [show er_th f g = 2 by simp_all [er_th]]; exact hP9
      have hD9 : va_D A [(m0, .inr (2, [.int (er_th f g), .ref a1, .ref a2, .ref a3, .ref a4, .ref a5, .int lf, .int tp, .int wd, .int hg, .int ws, .int lk, .int cm, .int mx, .int my]))] := by rw [show er_th f g = 2 by simp_all [er_th]]; exact hD9
      exact W.zret (v := 1) (ty := .boolean) hx hb hr (by decide) (fun u9 ht hW => ⟨⟨_, (), rfl, (by simp_all [er_b]), ⟨by rw [ht]; exact hP9, va_K.moved hW.alike hK9, hD9⟩⟩, hS.F ht⟩) hS.2.2 d_M_refuse_33
  · have c_1 := er_b_n.mp c_1
    refine lv_iconst (v := 1) hx hb d_M_refuse_5 (by decide) ?_
    refine lv_goto (tgt := 18) hx hb d_M_refuse_6 (by decide) ?_
    refine va_put (D := (dC, dI)) (ci := 2) (v := .int 1) (ty := .int) (C := R_M) (T := F_M) (N := 15) hx hb hts i_M t_M t_M_ok n_M hown hK hP hD hS 0 rfl rfl 0 (by decide) (hts _ k_306) (fun _ h9 => h9) rfl (by decide +kernel) rfl rfl (Nat.le_of_ble_eq_true rfl) d_M_refuse_18 (fun H locs hP hD hS => ?_)
    have hP : va_P (dC, dI) classes [(m0, .inr (2, [.int 1, .ref a1, .ref a2, .ref a3, .ref a4, .ref a5, .int lf, .int tp, .int wd, .int hg, .int ws, .int lk, .int cm, .int mx, .int my]))] H := hP
    have hD : va_D A [(m0, .inr (2, [.int 1, .ref a1, .ref a2, .ref a3, .ref a4, .ref a5, .int lf, .int tp, .int wd, .int hg, .int ws, .int lk, .int cm, .int mx, .int my]))] := hD
    refine lv_aload_n hx hb d_M_refuse_21 rfl (lv_at hl 0 rfl) ?_
    refine va_get (D := (dC, dI)) (ci := 2) (v := .int 1) (C := R_M) (T := F_M) (N := 15) hx hb hts i_M hown hK hP 0 rfl rfl 0 (by decide) (hts _ k_306) (fun _ h9 => h9) rfl d_M_refuse_22 ?_
    refine lv_if_le (tgt := 32) hx hb d_M_refuse_25 (by decide) (fun c_5 => absurd c_5 (by decide)) (fun _ => ?_)
    refine lv_iconst (v := 1) hx hb d_M_refuse_28 (by decide) ?_
    refine lv_goto (tgt := 33) hx hb d_M_refuse_29 (by decide) ?_
    have hP9 := hP.sub (ws' := [(m0, .inr (2, [.int 1, .ref a1, .ref a2, .ref a3, .ref a4, .ref a5, .int lf, .int tp, .int wd, .int hg, .int ws, .int lk, .int cm, .int mx, .int my]))]) [0] rfl
    have hD9 := hD.sub (ws' := [(m0, .inr (2, [.int 1, .ref a1, .ref a2, .ref a3, .ref a4, .ref a5, .int lf, .int tp, .int wd, .int hg, .int ws, .int lk, .int cm, .int mx, .int my]))]) [0] (by decide) rfl
    have hK9 := hK.sub (tys' := []) [] rfl
    have hP9 : va_P (dC, dI) classes [(m0, .inr (2, [.int (er_th f g), .ref a1, .ref a2, .ref a3, .ref a4, .ref a5, .int lf, .int tp, .int wd, .int hg, .int ws, .int lk, .int cm, .int mx, .int my]))] H := by rw [show er_th f g = 1 by simp_all [er_th]]; exact hP9
    have hD9 : va_D A [(m0, .inr (2, [.int (er_th f g), .ref a1, .ref a2, .ref a3, .ref a4, .ref a5, .int lf, .int tp, .int wd, .int hg, .int ws, .int lk, .int cm, .int mx, .int my]))] := by rw [show er_th f g = 1 by simp_all [er_th]]; exact hD9
    exact W.zret (v := 1) (ty := .boolean) hx hb hr (by decide) (fun u9 ht hW => ⟨⟨_, (), rfl, (by simp_all [er_b]), ⟨by rw [ht]; exact hP9, va_K.moved hW.alike hK9, hD9⟩⟩, hS.F ht⟩) hS.2.2 d_M_refuse_33
