set_option maxHeartbeats 1000000 in
set_option maxRecDepth 100000 in
theorem c_M_next (l : Launch) (dC : Nat → ClassId) (dI : Nat → Nat → Nat) (m0 a1 a2 a3 a4 a5 : Nat) (g1 g2 : ClassId) (X Y : Nat → Int32) (th cm mx my : Int32) (a b c9 d : Nat) (k9 : Nat) (hc : 0 < c9) (hc9 : c9 < 100000) (hcd : c9 * d < 100000) (hk9 : k9 ≤ c9 * d) (sz : Nat) : Met l y_M_next w_M_next ({ frames := 5, cells := 0, slots := 0, locals := 121 }) (va_Pc [.ref m0] (PI dC dI [(g1, .int), (g2, .int)] [(m0, .inr (2, [.int th, .ref a1, .ref a2, .ref a3, .ref a4, .ref a5, .int (nI a), .int (nI b), .int (nI c9), .int (nI d), .int 1, .int (nI k9), .int cm, .int mx, .int my])), (a1, .inl (g1, 3, .inl X)), (a2, .inl (g2, 3, .inl Y))] sz)) (va_Qi (fun (r : Int32) (u : Nat × Int32 × Int32) => er_next (er_f X Y a b c9) (c9 * d) k9 u.1 ∧ (u.1 < c9 * d → u.2.1 = er_px a c9 u.1 ∧ u.2.2 = er_py b c9 u.1) ∧ r = (if u.1 < c9 * d then 65536 * u.2.2 + u.2.1 else -1)) (fun (u : Nat × Int32 × Int32) t => EI dC dI [(g1, .int), (g2, .int)] [(m0, .inr (2, [.int (er_th false false), .ref a1, .ref a2, .ref a3, .ref a4, .ref a5, .int (nI a), .int (nI b), .int (nI c9), .int (nI d), .int 1, .int (if u.1 < c9 * d then nI (u.1 + 1) else nI (c9 * d)), .int (er_b (decide (u.1 < c9 * d))), .int u.2.1, .int u.2.2])), (a1, .inl (g1, 3, .inl X)), (a2, .inl (g2, 3, .inl Y))] (va_A [(m0, .inr (2, [.int th, .ref a1, .ref a2, .ref a3, .ref a4, .ref a5, .int (nI a), .int (nI b), .int (nI c9), .int (nI d), .int 1, .int (nI k9), .int cm, .int mx, .int my])), (a1, .inl (g1, 3, .inl X)), (a2, .inl (g2, 3, .inl Y))] sz) t) (va_A [(m0, .inr (2, [.int th, .ref a1, .ref a2, .ref a3, .ref a4, .ref a5, .int (nI a), .int (nI b), .int (nI c9), .int (nI d), .int 1, .int (nI k9), .int cm, .int mx, .int my])), (a1, .inl (g1, 3, .inl X)), (a2, .inl (g2, 3, .inl Y))] sz)) 0 0 (va_A [(m0, .inr (2, [.int th, .ref a1, .ref a2, .ref a3, .ref a4, .ref a5, .int (nI a), .int (nI b), .int (nI c9), .int (nI d), .int 1, .int (nI k9), .int cm, .int mx, .int my])), (a1, .inl (g1, 3, .inl X)), (a2, .inl (g2, 3, .inl Y))] sz) := by
  refine Met.ofW (cc := b_M_next) (maxL := 1) (ret := (some .int)) (by decide +kernel) rfl ?_
  intro p e s m args below meth c s₁ B hml hv
  obtain ⟨rfl, hsz, hN, hK, hP, hD0⟩ := hv
  have hx := B.exec
  have hb := B.bytes
  have hr := B.returns
  have hts := er_hts (atoms_spec (ws := w_M_next) B.pre)
  have hown : s.vm.findClass R_M = some m.cls := findClass_of_methodNamed B.named
  have hlocks := B.notSynchronized
  subst hsz
  have hD := hD0.self (sz := s.heap.size)
  generalize hAe : va_A [(m0, .inr (2, [.int th, .ref a1, .ref a2, .ref a3, .ref a4, .ref a5, .int (nI a), .int (nI b), .int (nI c9), .int (nI d), .int 1, .int (nI k9), .int cm, .int mx, .int my])), (a1, .inl (g1, 3, .inl X)), (a2, .inl (g2, 3, .inl Y))] s.heap.size = A at hD ⊢
  have hA : ∀ q : Nat, s.heap.size ≤ q → A q := fun q h => by rw [← hAe]; exact Or.inr h
  have hS : va_S A s.heap s.heap [] := va_S.rf
  have hP : va_P (dC, dI) classes [(m0, .inr (2, [.int th, .ref a1, .ref a2, .ref a3, .ref a4, .ref a5, .int (nI a), .int (nI b), .int (nI c9), .int (nI d), .int 1, .int (nI k9), .int cm, .int mx, .int my])), (a1, .inl (g1, 3, .inl X)), (a2, .inl (g2, 3, .inl Y))] s.heap := hP
  have hl := lv_entry ([.ref m0]) (n := 1) (Nat.le_of_ble_eq_true rfl)
  rw [lg_entry_eq]
  generalize (lg_sl ([.ref m0]) ++ List.replicate (1 - (lg_sl ([.ref m0])).length) Slot.unset).toArray = ls at hl ⊢
  have hl : lv_has ls 1 [(0, .ref m0)] := hl
  refine lv_aload_n hx hb d_M_next_0 rfl (lv_at hl 0 rfl) ?_
  refine lv_aload_n hx hb d_M_next_1 rfl (lv_at hl 0 rfl) ?_
  refine va_get (D := (dC, dI)) (ci := 2) (v := .int 1) (C := R_M) (T := F_M) (N := 15) hx hb hts i_M hown hK hP 0 rfl rfl 10 (by decide) (hts _ k_316) (fun _ h9 => h9) rfl d_M_next_2 ?_
  refine lv_if_ne (tgt := 12) hx hb d_M_next_5 (by decide) (fun _ => ?_) (fun c_1 => absurd c_1 (by decide))
  refine lv_iconst (v := 0) hx hb d_M_next_12 (by decide) ?_
  refine lv_iconst (v := 0) hx hb d_M_next_13 (by decide) ?_
  have hPc := hP.sub (ws' := [(m0, .inr (2, [.int th, .ref a1, .ref a2, .ref a3, .ref a4, .ref a5, .int (nI a), .int (nI b), .int (nI c9), .int (nI d), .int 1, .int (nI k9), .int cm, .int mx, .int my]))]) [0] rfl
  have hDc := hD.sub (ws' := [(m0, .inr (2, [.int th, .ref a1, .ref a2, .ref a3, .ref a4, .ref a5, .int (nI a), .int (nI b), .int (nI c9), .int (nI d), .int 1, .int (nI k9), .int cm, .int mx, .int my]))]) [0] (by decide) rfl
  have hKc := hK.sub (tys' := []) [] rfl
  have hFc := va_free (wc := [(m0, .inr (2, [.int th, .ref a1, .ref a2, .ref a3, .ref a4, .ref a5, .int (nI a), .int (nI b), .int (nI c9), .int (nI d), .int 1, .int (nI k9), .int cm, .int mx, .int my]))]) hD hS hA [0] rfl
  refine va_calli (va_runV (As := [.int 0, .int 0]) (rest := []) ⟨hx, hb, hml, hown, hts⟩ (c_M_refuse l dC dI m0 a1 a2 a3 a4 a5 th (nI a) (nI b) (nI c9) (nI d) 1 (nI k9) cm mx my false false s.heap.size) (cwV 2 hts (er_gV k_365 k_366 k_10 k_20 k_367) rfl rfl rfl (by decide +kernel) ⟨Nat.le_of_ble_eq_true rfl, Nat.le_of_ble_eq_true rfl⟩) ⟨PI.blind, va_recv hKc hPc (ci := 2) (q0 := 0) rfl rfl, PI.at hN hKc hPc hDc⟩ rfl rfl hl.1 rfl (lv_room (Nat.le_of_ble_eq_true rfl)) d_M_next_14 ⟨Nat.le_of_ble_eq_true rfl, Nat.le_of_ble_eq_true rfl⟩) hS (fun q _ h => hFc q h) hFc (fun r_2 u t H1 locs ht hvm hw hB hz1 hk1 hS => ?_)
  obtain ⟨hP1, hK1, hD1⟩ := hB
  rw [ht] at hP1
  have hK1 := va_K.moved hvm.symm hK1
  obtain ⟨hP, hD⟩ := va_join (wr := [(a1, .inl (g1, 3, .inl X)), (a2, .inl (g2, 3, .inl Y))]) (w1 := [(m0, .inr (2, [.int (er_th false false), .ref a1, .ref a2, .ref a3, .ref a4, .ref a5, .int (nI a), .int (nI b), .int (nI c9), .int (nI d), .int 1, .int (nI k9), .int cm, .int mx, .int my]))]) hP hD [0] [1, 2] rfl rfl (by decide) (by decide) hk1 hFc hP1 hD1
  have hK := (hK.sub (tys' := [(g1, .int), (g2, .int)]) [0, 1] rfl).app hK1
  generalize H1 = H at hP hS ⊢
  have hP : va_P (dC, dI) classes [(a1, .inl (g1, 3, .inl X)), (a2, .inl (g2, 3, .inl Y)), (m0, .inr (2, [.int (er_th false false), .ref a1, .ref a2, .ref a3, .ref a4, .ref a5, .int (nI a), .int (nI b), .int (nI c9), .int (nI d), .int 1, .int (nI k9), .int cm, .int mx, .int my]))] H := hP
  have hD : va_D A [(a1, .inl (g1, 3, .inl X)), (a2, .inl (g2, 3, .inl Y)), (m0, .inr (2, [.int (er_th false false), .ref a1, .ref a2, .ref a3, .ref a4, .ref a5, .int (nI a), .int (nI b), .int (nI c9), .int (nI d), .int 1, .int (nI k9), .int cm, .int mx, .int my]))] := hD
  have hK : va_K (dC, dI) classes [(g1, .int), (g2, .int)] s := hK
  obtain rfl : er_b (false || false) = r_2 := Eq.symm hw
  refine lv_if_eq (tgt := 22) hx hb d_M_next_17 (by decide) (fun _ => ?_) (fun c_3 => absurd c_3 (by decide))
  refine lv_aload_n hx hb d_M_next_22 rfl (lv_at hl 0 rfl) ?_
  refine lv_iconst (v := 0) hx hb d_M_next_23 (by decide) ?_
  refine va_put (D := (dC, dI)) (ci := 2) (v := .int 0) (ty := .boolean) (C := R_M) (T := F_M) (N := 15) hx hb hts i_M t_M t_M_ok n_M hown hK hP hD hS 2 rfl rfl 12 (by decide) (hts _ k_318) (fun _ h9 => h9) rfl (by decide +kernel) (by decide) rfl (Nat.le_of_ble_eq_true rfl) d_M_next_24 (fun H locs hP hD hS => ?_)
  have hP : va_P (dC, dI) classes [(a1, .inl (g1, 3, .inl X)), (a2, .inl (g2, 3, .inl Y)), (m0, .inr (2, [.int (er_th false false), .ref a1, .ref a2, .ref a3, .ref a4, .ref a5, .int (nI a), .int (nI b), .int (nI c9), .int (nI d), .int 1, .int (nI k9), .int 0, .int mx, .int my]))] H := hP
  have hD : va_D A [(a1, .inl (g1, 3, .inl X)), (a2, .inl (g2, 3, .inl Y)), (m0, .inr (2, [.int (er_th false false), .ref a1, .ref a2, .ref a3, .ref a4, .ref a5, .int (nI a), .int (nI b), .int (nI c9), .int (nI d), .int 1, .int (nI k9), .int 0, .int mx, .int my]))] := hD
  revert hS
  revert hP
  generalize H = H9
  generalize locs = l9
  intro hP hS
  obtain ⟨t, cv, mx1, my1, b0, b1, b2, hP2, hD2⟩ : ∃ (t : Nat) (cv : Bool) (mx1 my1 : Int32), k9 ≤ t ∧ t ≤ c9 * d ∧ er_S X Y a b c9 (c9 * d) k9 t cv mx1 my1 ∧ va_P (dC, dI) classes [(m0, .inr (2, [.int (er_th false false), .ref a1, .ref a2, .ref a3, .ref a4, .ref a5, .int (nI a), .int (nI b), .int (nI c9), .int (nI d), .int 1, .int (nI t), .int (er_b cv), .int mx1, .int my1])), (a1, .inl (g1, 3, .inl X)), (a2, .inl (g2, 3, .inl Y))] H9 ∧ va_D A [(m0, .inr (2, [.int (er_th false false), .ref a1, .ref a2, .ref a3, .ref a4, .ref a5, .int (nI a), .int (nI b), .int (nI c9), .int (nI d), .int 1, .int (nI t), .int (er_b cv), .int mx1, .int my1])), (a1, .inl (g1, 3, .inl X)), (a2, .inl (g2, 3, .inl Y))] := ⟨k9, false, mx, my, Nat.le_refl _, hk9, Or.inl ⟨rfl, fun z q1 q2 => absurd q2 (by omega)⟩, hP.sub [2, 0, 1] rfl, hD.sub [2, 0, 1] (by decide) rfl⟩
  clear hP hD
  have hP := hP2
  have hD := hD2
  clear hP2 hD2
  have hK := hK.sub (tys' := [(g1, .int), (g2, .int)]) [0, 1] rfl
  induction hnt : c9 * d - t using Nat.strongRecOn generalizing t cv mx1 my1 H9 l9 with
  | ind nt iht =>
    refine lv_aload_n hx hb d_M_next_27 rfl (lv_at hl 0 rfl) ?_
    refine va_get (D := (dC, dI)) (ci := 2) (v := .int (nI t)) (C := R_M) (T := F_M) (N := 15) hx hb hts i_M hown hK hP 0 rfl rfl 11 (by decide) (hts _ k_317) (fun _ h9 => h9) rfl d_M_next_28 ?_
    refine lv_aload_n hx hb d_M_next_31 rfl (lv_at hl 0 rfl) ?_
    refine va_get (D := (dC, dI)) (ci := 2) (v := .int (nI c9)) (C := R_M) (T := F_M) (N := 15) hx hb hts i_M hown hK hP 0 rfl rfl 8 (by decide) (hts _ k_314) (fun _ h9 => h9) rfl d_M_next_32 ?_
    refine lv_aload_n hx hb d_M_next_35 rfl (lv_at hl 0 rfl) ?_
    refine va_get (D := (dC, dI)) (ci := 2) (v := .int (nI d)) (C := R_M) (T := F_M) (N := 15) hx hb hts i_M hown hK hP 0 rfl rfl 9 (by decide) (hts _ k_315) (fun _ h9 => h9) rfl d_M_next_36 ?_
    refine lv_imul hx hb d_M_next_39 ?_
    refine lv_icmp_ge (tgt := 115) hx hb d_M_next_40 (by decide) (fun c_4 => ?_) (fun c_4 => ?_)
    · rw [pk_mul] at c_4
      have c_4 := er_le c_4 (by omega) (by omega)
      refine lv_aload_n hx hb d_M_next_115 rfl (lv_at hl 0 rfl) ?_
      refine va_get (D := (dC, dI)) (ci := 2) (v := .int (er_b cv)) (C := R_M) (T := F_M) (N := 15) hx hb hts i_M hown hK hP 0 rfl rfl 12 (by decide) (hts _ k_318) (fun _ h9 => h9) rfl d_M_next_116 ?_
      refine lv_if_eq (tgt := 137) hx hb d_M_next_119 (by decide) (fun c_5 => ?_) (fun c_5 => ?_)
      · have c_5 := er_b_0.mp c_5
        refine lv_iconst (v := (-1)) hx hb d_M_next_137 (by decide) ?_
        have hP9 := hP.sub (ws' := [(m0, .inr (2, [.int (er_th false false), .ref a1, .ref a2, .ref a3, .ref a4, .ref a5, .int (nI a), .int (nI b), .int (nI c9), .int (nI d), .int 1, .int (nI t), .int (er_b cv), .int mx1, .int my1])), (a1, .inl (g1, 3, .inl X)), (a2, .inl (g2, 3, .inl Y))]) [0, 1, 2] rfl
        have hD9 := hD.sub (ws' := [(m0, .inr (2, [.int (er_th false false), .ref a1, .ref a2, .ref a3, .ref a4, .ref a5, .int (nI a), .int (nI b), .int (nI c9), .int (nI d), .int 1, .int (nI t), .int (er_b cv), .int mx1, .int my1])), (a1, .inl (g1, 3, .inl X)), (a2, .inl (g2, 3, .inl Y))]) [0, 1, 2] (by decide) rfl
        have hK9 := hK.sub (tys' := [(g1, .int), (g2, .int)]) [0, 1] rfl
        have hP9 : va_P (dC, dI) classes [(m0, .inr (2, [.int (er_th false false), .ref a1, .ref a2, .ref a3, .ref a4, .ref a5, .int (nI a), .int (nI b), .int (nI c9), .int (nI d), .int 1, .int (if (c9 * d) < c9 * d then nI ((c9 * d) + 1) else nI (c9 * d)), .int (er_b (decide ((c9 * d) < c9 * d))), .int mx1, .int my1])), (a1, .inl (g1, 3, .inl X)), (a2, .inl (g2, 3, .inl Y))] H9 := by rw [if_neg (Nat.lt_irrefl _), decide_eq_false (Nat.lt_irrefl _), show nI (c9 * d) = nI t by rw [show t = c9 * d by omega], show er_b false = er_b cv by rw [c_5]]; exact hP9
        have hD9 : va_D A [(m0, .inr (2, [.int (er_th false false), .ref a1, .ref a2, .ref a3, .ref a4, .ref a5, .int (nI a), .int (nI b), .int (nI c9), .int (nI d), .int 1, .int (if (c9 * d) < c9 * d then nI ((c9 * d) + 1) else nI (c9 * d)), .int (er_b (decide ((c9 * d) < c9 * d))), .int mx1, .int my1])), (a1, .inl (g1, 3, .inl X)), (a2, .inl (g2, 3, .inl Y))] := by rw [if_neg (Nat.lt_irrefl _), decide_eq_false (Nat.lt_irrefl _), show nI (c9 * d) = nI t by rw [show t = c9 * d by omega], show er_b false = er_b cv by rw [c_5]]; exact hD9
        exact W.iret (v := (-1)) hx hb hr (fun u9 ht hW => ⟨⟨_, (c9 * d, mx1, my1), rfl, ⟨er_S_f c_5 b2 hk9 (by omega), fun q => absurd q (Nat.lt_irrefl _), (by rw [if_neg (Nat.lt_irrefl _)])⟩, ⟨by rw [ht]; exact hP9, va_K.moved hW.alike hK9, hD9⟩⟩, hS.F ht⟩) hS.2.2 d_M_next_138
      · have c_5 := er_b_n.mp c_5
        obtain ⟨w9, e9, hw9, hx9, ex9, ey9⟩ := er_S_t c_5 b2
        refine lv_ldc (v := 65536) hx hb hown (hts (.constant R_M 90 65536) (by decide +kernel)) d_M_next_122 ?_
        refine lv_aload_n hx hb d_M_next_124 rfl (lv_at hl 0 rfl) ?_
        refine va_get (D := (dC, dI)) (ci := 2) (v := .int my1) (C := R_M) (T := F_M) (N := 15) hx hb hts i_M hown hK hP 0 rfl rfl 14 (by decide) (hts _ k_320) (fun _ h9 => h9) rfl d_M_next_125 ?_
        refine lv_imul hx hb d_M_next_128 ?_
        refine lv_aload_n hx hb d_M_next_129 rfl (lv_at hl 0 rfl) ?_
        refine va_get (D := (dC, dI)) (ci := 2) (v := .int mx1) (C := R_M) (T := F_M) (N := 15) hx hb hts i_M hown hK hP 0 rfl rfl 13 (by decide) (hts _ k_319) (fun _ h9 => h9) rfl d_M_next_130 ?_
        refine lv_iadd hx hb d_M_next_133 ?_
        refine lv_goto (tgt := 138) hx hb d_M_next_134 (by decide) ?_
        have hP9 := hP.sub (ws' := [(m0, .inr (2, [.int (er_th false false), .ref a1, .ref a2, .ref a3, .ref a4, .ref a5, .int (nI a), .int (nI b), .int (nI c9), .int (nI d), .int 1, .int (nI t), .int (er_b cv), .int mx1, .int my1])), (a1, .inl (g1, 3, .inl X)), (a2, .inl (g2, 3, .inl Y))]) [0, 1, 2] rfl
        have hD9 := hD.sub (ws' := [(m0, .inr (2, [.int (er_th false false), .ref a1, .ref a2, .ref a3, .ref a4, .ref a5, .int (nI a), .int (nI b), .int (nI c9), .int (nI d), .int 1, .int (nI t), .int (er_b cv), .int mx1, .int my1])), (a1, .inl (g1, 3, .inl X)), (a2, .inl (g2, 3, .inl Y))]) [0, 1, 2] (by decide) rfl
        have hK9 := hK.sub (tys' := [(g1, .int), (g2, .int)]) [0, 1] rfl
        have hP9 : va_P (dC, dI) classes [(m0, .inr (2, [.int (er_th false false), .ref a1, .ref a2, .ref a3, .ref a4, .ref a5, .int (nI a), .int (nI b), .int (nI c9), .int (nI d), .int 1, .int (if w9 < c9 * d then nI (w9 + 1) else nI (c9 * d)), .int (er_b (decide (w9 < c9 * d))), .int mx1, .int my1])), (a1, .inl (g1, 3, .inl X)), (a2, .inl (g2, 3, .inl Y))] H9 := by rw [if_pos hw9, decide_eq_true hw9, ← e9, show er_b true = er_b cv by rw [c_5]]; exact hP9
        have hD9 : va_D A [(m0, .inr (2, [.int (er_th false false), .ref a1, .ref a2, .ref a3, .ref a4, .ref a5, .int (nI a), .int (nI b), .int (nI c9), .int (nI d), .int 1, .int (if w9 < c9 * d then nI (w9 + 1) else nI (c9 * d)), .int (er_b (decide (w9 < c9 * d))), .int mx1, .int my1])), (a1, .inl (g1, 3, .inl X)), (a2, .inl (g2, 3, .inl Y))] := by rw [if_pos hw9, decide_eq_true hw9, ← e9, show er_b true = er_b cv by rw [c_5]]; exact hD9
        exact W.iret (v := (65536 * my1) + mx1) hx hb hr (fun u9 ht hW => ⟨⟨_, (w9, mx1, my1), rfl, ⟨hx9, fun _ => ⟨ex9, ey9⟩, (by rw [if_pos hw9])⟩, ⟨by rw [ht]; exact hP9, va_K.moved hW.alike hK9, hD9⟩⟩, hS.F ht⟩) hS.2.2 d_M_next_138
    · rw [pk_mul] at c_4
      have c_4 := er_nle c_4 (by omega) (by omega)
      refine lv_aload_n hx hb d_M_next_43 rfl (lv_at hl 0 rfl) ?_
      refine va_get (D := (dC, dI)) (ci := 2) (v := .int (er_b cv)) (C := R_M) (T := F_M) (N := 15) hx hb hts i_M hown hK hP 0 rfl rfl 12 (by decide) (hts _ k_318) (fun _ h9 => h9) rfl d_M_next_44 ?_
      refine lv_if_ne (tgt := 115) hx hb d_M_next_47 (by decide) (fun c_6 => ?_) (fun c_6 => ?_)
      · have c_6 := er_b_n.mp c_6
        refine lv_aload_n hx hb d_M_next_115 rfl (lv_at hl 0 rfl) ?_
        refine va_get (D := (dC, dI)) (ci := 2) (v := .int (er_b cv)) (C := R_M) (T := F_M) (N := 15) hx hb hts i_M hown hK hP 0 rfl rfl 12 (by decide) (hts _ k_318) (fun _ h9 => h9) rfl d_M_next_116 ?_
        refine lv_if_eq (tgt := 137) hx hb d_M_next_119 (by decide) (fun c_7 => ?_) (fun c_7 => ?_)
        · have c_7 := er_b_0.mp c_7
          exact absurd c_7 (by rw [c_6]; decide)
        · have c_7 := er_b_n.mp c_7
          obtain ⟨w9, e9, hw9, hx9, ex9, ey9⟩ := er_S_t c_7 b2
          refine lv_ldc (v := 65536) hx hb hown (hts (.constant R_M 90 65536) (by decide +kernel)) d_M_next_122 ?_
          refine lv_aload_n hx hb d_M_next_124 rfl (lv_at hl 0 rfl) ?_
          refine va_get (D := (dC, dI)) (ci := 2) (v := .int my1) (C := R_M) (T := F_M) (N := 15) hx hb hts i_M hown hK hP 0 rfl rfl 14 (by decide) (hts _ k_320) (fun _ h9 => h9) rfl d_M_next_125 ?_
          refine lv_imul hx hb d_M_next_128 ?_
          refine lv_aload_n hx hb d_M_next_129 rfl (lv_at hl 0 rfl) ?_
          refine va_get (D := (dC, dI)) (ci := 2) (v := .int mx1) (C := R_M) (T := F_M) (N := 15) hx hb hts i_M hown hK hP 0 rfl rfl 13 (by decide) (hts _ k_319) (fun _ h9 => h9) rfl d_M_next_130 ?_
          refine lv_iadd hx hb d_M_next_133 ?_
          refine lv_goto (tgt := 138) hx hb d_M_next_134 (by decide) ?_
          have hP9 := hP.sub (ws' := [(m0, .inr (2, [.int (er_th false false), .ref a1, .ref a2, .ref a3, .ref a4, .ref a5, .int (nI a), .int (nI b), .int (nI c9), .int (nI d), .int 1, .int (nI t), .int (er_b cv), .int mx1, .int my1])), (a1, .inl (g1, 3, .inl X)), (a2, .inl (g2, 3, .inl Y))]) [0, 1, 2] rfl
          have hD9 := hD.sub (ws' := [(m0, .inr (2, [.int (er_th false false), .ref a1, .ref a2, .ref a3, .ref a4, .ref a5, .int (nI a), .int (nI b), .int (nI c9), .int (nI d), .int 1, .int (nI t), .int (er_b cv), .int mx1, .int my1])), (a1, .inl (g1, 3, .inl X)), (a2, .inl (g2, 3, .inl Y))]) [0, 1, 2] (by decide) rfl
          have hK9 := hK.sub (tys' := [(g1, .int), (g2, .int)]) [0, 1] rfl
          have hP9 : va_P (dC, dI) classes [(m0, .inr (2, [.int (er_th false false), .ref a1, .ref a2, .ref a3, .ref a4, .ref a5, .int (nI a), .int (nI b), .int (nI c9), .int (nI d), .int 1, .int (if w9 < c9 * d then nI (w9 + 1) else nI (c9 * d)), .int (er_b (decide (w9 < c9 * d))), .int mx1, .int my1])), (a1, .inl (g1, 3, .inl X)), (a2, .inl (g2, 3, .inl Y))] H9 := by rw [if_pos hw9, decide_eq_true hw9, ← e9, show er_b true = er_b cv by rw [c_7]]; exact hP9
          have hD9 : va_D A [(m0, .inr (2, [.int (er_th false false), .ref a1, .ref a2, .ref a3, .ref a4, .ref a5, .int (nI a), .int (nI b), .int (nI c9), .int (nI d), .int 1, .int (if w9 < c9 * d then nI (w9 + 1) else nI (c9 * d)), .int (er_b (decide (w9 < c9 * d))), .int mx1, .int my1])), (a1, .inl (g1, 3, .inl X)), (a2, .inl (g2, 3, .inl Y))] := by rw [if_pos hw9, decide_eq_true hw9, ← e9, show er_b true = er_b cv by rw [c_7]]; exact hD9
          exact W.iret (v := (65536 * my1) + mx1) hx hb hr (fun u9 ht hW => ⟨⟨_, (w9, mx1, my1), rfl, ⟨hx9, fun _ => ⟨ex9, ey9⟩, (by rw [if_pos hw9])⟩, ⟨by rw [ht]; exact hP9, va_K.moved hW.alike hK9, hD9⟩⟩, hS.F ht⟩) hS.2.2 d_M_next_138
      · have c_6 := er_b_0.mp c_6
        refine lv_aload_n hx hb d_M_next_50 rfl (lv_at hl 0 rfl) ?_
        refine lv_aload_n hx hb d_M_next_51 rfl (lv_at hl 0 rfl) ?_
        refine va_get (D := (dC, dI)) (ci := 2) (v := .int (nI a)) (C := R_M) (T := F_M) (N := 15) hx hb hts i_M hown hK hP 0 rfl rfl 6 (by decide) (hts _ k_312) (fun _ h9 => h9) rfl d_M_next_52 ?_
        refine lv_aload_n hx hb d_M_next_55 rfl (lv_at hl 0 rfl) ?_
        refine va_get (D := (dC, dI)) (ci := 2) (v := .int (nI t)) (C := R_M) (T := F_M) (N := 15) hx hb hts i_M hown hK hP 0 rfl rfl 11 (by decide) (hts _ k_317) (fun _ h9 => h9) rfl d_M_next_56 ?_
        refine lv_aload_n hx hb d_M_next_59 rfl (lv_at hl 0 rfl) ?_
        refine va_get (D := (dC, dI)) (ci := 2) (v := .int (nI c9)) (C := R_M) (T := F_M) (N := 15) hx hb hts i_M hown hK hP 0 rfl rfl 8 (by decide) (hts _ k_314) (fun _ h9 => h9) rfl d_M_next_60 ?_
        refine lv_irem hx hb d_M_next_63 (nI_ne0 hc (by omega)) ?_
        refine lv_iadd hx hb d_M_next_64 ?_
        refine lv_topi (x := (nI a) + ((nI t) - (nI t) / (nI c9) * (nI c9))) (fun y9 e9 => ?_)
        obtain rfl : y9 = er_px a c9 t := by rw [e9]; exact er_pxm hc (by omega) (by omega)
        refine va_put (D := (dC, dI)) (ci := 2) (v := .int (er_px a c9 t)) (ty := .int) (C := R_M) (T := F_M) (N := 15) hx hb hts i_M t_M t_M_ok n_M hown hK hP hD hS 0 rfl rfl 13 (by decide) (hts _ k_319) (fun _ h9 => h9) rfl (by decide +kernel) rfl rfl (Nat.le_of_ble_eq_true rfl) d_M_next_65 (fun H locs hP hD hS => ?_)
        have hP : va_P (dC, dI) classes [(m0, .inr (2, [.int (er_th false false), .ref a1, .ref a2, .ref a3, .ref a4, .ref a5, .int (nI a), .int (nI b), .int (nI c9), .int (nI d), .int 1, .int (nI t), .int (er_b cv), .int (er_px a c9 t), .int my1])), (a1, .inl (g1, 3, .inl X)), (a2, .inl (g2, 3, .inl Y))] H := hP
        have hD : va_D A [(m0, .inr (2, [.int (er_th false false), .ref a1, .ref a2, .ref a3, .ref a4, .ref a5, .int (nI a), .int (nI b), .int (nI c9), .int (nI d), .int 1, .int (nI t), .int (er_b cv), .int (er_px a c9 t), .int my1])), (a1, .inl (g1, 3, .inl X)), (a2, .inl (g2, 3, .inl Y))] := hD
        refine lv_aload_n hx hb d_M_next_68 rfl (lv_at hl 0 rfl) ?_
        refine lv_aload_n hx hb d_M_next_69 rfl (lv_at hl 0 rfl) ?_
        refine va_get (D := (dC, dI)) (ci := 2) (v := .int (nI b)) (C := R_M) (T := F_M) (N := 15) hx hb hts i_M hown hK hP 0 rfl rfl 7 (by decide) (hts _ k_313) (fun _ h9 => h9) rfl d_M_next_70 ?_
        refine lv_aload_n hx hb d_M_next_73 rfl (lv_at hl 0 rfl) ?_
        refine va_get (D := (dC, dI)) (ci := 2) (v := .int (nI t)) (C := R_M) (T := F_M) (N := 15) hx hb hts i_M hown hK hP 0 rfl rfl 11 (by decide) (hts _ k_317) (fun _ h9 => h9) rfl d_M_next_74 ?_
        refine lv_aload_n hx hb d_M_next_77 rfl (lv_at hl 0 rfl) ?_
        refine va_get (D := (dC, dI)) (ci := 2) (v := .int (nI c9)) (C := R_M) (T := F_M) (N := 15) hx hb hts i_M hown hK hP 0 rfl rfl 8 (by decide) (hts _ k_314) (fun _ h9 => h9) rfl d_M_next_78 ?_
        refine lv_idiv hx hb d_M_next_81 (nI_ne0 hc (by omega)) ?_
        refine lv_iadd hx hb d_M_next_82 ?_
        refine lv_topi (x := (nI b) + ((nI t) / (nI c9))) (fun y9 e9 => ?_)
        obtain rfl : y9 = er_py b c9 t := by rw [e9]; exact er_pym hc (by omega) (by omega)
        refine va_put (D := (dC, dI)) (ci := 2) (v := .int (er_py b c9 t)) (ty := .int) (C := R_M) (T := F_M) (N := 15) hx hb hts i_M t_M t_M_ok n_M hown hK hP hD hS 0 rfl rfl 14 (by decide) (hts _ k_320) (fun _ h9 => h9) rfl (by decide +kernel) rfl rfl (Nat.le_of_ble_eq_true rfl) d_M_next_83 (fun H locs hP hD hS => ?_)
        have hP : va_P (dC, dI) classes [(m0, .inr (2, [.int (er_th false false), .ref a1, .ref a2, .ref a3, .ref a4, .ref a5, .int (nI a), .int (nI b), .int (nI c9), .int (nI d), .int 1, .int (nI t), .int (er_b cv), .int (er_px a c9 t), .int (er_py b c9 t)])), (a1, .inl (g1, 3, .inl X)), (a2, .inl (g2, 3, .inl Y))] H := hP
        have hD : va_D A [(m0, .inr (2, [.int (er_th false false), .ref a1, .ref a2, .ref a3, .ref a4, .ref a5, .int (nI a), .int (nI b), .int (nI c9), .int (nI d), .int 1, .int (nI t), .int (er_b cv), .int (er_px a c9 t), .int (er_py b c9 t)])), (a1, .inl (g1, 3, .inl X)), (a2, .inl (g2, 3, .inl Y))] := hD
        refine lv_aload_n hx hb d_M_next_86 rfl (lv_at hl 0 rfl) ?_
        refine lv_aload_n hx hb d_M_next_87 rfl (lv_at hl 0 rfl) ?_
        refine lv_aload_n hx hb d_M_next_88 rfl (lv_at hl 0 rfl) ?_
        refine va_get (D := (dC, dI)) (ci := 2) (v := .int (er_px a c9 t)) (C := R_M) (T := F_M) (N := 15) hx hb hts i_M hown hK hP 0 rfl rfl 13 (by decide) (hts _ k_319) (fun _ h9 => h9) rfl d_M_next_89 ?_
        refine lv_aload_n hx hb d_M_next_92 rfl (lv_at hl 0 rfl) ?_
        refine va_get (D := (dC, dI)) (ci := 2) (v := .int (er_py b c9 t)) (C := R_M) (T := F_M) (N := 15) hx hb hts i_M hown hK hP 0 rfl rfl 14 (by decide) (hts _ k_320) (fun _ h9 => h9) rfl d_M_next_93 ?_
        have hPc := hP.sub (ws' := [(m0, .inr (2, [.int (er_th false false), .ref a1, .ref a2, .ref a3, .ref a4, .ref a5, .int (nI a), .int (nI b), .int (nI c9), .int (nI d), .int 1, .int (nI t), .int (er_b cv), .int (er_px a c9 t), .int (er_py b c9 t)])), (a1, .inl (g1, 3, .inl X)), (a2, .inl (g2, 3, .inl Y))]) [0, 1, 2] rfl
        have hKc := hK.sub (tys' := [(g1, .int), (g2, .int)]) [0, 1] rfl
        refine vp_callSi (va_runV (As := [.int (er_px a c9 t), .int (er_py b c9 t)]) (rest := [.ref m0]) ⟨hx, hb, hml, hown, hts⟩ (c_M_isCovered l dC dI m0 a1 a2 a3 a4 a5 g1 g2 X Y (er_th false false) (nI a) (nI b) (nI c9) (nI d) 1 (nI t) (er_b cv) (er_px a c9 t) (er_py b c9 t) (er_px a c9 t) (er_py b c9 t)) (cwV 2 hts (er_gV k_390 k_391 k_13 k_20 k_392) rfl rfl rfl (by decide +kernel) ⟨Nat.le_of_ble_eq_true rfl, Nat.le_of_ble_eq_true rfl⟩) ⟨PP.blind, va_recv hKc hPc (ci := 2) (q0 := 0) rfl rfl, PP.at hN hKc hPc⟩ rfl rfl hl.1 rfl (lv_room (Nat.le_of_ble_eq_true rfl)) d_M_next_96 ⟨Nat.zero_le _, Nat.zero_le _⟩).run (fun r_8 hr_8 => ?_)
        obtain rfl : er_b (er_cov X Y (er_px a c9 t) (er_py b c9 t)) = r_8 := Eq.symm hr_8
        refine va_put (D := (dC, dI)) (ci := 2) (v := .int (er_b (er_cov X Y (er_px a c9 t) (er_py b c9 t)))) (ty := .boolean) (C := R_M) (T := F_M) (N := 15) hx hb hts i_M t_M t_M_ok n_M hown hK hP hD hS 0 rfl rfl 12 (by decide) (hts _ k_318) (fun _ h9 => h9) rfl (by decide +kernel) (er_b_nar _) (er_b_fit _) (Nat.le_of_ble_eq_true rfl) d_M_next_99 (fun H locs hP hD hS => ?_)
        have hP : va_P (dC, dI) classes [(m0, .inr (2, [.int (er_th false false), .ref a1, .ref a2, .ref a3, .ref a4, .ref a5, .int (nI a), .int (nI b), .int (nI c9), .int (nI d), .int 1, .int (nI t), .int (er_b (er_cov X Y (er_px a c9 t) (er_py b c9 t))), .int (er_px a c9 t), .int (er_py b c9 t)])), (a1, .inl (g1, 3, .inl X)), (a2, .inl (g2, 3, .inl Y))] H := hP
        have hD : va_D A [(m0, .inr (2, [.int (er_th false false), .ref a1, .ref a2, .ref a3, .ref a4, .ref a5, .int (nI a), .int (nI b), .int (nI c9), .int (nI d), .int 1, .int (nI t), .int (er_b (er_cov X Y (er_px a c9 t) (er_py b c9 t))), .int (er_px a c9 t), .int (er_py b c9 t)])), (a1, .inl (g1, 3, .inl X)), (a2, .inl (g2, 3, .inl Y))] := hD
        refine lv_aload_n hx hb d_M_next_102 rfl (lv_at hl 0 rfl) ?_
        refine lv_dup hx hb d_M_next_103 rfl ?_
        refine va_get (D := (dC, dI)) (ci := 2) (v := .int (nI t)) (C := R_M) (T := F_M) (N := 15) hx hb hts i_M hown hK hP 0 rfl rfl 11 (by decide) (hts _ k_317) (fun _ h9 => h9) rfl d_M_next_104 ?_
        refine lv_iconst (v := 1) hx hb d_M_next_107 (by decide) ?_
        refine lv_iadd hx hb d_M_next_108 ?_
        refine lv_topi (x := (nI t) + 1) (fun y9 e9 => ?_)
        obtain rfl : y9 = nI (t + 1) := by rw [e9]; exact nI_1 t
        refine va_put (D := (dC, dI)) (ci := 2) (v := .int (nI (t + 1))) (ty := .int) (C := R_M) (T := F_M) (N := 15) hx hb hts i_M t_M t_M_ok n_M hown hK hP hD hS 0 rfl rfl 11 (by decide) (hts _ k_317) (fun _ h9 => h9) rfl (by decide +kernel) rfl rfl (Nat.le_of_ble_eq_true rfl) d_M_next_109 (fun H locs hP hD hS => ?_)
        have hP : va_P (dC, dI) classes [(m0, .inr (2, [.int (er_th false false), .ref a1, .ref a2, .ref a3, .ref a4, .ref a5, .int (nI a), .int (nI b), .int (nI c9), .int (nI d), .int 1, .int (nI (t + 1)), .int (er_b (er_cov X Y (er_px a c9 t) (er_py b c9 t))), .int (er_px a c9 t), .int (er_py b c9 t)])), (a1, .inl (g1, 3, .inl X)), (a2, .inl (g2, 3, .inl Y))] H := hP
        have hD : va_D A [(m0, .inr (2, [.int (er_th false false), .ref a1, .ref a2, .ref a3, .ref a4, .ref a5, .int (nI a), .int (nI b), .int (nI c9), .int (nI d), .int 1, .int (nI (t + 1)), .int (er_b (er_cov X Y (er_px a c9 t) (er_py b c9 t))), .int (er_px a c9 t), .int (er_py b c9 t)])), (a1, .inl (g1, 3, .inl X)), (a2, .inl (g2, 3, .inl Y))] := hD
        refine lv_goto (tgt := 27) hx hb d_M_next_112 (by decide) ?_
        exact iht _ (by omega) (H9 := H) (l9 := locs) (t := t + 1) (cv := er_f X Y a b c9 t) (mx1 := er_px a c9 t) (my1 := er_py b c9 t) (hS := hS) (b0 := by omega) (b1 := by omega) (b2 := er_S_step c_6 b2 (by omega) b0) (hP := hP.sub [0, 1, 2] rfl) (hD := hD.sub [0, 1, 2] (by decide) rfl) (hnt := rfl)

set_option maxHeartbeats 1000000 in
set_option maxRecDepth 100000 in
theorem c_M_nextX (l : Launch) (dC : Nat → ClassId) (dI : Nat → Nat → Nat) (m0 a1 a2 a3 a4 a5 : Nat) (th lf tp wd hg lk cm mx my : Int32) (sz : Nat) : Met l y_M_next w_M_next ({ frames := 1, cells := 0, slots := 0, locals := 22 }) (va_Pc [.ref m0] (PI dC dI [] [(m0, .inr (2, [.int th, .ref a1, .ref a2, .ref a3, .ref a4, .ref a5, .int lf, .int tp, .int wd, .int hg, .int 0, .int lk, .int cm, .int mx, .int my]))] sz)) (va_Qi (fun (r : Int32) (u : Unit) => True) (fun (u : Unit) t => EI dC dI [] [(m0, .inr (2, [.int (er_th true false), .ref a1, .ref a2, .ref a3, .ref a4, .ref a5, .int lf, .int tp, .int wd, .int hg, .int 0, .int lk, .int cm, .int mx, .int my]))] (va_A [(m0, .inr (2, [.int th, .ref a1, .ref a2, .ref a3, .ref a4, .ref a5, .int lf, .int tp, .int wd, .int hg, .int 0, .int lk, .int cm, .int mx, .int my]))] sz) t) (va_A [(m0, .inr (2, [.int th, .ref a1, .ref a2, .ref a3, .ref a4, .ref a5, .int lf, .int tp, .int wd, .int hg, .int 0, .int lk, .int cm, .int mx, .int my]))] sz)) 0 0 (va_A [(m0, .inr (2, [.int th, .ref a1, .ref a2, .ref a3, .ref a4, .ref a5, .int lf, .int tp, .int wd, .int hg, .int 0, .int lk, .int cm, .int mx, .int my]))] sz) := by
  refine Met.ofW (cc := b_M_next) (maxL := 1) (ret := (some .int)) (by decide +kernel) rfl ?_
  intro p e s m args below meth c s₁ B hml hv
  obtain ⟨rfl, hsz, hN, hK, hP, hD0⟩ := hv
  have hx := B.exec
  have hb := B.bytes
  have hr := B.returns
  have hts := er_hts (atoms_spec (ws := w_M_next) B.pre)
  have hown : s.vm.findClass R_M = some m.cls := findClass_of_methodNamed B.named
  have hlocks := B.notSynchronized
  subst hsz
  have hD := hD0.self (sz := s.heap.size)
  generalize hAe : va_A [(m0, .inr (2, [.int th, .ref a1, .ref a2, .ref a3, .ref a4, .ref a5, .int lf, .int tp, .int wd, .int hg, .int 0, .int lk, .int cm, .int mx, .int my]))] s.heap.size = A at hD ⊢
  have hA : ∀ q : Nat, s.heap.size ≤ q → A q := fun q h => by rw [← hAe]; exact Or.inr h
  have hS : va_S A s.heap s.heap [] := va_S.rf
  have hP : va_P (dC, dI) classes [(m0, .inr (2, [.int th, .ref a1, .ref a2, .ref a3, .ref a4, .ref a5, .int lf, .int tp, .int wd, .int hg, .int 0, .int lk, .int cm, .int mx, .int my]))] s.heap := hP
  have hl := lv_entry ([.ref m0]) (n := 1) (Nat.le_of_ble_eq_true rfl)
  rw [lg_entry_eq]
  generalize (lg_sl ([.ref m0]) ++ List.replicate (1 - (lg_sl ([.ref m0])).length) Slot.unset).toArray = ls at hl ⊢
  have hl : lv_has ls 1 [(0, .ref m0)] := hl
  refine lv_aload_n hx hb d_M_next_0 rfl (lv_at hl 0 rfl) ?_
  refine lv_aload_n hx hb d_M_next_1 rfl (lv_at hl 0 rfl) ?_
  refine va_get (D := (dC, dI)) (ci := 2) (v := .int 0) (C := R_M) (T := F_M) (N := 15) hx hb hts i_M hown hK hP 0 rfl rfl 10 (by decide) (hts _ k_316) (fun _ h9 => h9) rfl d_M_next_2 ?_
  refine lv_if_ne (tgt := 12) hx hb d_M_next_5 (by decide) (fun c_1 => absurd c_1 (by decide)) (fun _ => ?_)
  refine lv_iconst (v := 1) hx hb d_M_next_8 (by decide) ?_
  refine lv_goto (tgt := 13) hx hb d_M_next_9 (by decide) ?_
  refine lv_iconst (v := 0) hx hb d_M_next_13 (by decide) ?_
  have hPc := hP.sub (ws' := [(m0, .inr (2, [.int th, .ref a1, .ref a2, .ref a3, .ref a4, .ref a5, .int lf, .int tp, .int wd, .int hg, .int 0, .int lk, .int cm, .int mx, .int my]))]) [0] rfl
  have hDc := hD.sub (ws' := [(m0, .inr (2, [.int th, .ref a1, .ref a2, .ref a3, .ref a4, .ref a5, .int lf, .int tp, .int wd, .int hg, .int 0, .int lk, .int cm, .int mx, .int my]))]) [0] (by decide) rfl
  have hKc := hK.sub (tys' := []) [] rfl
  have hFc := va_free (wc := [(m0, .inr (2, [.int th, .ref a1, .ref a2, .ref a3, .ref a4, .ref a5, .int lf, .int tp, .int wd, .int hg, .int 0, .int lk, .int cm, .int mx, .int my]))]) hD hS hA [0] rfl
  refine va_calli (va_runV (As := [.int 1, .int 0]) (rest := []) ⟨hx, hb, hml, hown, hts⟩ (c_M_refuse l dC dI m0 a1 a2 a3 a4 a5 th lf tp wd hg 0 lk cm mx my true false s.heap.size) (cwV 2 hts (er_gV k_365 k_366 k_10 k_20 k_367) rfl rfl rfl (by decide +kernel) ⟨Nat.le_of_ble_eq_true rfl, Nat.le_of_ble_eq_true rfl⟩) ⟨PI.blind, va_recv hKc hPc (ci := 2) (q0 := 0) rfl rfl, PI.at hN hKc hPc hDc⟩ rfl rfl hl.1 rfl (lv_room (Nat.le_of_ble_eq_true rfl)) d_M_next_14 ⟨Nat.le_of_ble_eq_true rfl, Nat.le_of_ble_eq_true rfl⟩) hS (fun q _ h => hFc q h) hFc (fun r_2 u t H1 locs ht hvm hw hB hz1 hk1 hS => ?_)
  obtain ⟨hP1, hK1, hD1⟩ := hB
  rw [ht] at hP1
  have hK1 := va_K.moved hvm.symm hK1
  obtain ⟨hP, hD⟩ := va_join (wr := []) (w1 := [(m0, .inr (2, [.int (er_th true false), .ref a1, .ref a2, .ref a3, .ref a4, .ref a5, .int lf, .int tp, .int wd, .int hg, .int 0, .int lk, .int cm, .int mx, .int my]))]) hP hD [0] [] rfl rfl (by decide) (by decide) hk1 hFc hP1 hD1
  have hK := (hK.sub (tys' := []) [] rfl).app hK1
  generalize H1 = H at hP hS ⊢
  have hP : va_P (dC, dI) classes [(m0, .inr (2, [.int (er_th true false), .ref a1, .ref a2, .ref a3, .ref a4, .ref a5, .int lf, .int tp, .int wd, .int hg, .int 0, .int lk, .int cm, .int mx, .int my]))] H := hP
  have hD : va_D A [(m0, .inr (2, [.int (er_th true false), .ref a1, .ref a2, .ref a3, .ref a4, .ref a5, .int lf, .int tp, .int wd, .int hg, .int 0, .int lk, .int cm, .int mx, .int my]))] := hD
  have hK : va_K (dC, dI) classes [] s := hK
  obtain rfl : er_b (true || false) = r_2 := Eq.symm hw
  refine lv_if_eq (tgt := 22) hx hb d_M_next_17 (by decide) (fun c_3 => absurd c_3 (by decide)) (fun _ => ?_)
  refine lv_iconst (v := 0) hx hb d_M_next_20 (by decide) ?_
  have hP9 := hP.sub (ws' := [(m0, .inr (2, [.int (er_th true false), .ref a1, .ref a2, .ref a3, .ref a4, .ref a5, .int lf, .int tp, .int wd, .int hg, .int 0, .int lk, .int cm, .int mx, .int my]))]) [0] rfl
  have hD9 := hD.sub (ws' := [(m0, .inr (2, [.int (er_th true false), .ref a1, .ref a2, .ref a3, .ref a4, .ref a5, .int lf, .int tp, .int wd, .int hg, .int 0, .int lk, .int cm, .int mx, .int my]))]) [0] (by decide) rfl
  have hK9 := hK.sub (tys' := []) [] rfl
  exact W.iret (v := 0) hx hb hr (fun u9 ht hW => ⟨⟨_, (), rfl, trivial, ⟨by rw [ht]; exact hP9, va_K.moved hW.alike hK9, hD9⟩⟩, hS.F ht⟩) hS.2.2 d_M_next_21
