set_option maxHeartbeats 1000000 in
set_option maxRecDepth 100000 in
theorem c_E_firstCovered (l : Launch) (dC : Nat → ClassId) (dI : Nat → Nat → Nat) (h0 h1 h2 h3 v0 v1 v2 : Nat) (X Y D Q : Nat → Int32) (a c9 i : Nat) (wy wh wk on lx ly p1 : Int32) (hac : a + c9 < 100000) (hi : i ≤ c9) : Met l y_E_firstCovered w_E_firstCovered ({ frames := 3, cells := 0, slots := 0, locals := 68 }) (va_Pc [.ref h0, .int (nI (a + i)), .int p1] (PP dC dI [] [(h0, .inr (1, [.ref h1, .ref h2, .ref h3, .long (er_ar X Y), .int (nI a), .int wy, .int (nI c9), .int wh, .int wk, .int on, .int lx, .int ly])), (h1, .inr (0, [.int (X 0), .int (Y 0), .int (D 0), .int (Q 0), .ref v0, .int (er_ex X Y 0), .int (er_ey X Y 0), .int (er_ea X Y 0), .int (er_ed X Y 0), .int (er_lw (er_ea X Y 0) (er_ed X Y 0))])), (h2, .inr (0, [.int (X 1), .int (Y 1), .int (D 1), .int (Q 1), .ref v1, .int (er_ex X Y 1), .int (er_ey X Y 1), .int (er_ea X Y 1), .int (er_ed X Y 1), .int (er_lw (er_ea X Y 1) (er_ed X Y 1))])), (h3, .inr (0, [.int (X 2), .int (Y 2), .int (D 2), .int (Q 2), .ref v2, .int (er_ex X Y 2), .int (er_ey X Y 2), .int (er_ea X Y 2), .int (er_ed X Y 2), .int (er_lw (er_ea X Y 2) (er_ed X Y 2))]))])) (vp_Si (fun r : Int32 => ∃ t7 : Nat, r = nI (a + t7) ∧ er_next (fun k7 => er_cov X Y (nI (a + k7)) p1) c9 i t7)) 0 0 (fun _ => False) := by
  refine Met.ofW (cc := b_E_firstCovered) (maxL := 4) (ret := (some .int)) (by decide +kernel) rfl ?_
  intro p e s m args below meth c s₁ B hml hv
  obtain ⟨rfl, hN, hK, hP⟩ := hv
  have hx := B.exec
  have hb := B.bytes
  have hr := B.returns
  have hts := er_hts (atoms_spec (ws := w_E_firstCovered) B.pre)
  have hown : s.vm.findClass R_E = some m.cls := findClass_of_methodNamed B.named
  have hlocks := B.notSynchronized
  have hP : va_P (dC, dI) classes [(h0, .inr (1, [.ref h1, .ref h2, .ref h3, .long (er_ar X Y), .int (nI a), .int wy, .int (nI c9), .int wh, .int wk, .int on, .int lx, .int ly])), (h1, .inr (0, [.int (X 0), .int (Y 0), .int (D 0), .int (Q 0), .ref v0, .int (er_ex X Y 0), .int (er_ey X Y 0), .int (er_ea X Y 0), .int (er_ed X Y 0), .int (er_lw (er_ea X Y 0) (er_ed X Y 0))])), (h2, .inr (0, [.int (X 1), .int (Y 1), .int (D 1), .int (Q 1), .ref v1, .int (er_ex X Y 1), .int (er_ey X Y 1), .int (er_ea X Y 1), .int (er_ed X Y 1), .int (er_lw (er_ea X Y 1) (er_ed X Y 1))])), (h3, .inr (0, [.int (X 2), .int (Y 2), .int (D 2), .int (Q 2), .ref v2, .int (er_ex X Y 2), .int (er_ey X Y 2), .int (er_ea X Y 2), .int (er_ed X Y 2), .int (er_lw (er_ea X Y 2) (er_ed X Y 2))]))] s.heap := hP
  have hl := lv_entry ([.ref h0, .int (nI (a + i)), .int p1]) (n := 4) (Nat.le_of_ble_eq_true rfl)
  rw [lg_entry_eq]
  generalize (lg_sl ([.ref h0, .int (nI (a + i)), .int p1]) ++ List.replicate (4 - (lg_sl ([.ref h0, .int (nI (a + i)), .int p1])).length) Slot.unset).toArray = ls at hl ⊢
  have hl : lv_has ls 4 [(0, .ref h0), (1, .int (nI (a + i))), (2, .int p1)] := hl
  refine lv_iload_n hx hb d_E_firstCovered_0 rfl (lv_at hl 1 rfl) ?_
  refine lv_istore_n (lv' := [(3, .int (nI (a + i))), (0, .ref h0), (1, .int (nI (a + i))), (2, .int p1)]) hx hb d_E_firstCovered_1 rfl hl (by decide) rfl (fun ls hl => ?_)
  obtain ⟨t, b1, b2, b3, hl2⟩ : ∃ t : Nat, (i ≤ t) ∧ (t ≤ c9) ∧ (∀ k, i ≤ k → k < t → er_cov X Y (nI (a + k)) p1 = false) ∧ lv_has ls 4 [(3, .int (nI (a + t))), (0, .ref h0), (1, .int (nI (a + i))), (2, .int p1)] := ⟨i, Nat.le_refl _, hi, fun k q1 q2 => absurd q2 (by omega), lv_sub hl [0, 1, 2, 3] rfl⟩
  clear hl
  have hl := hl2
  clear hl2
  induction hnt : c9 - t using Nat.strongRecOn generalizing t ls with
  | ind nt iht =>
    refine lv_iload_n hx hb d_E_firstCovered_2 rfl (lv_at hl 0 rfl) ?_
    refine lv_aload_n hx hb d_E_firstCovered_3 rfl (lv_at hl 1 rfl) ?_
    refine va_get (D := (dC, dI)) (ci := 1) (v := .int (nI a)) (C := R_E) (T := F_E) (N := 12) hx hb hts i_E hown hK hP 0 rfl rfl 4 (by decide) (hts _ k_76) (fun _ h9 => h9) rfl d_E_firstCovered_4 ?_
    refine lv_aload_n hx hb d_E_firstCovered_7 rfl (lv_at hl 1 rfl) ?_
    refine va_get (D := (dC, dI)) (ci := 1) (v := .int (nI c9)) (C := R_E) (T := F_E) (N := 12) hx hb hts i_E hown hK hP 0 rfl rfl 6 (by decide) (hts _ k_78) (fun _ h9 => h9) rfl d_E_firstCovered_8 ?_
    refine lv_iadd hx hb d_E_firstCovered_11 ?_
    refine lv_icmp_ge (tgt := 32) hx hb d_E_firstCovered_12 (by decide) (fun c_1 => ?_) (fun c_1 => ?_)
    · rw [nI_add] at c_1
      have c_1 := er_le c_1 (by omega) (by omega)
      refine lv_aload_n hx hb d_E_firstCovered_32 rfl (lv_at hl 1 rfl) ?_
      refine va_get (D := (dC, dI)) (ci := 1) (v := .int (nI a)) (C := R_E) (T := F_E) (N := 12) hx hb hts i_E hown hK hP 0 rfl rfl 4 (by decide) (hts _ k_76) (fun _ h9 => h9) rfl d_E_firstCovered_33 ?_
      refine lv_aload_n hx hb d_E_firstCovered_36 rfl (lv_at hl 1 rfl) ?_
      refine va_get (D := (dC, dI)) (ci := 1) (v := .int (nI c9)) (C := R_E) (T := F_E) (N := 12) hx hb hts i_E hown hK hP 0 rfl rfl 6 (by decide) (hts _ k_78) (fun _ h9 => h9) rfl d_E_firstCovered_37 ?_
      refine lv_iadd hx hb d_E_firstCovered_40 ?_
      exact W.iret (v := (nI a) + (nI c9)) hx hb hr (fun u9 ht hW => ⟨_, rfl, ⟨c9, nI_add a c9, hi, Nat.le_refl _, fun k q1 q2 => b3 k q1 (by omega), fun q => absurd q (by omega)⟩, ht⟩) (fun q hq => by cases hq) d_E_firstCovered_41
    · rw [nI_add] at c_1
      have c_1 := er_nle c_1 (by omega) (by omega)
      refine lv_aload_n hx hb d_E_firstCovered_15 rfl (lv_at hl 1 rfl) ?_
      refine lv_iload_n hx hb d_E_firstCovered_16 rfl (lv_at hl 0 rfl) ?_
      refine lv_iload_n hx hb d_E_firstCovered_17 rfl (lv_at hl 3 rfl) ?_
      have hPc := hP.sub (ws' := [(h0, .inr (1, [.ref h1, .ref h2, .ref h3, .long (er_ar X Y), .int (nI a), .int wy, .int (nI c9), .int wh, .int wk, .int on, .int lx, .int ly])), (h1, .inr (0, [.int (X 0), .int (Y 0), .int (D 0), .int (Q 0), .ref v0, .int (er_ex X Y 0), .int (er_ey X Y 0), .int (er_ea X Y 0), .int (er_ed X Y 0), .int (er_lw (er_ea X Y 0) (er_ed X Y 0))])), (h2, .inr (0, [.int (X 1), .int (Y 1), .int (D 1), .int (Q 1), .ref v1, .int (er_ex X Y 1), .int (er_ey X Y 1), .int (er_ea X Y 1), .int (er_ed X Y 1), .int (er_lw (er_ea X Y 1) (er_ed X Y 1))])), (h3, .inr (0, [.int (X 2), .int (Y 2), .int (D 2), .int (Q 2), .ref v2, .int (er_ex X Y 2), .int (er_ey X Y 2), .int (er_ea X Y 2), .int (er_ed X Y 2), .int (er_lw (er_ea X Y 2) (er_ed X Y 2))]))]) [0, 1, 2, 3] rfl
      have hKc := hK.sub (tys' := []) [] rfl
      refine vp_callSi (va_runV (As := [.int (nI (a + t)), .int p1]) (rest := []) ⟨hx, hb, hml, hown, hts⟩ (c_E_isCovered l dC dI h0 h1 h2 h3 v0 v1 v2 X Y D Q (nI a) wy (nI c9) wh wk on lx ly (nI (a + t)) p1) (cwV 2 hts (er_gV k_117 k_118 k_0 k_18 k_119) rfl rfl rfl (by decide +kernel) ⟨Nat.le_of_ble_eq_true rfl, Nat.le_of_ble_eq_true rfl⟩) ⟨PP.blind, va_recv hKc hPc (ci := 1) (q0 := 0) rfl rfl, PP.at hN hKc hPc⟩ rfl rfl hl.1 rfl (lv_room (Nat.le_of_ble_eq_true rfl)) d_E_firstCovered_18 ⟨Nat.zero_le _, Nat.zero_le _⟩).run (fun r_2 hr_2 => ?_)
      obtain rfl : er_b (er_cov X Y (nI (a + t)) p1) = r_2 := Eq.symm hr_2
      refine lv_if_eq (tgt := 26) hx hb d_E_firstCovered_21 (by decide) (fun c_3 => ?_) (fun c_3 => ?_)
      · have c_3 := er_b_0.mp c_3
        refine lv_iinc (v := (nI (a + t)) + 1) (lv' := [(3, .int ((nI (a + t)) + 1)), (0, .ref h0), (1, .int (nI (a + i))), (2, .int p1)]) hx hb d_E_firstCovered_26 hl (k := 0) rfl (by first | rfl | decide) (by decide) rfl (fun ls hl => ?_)
        refine lv_goto (tgt := 2) hx hb d_E_firstCovered_29 (by decide) ?_
        exact iht _ (by omega) (ls := ls) (t := t + 1) (b1 := by omega) (b2 := by omega) (b3 := fun k q1 q2 => by rcases Nat.lt_or_ge k t with q | q; exact b3 k q1 q; rw [show k = t by omega]; exact c_3) (hl := by have hl := lv_sub hl [0, 1, 2, 3] rfl; rw [nI_1] at hl; exact hl) (hnt := rfl)
      · have c_3 := er_b_n.mp c_3
        refine lv_iload_n hx hb d_E_firstCovered_24 rfl (lv_at hl 0 rfl) ?_
        exact W.iret (v := nI (a + t)) hx hb hr (fun u9 ht hW => ⟨_, rfl, ⟨t, rfl, b1, b2, b3, fun _ => c_3⟩, ht⟩) (fun q hq => by cases hq) d_E_firstCovered_25

set_option maxHeartbeats 1000000 in
set_option maxRecDepth 100000 in
theorem c_E_many (l : Launch) (dC : Nat → ClassId) (dI : Nat → Nat → Nat) (h0 h1 h2 h3 v0 v1 v2 : Nat) (X Y D Q : Nat → Int32) (a b c9 d : Nat) (wk on lx ly : Int32) (hac : a + c9 < 100000) (hbd : b + d < 100000) : Met l y_E_many w_E_many ({ frames := 3, cells := 0, slots := 0, locals := 68 }) (va_Pc [.ref h0] (PP dC dI [] [(h0, .inr (1, [.ref h1, .ref h2, .ref h3, .long (er_ar X Y), .int (nI a), .int (nI b), .int (nI c9), .int (nI d), .int wk, .int on, .int lx, .int ly])), (h1, .inr (0, [.int (X 0), .int (Y 0), .int (D 0), .int (Q 0), .ref v0, .int (er_ex X Y 0), .int (er_ey X Y 0), .int (er_ea X Y 0), .int (er_ed X Y 0), .int (er_lw (er_ea X Y 0) (er_ed X Y 0))])), (h2, .inr (0, [.int (X 1), .int (Y 1), .int (D 1), .int (Q 1), .ref v1, .int (er_ex X Y 1), .int (er_ey X Y 1), .int (er_ea X Y 1), .int (er_ed X Y 1), .int (er_lw (er_ea X Y 1) (er_ed X Y 1))])), (h3, .inr (0, [.int (X 2), .int (Y 2), .int (D 2), .int (Q 2), .ref v2, .int (er_ex X Y 2), .int (er_ey X Y 2), .int (er_ea X Y 2), .int (er_ed X Y 2), .int (er_lw (er_ea X Y 2) (er_ed X Y 2))]))])) (vp_Si (fun r : Int32 => r = nI (er_cnt (er_f X Y a b c9) (d * c9)))) 0 0 (fun _ => False) := by
  refine Met.ofW (cc := b_E_many) (maxL := 4) (ret := (some .int)) (by decide +kernel) rfl ?_
  intro p e s m args below meth c s₁ B hml hv
  obtain ⟨rfl, hN, hK, hP⟩ := hv
  have hx := B.exec
  have hb := B.bytes
  have hr := B.returns
  have hts := er_hts (atoms_spec (ws := w_E_many) B.pre)
  have hown : s.vm.findClass R_E = some m.cls := findClass_of_methodNamed B.named
  have hlocks := B.notSynchronized
  have hP : va_P (dC, dI) classes [(h0, .inr (1, [.ref h1, .ref h2, .ref h3, .long (er_ar X Y), .int (nI a), .int (nI b), .int (nI c9), .int (nI d), .int wk, .int on, .int lx, .int ly])), (h1, .inr (0, [.int (X 0), .int (Y 0), .int (D 0), .int (Q 0), .ref v0, .int (er_ex X Y 0), .int (er_ey X Y 0), .int (er_ea X Y 0), .int (er_ed X Y 0), .int (er_lw (er_ea X Y 0) (er_ed X Y 0))])), (h2, .inr (0, [.int (X 1), .int (Y 1), .int (D 1), .int (Q 1), .ref v1, .int (er_ex X Y 1), .int (er_ey X Y 1), .int (er_ea X Y 1), .int (er_ed X Y 1), .int (er_lw (er_ea X Y 1) (er_ed X Y 1))])), (h3, .inr (0, [.int (X 2), .int (Y 2), .int (D 2), .int (Q 2), .ref v2, .int (er_ex X Y 2), .int (er_ey X Y 2), .int (er_ea X Y 2), .int (er_ed X Y 2), .int (er_lw (er_ea X Y 2) (er_ed X Y 2))]))] s.heap := hP
  have hl := lv_entry ([.ref h0]) (n := 4) (Nat.le_of_ble_eq_true rfl)
  rw [lg_entry_eq]
  generalize (lg_sl ([.ref h0]) ++ List.replicate (4 - (lg_sl ([.ref h0])).length) Slot.unset).toArray = ls at hl ⊢
  have hl : lv_has ls 4 [(0, .ref h0)] := hl
  refine lv_iconst (v := 0) hx hb d_E_many_0 (by decide) ?_
  refine lv_istore_n (lv' := [(1, .int 0), (0, .ref h0)]) hx hb d_E_many_1 rfl hl (by decide) rfl (fun ls hl => ?_)
  refine lv_aload_n hx hb d_E_many_2 rfl (lv_at hl 1 rfl) ?_
  refine va_get (D := (dC, dI)) (ci := 1) (v := .int (nI b)) (C := R_E) (T := F_E) (N := 12) hx hb hts i_E hown hK hP 0 rfl rfl 5 (by decide) (hts _ k_77) (fun _ h9 => h9) rfl d_E_many_3 ?_
  refine lv_istore_n (lv' := [(2, .int (nI b)), (1, .int 0), (0, .ref h0)]) hx hb d_E_many_6 rfl hl (by decide) rfl (fun ls hl => ?_)
  obtain ⟨j, b1, hl2⟩ : ∃ j : Nat, (j ≤ d) ∧ lv_has ls 4 [(2, .int (nI (b + j))), (1, .int (nI (er_cnt (er_f X Y a b c9) (j * c9)))), (0, .ref h0)] := ⟨0, by omega, (by rw [Nat.zero_mul]; exact lv_sub hl [0, 1, 2] rfl)⟩
  clear hl
  have hl := hl2
  clear hl2
  induction hnj : d - j using Nat.strongRecOn generalizing j ls with
  | ind nj ihj =>
    refine lv_iload_n hx hb d_E_many_7 rfl (lv_at hl 0 rfl) ?_
    refine lv_aload_n hx hb d_E_many_8 rfl (lv_at hl 2 rfl) ?_
    refine va_get (D := (dC, dI)) (ci := 1) (v := .int (nI b)) (C := R_E) (T := F_E) (N := 12) hx hb hts i_E hown hK hP 0 rfl rfl 5 (by decide) (hts _ k_77) (fun _ h9 => h9) rfl d_E_many_9 ?_
    refine lv_aload_n hx hb d_E_many_12 rfl (lv_at hl 2 rfl) ?_
    refine va_get (D := (dC, dI)) (ci := 1) (v := .int (nI d)) (C := R_E) (T := F_E) (N := 12) hx hb hts i_E hown hK hP 0 rfl rfl 7 (by decide) (hts _ k_79) (fun _ h9 => h9) rfl d_E_many_13 ?_
    refine lv_iadd hx hb d_E_many_16 ?_
    refine lv_icmp_ge (tgt := 62) hx hb d_E_many_17 (by decide) (fun c_1 => ?_) (fun c_1 => ?_)
    · rw [nI_add] at c_1
      have c_1 := er_le c_1 (by omega) (by omega)
      refine lv_iload_n hx hb d_E_many_62 rfl (lv_at hl 1 rfl) ?_
      exact W.iret (v := nI (er_cnt (er_f X Y a b c9) (j * c9))) hx hb hr (fun u9 ht hW => ⟨_, rfl, (by rw [show j = d by omega]), ht⟩) (fun q hq => by cases hq) d_E_many_63
    · rw [nI_add] at c_1
      have c_1 := er_nle c_1 (by omega) (by omega)
      refine lv_aload_n hx hb d_E_many_20 rfl (lv_at hl 2 rfl) ?_
      refine va_get (D := (dC, dI)) (ci := 1) (v := .int (nI a)) (C := R_E) (T := F_E) (N := 12) hx hb hts i_E hown hK hP 0 rfl rfl 4 (by decide) (hts _ k_76) (fun _ h9 => h9) rfl d_E_many_21 ?_
      refine lv_istore_n (lv' := [(3, .int (nI a)), (2, .int (nI (b + j))), (1, .int (nI (er_cnt (er_f X Y a b c9) (j * c9)))), (0, .ref h0)]) hx hb d_E_many_24 rfl hl (by decide) rfl (fun ls hl => ?_)
      obtain ⟨i, e1, hl2⟩ : ∃ i : Nat, (i ≤ c9) ∧ lv_has ls 4 [(3, .int (nI (a + i))), (2, .int (nI (b + j))), (1, .int (nI (er_cnt (er_f X Y a b c9) (j * c9 + i)))), (0, .ref h0)] := ⟨0, by omega, lv_sub hl [0, 1, 2, 3] rfl⟩
      clear hl
      have hl := hl2
      clear hl2
      induction hni : c9 - i using Nat.strongRecOn generalizing i ls with
      | ind ni ihi =>
        refine lv_iload_n hx hb d_E_many_25 rfl (lv_at hl 0 rfl) ?_
        refine lv_aload_n hx hb d_E_many_26 rfl (lv_at hl 3 rfl) ?_
        refine va_get (D := (dC, dI)) (ci := 1) (v := .int (nI a)) (C := R_E) (T := F_E) (N := 12) hx hb hts i_E hown hK hP 0 rfl rfl 4 (by decide) (hts _ k_76) (fun _ h9 => h9) rfl d_E_many_27 ?_
        refine lv_aload_n hx hb d_E_many_30 rfl (lv_at hl 3 rfl) ?_
        refine va_get (D := (dC, dI)) (ci := 1) (v := .int (nI c9)) (C := R_E) (T := F_E) (N := 12) hx hb hts i_E hown hK hP 0 rfl rfl 6 (by decide) (hts _ k_78) (fun _ h9 => h9) rfl d_E_many_31 ?_
        refine lv_iadd hx hb d_E_many_34 ?_
        refine lv_icmp_ge (tgt := 56) hx hb d_E_many_35 (by decide) (fun c_2 => ?_) (fun c_2 => ?_)
        · rw [nI_add] at c_2
          have c_2 := er_le c_2 (by omega) (by omega)
          refine lv_iinc (v := (nI (b + j)) + 1) (lv' := [(2, .int ((nI (b + j)) + 1)), (3, .int (nI (a + i))), (1, .int (nI (er_cnt (er_f X Y a b c9) (j * c9 + i)))), (0, .ref h0)]) hx hb d_E_many_56 hl (k := 1) rfl (by first | rfl | decide) (by decide) rfl (fun ls hl => ?_)
          refine lv_goto (tgt := 7) hx hb d_E_many_59 (by decide) ?_
          exact ihj _ (by omega) (ls := ls) (j := j + 1) (b1 := by omega) (hl := by have hl := lv_sub hl [0, 2, 3] rfl; rw [nI_1 (b + j), show j * c9 + i = (j + 1) * c9 by rw [Nat.succ_mul]; omega] at hl; exact hl) (hnj := rfl)
        · rw [nI_add] at c_2
          have c_2 := er_nle c_2 (by omega) (by omega)
          refine lv_aload_n hx hb d_E_many_38 rfl (lv_at hl 3 rfl) ?_
          refine lv_iload_n hx hb d_E_many_39 rfl (lv_at hl 0 rfl) ?_
          refine lv_iload_n hx hb d_E_many_40 rfl (lv_at hl 1 rfl) ?_
          have hPc := hP.sub (ws' := [(h0, .inr (1, [.ref h1, .ref h2, .ref h3, .long (er_ar X Y), .int (nI a), .int (nI b), .int (nI c9), .int (nI d), .int wk, .int on, .int lx, .int ly])), (h1, .inr (0, [.int (X 0), .int (Y 0), .int (D 0), .int (Q 0), .ref v0, .int (er_ex X Y 0), .int (er_ey X Y 0), .int (er_ea X Y 0), .int (er_ed X Y 0), .int (er_lw (er_ea X Y 0) (er_ed X Y 0))])), (h2, .inr (0, [.int (X 1), .int (Y 1), .int (D 1), .int (Q 1), .ref v1, .int (er_ex X Y 1), .int (er_ey X Y 1), .int (er_ea X Y 1), .int (er_ed X Y 1), .int (er_lw (er_ea X Y 1) (er_ed X Y 1))])), (h3, .inr (0, [.int (X 2), .int (Y 2), .int (D 2), .int (Q 2), .ref v2, .int (er_ex X Y 2), .int (er_ey X Y 2), .int (er_ea X Y 2), .int (er_ed X Y 2), .int (er_lw (er_ea X Y 2) (er_ed X Y 2))]))]) [0, 1, 2, 3] rfl
          have hKc := hK.sub (tys' := []) [] rfl
          refine vp_callSi (va_runV (As := [.int (nI (a + i)), .int (nI (b + j))]) (rest := []) ⟨hx, hb, hml, hown, hts⟩ (c_E_isCovered l dC dI h0 h1 h2 h3 v0 v1 v2 X Y D Q (nI a) (nI b) (nI c9) (nI d) wk on lx ly (nI (a + i)) (nI (b + j))) (cwV 2 hts (er_gV k_117 k_118 k_0 k_18 k_119) rfl rfl rfl (by decide +kernel) ⟨Nat.le_of_ble_eq_true rfl, Nat.le_of_ble_eq_true rfl⟩) ⟨PP.blind, va_recv hKc hPc (ci := 1) (q0 := 0) rfl rfl, PP.at hN hKc hPc⟩ rfl rfl hl.1 rfl (lv_room (Nat.le_of_ble_eq_true rfl)) d_E_many_41 ⟨Nat.zero_le _, Nat.zero_le _⟩).run (fun r_3 hr_3 => ?_)
          obtain rfl : er_b (er_cov X Y (nI (a + i)) (nI (b + j))) = r_3 := Eq.symm hr_3
          refine lv_if_eq (tgt := 50) hx hb d_E_many_44 (by decide) (fun c_4 => ?_) (fun c_4 => ?_)
          · have c_4 := er_b_0.mp c_4
            refine lv_iinc (v := (nI (a + i)) + 1) (lv' := [(3, .int ((nI (a + i)) + 1)), (2, .int (nI (b + j))), (1, .int (nI (er_cnt (er_f X Y a b c9) (j * c9 + i)))), (0, .ref h0)]) hx hb d_E_many_50 hl (k := 0) rfl (by first | rfl | decide) (by decide) rfl (fun ls hl => ?_)
            refine lv_goto (tgt := 25) hx hb d_E_many_53 (by decide) ?_
            exact ihi _ (by omega) (ls := ls) (i := i + 1) (e1 := by omega) (hl := by have hl := lv_sub hl [0, 1, 2, 3] rfl; rw [nI_1 (a + i), er_cnt_f (er_f_at (by omega) c_4)] at hl; exact hl) (hni := rfl)
          · have c_4 := er_b_n.mp c_4
            refine lv_iinc (v := (nI (er_cnt (er_f X Y a b c9) (j * c9 + i))) + 1) (lv' := [(1, .int ((nI (er_cnt (er_f X Y a b c9) (j * c9 + i))) + 1)), (3, .int (nI (a + i))), (2, .int (nI (b + j))), (0, .ref h0)]) hx hb d_E_many_47 hl (k := 2) rfl (by first | rfl | decide) (by decide) rfl (fun ls hl => ?_)
            refine lv_iinc (v := (nI (a + i)) + 1) (lv' := [(3, .int ((nI (a + i)) + 1)), (1, .int ((nI (er_cnt (er_f X Y a b c9) (j * c9 + i))) + 1)), (2, .int (nI (b + j))), (0, .ref h0)]) hx hb d_E_many_50 hl (k := 1) rfl (by first | rfl | decide) (by decide) rfl (fun ls hl => ?_)
            refine lv_goto (tgt := 25) hx hb d_E_many_53 (by decide) ?_
            exact ihi _ (by omega) (ls := ls) (i := i + 1) (e1 := by omega) (hl := by have hl := lv_sub hl [0, 2, 1, 3] rfl; rw [nI_1 (a + i), er_cnt_t (er_f_at (by omega) c_4)] at hl; exact hl) (hni := rfl)
