set_option maxHeartbeats 1000000 in
set_option maxRecDepth 100000 in
theorem c_M_init (l : Launch) (dC : Nat → ClassId) (dI : Nat → Nat → Nat) (m0 : Nat) (sz : Nat) : Met l y_M_init w_M_init ({ frames := 1, cells := 5, slots := 96, locals := 12 }) (va_Pc [.ref m0] (PI dC dI [] [(m0, .inr (2, [.int 0, .null, .null, .null, .null, .null, .int 0, .int 0, .int 0, .int 0, .int 0, .int 0, .int 0, .int 0, .int 0]))] sz)) (va_Qv (fun (u : Unit) => True) (fun (u : Unit) t => ∃ (a1 a2 a3 a4 a5 : Nat) (g1 g2 g3 g4 g5 : ClassId), EI dC dI [(g1, .int), (g2, .int), (g3, .int), (g4, .int), (g5, .int)] [(m0, .inr (2, [.int 0, .ref a1, .ref a2, .ref a3, .ref a4, .ref a5, .int 0, .int 0, .int 1, .int 1, .int 0, .int 0, .int 0, .int 0, .int 0])), (a1, .inl (g1, 3, .inl (fun _ => 0))), (a2, .inl (g2, 3, .inl (fun _ => 0))), (a3, .inl (g3, 3, .inl (fun _ => 0))), (a4, .inl (g4, 3, .inl (upd (upd (upd (fun _ => 0) 0 1) 1 1) 2 1))), (a5, .inl (g5, 84, .inl (fun _ => 0)))] (va_A [(m0, .inr (2, [.int 0, .null, .null, .null, .null, .null, .int 0, .int 0, .int 0, .int 0, .int 0, .int 0, .int 0, .int 0, .int 0]))] sz) t) (va_A [(m0, .inr (2, [.int 0, .null, .null, .null, .null, .null, .int 0, .int 0, .int 0, .int 0, .int 0, .int 0, .int 0, .int 0, .int 0]))] sz)) 5 96 (va_A [(m0, .inr (2, [.int 0, .null, .null, .null, .null, .null, .int 0, .int 0, .int 0, .int 0, .int 0, .int 0, .int 0, .int 0, .int 0]))] sz) := by
  refine Met.ofW (cc := b_M_init) (maxL := 2) (ret := none) (by decide +kernel) rfl ?_
  intro p e s m args below meth c s₁ B hml hv
  obtain ⟨rfl, hsz, hN, hK, hP, hD0⟩ := hv
  have hx := B.exec
  have hb := B.bytes
  have hr := B.returns
  have hts := er_hts (atoms_spec (ws := w_M_init) B.pre)
  have hown : s.vm.findClass R_M = some m.cls := findClass_of_methodNamed B.named
  have hlocks := B.notSynchronized
  have hin : meth.name = "<init>" := (name_of_methodNamed B.named B.method).1
  subst hsz
  have hD := hD0.self (sz := s.heap.size)
  generalize hAe : va_A [(m0, .inr (2, [.int 0, .null, .null, .null, .null, .null, .int 0, .int 0, .int 0, .int 0, .int 0, .int 0, .int 0, .int 0, .int 0]))] s.heap.size = A at hD ⊢
  have hA : ∀ q : Nat, s.heap.size ≤ q → A q := fun q h => by rw [← hAe]; exact Or.inr h
  have hS : va_S A s.heap s.heap [] := va_S.rf
  have hP : va_P (dC, dI) classes [(m0, .inr (2, [.int 0, .null, .null, .null, .null, .null, .int 0, .int 0, .int 0, .int 0, .int 0, .int 0, .int 0, .int 0, .int 0]))] s.heap := hP
  have hl := lv_entry ([.ref m0]) (n := 2) (Nat.le_of_ble_eq_true rfl)
  rw [lg_entry_eq]
  generalize (lg_sl ([.ref m0]) ++ List.replicate (2 - (lg_sl ([.ref m0])).length) Slot.unset).toArray = ls at hl ⊢
  have hl : lv_has ls 2 [(0, .ref m0)] := hl
  refine lv_aload_n hx hb d_M_init_0 rfl (lv_at hl 0 rfl) ?_
  refine W.objInit hx hb hown (hts _ k_305) (hts _ k_33) (hts _ k_34) rfl (by rw [hml]; exact hl.1) rfl d_M_init_1 (Nat.le_of_ble_eq_true rfl) (Nat.le_of_ble_eq_true rfl) ?_
  refine W.eq (g2 := F0 m 4 ls []) rfl ?_
  refine lv_aload_n hx hb d_M_init_4 rfl (lv_at hl 0 rfl) ?_
  refine lv_iconst (v := 3) hx hb d_M_init_5 (by decide) ?_
  refine va_newa (atype := .int) (N' := 3) (a0 := (3, .inl (fun _ => 0))) hx hb (hts _ k_71) rfl hK hP hD hS hA (fun _ => rfl) (by decide) (by decide) (by decide) (Nat.le_of_ble_eq_true rfl) (Nat.le_of_ble_eq_true rfl) d_M_init_6 (fun q_6 cA_6 H hK hP hD hS => ?_)
  have hP : va_P (dC, dI) classes [(m0, .inr (2, [.int 0, .null, .null, .null, .null, .null, .int 0, .int 0, .int 0, .int 0, .int 0, .int 0, .int 0, .int 0, .int 0])), (q_6, .inl (cA_6, 3, .inl (fun _ => 0)))] H := hP
  have hD : va_D A [(m0, .inr (2, [.int 0, .null, .null, .null, .null, .null, .int 0, .int 0, .int 0, .int 0, .int 0, .int 0, .int 0, .int 0, .int 0])), (q_6, .inl (cA_6, 3, .inl (fun _ => 0)))] := hD
  have hK : va_K (dC, dI) classes [(cA_6, .int)] s := hK
  refine W.widen (k := 1) (n := 3) (by omega) (by omega) ?_
  refine va_putF (D := (dC, dI)) (ci := 2) (v := .ref q_6) (ty := (.array .int)) (C := R_M) (T := F_M) (N := 15) hx hb hts i_M t_M t_M_ok n_M hown hK hP hD hS 0 rfl rfl 1 (by decide) (hts _ k_307) (fun _ h9 => h9) rfl hin rfl (by decide +kernel) rfl rfl (Nat.le_of_ble_eq_true rfl) d_M_init_8 (fun H locs hP hD hS => ?_)
  have hP : va_P (dC, dI) classes [(m0, .inr (2, [.int 0, .ref q_6, .null, .null, .null, .null, .int 0, .int 0, .int 0, .int 0, .int 0, .int 0, .int 0, .int 0, .int 0])), (q_6, .inl (cA_6, 3, .inl (fun _ => 0)))] H := hP
  have hD : va_D A [(m0, .inr (2, [.int 0, .ref q_6, .null, .null, .null, .null, .int 0, .int 0, .int 0, .int 0, .int 0, .int 0, .int 0, .int 0, .int 0])), (q_6, .inl (cA_6, 3, .inl (fun _ => 0)))] := hD
  refine lv_aload_n hx hb d_M_init_11 rfl (lv_at hl 0 rfl) ?_
  refine lv_iconst (v := 3) hx hb d_M_init_12 (by decide) ?_
  refine va_newa (atype := .int) (N' := 3) (a0 := (3, .inl (fun _ => 0))) hx hb (hts _ k_71) rfl hK hP hD hS hA (fun _ => rfl) (by decide) (by decide) (by decide) (Nat.le_of_ble_eq_true rfl) (Nat.le_of_ble_eq_true rfl) d_M_init_13 (fun q_13 cA_13 H hK hP hD hS => ?_)
  have hP : va_P (dC, dI) classes [(m0, .inr (2, [.int 0, .ref q_6, .null, .null, .null, .null, .int 0, .int 0, .int 0, .int 0, .int 0, .int 0, .int 0, .int 0, .int 0])), (q_6, .inl (cA_6, 3, .inl (fun _ => 0))), (q_13, .inl (cA_13, 3, .inl (fun _ => 0)))] H := hP
  have hD : va_D A [(m0, .inr (2, [.int 0, .ref q_6, .null, .null, .null, .null, .int 0, .int 0, .int 0, .int 0, .int 0, .int 0, .int 0, .int 0, .int 0])), (q_6, .inl (cA_6, 3, .inl (fun _ => 0))), (q_13, .inl (cA_13, 3, .inl (fun _ => 0)))] := hD
  have hK : va_K (dC, dI) classes [(cA_6, .int), (cA_13, .int)] s := hK
  refine W.widen (k := 2) (n := 6) (by omega) (by omega) ?_
  refine va_putF (D := (dC, dI)) (ci := 2) (v := .ref q_13) (ty := (.array .int)) (C := R_M) (T := F_M) (N := 15) hx hb hts i_M t_M t_M_ok n_M hown hK hP hD hS 0 rfl rfl 2 (by decide) (hts _ k_308) (fun _ h9 => h9) rfl hin rfl (by decide +kernel) rfl rfl (Nat.le_of_ble_eq_true rfl) d_M_init_15 (fun H locs hP hD hS => ?_)
  have hP : va_P (dC, dI) classes [(m0, .inr (2, [.int 0, .ref q_6, .ref q_13, .null, .null, .null, .int 0, .int 0, .int 0, .int 0, .int 0, .int 0, .int 0, .int 0, .int 0])), (q_6, .inl (cA_6, 3, .inl (fun _ => 0))), (q_13, .inl (cA_13, 3, .inl (fun _ => 0)))] H := hP
  have hD : va_D A [(m0, .inr (2, [.int 0, .ref q_6, .ref q_13, .null, .null, .null, .int 0, .int 0, .int 0, .int 0, .int 0, .int 0, .int 0, .int 0, .int 0])), (q_6, .inl (cA_6, 3, .inl (fun _ => 0))), (q_13, .inl (cA_13, 3, .inl (fun _ => 0)))] := hD
  refine lv_aload_n hx hb d_M_init_18 rfl (lv_at hl 0 rfl) ?_
  refine lv_iconst (v := 3) hx hb d_M_init_19 (by decide) ?_
  refine va_newa (atype := .int) (N' := 3) (a0 := (3, .inl (fun _ => 0))) hx hb (hts _ k_71) rfl hK hP hD hS hA (fun _ => rfl) (by decide) (by decide) (by decide) (Nat.le_of_ble_eq_true rfl) (Nat.le_of_ble_eq_true rfl) d_M_init_20 (fun q_20 cA_20 H hK hP hD hS => ?_)
  have hP : va_P (dC, dI) classes [(m0, .inr (2, [.int 0, .ref q_6, .ref q_13, .null, .null, .null, .int 0, .int 0, .int 0, .int 0, .int 0, .int 0, .int 0, .int 0, .int 0])), (q_6, .inl (cA_6, 3, .inl (fun _ => 0))), (q_13, .inl (cA_13, 3, .inl (fun _ => 0))), (q_20, .inl (cA_20, 3, .inl (fun _ => 0)))] H := hP
  have hD : va_D A [(m0, .inr (2, [.int 0, .ref q_6, .ref q_13, .null, .null, .null, .int 0, .int 0, .int 0, .int 0, .int 0, .int 0, .int 0, .int 0, .int 0])), (q_6, .inl (cA_6, 3, .inl (fun _ => 0))), (q_13, .inl (cA_13, 3, .inl (fun _ => 0))), (q_20, .inl (cA_20, 3, .inl (fun _ => 0)))] := hD
  have hK : va_K (dC, dI) classes [(cA_6, .int), (cA_13, .int), (cA_20, .int)] s := hK
  refine W.widen (k := 3) (n := 9) (by omega) (by omega) ?_
  refine va_putF (D := (dC, dI)) (ci := 2) (v := .ref q_20) (ty := (.array .int)) (C := R_M) (T := F_M) (N := 15) hx hb hts i_M t_M t_M_ok n_M hown hK hP hD hS 0 rfl rfl 3 (by decide) (hts _ k_309) (fun _ h9 => h9) rfl hin rfl (by decide +kernel) rfl rfl (Nat.le_of_ble_eq_true rfl) d_M_init_22 (fun H locs hP hD hS => ?_)
  have hP : va_P (dC, dI) classes [(m0, .inr (2, [.int 0, .ref q_6, .ref q_13, .ref q_20, .null, .null, .int 0, .int 0, .int 0, .int 0, .int 0, .int 0, .int 0, .int 0, .int 0])), (q_6, .inl (cA_6, 3, .inl (fun _ => 0))), (q_13, .inl (cA_13, 3, .inl (fun _ => 0))), (q_20, .inl (cA_20, 3, .inl (fun _ => 0)))] H := hP
  have hD : va_D A [(m0, .inr (2, [.int 0, .ref q_6, .ref q_13, .ref q_20, .null, .null, .int 0, .int 0, .int 0, .int 0, .int 0, .int 0, .int 0, .int 0, .int 0])), (q_6, .inl (cA_6, 3, .inl (fun _ => 0))), (q_13, .inl (cA_13, 3, .inl (fun _ => 0))), (q_20, .inl (cA_20, 3, .inl (fun _ => 0)))] := hD
  refine lv_aload_n hx hb d_M_init_25 rfl (lv_at hl 0 rfl) ?_
  refine lv_iconst (v := 3) hx hb d_M_init_26 (by decide) ?_
  refine va_newa (atype := .int) (N' := 3) (a0 := (3, .inl (fun _ => 0))) hx hb (hts _ k_71) rfl hK hP hD hS hA (fun _ => rfl) (by decide) (by decide) (by decide) (Nat.le_of_ble_eq_true rfl) (Nat.le_of_ble_eq_true rfl) d_M_init_27 (fun q_27 cA_27 H hK hP hD hS => ?_)
  have hP : va_P (dC, dI) classes [(m0, .inr (2, [.int 0, .ref q_6, .ref q_13, .ref q_20, .null, .null, .int 0, .int 0, .int 0, .int 0, .int 0, .int 0, .int 0, .int 0, .int 0])), (q_6, .inl (cA_6, 3, .inl (fun _ => 0))), (q_13, .inl (cA_13, 3, .inl (fun _ => 0))), (q_20, .inl (cA_20, 3, .inl (fun _ => 0))), (q_27, .inl (cA_27, 3, .inl (fun _ => 0)))] H := hP
  have hD : va_D A [(m0, .inr (2, [.int 0, .ref q_6, .ref q_13, .ref q_20, .null, .null, .int 0, .int 0, .int 0, .int 0, .int 0, .int 0, .int 0, .int 0, .int 0])), (q_6, .inl (cA_6, 3, .inl (fun _ => 0))), (q_13, .inl (cA_13, 3, .inl (fun _ => 0))), (q_20, .inl (cA_20, 3, .inl (fun _ => 0))), (q_27, .inl (cA_27, 3, .inl (fun _ => 0)))] := hD
  have hK : va_K (dC, dI) classes [(cA_6, .int), (cA_13, .int), (cA_20, .int), (cA_27, .int)] s := hK
  refine W.widen (k := 4) (n := 12) (by omega) (by omega) ?_
  refine va_putF (D := (dC, dI)) (ci := 2) (v := .ref q_27) (ty := (.array .int)) (C := R_M) (T := F_M) (N := 15) hx hb hts i_M t_M t_M_ok n_M hown hK hP hD hS 0 rfl rfl 4 (by decide) (hts _ k_310) (fun _ h9 => h9) rfl hin rfl (by decide +kernel) rfl rfl (Nat.le_of_ble_eq_true rfl) d_M_init_29 (fun H locs hP hD hS => ?_)
  have hP : va_P (dC, dI) classes [(m0, .inr (2, [.int 0, .ref q_6, .ref q_13, .ref q_20, .ref q_27, .null, .int 0, .int 0, .int 0, .int 0, .int 0, .int 0, .int 0, .int 0, .int 0])), (q_6, .inl (cA_6, 3, .inl (fun _ => 0))), (q_13, .inl (cA_13, 3, .inl (fun _ => 0))), (q_20, .inl (cA_20, 3, .inl (fun _ => 0))), (q_27, .inl (cA_27, 3, .inl (fun _ => 0)))] H := hP
  have hD : va_D A [(m0, .inr (2, [.int 0, .ref q_6, .ref q_13, .ref q_20, .ref q_27, .null, .int 0, .int 0, .int 0, .int 0, .int 0, .int 0, .int 0, .int 0, .int 0])), (q_6, .inl (cA_6, 3, .inl (fun _ => 0))), (q_13, .inl (cA_13, 3, .inl (fun _ => 0))), (q_20, .inl (cA_20, 3, .inl (fun _ => 0))), (q_27, .inl (cA_27, 3, .inl (fun _ => 0)))] := hD
  refine lv_aload_n hx hb d_M_init_32 rfl (lv_at hl 0 rfl) ?_
  refine lv_bipush (v := 84) hx hb d_M_init_33 (by decide) ?_
  refine va_newa (atype := .int) (N' := 84) (a0 := (84, .inl (fun _ => 0))) hx hb (hts _ k_71) rfl hK hP hD hS hA (fun _ => rfl) (by decide) (by decide) (by decide) (Nat.le_of_ble_eq_true rfl) (Nat.le_of_ble_eq_true rfl) d_M_init_35 (fun q_35 cA_35 H hK hP hD hS => ?_)
  have hP : va_P (dC, dI) classes [(m0, .inr (2, [.int 0, .ref q_6, .ref q_13, .ref q_20, .ref q_27, .null, .int 0, .int 0, .int 0, .int 0, .int 0, .int 0, .int 0, .int 0, .int 0])), (q_6, .inl (cA_6, 3, .inl (fun _ => 0))), (q_13, .inl (cA_13, 3, .inl (fun _ => 0))), (q_20, .inl (cA_20, 3, .inl (fun _ => 0))), (q_27, .inl (cA_27, 3, .inl (fun _ => 0))), (q_35, .inl (cA_35, 84, .inl (fun _ => 0)))] H := hP
  have hD : va_D A [(m0, .inr (2, [.int 0, .ref q_6, .ref q_13, .ref q_20, .ref q_27, .null, .int 0, .int 0, .int 0, .int 0, .int 0, .int 0, .int 0, .int 0, .int 0])), (q_6, .inl (cA_6, 3, .inl (fun _ => 0))), (q_13, .inl (cA_13, 3, .inl (fun _ => 0))), (q_20, .inl (cA_20, 3, .inl (fun _ => 0))), (q_27, .inl (cA_27, 3, .inl (fun _ => 0))), (q_35, .inl (cA_35, 84, .inl (fun _ => 0)))] := hD
  have hK : va_K (dC, dI) classes [(cA_6, .int), (cA_13, .int), (cA_20, .int), (cA_27, .int), (cA_35, .int)] s := hK
  refine W.widen (k := 5) (n := 96) (by omega) (by omega) ?_
  refine va_putF (D := (dC, dI)) (ci := 2) (v := .ref q_35) (ty := (.array .int)) (C := R_M) (T := F_M) (N := 15) hx hb hts i_M t_M t_M_ok n_M hown hK hP hD hS 0 rfl rfl 5 (by decide) (hts _ k_311) (fun _ h9 => h9) rfl hin rfl (by decide +kernel) rfl rfl (Nat.le_of_ble_eq_true rfl) d_M_init_37 (fun H locs hP hD hS => ?_)
  have hP : va_P (dC, dI) classes [(m0, .inr (2, [.int 0, .ref q_6, .ref q_13, .ref q_20, .ref q_27, .ref q_35, .int 0, .int 0, .int 0, .int 0, .int 0, .int 0, .int 0, .int 0, .int 0])), (q_6, .inl (cA_6, 3, .inl (fun _ => 0))), (q_13, .inl (cA_13, 3, .inl (fun _ => 0))), (q_20, .inl (cA_20, 3, .inl (fun _ => 0))), (q_27, .inl (cA_27, 3, .inl (fun _ => 0))), (q_35, .inl (cA_35, 84, .inl (fun _ => 0)))] H := hP
  have hD : va_D A [(m0, .inr (2, [.int 0, .ref q_6, .ref q_13, .ref q_20, .ref q_27, .ref q_35, .int 0, .int 0, .int 0, .int 0, .int 0, .int 0, .int 0, .int 0, .int 0])), (q_6, .inl (cA_6, 3, .inl (fun _ => 0))), (q_13, .inl (cA_13, 3, .inl (fun _ => 0))), (q_20, .inl (cA_20, 3, .inl (fun _ => 0))), (q_27, .inl (cA_27, 3, .inl (fun _ => 0))), (q_35, .inl (cA_35, 84, .inl (fun _ => 0)))] := hD
  refine lv_aload_n hx hb d_M_init_40 rfl (lv_at hl 0 rfl) ?_
  refine lv_iconst (v := 1) hx hb d_M_init_41 (by decide) ?_
  refine va_put (D := (dC, dI)) (ci := 2) (v := .int 1) (ty := .int) (C := R_M) (T := F_M) (N := 15) hx hb hts i_M t_M t_M_ok n_M hown hK hP hD hS 0 rfl rfl 8 (by decide) (hts _ k_314) (fun _ h9 => h9) rfl (by decide +kernel) rfl rfl (Nat.le_of_ble_eq_true rfl) d_M_init_42 (fun H locs hP hD hS => ?_)
  have hP : va_P (dC, dI) classes [(m0, .inr (2, [.int 0, .ref q_6, .ref q_13, .ref q_20, .ref q_27, .ref q_35, .int 0, .int 0, .int 1, .int 0, .int 0, .int 0, .int 0, .int 0, .int 0])), (q_6, .inl (cA_6, 3, .inl (fun _ => 0))), (q_13, .inl (cA_13, 3, .inl (fun _ => 0))), (q_20, .inl (cA_20, 3, .inl (fun _ => 0))), (q_27, .inl (cA_27, 3, .inl (fun _ => 0))), (q_35, .inl (cA_35, 84, .inl (fun _ => 0)))] H := hP
  have hD : va_D A [(m0, .inr (2, [.int 0, .ref q_6, .ref q_13, .ref q_20, .ref q_27, .ref q_35, .int 0, .int 0, .int 1, .int 0, .int 0, .int 0, .int 0, .int 0, .int 0])), (q_6, .inl (cA_6, 3, .inl (fun _ => 0))), (q_13, .inl (cA_13, 3, .inl (fun _ => 0))), (q_20, .inl (cA_20, 3, .inl (fun _ => 0))), (q_27, .inl (cA_27, 3, .inl (fun _ => 0))), (q_35, .inl (cA_35, 84, .inl (fun _ => 0)))] := hD
  refine lv_aload_n hx hb d_M_init_45 rfl (lv_at hl 0 rfl) ?_
  refine lv_iconst (v := 1) hx hb d_M_init_46 (by decide) ?_
  refine va_put (D := (dC, dI)) (ci := 2) (v := .int 1) (ty := .int) (C := R_M) (T := F_M) (N := 15) hx hb hts i_M t_M t_M_ok n_M hown hK hP hD hS 0 rfl rfl 9 (by decide) (hts _ k_315) (fun _ h9 => h9) rfl (by decide +kernel) rfl rfl (Nat.le_of_ble_eq_true rfl) d_M_init_47 (fun H locs hP hD hS => ?_)
  have hP : va_P (dC, dI) classes [(m0, .inr (2, [.int 0, .ref q_6, .ref q_13, .ref q_20, .ref q_27, .ref q_35, .int 0, .int 0, .int 1, .int 1, .int 0, .int 0, .int 0, .int 0, .int 0])), (q_6, .inl (cA_6, 3, .inl (fun _ => 0))), (q_13, .inl (cA_13, 3, .inl (fun _ => 0))), (q_20, .inl (cA_20, 3, .inl (fun _ => 0))), (q_27, .inl (cA_27, 3, .inl (fun _ => 0))), (q_35, .inl (cA_35, 84, .inl (fun _ => 0)))] H := hP
  have hD : va_D A [(m0, .inr (2, [.int 0, .ref q_6, .ref q_13, .ref q_20, .ref q_27, .ref q_35, .int 0, .int 0, .int 1, .int 1, .int 0, .int 0, .int 0, .int 0, .int 0])), (q_6, .inl (cA_6, 3, .inl (fun _ => 0))), (q_13, .inl (cA_13, 3, .inl (fun _ => 0))), (q_20, .inl (cA_20, 3, .inl (fun _ => 0))), (q_27, .inl (cA_27, 3, .inl (fun _ => 0))), (q_35, .inl (cA_35, 84, .inl (fun _ => 0)))] := hD
  refine lv_iconst (v := 0) hx hb d_M_init_50 (by decide) ?_
  refine lv_istore_n (lv' := [(1, .int 0), (0, .ref m0)]) hx hb d_M_init_51 rfl hl (by decide) rfl (fun ls hl => ?_)
  refine lv_iload_n hx hb d_M_init_52 rfl (lv_at hl 0 rfl) ?_
  refine lv_iconst (v := 3) hx hb d_M_init_53 (by decide) ?_
  refine lv_icmp_ge (tgt := 70) hx hb d_M_init_54 (by decide) (fun c_1 => absurd c_1 (by decide)) (fun _ => ?_)
  refine lv_aload_n hx hb d_M_init_57 rfl (lv_at hl 1 rfl) ?_
  refine va_get (D := (dC, dI)) (ci := 2) (v := .ref q_27) (C := R_M) (T := F_M) (N := 15) hx hb hts i_M hown hK hP 0 rfl rfl 4 (by decide) (hts _ k_310) (fun _ h9 => h9) rfl d_M_init_58 ?_
  refine lv_iload_n hx hb d_M_init_61 rfl (lv_at hl 0 rfl) ?_
  refine lv_iconst (v := 1) hx hb d_M_init_62 (by decide) ?_
  refine va_iast (i := 0) hx hb hK hP hD hS 4 3 rfl rfl (vp_in_nI (n := 0) (by decide) (by decide)) d_M_init_63 (fun H locs hP hD hS => ?_)
  have hP : va_P (dC, dI) classes [(m0, .inr (2, [.int 0, .ref q_6, .ref q_13, .ref q_20, .ref q_27, .ref q_35, .int 0, .int 0, .int 1, .int 1, .int 0, .int 0, .int 0, .int 0, .int 0])), (q_6, .inl (cA_6, 3, .inl (fun _ => 0))), (q_13, .inl (cA_13, 3, .inl (fun _ => 0))), (q_20, .inl (cA_20, 3, .inl (fun _ => 0))), (q_27, .inl (cA_27, 3, .inl (upd (fun _ => 0) 0 1))), (q_35, .inl (cA_35, 84, .inl (fun _ => 0)))] H := hP
  have hD : va_D A [(m0, .inr (2, [.int 0, .ref q_6, .ref q_13, .ref q_20, .ref q_27, .ref q_35, .int 0, .int 0, .int 1, .int 1, .int 0, .int 0, .int 0, .int 0, .int 0])), (q_6, .inl (cA_6, 3, .inl (fun _ => 0))), (q_13, .inl (cA_13, 3, .inl (fun _ => 0))), (q_20, .inl (cA_20, 3, .inl (fun _ => 0))), (q_27, .inl (cA_27, 3, .inl (upd (fun _ => 0) 0 1))), (q_35, .inl (cA_35, 84, .inl (fun _ => 0)))] := hD
  refine lv_iinc (v := 1) (lv' := [(1, .int 1), (0, .ref m0)]) hx hb d_M_init_64 hl (k := 0) rfl (by first | rfl | decide) (by decide) rfl (fun ls hl => ?_)
  refine lv_goto (tgt := 52) hx hb d_M_init_67 (by decide) ?_
  refine lv_iload_n hx hb d_M_init_52 rfl (lv_at hl 0 rfl) ?_
  refine lv_iconst (v := 3) hx hb d_M_init_53 (by decide) ?_
  refine lv_icmp_ge (tgt := 70) hx hb d_M_init_54 (by decide) (fun c_2 => absurd c_2 (by decide)) (fun _ => ?_)
  refine lv_aload_n hx hb d_M_init_57 rfl (lv_at hl 1 rfl) ?_
  refine va_get (D := (dC, dI)) (ci := 2) (v := .ref q_27) (C := R_M) (T := F_M) (N := 15) hx hb hts i_M hown hK hP 0 rfl rfl 4 (by decide) (hts _ k_310) (fun _ h9 => h9) rfl d_M_init_58 ?_
  refine lv_iload_n hx hb d_M_init_61 rfl (lv_at hl 0 rfl) ?_
  refine lv_iconst (v := 1) hx hb d_M_init_62 (by decide) ?_
  refine va_iast (i := 1) hx hb hK hP hD hS 4 3 rfl rfl (vp_in_nI (n := 1) (by decide) (by decide)) d_M_init_63 (fun H locs hP hD hS => ?_)
  have hP : va_P (dC, dI) classes [(m0, .inr (2, [.int 0, .ref q_6, .ref q_13, .ref q_20, .ref q_27, .ref q_35, .int 0, .int 0, .int 1, .int 1, .int 0, .int 0, .int 0, .int 0, .int 0])), (q_6, .inl (cA_6, 3, .inl (fun _ => 0))), (q_13, .inl (cA_13, 3, .inl (fun _ => 0))), (q_20, .inl (cA_20, 3, .inl (fun _ => 0))), (q_27, .inl (cA_27, 3, .inl (upd (upd (fun _ => 0) 0 1) 1 1))), (q_35, .inl (cA_35, 84, .inl (fun _ => 0)))] H := hP
  have hD : va_D A [(m0, .inr (2, [.int 0, .ref q_6, .ref q_13, .ref q_20, .ref q_27, .ref q_35, .int 0, .int 0, .int 1, .int 1, .int 0, .int 0, .int 0, .int 0, .int 0])), (q_6, .inl (cA_6, 3, .inl (fun _ => 0))), (q_13, .inl (cA_13, 3, .inl (fun _ => 0))), (q_20, .inl (cA_20, 3, .inl (fun _ => 0))), (q_27, .inl (cA_27, 3, .inl (upd (upd (fun _ => 0) 0 1) 1 1))), (q_35, .inl (cA_35, 84, .inl (fun _ => 0)))] := hD
  refine lv_iinc (v := 2) (lv' := [(1, .int 2), (0, .ref m0)]) hx hb d_M_init_64 hl (k := 0) rfl (by first | rfl | decide) (by decide) rfl (fun ls hl => ?_)
  refine lv_goto (tgt := 52) hx hb d_M_init_67 (by decide) ?_
  refine lv_iload_n hx hb d_M_init_52 rfl (lv_at hl 0 rfl) ?_
  refine lv_iconst (v := 3) hx hb d_M_init_53 (by decide) ?_
  refine lv_icmp_ge (tgt := 70) hx hb d_M_init_54 (by decide) (fun c_3 => absurd c_3 (by decide)) (fun _ => ?_)
  refine lv_aload_n hx hb d_M_init_57 rfl (lv_at hl 1 rfl) ?_
  refine va_get (D := (dC, dI)) (ci := 2) (v := .ref q_27) (C := R_M) (T := F_M) (N := 15) hx hb hts i_M hown hK hP 0 rfl rfl 4 (by decide) (hts _ k_310) (fun _ h9 => h9) rfl d_M_init_58 ?_
  refine lv_iload_n hx hb d_M_init_61 rfl (lv_at hl 0 rfl) ?_
  refine lv_iconst (v := 1) hx hb d_M_init_62 (by decide) ?_
  refine va_iast (i := 2) hx hb hK hP hD hS 4 3 rfl rfl (vp_in_nI (n := 2) (by decide) (by decide)) d_M_init_63 (fun H locs hP hD hS => ?_)
  have hP : va_P (dC, dI) classes [(m0, .inr (2, [.int 0, .ref q_6, .ref q_13, .ref q_20, .ref q_27, .ref q_35, .int 0, .int 0, .int 1, .int 1, .int 0, .int 0, .int 0, .int 0, .int 0])), (q_6, .inl (cA_6, 3, .inl (fun _ => 0))), (q_13, .inl (cA_13, 3, .inl (fun _ => 0))), (q_20, .inl (cA_20, 3, .inl (fun _ => 0))), (q_27, .inl (cA_27, 3, .inl (upd (upd (upd (fun _ => 0) 0 1) 1 1) 2 1))), (q_35, .inl (cA_35, 84, .inl (fun _ => 0)))] H := hP
  have hD : va_D A [(m0, .inr (2, [.int 0, .ref q_6, .ref q_13, .ref q_20, .ref q_27, .ref q_35, .int 0, .int 0, .int 1, .int 1, .int 0, .int 0, .int 0, .int 0, .int 0])), (q_6, .inl (cA_6, 3, .inl (fun _ => 0))), (q_13, .inl (cA_13, 3, .inl (fun _ => 0))), (q_20, .inl (cA_20, 3, .inl (fun _ => 0))), (q_27, .inl (cA_27, 3, .inl (upd (upd (upd (fun _ => 0) 0 1) 1 1) 2 1))), (q_35, .inl (cA_35, 84, .inl (fun _ => 0)))] := hD
  refine lv_iinc (v := 3) (lv' := [(1, .int 3), (0, .ref m0)]) hx hb d_M_init_64 hl (k := 0) rfl (by first | rfl | decide) (by decide) rfl (fun ls hl => ?_)
  refine lv_goto (tgt := 52) hx hb d_M_init_67 (by decide) ?_
  refine lv_iload_n hx hb d_M_init_52 rfl (lv_at hl 0 rfl) ?_
  refine lv_iconst (v := 3) hx hb d_M_init_53 (by decide) ?_
  refine lv_icmp_ge (tgt := 70) hx hb d_M_init_54 (by decide) (fun _ => ?_) (fun c_4 => absurd c_4 (by decide))
  have hP9 := hP.sub (ws' := [(m0, .inr (2, [.int 0, .ref q_6, .ref q_13, .ref q_20, .ref q_27, .ref q_35, .int 0, .int 0, .int 1, .int 1, .int 0, .int 0, .int 0, .int 0, .int 0])), (q_6, .inl (cA_6, 3, .inl (fun _ => 0))), (q_13, .inl (cA_13, 3, .inl (fun _ => 0))), (q_20, .inl (cA_20, 3, .inl (fun _ => 0))), (q_27, .inl (cA_27, 3, .inl (upd (upd (upd (fun _ => 0) 0 1) 1 1) 2 1))), (q_35, .inl (cA_35, 84, .inl (fun _ => 0)))]) [0, 1, 2, 3, 4, 5] rfl
  have hD9 := hD.sub (ws' := [(m0, .inr (2, [.int 0, .ref q_6, .ref q_13, .ref q_20, .ref q_27, .ref q_35, .int 0, .int 0, .int 1, .int 1, .int 0, .int 0, .int 0, .int 0, .int 0])), (q_6, .inl (cA_6, 3, .inl (fun _ => 0))), (q_13, .inl (cA_13, 3, .inl (fun _ => 0))), (q_20, .inl (cA_20, 3, .inl (fun _ => 0))), (q_27, .inl (cA_27, 3, .inl (upd (upd (upd (fun _ => 0) 0 1) 1 1) 2 1))), (q_35, .inl (cA_35, 84, .inl (fun _ => 0)))]) [0, 1, 2, 3, 4, 5] (by decide) rfl
  have hK9 := hK.sub (tys' := [(cA_6, .int), (cA_13, .int), (cA_20, .int), (cA_27, .int), (cA_35, .int)]) [0, 1, 2, 3, 4] rfl
  exact W.vret hx hb hr (fun u9 ht hW => ⟨⟨(), rfl, trivial, ⟨q_6, q_13, q_20, q_27, q_35, cA_6, cA_13, cA_20, cA_27, cA_35, by rw [ht]; exact hP9, va_K.moved hW.alike hK9, hD9⟩⟩, hS.F ht⟩) hS.2.2 d_M_init_70
