set_option maxHeartbeats 1000000 in
set_option maxRecDepth 100000 in
theorem c_J_floorDiv (l : Launch) (dC : Nat → ClassId) (dI : Nat → Nat → Nat) (p0 p1 : Int64) (hne : ¬ p1 = 0) : Met l y_J_floorDiv w_J_floorDiv ({ frames := 0, cells := 0, slots := 0, locals := 0 }) (va_Pc [.long p0, .long p1] (PP dC dI [] [])) (vp_Sl (fun r : Int64 => r = er_fd p0 p1)) 0 0 (fun _ => False) := by
  refine va_MetF (cc := b_J_floorDiv) (maxL := 6) (ret := (some .long)) (by decide +kernel) rfl ?_
  intro p e s m args below meth c s₁ B hml hv
  obtain ⟨rfl, hN, hK, hP⟩ := hv
  have hx := B.exec
  have hb := B.bytes
  have hr := B.returns
  have hts := er_hts (atoms_spec (ws := w_J_floorDiv) B.pre)
  have hown : s.vm.findClass R_J = some m.cls := findClass_of_methodNamed B.named
  have hlocks := B.notSynchronized
  have hP : va_P (dC, dI) classes [] s.heap := hP
  have hl := lv_entry ([.long p0, .long p1]) (n := 6) (Nat.le_of_ble_eq_true rfl)
  rw [lg_entry_eq]
  generalize (lg_sl ([.long p0, .long p1]) ++ List.replicate (6 - (lg_sl ([.long p0, .long p1])).length) Slot.unset).toArray = ls at hl ⊢
  have hl : lv_has ls 6 [(0, .long p0), (2, .long p1)] := hl
  refine lv_lload_n hx hb d_J_floorDiv_0 rfl (lv_at hl 0 rfl) ?_
  refine lv_lload_n hx hb d_J_floorDiv_1 rfl (lv_at hl 1 rfl) ?_
  refine lv_ldiv hx hb d_J_floorDiv_2 hne ?_
  refine lv_lstore (lv' := [(4, .long (p0 / p1)), (0, .long p0), (2, .long p1)]) hx hb d_J_floorDiv_3 hl (by decide) rfl (fun ls hl => ?_)
  refine lv_lload_n hx hb d_J_floorDiv_5 rfl (lv_at hl 1 rfl) ?_
  refine lv_lload_n hx hb d_J_floorDiv_6 rfl (lv_at hl 2 rfl) ?_
  refine lv_lxor hx hb d_J_floorDiv_7 ?_
  refine lv_lconst (v := 0) hx hb d_J_floorDiv_8 (by decide) ?_
  refine W.lcmp hx hb d_J_floorDiv_9 ?_
  refine lv_if_ge (tgt := 27) hx hb d_J_floorDiv_10 (by decide) (fun c_1 => ?_) (fun c_1 => ?_)
  · rw [lg_cmp_ge] at c_1
    refine lv_lload hx hb d_J_floorDiv_27 (lv_at hl 0 rfl) ?_
    exact W.lret (v := p0 / p1) hx hb hr (fun u9 ht hW => ⟨_, rfl, (er_fd0 c_1), ht⟩) (fun q hq => by cases hq) d_J_floorDiv_29
  · rw [lg_cmp_ge] at c_1
    refine lv_lload hx hb d_J_floorDiv_13 (lv_at hl 0 rfl) ?_
    refine lv_lload_n hx hb d_J_floorDiv_15 rfl (lv_at hl 2 rfl) ?_
    refine lv_lmul hx hb d_J_floorDiv_16 ?_
    refine lv_lload_n hx hb d_J_floorDiv_17 rfl (lv_at hl 1 rfl) ?_
    refine W.lcmp hx hb d_J_floorDiv_18 ?_
    refine lv_if_eq (tgt := 27) hx hb d_J_floorDiv_19 (by decide) (fun c_2 => ?_) (fun c_2 => ?_)
    · rw [lg_cmp_eq] at c_2
      refine lv_lload hx hb d_J_floorDiv_27 (lv_at hl 0 rfl) ?_
      exact W.lret (v := p0 / p1) hx hb hr (fun u9 ht hW => ⟨_, rfl, (er_fd1 c_2), ht⟩) (fun q hq => by cases hq) d_J_floorDiv_29
    · rw [lg_cmp_eq] at c_2
      refine lv_lload hx hb d_J_floorDiv_22 (lv_at hl 0 rfl) ?_
      refine lv_lconst (v := 1) hx hb d_J_floorDiv_24 (by decide) ?_
      refine lv_lsub hx hb d_J_floorDiv_25 ?_
      exact W.lret (v := (p0 / p1) - 1) hx hb hr (fun u9 ht hW => ⟨_, rfl, (er_fd2 c_1 c_2), ht⟩) (fun q hq => by cases hq) d_J_floorDiv_26

set_option maxHeartbeats 1000000 in
set_option maxRecDepth 100000 in
theorem c_E_dividedDown (l : Launch) (dC : Nat → ClassId) (dI : Nat → Nat → Nat) (p0 p1 : Int64) : Met l y_E_dividedDown w_E_dividedDown ({ frames := 1, cells := 0, slots := 0, locals := 25 }) (va_Pc [.long p0, .long p1] (PP dC dI [] [])) (vp_Sl (fun r : Int64 => r = er_dd p0 p1)) 0 0 (fun _ => False) := by
  refine Met.ofW (cc := b_E_dividedDown) (maxL := 4) (ret := (some .long)) (by decide +kernel) rfl ?_
  intro p e s m args below meth c s₁ B hml hv
  obtain ⟨rfl, hN, hK, hP⟩ := hv
  have hx := B.exec
  have hb := B.bytes
  have hr := B.returns
  have hts := er_hts (atoms_spec (ws := w_E_dividedDown) B.pre)
  have hown : s.vm.findClass R_E = some m.cls := findClass_of_methodNamed B.named
  have hlocks := B.notSynchronized
  have hP : va_P (dC, dI) classes [] s.heap := hP
  have hl := lv_entry ([.long p0, .long p1]) (n := 4) (Nat.le_of_ble_eq_true rfl)
  rw [lg_entry_eq]
  generalize (lg_sl ([.long p0, .long p1]) ++ List.replicate (4 - (lg_sl ([.long p0, .long p1])).length) Slot.unset).toArray = ls at hl ⊢
  have hl : lv_has ls 4 [(0, .long p0), (2, .long p1)] := hl
  refine lv_lload_n hx hb d_E_dividedDown_0 rfl (lv_at hl 1 rfl) ?_
  refine lv_lconst (v := 0) hx hb d_E_dividedDown_1 (by decide) ?_
  refine W.lcmp hx hb d_E_dividedDown_2 ?_
  refine lv_if_le (tgt := 14) hx hb d_E_dividedDown_3 (by decide) (fun c_1 => ?_) (fun c_1 => ?_)
  · rw [lg_cmp_le] at c_1
    refine lv_lconst (v := 0) hx hb d_E_dividedDown_14 (by decide) ?_
    exact W.lret (v := 0) hx hb hr (fun u9 ht hW => ⟨_, rfl, (er_dd0 c_1), ht⟩) (fun q hq => by cases hq) d_E_dividedDown_15
  · rw [lg_cmp_le] at c_1
    refine lv_lload_n hx hb d_E_dividedDown_6 rfl (lv_at hl 0 rfl) ?_
    refine lv_lload_n hx hb d_E_dividedDown_7 rfl (lv_at hl 1 rfl) ?_
    have hPc := hP.sub (ws' := []) [] rfl
    have hKc := hK.sub (tys' := []) [] rfl
    refine vp_callSl (va_runS (As := [.long p0, .long p1]) (rest := []) ⟨hx, hb, hml, hown, hts⟩ (c_J_floorDiv l dC dI p0 p1 (er_ne0 c_1)) (va_cwS 2 hts (er_gS k_281 k_282 k_26 k_283) rfl rfl rfl (by decide +kernel) ⟨Nat.le_of_ble_eq_true rfl, Nat.le_of_ble_eq_true rfl⟩) ⟨PP.blind, PP.at hN hKc hPc⟩ rfl rfl hl.1 rfl (lv_room (Nat.le_of_ble_eq_true rfl)) d_E_dividedDown_8 ⟨Nat.zero_le _, Nat.zero_le _⟩).run (fun r_2 hr_2 => ?_)
    obtain rfl : er_fd p0 p1 = r_2 := Eq.symm hr_2
    refine lv_goto (tgt := 15) hx hb d_E_dividedDown_11 (by decide) ?_
    exact W.lret (v := er_fd p0 p1) hx hb hr (fun u9 ht hW => ⟨_, rfl, (er_dd1 c_1), ht⟩) (fun q hq => by cases hq) d_E_dividedDown_15

set_option maxHeartbeats 1000000 in
set_option maxRecDepth 100000 in
theorem c_E_shareShift (l : Launch) (dC : Nat → ClassId) (dI : Nat → Nat → Nat) (p0 : Int64) : Met l y_E_shareShift w_E_shareShift ({ frames := 0, cells := 0, slots := 0, locals := 0 }) (va_Pc [.long p0] (PP dC dI [] [])) (vp_Si (fun r : Int32 => ∃ n : Nat, r = nI n ∧ n ≤ 34 ∧ er_first p0 n)) 0 0 (fun _ => False) := by
  refine Met.ofW (cc := b_E_shareShift) (maxL := 3) (ret := (some .int)) (by decide +kernel) rfl ?_
  intro p e s m args below meth c s₁ B hml hv
  obtain ⟨rfl, hN, hK, hP⟩ := hv
  have hx := B.exec
  have hb := B.bytes
  have hr := B.returns
  have hts := er_hts (atoms_spec (ws := w_E_shareShift) B.pre)
  have hown : s.vm.findClass R_E = some m.cls := findClass_of_methodNamed B.named
  have hlocks := B.notSynchronized
  have hP : va_P (dC, dI) classes [] s.heap := hP
  have hl := lv_entry ([.long p0]) (n := 3) (Nat.le_of_ble_eq_true rfl)
  rw [lg_entry_eq]
  generalize (lg_sl ([.long p0]) ++ List.replicate (3 - (lg_sl ([.long p0])).length) Slot.unset).toArray = ls at hl ⊢
  have hl : lv_has ls 3 [(0, .long p0)] := hl
  refine lv_iconst (v := 0) hx hb d_E_shareShift_0 (by decide) ?_
  refine lv_istore_n (lv' := [(2, .int 0), (0, .long p0)]) hx hb d_E_shareShift_1 rfl hl (by decide) rfl (fun ls hl => ?_)
  obtain ⟨n, b1, b2, hl2⟩ : ∃ n : Nat, (n ≤ 34) ∧ (∀ t, t < n → ¬ er_sh p0 t < 536870912) ∧ lv_has ls 3 [(2, .int (nI n)), (0, .long p0)] := ⟨0, by omega, fun t q => absurd q (by omega), lv_sub hl [0, 1] rfl⟩
  clear hl
  have hl := hl2
  clear hl2
  induction hnn : 34 - n using Nat.strongRecOn generalizing n ls with
  | ind nn ihn =>
    refine lv_iload_n hx hb d_E_shareShift_2 rfl (lv_at hl 0 rfl) ?_
    refine lv_bipush (v := 63) hx hb d_E_shareShift_3 (by decide) ?_
    refine lv_icmp_ge (tgt := 24) hx hb d_E_shareShift_5 (by decide) (fun c_1 => ?_) (fun c_1 => ?_)
    · exact absurd (er_le (a := 63) c_1 (by omega) (by omega)) (by omega)
    · refine lv_lload_n hx hb d_E_shareShift_8 rfl (lv_at hl 1 rfl) ?_
      refine lv_iload_n hx hb d_E_shareShift_9 rfl (lv_at hl 0 rfl) ?_
      refine lv_lshr (v := p0 >>> ((nI n).toInt64 &&& 63)) hx hb d_E_shareShift_10 rfl ?_
      refine lv_ldc2 (v := 536870912) hx hb hown (hts (.constantLong R_E 161 536870912) (by decide +kernel)) d_E_shareShift_11 ?_
      refine W.lcmp hx hb d_E_shareShift_14 ?_
      refine lv_if_lt (tgt := 24) hx hb d_E_shareShift_15 (by decide) (fun c_2 => ?_) (fun c_2 => ?_)
      · rw [lg_cmp_lt] at c_2
        have c_2 : er_sh p0 n < 536870912 := c_2
        refine lv_iload_n hx hb d_E_shareShift_24 rfl (lv_at hl 0 rfl) ?_
        exact W.iret (v := nI n) hx hb hr (fun u9 ht hW => ⟨_, rfl, ⟨n, rfl, b1, c_2, b2⟩, ht⟩) (fun q hq => by cases hq) d_E_shareShift_25
      · rw [lg_cmp_lt] at c_2
        have c_2 : ¬ er_sh p0 n < 536870912 := c_2
        have q7 := er_sh_step b1 c_2
        refine lv_iinc (v := (nI n) + 1) (lv' := [(2, .int ((nI n) + 1)), (0, .long p0)]) hx hb d_E_shareShift_18 hl (k := 0) rfl (by first | rfl | decide) (by decide) rfl (fun ls hl => ?_)
        refine lv_goto (tgt := 2) hx hb d_E_shareShift_21 (by decide) ?_
        exact ihn _ (by omega) (ls := ls) (n := n + 1) (b1 := er_sh_step b1 c_2) (b2 := fun t q => by rcases Nat.lt_or_ge t n with h | h; exact b2 t h; rw [show t = n by omega]; exact c_2) (hl := by have hl := lv_sub hl [0, 1] rfl; rw [nI_1] at hl; exact hl) (hnn := rfl)
