set_option maxHeartbeats 4000000 in
theorem er_turn {p : Program} {l : Launch} {e : Env} {s : State} {m : MethodId} {below : List Frame} {meth : Method} {c : Code} {bs L : Nat} {xs : Nat → Int32} {dC : Nat → ClassId} {dI : Nat → Nat → Nat} {i : Nat} (hC : er_K p l s m meth c bs L xs) (hG : er_G p l e s m below meth c bs dC dI 23 (i + 6) (i + 6)) : er_G p l e s m below meth c bs dC dI 628 i (i + 6) := by
  obtain ⟨hx, hb, hr, hml, hown, hts, hSc, hbl, hlocks, hN, hX, hT, hL⟩ := hC
  intro h0 h1 h2 h3 v0 v1 v2 m0 a1 a2 a3 a4 a5 ho k0 k1 k2 g1 g2 g3 g4 g5 ko X Y D Q Vm f0 f1 f2 fo a b c9 d wk cv lx ly mx my lk th cl sl hI hcl hsl H locs hK hP hD hS ls hl
  refine lv_iinc (v := nI (i + 6)) (lv' := [(4, .int (nI (i + 6))), (0, .ref bs), (1, .ref h0), (2, .ref m0), (3, .ref ho)]) hx hb d_L_law_628 hl (k := 4) rfl (nI_add i 6) (by decide) rfl (fun ls hl => ?_)
  refine lv_goto (tgt := 23) hx hb d_L_law_631 (by decide) ?_
  exact hG h0 h1 h2 h3 v0 v1 v2 m0 a1 a2 a3 a4 a5 ho k0 k1 k2 g1 g2 g3 g4 g5 ko X Y D Q Vm f0 f1 f2 fo a b c9 d wk cv lx ly mx my lk th cl sl hI hcl hsl H locs hK hP hD hS ls (lv_sub hl [1, 2, 3, 4, 0] rfl)

set_option maxHeartbeats 4000000 in
set_option maxRecDepth 100000 in
theorem er_loop {p : Program} {l : Launch} {e : Env} {s : State} {m : MethodId} {below : List Frame} {meth : Method} {c : Code} {bs L : Nat} {xs : Nat → Int32} {dC : Nat → ClassId} {dI : Nat → Nat → Nat} (hC : er_K p l s m meth c bs L xs) : ∀ n i : Nat, L < i + n → i ≤ 4000 → er_G p l e s m below meth c bs dC dI 23 i i := by
  intro n
  induction n with
  | zero => 
    intro i hn hi4
    obtain ⟨hx, hb, hr, hml, hown, hts, hSc, hbl, hlocks, hN, hX, hT, hL⟩ := hC
    have hbA : ¬ (fun q : Nat => s.heap.size ≤ q) bs := fun q => absurd hbl (Nat.not_lt.mpr q)
    intro h0 h1 h2 h3 v0 v1 v2 m0 a1 a2 a3 a4 a5 ho k0 k1 k2 g1 g2 g3 g4 g5 ko X Y D Q Vm f0 f1 f2 fo a b c9 d wk cv lx ly mx my lk th cl sl hI hcl hsl H locs hK hP hD hS ls hl
    refine lv_iload hx hb d_L_law_23 (lv_at hl 4 rfl) ?_
    refine lv_aload_n hx hb d_L_law_25 rfl (lv_at hl 0 rfl) ?_
    refine va_slen hx hb hSc hbl hbA hS d_L_law_26 ?_
    refine lv_bipush (v := 6) hx hb d_L_law_27 (by decide) ?_
    refine lv_isub hx hb d_L_law_29 ?_
    refine lv_icmp_gt (tgt := 634) hx hb d_L_law_30 (by decide) (fun c_1 => ?_) (fun c_1 => ?_)
    · refine lv_iconst (v := 1) hx hb d_L_law_634 (by decide) ?_
      refine va_forget (fun q hq => hS.2.2 q hq) ?_
      refine W.widen (k := 1052) (n := 8514) (by omega) (by omega) ?_
      exact lw_ret hx hb hr hlocks d_L_law_635
    · have hi6 : i + 6 ≤ L := by
        have c_1 : ¬ nI L - nI 6 < nI i := c_1
        rw [Int32.lt_iff_toInt_lt, pk_sub_toInt (a := L) (b := 6) (by omega) (by decide), nI_toInt (n := i) (by omega)] at c_1
        omega
      omega
  | succ n ih =>
    intro i hn hi4
    have hC0 := hC
    obtain ⟨hx, hb, hr, hml, hown, hts, hSc, hbl, hlocks, hN, hX, hT, hL⟩ := hC
    have hbA : ¬ (fun q : Nat => s.heap.size ≤ q) bs := fun q => absurd hbl (Nat.not_lt.mpr q)
    intro h0 h1 h2 h3 v0 v1 v2 m0 a1 a2 a3 a4 a5 ho k0 k1 k2 g1 g2 g3 g4 g5 ko X Y D Q Vm f0 f1 f2 fo a b c9 d wk cv lx ly mx my lk th cl sl hI hcl hsl H locs hK hP hD hS ls hl
    refine lv_iload hx hb d_L_law_23 (lv_at hl 4 rfl) ?_
    refine lv_aload_n hx hb d_L_law_25 rfl (lv_at hl 0 rfl) ?_
    refine va_slen hx hb hSc hbl hbA hS d_L_law_26 ?_
    refine lv_bipush (v := 6) hx hb d_L_law_27 (by decide) ?_
    refine lv_isub hx hb d_L_law_29 ?_
    refine lv_icmp_gt (tgt := 634) hx hb d_L_law_30 (by decide) (fun c_2 => ?_) (fun c_2 => ?_)
    · refine lv_iconst (v := 1) hx hb d_L_law_634 (by decide) ?_
      refine va_forget (fun q hq => hS.2.2 q hq) ?_
      refine W.widen (k := 1052) (n := 8514) (by omega) (by omega) ?_
      exact lw_ret hx hb hr hlocks d_L_law_635
    · have hi6 : i + 6 ≤ L := by
        have c_2 : ¬ nI L - nI 6 < nI i := c_2
        rw [Int32.lt_iff_toInt_lt, pk_sub_toInt (a := L) (b := 6) (by omega) (by decide), nI_toInt (n := i) (by omega)] at c_2
        omega
      refine lv_aload_n hx hb d_L_law_33 rfl (lv_at hl 0 rfl) ?_
      refine lv_iload hx hb d_L_law_34 (lv_at hl 4 rfl) ?_
      refine va_sld hx hb hSc hbl hbA hS (vp_in_nI (by omega) (by omega)) d_L_law_36 ?_
      refine lv_bipush (v := 15) hx hb d_L_law_37 (by decide) ?_
      refine lv_iand hx hb d_L_law_39 ?_
      obtain ⟨k, hk, ek⟩ := pk_andE (xs (nI i).toNatClampNeg) (m := 15) 4 (by decide)
      rw [ek]
      have hG := er_turn hC0 (ih (i + 6) (by omega) (by omega))
      rcases (show k = 0 ∨ k = 1 ∨ k = 2 ∨ k = 3 ∨ k = 4 ∨ k = 5 ∨ k = 6 ∨ k = 7 ∨ k = 8 ∨ k = 9 ∨ k = 10 ∨ 11 ≤ k by omega) with rfl | rfl | rfl | rfl | rfl | rfl | rfl | rfl | rfl | rfl | rfl | hk2
      · refine lv_tableIn (off := 60) (tgt := 100) hx hb d_L_law_40 (by decide) (by decide) (by decide) (by decide) ?_
        exact er_op0 hC0 hi6 hG h0 h1 h2 h3 v0 v1 v2 m0 a1 a2 a3 a4 a5 ho k0 k1 k2 g1 g2 g3 g4 g5 ko X Y D Q Vm f0 f1 f2 fo a b c9 d wk cv lx ly mx my lk th cl sl hI hcl hsl H locs hK hP hD hS ls (lv_sub hl [0, 1, 2, 3, 4] rfl)
      · refine lv_tableIn (off := 144) (tgt := 184) hx hb d_L_law_40 (by decide) (by decide) (by decide) (by decide) ?_
        exact er_op1 hC0 hi6 hG h0 h1 h2 h3 v0 v1 v2 m0 a1 a2 a3 a4 a5 ho k0 k1 k2 g1 g2 g3 g4 g5 ko X Y D Q Vm f0 f1 f2 fo a b c9 d wk cv lx ly mx my lk th cl sl hI hcl hsl H locs hK hP hD hS ls (lv_sub hl [0, 1, 2, 3, 4] rfl)
      · refine lv_tableIn (off := 204) (tgt := 244) hx hb d_L_law_40 (by decide) (by decide) (by decide) (by decide) ?_
        exact er_op2 hC0 hi6 hG h0 h1 h2 h3 v0 v1 v2 m0 a1 a2 a3 a4 a5 ho k0 k1 k2 g1 g2 g3 g4 g5 ko X Y D Q Vm f0 f1 f2 fo a b c9 d wk cv lx ly mx my lk th cl sl hI hcl hsl H locs hK hP hD hS ls (lv_sub hl [0, 1, 2, 3, 4] rfl)
      · refine lv_tableIn (off := 276) (tgt := 316) hx hb d_L_law_40 (by decide) (by decide) (by decide) (by decide) ?_
        exact er_op3 hC0 hi6 hG h0 h1 h2 h3 v0 v1 v2 m0 a1 a2 a3 a4 a5 ho k0 k1 k2 g1 g2 g3 g4 g5 ko X Y D Q Vm f0 f1 f2 fo a b c9 d wk cv lx ly mx my lk th cl sl hI hcl hsl H locs hK hP hD hS ls (lv_sub hl [0, 1, 2, 3, 4] rfl)
      · refine lv_tableIn (off := 290) (tgt := 330) hx hb d_L_law_40 (by decide) (by decide) (by decide) (by decide) ?_
        exact er_op4 hC0 hi6 hG h0 h1 h2 h3 v0 v1 v2 m0 a1 a2 a3 a4 a5 ho k0 k1 k2 g1 g2 g3 g4 g5 ko X Y D Q Vm f0 f1 f2 fo a b c9 d wk cv lx ly mx my lk th cl sl hI hcl hsl H locs hK hP hD hS ls (lv_sub hl [0, 1, 2, 3, 4] rfl)
      · refine lv_tableIn (off := 365) (tgt := 405) hx hb d_L_law_40 (by decide) (by decide) (by decide) (by decide) ?_
        exact er_op5 hC0 hi6 hG h0 h1 h2 h3 v0 v1 v2 m0 a1 a2 a3 a4 a5 ho k0 k1 k2 g1 g2 g3 g4 g5 ko X Y D Q Vm f0 f1 f2 fo a b c9 d wk cv lx ly mx my lk th cl sl hI hcl hsl H locs hK hP hD hS ls (lv_sub hl [0, 1, 2, 3, 4] rfl)
      · refine lv_tableIn (off := 378) (tgt := 418) hx hb d_L_law_40 (by decide) (by decide) (by decide) (by decide) ?_
        exact er_op6 hC0 hi6 hG h0 h1 h2 h3 v0 v1 v2 m0 a1 a2 a3 a4 a5 ho k0 k1 k2 g1 g2 g3 g4 g5 ko X Y D Q Vm f0 f1 f2 fo a b c9 d wk cv lx ly mx my lk th cl sl hI hcl hsl H locs hK hP hD hS ls (lv_sub hl [0, 1, 2, 3, 4] rfl)
      · refine lv_tableIn (off := 389) (tgt := 429) hx hb d_L_law_40 (by decide) (by decide) (by decide) (by decide) ?_
        exact er_op7 hC0 hi6 hG h0 h1 h2 h3 v0 v1 v2 m0 a1 a2 a3 a4 a5 ho k0 k1 k2 g1 g2 g3 g4 g5 ko X Y D Q Vm f0 f1 f2 fo a b c9 d wk cv lx ly mx my lk th cl sl hI hcl hsl H locs hK hP hD hS ls (lv_sub hl [0, 1, 2, 3, 4] rfl)
      · refine lv_tableIn (off := 433) (tgt := 473) hx hb d_L_law_40 (by decide) (by decide) (by decide) (by decide) ?_
        exact er_op8 hC0 hi6 hG h0 h1 h2 h3 v0 v1 v2 m0 a1 a2 a3 a4 a5 ho k0 k1 k2 g1 g2 g3 g4 g5 ko X Y D Q Vm f0 f1 f2 fo a b c9 d wk cv lx ly mx my lk th cl sl hI hcl hsl H locs hK hP hD hS ls (lv_sub hl [0, 1, 2, 3, 4] rfl)
      · refine lv_tableIn (off := 488) (tgt := 528) hx hb d_L_law_40 (by decide) (by decide) (by decide) (by decide) ?_
        exact er_op9 hC0 hi6 hG h0 h1 h2 h3 v0 v1 v2 m0 a1 a2 a3 a4 a5 ho k0 k1 k2 g1 g2 g3 g4 g5 ko X Y D Q Vm f0 f1 f2 fo a b c9 d wk cv lx ly mx my lk th cl sl hI hcl hsl H locs hK hP hD hS ls (lv_sub hl [0, 1, 2, 3, 4] rfl)
      · refine lv_tableIn (off := 532) (tgt := 572) hx hb d_L_law_40 (by decide) (by decide) (by decide) (by decide) ?_
        exact er_op10 hC0 hi6 hG h0 h1 h2 h3 v0 v1 v2 m0 a1 a2 a3 a4 a5 ho k0 k1 k2 g1 g2 g3 g4 g5 ko X Y D Q Vm f0 f1 f2 fo a b c9 d wk cv lx ly mx my lk th cl sl hI hcl hsl H locs hK hP hD hS ls (lv_sub hl [0, 1, 2, 3, 4] rfl)
      · refine lv_tableOut (tgt := 628) hx hb d_L_law_40 (Or.inr (by rw [nI_toInt (by omega)]; omega)) (by decide) ?_
        exact hG h0 h1 h2 h3 v0 v1 v2 m0 a1 a2 a3 a4 a5 ho k0 k1 k2 g1 g2 g3 g4 g5 ko X Y D Q Vm f0 f1 f2 fo a b c9 d wk cv lx ly mx my lk th cl sl hI (by omega) (by omega) H locs hK hP hD hS ls (lv_sub hl [0, 1, 2, 3, 4] rfl)
