set_option maxHeartbeats 4000000 in
set_option maxRecDepth 100000 in
theorem er_op2 {p : Program} {l : Launch} {e : Env} {s : State} {m : MethodId} {below : List Frame} {meth : Method} {c : Code} {bs L : Nat} {xs : Nat → Int32} {dC : Nat → ClassId} {dI : Nat → Nat → Nat} {i : Nat} (hC : er_K p l s m meth c bs L xs) (hi : i + 6 ≤ L) (hG : er_G p l e s m below meth c bs dC dI 628 i (i + 6)) : er_G p l e s m below meth c bs dC dI 244 i i := by
  obtain ⟨hx, hb, hr, hml, hown, hts, hSc, hbl, hlocks, hN, hX, hT, hL⟩ := hC
  have hbA : ¬ (fun q : Nat => s.heap.size ≤ q) bs := fun q => absurd hbl (Nat.not_lt.mpr q)
  have hA : ∀ q : Nat, s.heap.size ≤ q → (fun q : Nat => s.heap.size ≤ q) q := fun _ h => h
  intro h0 h1 h2 h3 v0 v1 v2 m0 a1 a2 a3 a4 a5 ho k0 k1 k2 g1 g2 g3 g4 g5 ko X Y D Q Vm f0 f1 f2 fo a b c9 d wk cv lx ly mx my lk th cl sl hI hcl hsl H locs hK hP hD hS ls hl
  generalize hp1 : xs (i + 1) = p0
  generalize hp2 : xs (i + 2) = p1
  generalize hp3 : xs (i + 3) = p2
  generalize hp4 : xs (i + 4) = p3
  cases hv : (er_win p0 0 1023 && (er_win p1 0 1023 && (er_win p2 1 64 && er_win p3 1 64))) with
  | false =>
    have hP : va_P (dC, dI) classes [(h0, .inr (1, [.ref h1, .ref h2, .ref h3, .long (er_ar X Y), .int (nI a), .int (nI b), .int (nI c9), .int (nI d), .int (er_b wk), .int (er_b (wk && cv)), .int lx, .int ly])), (h1, .inr (0, [.int (X 0), .int (Y 0), .int (D 0), .int (Q 0), .ref v0, .int (er_ex X Y 0), .int (er_ey X Y 0), .int (er_ea X Y 0), .int (er_ed X Y 0), .int (er_lw (er_ea X Y 0) (er_ed X Y 0))])), (h2, .inr (0, [.int (X 1), .int (Y 1), .int (D 1), .int (Q 1), .ref v1, .int (er_ex X Y 1), .int (er_ey X Y 1), .int (er_ea X Y 1), .int (er_ed X Y 1), .int (er_lw (er_ea X Y 1) (er_ed X Y 1))])), (h3, .inr (0, [.int (X 2), .int (Y 2), .int (D 2), .int (Q 2), .ref v2, .int (er_ex X Y 2), .int (er_ey X Y 2), .int (er_ea X Y 2), .int (er_ed X Y 2), .int (er_lw (er_ea X Y 2) (er_ed X Y 2))])), (v0, .inl (k0, 28, .inl f0)), (v1, .inl (k1, 28, .inl f1)), (v2, .inl (k2, 28, .inl f2)), (m0, .inr (2, [.int th, .ref a1, .ref a2, .ref a3, .ref a4, .ref a5, .int (nI a), .int (nI b), .int (nI c9), .int (nI d), .int (er_b wk), .int lk, .int (er_b cv), .int mx, .int my])), (a1, .inl (g1, 3, .inl X)), (a2, .inl (g2, 3, .inl Y)), (a3, .inl (g3, 3, .inl D)), (a4, .inl (g4, 3, .inl Q)), (a5, .inl (g5, 84, .inl Vm)), (ho, .inl (ko, 1, .inr (.inl fo)))] H := hP
    have hD : va_D (fun q : Nat => s.heap.size ≤ q) [(h0, .inr (1, [.ref h1, .ref h2, .ref h3, .long (er_ar X Y), .int (nI a), .int (nI b), .int (nI c9), .int (nI d), .int (er_b wk), .int (er_b (wk && cv)), .int lx, .int ly])), (h1, .inr (0, [.int (X 0), .int (Y 0), .int (D 0), .int (Q 0), .ref v0, .int (er_ex X Y 0), .int (er_ey X Y 0), .int (er_ea X Y 0), .int (er_ed X Y 0), .int (er_lw (er_ea X Y 0) (er_ed X Y 0))])), (h2, .inr (0, [.int (X 1), .int (Y 1), .int (D 1), .int (Q 1), .ref v1, .int (er_ex X Y 1), .int (er_ey X Y 1), .int (er_ea X Y 1), .int (er_ed X Y 1), .int (er_lw (er_ea X Y 1) (er_ed X Y 1))])), (h3, .inr (0, [.int (X 2), .int (Y 2), .int (D 2), .int (Q 2), .ref v2, .int (er_ex X Y 2), .int (er_ey X Y 2), .int (er_ea X Y 2), .int (er_ed X Y 2), .int (er_lw (er_ea X Y 2) (er_ed X Y 2))])), (v0, .inl (k0, 28, .inl f0)), (v1, .inl (k1, 28, .inl f1)), (v2, .inl (k2, 28, .inl f2)), (m0, .inr (2, [.int th, .ref a1, .ref a2, .ref a3, .ref a4, .ref a5, .int (nI a), .int (nI b), .int (nI c9), .int (nI d), .int (er_b wk), .int lk, .int (er_b cv), .int mx, .int my])), (a1, .inl (g1, 3, .inl X)), (a2, .inl (g2, 3, .inl Y)), (a3, .inl (g3, 3, .inl D)), (a4, .inl (g4, 3, .inl Q)), (a5, .inl (g5, 84, .inl Vm)), (ho, .inl (ko, 1, .inr (.inl fo)))] := hD
    refine lv_aload_n hx hb d_L_law_244 rfl (lv_at hl 1 rfl) ?_
    refine lv_aload_n hx hb d_L_law_245 rfl (lv_at hl 0 rfl) ?_
    refine lv_iload hx hb d_L_law_246 (lv_at hl 4 rfl) ?_
    refine lv_iconst (v := 1) hx hb d_L_law_248 (by decide) ?_
    refine lv_iadd hx hb d_L_law_249 ?_
    refine va_sld hx hb hSc hbl hbA hS (er_slot (xs := xs) (k := 1) rfl (by omega) hL).1 d_L_law_250 ?_
    refine lv_topi (x := xs ((nI i) + 1).toNatClampNeg) (fun y9 e9 => ?_)
    obtain rfl : p0 = y9 := (e9.trans ((er_slot (xs := xs) (i := i) (k := 1) (q := 1) rfl (by omega) hL).2.trans hp1)).symm
    refine lv_aload_n hx hb d_L_law_251 rfl (lv_at hl 0 rfl) ?_
    refine lv_iload hx hb d_L_law_252 (lv_at hl 4 rfl) ?_
    refine lv_iconst (v := 2) hx hb d_L_law_254 (by decide) ?_
    refine lv_iadd hx hb d_L_law_255 ?_
    refine va_sld hx hb hSc hbl hbA hS (er_slot (xs := xs) (k := 2) rfl (by omega) hL).1 d_L_law_256 ?_
    refine lv_topi (x := xs ((nI i) + 2).toNatClampNeg) (fun y9 e9 => ?_)
    obtain rfl : p1 = y9 := (e9.trans ((er_slot (xs := xs) (i := i) (k := 2) (q := 2) rfl (by omega) hL).2.trans hp2)).symm
    refine lv_aload_n hx hb d_L_law_257 rfl (lv_at hl 0 rfl) ?_
    refine lv_iload hx hb d_L_law_258 (lv_at hl 4 rfl) ?_
    refine lv_iconst (v := 3) hx hb d_L_law_260 (by decide) ?_
    refine lv_iadd hx hb d_L_law_261 ?_
    refine va_sld hx hb hSc hbl hbA hS (er_slot (xs := xs) (k := 3) rfl (by omega) hL).1 d_L_law_262 ?_
    refine lv_topi (x := xs ((nI i) + 3).toNatClampNeg) (fun y9 e9 => ?_)
    obtain rfl : p2 = y9 := (e9.trans ((er_slot (xs := xs) (i := i) (k := 3) (q := 3) rfl (by omega) hL).2.trans hp3)).symm
    refine lv_aload_n hx hb d_L_law_263 rfl (lv_at hl 0 rfl) ?_
    refine lv_iload hx hb d_L_law_264 (lv_at hl 4 rfl) ?_
    refine lv_iconst (v := 4) hx hb d_L_law_266 (by decide) ?_
    refine lv_iadd hx hb d_L_law_267 ?_
    refine va_sld hx hb hSc hbl hbA hS (er_slot (xs := xs) (k := 4) rfl (by omega) hL).1 d_L_law_268 ?_
    refine lv_topi (x := xs ((nI i) + 4).toNatClampNeg) (fun y9 e9 => ?_)
    obtain rfl : p3 = y9 := (e9.trans ((er_slot (xs := xs) (i := i) (k := 4) (q := 4) rfl (by omega) hL).2.trans hp4)).symm
    have hPc := hP.sub (ws' := [(h0, .inr (1, [.ref h1, .ref h2, .ref h3, .long (er_ar X Y), .int (nI a), .int (nI b), .int (nI c9), .int (nI d), .int (er_b wk), .int (er_b (wk && cv)), .int lx, .int ly]))]) [0] rfl
    have hDc := hD.sub (ws' := [(h0, .inr (1, [.ref h1, .ref h2, .ref h3, .long (er_ar X Y), .int (nI a), .int (nI b), .int (nI c9), .int (nI d), .int (er_b wk), .int (er_b (wk && cv)), .int lx, .int ly]))]) [0] (by decide) rfl
    have hKc := hK.sub (tys' := []) [] rfl
    have hFc := va_free (wc := [(h0, .inr (1, [.ref h1, .ref h2, .ref h3, .long (er_ar X Y), .int (nI a), .int (nI b), .int (nI c9), .int (nI d), .int (er_b wk), .int (er_b (wk && cv)), .int lx, .int ly]))]) hD hS hA [0] rfl
    refine va_calli (er_runSW (As := [.ref h0, .int p0, .int p1, .int p2, .int p3]) (rest := []) ⟨hx, hb, hml, hown, hts⟩ (c_L_windowX l dC dI h0 h1 h2 h3 (er_ar X Y) (nI a) (nI b) (nI c9) (nI d) (er_b wk) (er_b (wk && cv)) lx ly p0 p1 p2 p3 hv hT H.size) (er_gSW k_221 k_222 k_17 k_223) rfl rfl rfl (n := 5) (by decide +kernel) ⟨Nat.le_of_ble_eq_true rfl, Nat.le_of_ble_eq_true rfl⟩ ⟨PX.blind, PX.at hN hKc hPc hDc hX hS⟩ rfl hl.1 rfl (Nat.le_of_ble_eq_true rfl) d_L_law_269 ⟨by show _ ≤ 1052; omega, by show _ ≤ 8514; omega⟩) hS (fun q _ h => hFc q h) hFc (fun r_1 u t H1 locs ht hvm hw hB hz1 hk1 hS => ?_)
    obtain ⟨hP1, hK1, hD1⟩ := hB
    rw [ht] at hP1
    have hK1 := va_K.moved hvm.symm hK1
    obtain ⟨hP, hD⟩ := va_join (wr := [(h1, .inr (0, [.int (X 0), .int (Y 0), .int (D 0), .int (Q 0), .ref v0, .int (er_ex X Y 0), .int (er_ey X Y 0), .int (er_ea X Y 0), .int (er_ed X Y 0), .int (er_lw (er_ea X Y 0) (er_ed X Y 0))])), (h2, .inr (0, [.int (X 1), .int (Y 1), .int (D 1), .int (Q 1), .ref v1, .int (er_ex X Y 1), .int (er_ey X Y 1), .int (er_ea X Y 1), .int (er_ed X Y 1), .int (er_lw (er_ea X Y 1) (er_ed X Y 1))])), (h3, .inr (0, [.int (X 2), .int (Y 2), .int (D 2), .int (Q 2), .ref v2, .int (er_ex X Y 2), .int (er_ey X Y 2), .int (er_ea X Y 2), .int (er_ed X Y 2), .int (er_lw (er_ea X Y 2) (er_ed X Y 2))])), (v0, .inl (k0, 28, .inl f0)), (v1, .inl (k1, 28, .inl f1)), (v2, .inl (k2, 28, .inl f2)), (m0, .inr (2, [.int th, .ref a1, .ref a2, .ref a3, .ref a4, .ref a5, .int (nI a), .int (nI b), .int (nI c9), .int (nI d), .int (er_b wk), .int lk, .int (er_b cv), .int mx, .int my])), (a1, .inl (g1, 3, .inl X)), (a2, .inl (g2, 3, .inl Y)), (a3, .inl (g3, 3, .inl D)), (a4, .inl (g4, 3, .inl Q)), (a5, .inl (g5, 84, .inl Vm)), (ho, .inl (ko, 1, .inr (.inl fo)))]) (w1 := [(h0, .inr (1, [.ref h1, .ref h2, .ref h3, .long (er_ar X Y), .int (nI a), .int (nI b), .int (nI c9), .int (nI d), .int (er_b wk), .int (er_b (wk && cv)), .int lx, .int ly]))]) hP hD [0] [1, 2, 3, 4, 5, 6, 7, 8, 9, 10, 11, 12, 13] rfl rfl (by decide) (by decide) hk1 hFc hP1 hD1
    have hK := (hK.sub (tys' := [(k0, .int), (k1, .int), (k2, .int), (g1, .int), (g2, .int), (g3, .int), (g4, .int), (g5, .int), (ko, .long)]) [0, 1, 2, 3, 4, 5, 6, 7, 8] rfl).app hK1
    generalize H1 = H at hP hS ⊢
    have hP : va_P (dC, dI) classes [(h1, .inr (0, [.int (X 0), .int (Y 0), .int (D 0), .int (Q 0), .ref v0, .int (er_ex X Y 0), .int (er_ey X Y 0), .int (er_ea X Y 0), .int (er_ed X Y 0), .int (er_lw (er_ea X Y 0) (er_ed X Y 0))])), (h2, .inr (0, [.int (X 1), .int (Y 1), .int (D 1), .int (Q 1), .ref v1, .int (er_ex X Y 1), .int (er_ey X Y 1), .int (er_ea X Y 1), .int (er_ed X Y 1), .int (er_lw (er_ea X Y 1) (er_ed X Y 1))])), (h3, .inr (0, [.int (X 2), .int (Y 2), .int (D 2), .int (Q 2), .ref v2, .int (er_ex X Y 2), .int (er_ey X Y 2), .int (er_ea X Y 2), .int (er_ed X Y 2), .int (er_lw (er_ea X Y 2) (er_ed X Y 2))])), (v0, .inl (k0, 28, .inl f0)), (v1, .inl (k1, 28, .inl f1)), (v2, .inl (k2, 28, .inl f2)), (m0, .inr (2, [.int th, .ref a1, .ref a2, .ref a3, .ref a4, .ref a5, .int (nI a), .int (nI b), .int (nI c9), .int (nI d), .int (er_b wk), .int lk, .int (er_b cv), .int mx, .int my])), (a1, .inl (g1, 3, .inl X)), (a2, .inl (g2, 3, .inl Y)), (a3, .inl (g3, 3, .inl D)), (a4, .inl (g4, 3, .inl Q)), (a5, .inl (g5, 84, .inl Vm)), (ho, .inl (ko, 1, .inr (.inl fo))), (h0, .inr (1, [.ref h1, .ref h2, .ref h3, .long (er_ar X Y), .int (nI a), .int (nI b), .int (nI c9), .int (nI d), .int (er_b wk), .int (er_b (wk && cv)), .int lx, .int ly]))] H := hP
    have hD : va_D (fun q : Nat => s.heap.size ≤ q) [(h1, .inr (0, [.int (X 0), .int (Y 0), .int (D 0), .int (Q 0), .ref v0, .int (er_ex X Y 0), .int (er_ey X Y 0), .int (er_ea X Y 0), .int (er_ed X Y 0), .int (er_lw (er_ea X Y 0) (er_ed X Y 0))])), (h2, .inr (0, [.int (X 1), .int (Y 1), .int (D 1), .int (Q 1), .ref v1, .int (er_ex X Y 1), .int (er_ey X Y 1), .int (er_ea X Y 1), .int (er_ed X Y 1), .int (er_lw (er_ea X Y 1) (er_ed X Y 1))])), (h3, .inr (0, [.int (X 2), .int (Y 2), .int (D 2), .int (Q 2), .ref v2, .int (er_ex X Y 2), .int (er_ey X Y 2), .int (er_ea X Y 2), .int (er_ed X Y 2), .int (er_lw (er_ea X Y 2) (er_ed X Y 2))])), (v0, .inl (k0, 28, .inl f0)), (v1, .inl (k1, 28, .inl f1)), (v2, .inl (k2, 28, .inl f2)), (m0, .inr (2, [.int th, .ref a1, .ref a2, .ref a3, .ref a4, .ref a5, .int (nI a), .int (nI b), .int (nI c9), .int (nI d), .int (er_b wk), .int lk, .int (er_b cv), .int mx, .int my])), (a1, .inl (g1, 3, .inl X)), (a2, .inl (g2, 3, .inl Y)), (a3, .inl (g3, 3, .inl D)), (a4, .inl (g4, 3, .inl Q)), (a5, .inl (g5, 84, .inl Vm)), (ho, .inl (ko, 1, .inr (.inl fo))), (h0, .inr (1, [.ref h1, .ref h2, .ref h3, .long (er_ar X Y), .int (nI a), .int (nI b), .int (nI c9), .int (nI d), .int (er_b wk), .int (er_b (wk && cv)), .int lx, .int ly]))] := hD
    have hK : va_K (dC, dI) classes [(k0, .int), (k1, .int), (k2, .int), (g1, .int), (g2, .int), (g3, .int), (g4, .int), (g5, .int), (ko, .long)] s := hK
    obtain rfl : 1 = r_1 := Eq.symm hw
    refine lv_istore (lv' := [(5, .int 1), (0, .ref bs), (1, .ref h0), (2, .ref m0), (3, .ref ho), (4, .int (nI i))]) hx hb d_L_law_272 hl (by decide) rfl (fun ls hl => ?_)
    refine lv_aload_n hx hb d_L_law_274 rfl (lv_at hl 3 rfl) ?_
    refine lv_aload_n hx hb d_L_law_275 rfl (lv_at hl 1 rfl) ?_
    refine lv_iload hx hb d_L_law_276 (lv_at hl 5 rfl) ?_
    refine lv_iconst (v := 1) hx hb d_L_law_278 (by decide) ?_
    refine lv_iadd hx hb d_L_law_279 ?_
    refine va_sld hx hb hSc hbl hbA hS (er_slot (xs := xs) (k := 1) rfl (by omega) hL).1 d_L_law_280 ?_
    refine lv_topi (x := xs ((nI i) + 1).toNatClampNeg) (fun y9 e9 => ?_)
    obtain rfl : p0 = y9 := (e9.trans ((er_slot (xs := xs) (i := i) (k := 1) (q := 1) rfl (by omega) hL).2.trans hp1)).symm
    refine lv_aload_n hx hb d_L_law_281 rfl (lv_at hl 1 rfl) ?_
    refine lv_iload hx hb d_L_law_282 (lv_at hl 5 rfl) ?_
    refine lv_iconst (v := 2) hx hb d_L_law_284 (by decide) ?_
    refine lv_iadd hx hb d_L_law_285 ?_
    refine va_sld hx hb hSc hbl hbA hS (er_slot (xs := xs) (k := 2) rfl (by omega) hL).1 d_L_law_286 ?_
    refine lv_topi (x := xs ((nI i) + 2).toNatClampNeg) (fun y9 e9 => ?_)
    obtain rfl : p1 = y9 := (e9.trans ((er_slot (xs := xs) (i := i) (k := 2) (q := 2) rfl (by omega) hL).2.trans hp2)).symm
    refine lv_aload_n hx hb d_L_law_287 rfl (lv_at hl 1 rfl) ?_
    refine lv_iload hx hb d_L_law_288 (lv_at hl 5 rfl) ?_
    refine lv_iconst (v := 3) hx hb d_L_law_290 (by decide) ?_
    refine lv_iadd hx hb d_L_law_291 ?_
    refine va_sld hx hb hSc hbl hbA hS (er_slot (xs := xs) (k := 3) rfl (by omega) hL).1 d_L_law_292 ?_
    refine lv_topi (x := xs ((nI i) + 3).toNatClampNeg) (fun y9 e9 => ?_)
    obtain rfl : p2 = y9 := (e9.trans ((er_slot (xs := xs) (i := i) (k := 3) (q := 3) rfl (by omega) hL).2.trans hp3)).symm
    refine lv_aload_n hx hb d_L_law_293 rfl (lv_at hl 1 rfl) ?_
    refine lv_iload hx hb d_L_law_294 (lv_at hl 5 rfl) ?_
    refine lv_iconst (v := 4) hx hb d_L_law_296 (by decide) ?_
    refine lv_iadd hx hb d_L_law_297 ?_
    refine va_sld hx hb hSc hbl hbA hS (er_slot (xs := xs) (k := 4) rfl (by omega) hL).1 d_L_law_298 ?_
    refine lv_topi (x := xs ((nI i) + 4).toNatClampNeg) (fun y9 e9 => ?_)
    obtain rfl : p3 = y9 := (e9.trans ((er_slot (xs := xs) (i := i) (k := 4) (q := 4) rfl (by omega) hL).2.trans hp4)).symm
    have hPc := hP.sub (ws' := [(m0, .inr (2, [.int th, .ref a1, .ref a2, .ref a3, .ref a4, .ref a5, .int (nI a), .int (nI b), .int (nI c9), .int (nI d), .int (er_b wk), .int lk, .int (er_b cv), .int mx, .int my]))]) [6] rfl
    have hDc := hD.sub (ws' := [(m0, .inr (2, [.int th, .ref a1, .ref a2, .ref a3, .ref a4, .ref a5, .int (nI a), .int (nI b), .int (nI c9), .int (nI d), .int (er_b wk), .int lk, .int (er_b cv), .int mx, .int my]))]) [6] (by decide) rfl
    have hKc := hK.sub (tys' := []) [] rfl
    have hFc := va_free (wc := [(m0, .inr (2, [.int th, .ref a1, .ref a2, .ref a3, .ref a4, .ref a5, .int (nI a), .int (nI b), .int (nI c9), .int (nI d), .int (er_b wk), .int lk, .int (er_b cv), .int mx, .int my]))]) hD hS hA [6] rfl
    refine va_callv (va_runV (As := [.int p0, .int p1, .int p2, .int p3]) (rest := []) ⟨hx, hb, hml, hown, hts⟩ (c_M_windowX l dC dI m0 a1 a2 a3 a4 a5 th (nI a) (nI b) (nI c9) (nI d) (er_b wk) lk (er_b cv) mx my p0 p1 p2 p3 hv H.size) (cwV 4 hts (er_gV k_372 k_373 k_374 k_20 k_375) rfl rfl rfl (by decide +kernel) ⟨Nat.le_of_ble_eq_true rfl, Nat.le_of_ble_eq_true rfl⟩) ⟨PI.blind, va_recv hKc hPc (ci := 2) (q0 := 0) rfl rfl, PI.at hN hKc hPc hDc⟩ rfl rfl hl.1 rfl (lv_room (Nat.le_of_ble_eq_true rfl)) d_L_law_299 ⟨by show _ ≤ 1052; omega, by show _ ≤ 8514; omega⟩) hS (fun q _ h => hFc q h) hFc (fun u t H1 locs ht hvm hw hB hz1 hk1 hS => ?_)
    obtain ⟨hP1, hK1, hD1⟩ := hB
    rw [ht] at hP1
    have hK1 := va_K.moved hvm.symm hK1
    obtain ⟨hP, hD⟩ := va_join (wr := [(h1, .inr (0, [.int (X 0), .int (Y 0), .int (D 0), .int (Q 0), .ref v0, .int (er_ex X Y 0), .int (er_ey X Y 0), .int (er_ea X Y 0), .int (er_ed X Y 0), .int (er_lw (er_ea X Y 0) (er_ed X Y 0))])), (h2, .inr (0, [.int (X 1), .int (Y 1), .int (D 1), .int (Q 1), .ref v1, .int (er_ex X Y 1), .int (er_ey X Y 1), .int (er_ea X Y 1), .int (er_ed X Y 1), .int (er_lw (er_ea X Y 1) (er_ed X Y 1))])), (h3, .inr (0, [.int (X 2), .int (Y 2), .int (D 2), .int (Q 2), .ref v2, .int (er_ex X Y 2), .int (er_ey X Y 2), .int (er_ea X Y 2), .int (er_ed X Y 2), .int (er_lw (er_ea X Y 2) (er_ed X Y 2))])), (v0, .inl (k0, 28, .inl f0)), (v1, .inl (k1, 28, .inl f1)), (v2, .inl (k2, 28, .inl f2)), (a1, .inl (g1, 3, .inl X)), (a2, .inl (g2, 3, .inl Y)), (a3, .inl (g3, 3, .inl D)), (a4, .inl (g4, 3, .inl Q)), (a5, .inl (g5, 84, .inl Vm)), (ho, .inl (ko, 1, .inr (.inl fo))), (h0, .inr (1, [.ref h1, .ref h2, .ref h3, .long (er_ar X Y), .int (nI a), .int (nI b), .int (nI c9), .int (nI d), .int (er_b wk), .int (er_b (wk && cv)), .int lx, .int ly]))]) (w1 := [(m0, .inr (2, [.int (er_th true false), .ref a1, .ref a2, .ref a3, .ref a4, .ref a5, .int (nI a), .int (nI b), .int (nI c9), .int (nI d), .int (er_b wk), .int lk, .int (er_b cv), .int mx, .int my]))]) hP hD [6] [0, 1, 2, 3, 4, 5, 7, 8, 9, 10, 11, 12, 13] rfl rfl (by decide) (by decide) hk1 hFc hP1 hD1
    have hK := (hK.sub (tys' := [(k0, .int), (k1, .int), (k2, .int), (g1, .int), (g2, .int), (g3, .int), (g4, .int), (g5, .int), (ko, .long)]) [0, 1, 2, 3, 4, 5, 6, 7, 8] rfl).app hK1
    generalize H1 = H at hP hS ⊢
    have hP : va_P (dC, dI) classes [(h1, .inr (0, [.int (X 0), .int (Y 0), .int (D 0), .int (Q 0), .ref v0, .int (er_ex X Y 0), .int (er_ey X Y 0), .int (er_ea X Y 0), .int (er_ed X Y 0), .int (er_lw (er_ea X Y 0) (er_ed X Y 0))])), (h2, .inr (0, [.int (X 1), .int (Y 1), .int (D 1), .int (Q 1), .ref v1, .int (er_ex X Y 1), .int (er_ey X Y 1), .int (er_ea X Y 1), .int (er_ed X Y 1), .int (er_lw (er_ea X Y 1) (er_ed X Y 1))])), (h3, .inr (0, [.int (X 2), .int (Y 2), .int (D 2), .int (Q 2), .ref v2, .int (er_ex X Y 2), .int (er_ey X Y 2), .int (er_ea X Y 2), .int (er_ed X Y 2), .int (er_lw (er_ea X Y 2) (er_ed X Y 2))])), (v0, .inl (k0, 28, .inl f0)), (v1, .inl (k1, 28, .inl f1)), (v2, .inl (k2, 28, .inl f2)), (a1, .inl (g1, 3, .inl X)), (a2, .inl (g2, 3, .inl Y)), (a3, .inl (g3, 3, .inl D)), (a4, .inl (g4, 3, .inl Q)), (a5, .inl (g5, 84, .inl Vm)), (ho, .inl (ko, 1, .inr (.inl fo))), (h0, .inr (1, [.ref h1, .ref h2, .ref h3, .long (er_ar X Y), .int (nI a), .int (nI b), .int (nI c9), .int (nI d), .int (er_b wk), .int (er_b (wk && cv)), .int lx, .int ly])), (m0, .inr (2, [.int (er_th true false), .ref a1, .ref a2, .ref a3, .ref a4, .ref a5, .int (nI a), .int (nI b), .int (nI c9), .int (nI d), .int (er_b wk), .int lk, .int (er_b cv), .int mx, .int my]))] H := hP
    have hD : va_D (fun q : Nat => s.heap.size ≤ q) [(h1, .inr (0, [.int (X 0), .int (Y 0), .int (D 0), .int (Q 0), .ref v0, .int (er_ex X Y 0), .int (er_ey X Y 0), .int (er_ea X Y 0), .int (er_ed X Y 0), .int (er_lw (er_ea X Y 0) (er_ed X Y 0))])), (h2, .inr (0, [.int (X 1), .int (Y 1), .int (D 1), .int (Q 1), .ref v1, .int (er_ex X Y 1), .int (er_ey X Y 1), .int (er_ea X Y 1), .int (er_ed X Y 1), .int (er_lw (er_ea X Y 1) (er_ed X Y 1))])), (h3, .inr (0, [.int (X 2), .int (Y 2), .int (D 2), .int (Q 2), .ref v2, .int (er_ex X Y 2), .int (er_ey X Y 2), .int (er_ea X Y 2), .int (er_ed X Y 2), .int (er_lw (er_ea X Y 2) (er_ed X Y 2))])), (v0, .inl (k0, 28, .inl f0)), (v1, .inl (k1, 28, .inl f1)), (v2, .inl (k2, 28, .inl f2)), (a1, .inl (g1, 3, .inl X)), (a2, .inl (g2, 3, .inl Y)), (a3, .inl (g3, 3, .inl D)), (a4, .inl (g4, 3, .inl Q)), (a5, .inl (g5, 84, .inl Vm)), (ho, .inl (ko, 1, .inr (.inl fo))), (h0, .inr (1, [.ref h1, .ref h2, .ref h3, .long (er_ar X Y), .int (nI a), .int (nI b), .int (nI c9), .int (nI d), .int (er_b wk), .int (er_b (wk && cv)), .int lx, .int ly])), (m0, .inr (2, [.int (er_th true false), .ref a1, .ref a2, .ref a3, .ref a4, .ref a5, .int (nI a), .int (nI b), .int (nI c9), .int (nI d), .int (er_b wk), .int lk, .int (er_b cv), .int mx, .int my]))] := hD
    have hK : va_K (dC, dI) classes [(k0, .int), (k1, .int), (k2, .int), (g1, .int), (g2, .int), (g3, .int), (g4, .int), (g5, .int), (ko, .long)] s := hK
    refine lv_aload_n hx hb d_L_law_302 rfl (lv_at hl 3 rfl) ?_
    have hPc := hP.sub (ws' := [(m0, .inr (2, [.int (er_th true false), .ref a1, .ref a2, .ref a3, .ref a4, .ref a5, .int (nI a), .int (nI b), .int (nI c9), .int (nI d), .int (er_b wk), .int lk, .int (er_b cv), .int mx, .int my]))]) [13] rfl
    have hKc := hK.sub (tys' := []) [] rfl
    refine vp_callSi (va_runV (As := []) (rest := []) ⟨hx, hb, hml, hown, hts⟩ (c_M_thrown l dC dI m0 a1 a2 a3 a4 a5 (er_th true false) (nI a) (nI b) (nI c9) (nI d) (er_b wk) lk (er_b cv) mx my) (cwV 0 hts (er_gV k_352 k_353 k_354 k_20 k_355) rfl rfl rfl (by decide +kernel) ⟨Nat.le_of_ble_eq_true rfl, Nat.le_of_ble_eq_true rfl⟩) ⟨PP.blind, va_recv hKc hPc (ci := 2) (q0 := 0) rfl rfl, PP.at hN hKc hPc⟩ rfl rfl hl.1 rfl (lv_room (Nat.le_of_ble_eq_true rfl)) d_L_law_303 ⟨by show _ ≤ 1052; omega, by show _ ≤ 8514; omega⟩).run (fun r_3 hr_3 => ?_)
    obtain rfl : er_th true false = r_3 := Eq.symm hr_3
    refine lv_iload hx hb d_L_law_306 (lv_at hl 0 rfl) ?_
    refine lv_icmp_eq (tgt := 313) hx hb d_L_law_308 (by decide) (fun _ => ?_) (fun c_4 => absurd c_4 (by decide))
    refine lv_goto (tgt := 628) hx hb d_L_law_313 (by decide) ?_
    exact hG h0 h1 h2 h3 v0 v1 v2 m0 a1 a2 a3 a4 a5 ho k0 k1 k2 g1 g2 g3 g4 g5 ko X Y D Q Vm f0 f1 f2 fo a b c9 d wk cv lx ly mx my lk (er_th true false) _ _ hI (by omega) (by omega) _ _ (hK.sub [0, 1, 2, 3, 4, 5, 6, 7, 8] rfl) (hP.sub [12, 0, 1, 2, 3, 4, 5, 13, 6, 7, 8, 9, 10, 11] rfl) (hD.sub [12, 0, 1, 2, 3, 4, 5, 13, 6, 7, 8, 9, 10, 11] (by decide) rfl) hS ls (lv_sub hl [1, 2, 3, 4, 5] rfl)
  | true =>
    simp only [Bool.and_eq_true] at hv
    obtain ⟨u1, u2, u3, u4⟩ := hv
    obtain ⟨a7, ha7, ea7⟩ := er_win_of (k := 1023) (by decide) u1
    subst ea7
    obtain ⟨b7, hb7, eb7⟩ := er_win_of (k := 1023) (by decide) u2
    subst eb7
    obtain ⟨c7, gc7, hc7, ec7⟩ := er_win_of1 (k := 64) (by decide) u3
    subst ec7
    obtain ⟨d7, gd7, hd7, ed7⟩ := er_win_of1 (k := 64) (by decide) u4
    subst ed7
    have hP : va_P (dC, dI) classes [(h0, .inr (1, [.ref h1, .ref h2, .ref h3, .long (er_ar X Y), .int (nI a), .int (nI b), .int (nI c9), .int (nI d), .int (er_b wk), .int (er_b (wk && cv)), .int lx, .int ly])), (h1, .inr (0, [.int (X 0), .int (Y 0), .int (D 0), .int (Q 0), .ref v0, .int (er_ex X Y 0), .int (er_ey X Y 0), .int (er_ea X Y 0), .int (er_ed X Y 0), .int (er_lw (er_ea X Y 0) (er_ed X Y 0))])), (h2, .inr (0, [.int (X 1), .int (Y 1), .int (D 1), .int (Q 1), .ref v1, .int (er_ex X Y 1), .int (er_ey X Y 1), .int (er_ea X Y 1), .int (er_ed X Y 1), .int (er_lw (er_ea X Y 1) (er_ed X Y 1))])), (h3, .inr (0, [.int (X 2), .int (Y 2), .int (D 2), .int (Q 2), .ref v2, .int (er_ex X Y 2), .int (er_ey X Y 2), .int (er_ea X Y 2), .int (er_ed X Y 2), .int (er_lw (er_ea X Y 2) (er_ed X Y 2))])), (v0, .inl (k0, 28, .inl f0)), (v1, .inl (k1, 28, .inl f1)), (v2, .inl (k2, 28, .inl f2)), (m0, .inr (2, [.int th, .ref a1, .ref a2, .ref a3, .ref a4, .ref a5, .int (nI a), .int (nI b), .int (nI c9), .int (nI d), .int (er_b wk), .int lk, .int (er_b cv), .int mx, .int my])), (a1, .inl (g1, 3, .inl X)), (a2, .inl (g2, 3, .inl Y)), (a3, .inl (g3, 3, .inl D)), (a4, .inl (g4, 3, .inl Q)), (a5, .inl (g5, 84, .inl Vm)), (ho, .inl (ko, 1, .inr (.inl fo)))] H := hP
    have hD : va_D (fun q : Nat => s.heap.size ≤ q) [(h0, .inr (1, [.ref h1, .ref h2, .ref h3, .long (er_ar X Y), .int (nI a), .int (nI b), .int (nI c9), .int (nI d), .int (er_b wk), .int (er_b (wk && cv)), .int lx, .int ly])), (h1, .inr (0, [.int (X 0), .int (Y 0), .int (D 0), .int (Q 0), .ref v0, .int (er_ex X Y 0), .int (er_ey X Y 0), .int (er_ea X Y 0), .int (er_ed X Y 0), .int (er_lw (er_ea X Y 0) (er_ed X Y 0))])), (h2, .inr (0, [.int (X 1), .int (Y 1), .int (D 1), .int (Q 1), .ref v1, .int (er_ex X Y 1), .int (er_ey X Y 1), .int (er_ea X Y 1), .int (er_ed X Y 1), .int (er_lw (er_ea X Y 1) (er_ed X Y 1))])), (h3, .inr (0, [.int (X 2), .int (Y 2), .int (D 2), .int (Q 2), .ref v2, .int (er_ex X Y 2), .int (er_ey X Y 2), .int (er_ea X Y 2), .int (er_ed X Y 2), .int (er_lw (er_ea X Y 2) (er_ed X Y 2))])), (v0, .inl (k0, 28, .inl f0)), (v1, .inl (k1, 28, .inl f1)), (v2, .inl (k2, 28, .inl f2)), (m0, .inr (2, [.int th, .ref a1, .ref a2, .ref a3, .ref a4, .ref a5, .int (nI a), .int (nI b), .int (nI c9), .int (nI d), .int (er_b wk), .int lk, .int (er_b cv), .int mx, .int my])), (a1, .inl (g1, 3, .inl X)), (a2, .inl (g2, 3, .inl Y)), (a3, .inl (g3, 3, .inl D)), (a4, .inl (g4, 3, .inl Q)), (a5, .inl (g5, 84, .inl Vm)), (ho, .inl (ko, 1, .inr (.inl fo)))] := hD
    refine lv_aload_n hx hb d_L_law_244 rfl (lv_at hl 1 rfl) ?_
    refine lv_aload_n hx hb d_L_law_245 rfl (lv_at hl 0 rfl) ?_
    refine lv_iload hx hb d_L_law_246 (lv_at hl 4 rfl) ?_
    refine lv_iconst (v := 1) hx hb d_L_law_248 (by decide) ?_
    refine lv_iadd hx hb d_L_law_249 ?_
    refine va_sld hx hb hSc hbl hbA hS (er_slot (xs := xs) (k := 1) rfl (by omega) hL).1 d_L_law_250 ?_
    refine lv_topi (x := xs ((nI i) + 1).toNatClampNeg) (fun y9 e9 => ?_)
    obtain rfl : nI a7 = y9 := (e9.trans ((er_slot (xs := xs) (i := i) (k := 1) (q := 1) rfl (by omega) hL).2.trans hp1)).symm
    refine lv_aload_n hx hb d_L_law_251 rfl (lv_at hl 0 rfl) ?_
    refine lv_iload hx hb d_L_law_252 (lv_at hl 4 rfl) ?_
    refine lv_iconst (v := 2) hx hb d_L_law_254 (by decide) ?_
    refine lv_iadd hx hb d_L_law_255 ?_
    refine va_sld hx hb hSc hbl hbA hS (er_slot (xs := xs) (k := 2) rfl (by omega) hL).1 d_L_law_256 ?_
    refine lv_topi (x := xs ((nI i) + 2).toNatClampNeg) (fun y9 e9 => ?_)
    obtain rfl : nI b7 = y9 := (e9.trans ((er_slot (xs := xs) (i := i) (k := 2) (q := 2) rfl (by omega) hL).2.trans hp2)).symm
    refine lv_aload_n hx hb d_L_law_257 rfl (lv_at hl 0 rfl) ?_
    refine lv_iload hx hb d_L_law_258 (lv_at hl 4 rfl) ?_
    refine lv_iconst (v := 3) hx hb d_L_law_260 (by decide) ?_
    refine lv_iadd hx hb d_L_law_261 ?_
    refine va_sld hx hb hSc hbl hbA hS (er_slot (xs := xs) (k := 3) rfl (by omega) hL).1 d_L_law_262 ?_
    refine lv_topi (x := xs ((nI i) + 3).toNatClampNeg) (fun y9 e9 => ?_)
    obtain rfl : nI c7 = y9 := (e9.trans ((er_slot (xs := xs) (i := i) (k := 3) (q := 3) rfl (by omega) hL).2.trans hp3)).symm
    refine lv_aload_n hx hb d_L_law_263 rfl (lv_at hl 0 rfl) ?_
    refine lv_iload hx hb d_L_law_264 (lv_at hl 4 rfl) ?_
    refine lv_iconst (v := 4) hx hb d_L_law_266 (by decide) ?_
    refine lv_iadd hx hb d_L_law_267 ?_
    refine va_sld hx hb hSc hbl hbA hS (er_slot (xs := xs) (k := 4) rfl (by omega) hL).1 d_L_law_268 ?_
    refine lv_topi (x := xs ((nI i) + 4).toNatClampNeg) (fun y9 e9 => ?_)
    obtain rfl : nI d7 = y9 := (e9.trans ((er_slot (xs := xs) (i := i) (k := 4) (q := 4) rfl (by omega) hL).2.trans hp4)).symm
    have hPc := hP.sub (ws' := [(h0, .inr (1, [.ref h1, .ref h2, .ref h3, .long (er_ar X Y), .int (nI a), .int (nI b), .int (nI c9), .int (nI d), .int (er_b wk), .int (er_b (wk && cv)), .int lx, .int ly]))]) [0] rfl
    have hDc := hD.sub (ws' := [(h0, .inr (1, [.ref h1, .ref h2, .ref h3, .long (er_ar X Y), .int (nI a), .int (nI b), .int (nI c9), .int (nI d), .int (er_b wk), .int (er_b (wk && cv)), .int lx, .int ly]))]) [0] (by decide) rfl
    have hKc := hK.sub (tys' := []) [] rfl
    have hFc := va_free (wc := [(h0, .inr (1, [.ref h1, .ref h2, .ref h3, .long (er_ar X Y), .int (nI a), .int (nI b), .int (nI c9), .int (nI d), .int (er_b wk), .int (er_b (wk && cv)), .int lx, .int ly]))]) hD hS hA [0] rfl
    refine va_calli (er_runSW (As := [.ref h0, .int (nI a7), .int (nI b7), .int (nI c7), .int (nI d7)]) (rest := []) ⟨hx, hb, hml, hown, hts⟩ (c_L_window l dC dI h0 h1 h2 h3 (er_ar X Y) (nI a) (nI b) (nI c9) (nI d) (er_b wk) (er_b (wk && cv)) lx ly (nI a7) (nI b7) (nI c7) (nI d7) u1 u2 u3 u4 H.size) (er_gSW k_221 k_222 k_17 k_223) rfl rfl rfl (n := 5) (by decide +kernel) ⟨Nat.le_of_ble_eq_true rfl, Nat.le_of_ble_eq_true rfl⟩ ⟨PI.blind, PI.at hN hKc hPc hDc⟩ rfl hl.1 rfl (Nat.le_of_ble_eq_true rfl) d_L_law_269 ⟨by show _ ≤ 1052; omega, by show _ ≤ 8514; omega⟩) hS (fun q _ h => hFc q h) hFc (fun r_1 u t H1 locs ht hvm hw hB hz1 hk1 hS => ?_)
    obtain ⟨hP1, hK1, hD1⟩ := hB
    rw [ht] at hP1
    have hK1 := va_K.moved hvm.symm hK1
    obtain ⟨hP, hD⟩ := va_join (wr := [(h1, .inr (0, [.int (X 0), .int (Y 0), .int (D 0), .int (Q 0), .ref v0, .int (er_ex X Y 0), .int (er_ey X Y 0), .int (er_ea X Y 0), .int (er_ed X Y 0), .int (er_lw (er_ea X Y 0) (er_ed X Y 0))])), (h2, .inr (0, [.int (X 1), .int (Y 1), .int (D 1), .int (Q 1), .ref v1, .int (er_ex X Y 1), .int (er_ey X Y 1), .int (er_ea X Y 1), .int (er_ed X Y 1), .int (er_lw (er_ea X Y 1) (er_ed X Y 1))])), (h3, .inr (0, [.int (X 2), .int (Y 2), .int (D 2), .int (Q 2), .ref v2, .int (er_ex X Y 2), .int (er_ey X Y 2), .int (er_ea X Y 2), .int (er_ed X Y 2), .int (er_lw (er_ea X Y 2) (er_ed X Y 2))])), (v0, .inl (k0, 28, .inl f0)), (v1, .inl (k1, 28, .inl f1)), (v2, .inl (k2, 28, .inl f2)), (m0, .inr (2, [.int th, .ref a1, .ref a2, .ref a3, .ref a4, .ref a5, .int (nI a), .int (nI b), .int (nI c9), .int (nI d), .int (er_b wk), .int lk, .int (er_b cv), .int mx, .int my])), (a1, .inl (g1, 3, .inl X)), (a2, .inl (g2, 3, .inl Y)), (a3, .inl (g3, 3, .inl D)), (a4, .inl (g4, 3, .inl Q)), (a5, .inl (g5, 84, .inl Vm)), (ho, .inl (ko, 1, .inr (.inl fo)))]) (w1 := [(h0, .inr (1, [.ref h1, .ref h2, .ref h3, .long (er_ar X Y), .int (nI a7), .int (nI b7), .int (nI c7), .int (nI d7), .int 0, .int 0, .int lx, .int ly]))]) hP hD [0] [1, 2, 3, 4, 5, 6, 7, 8, 9, 10, 11, 12, 13] rfl rfl (by decide) (by decide) hk1 hFc hP1 hD1
    have hK := (hK.sub (tys' := [(k0, .int), (k1, .int), (k2, .int), (g1, .int), (g2, .int), (g3, .int), (g4, .int), (g5, .int), (ko, .long)]) [0, 1, 2, 3, 4, 5, 6, 7, 8] rfl).app hK1
    generalize H1 = H at hP hS ⊢
    have hP : va_P (dC, dI) classes [(h1, .inr (0, [.int (X 0), .int (Y 0), .int (D 0), .int (Q 0), .ref v0, .int (er_ex X Y 0), .int (er_ey X Y 0), .int (er_ea X Y 0), .int (er_ed X Y 0), .int (er_lw (er_ea X Y 0) (er_ed X Y 0))])), (h2, .inr (0, [.int (X 1), .int (Y 1), .int (D 1), .int (Q 1), .ref v1, .int (er_ex X Y 1), .int (er_ey X Y 1), .int (er_ea X Y 1), .int (er_ed X Y 1), .int (er_lw (er_ea X Y 1) (er_ed X Y 1))])), (h3, .inr (0, [.int (X 2), .int (Y 2), .int (D 2), .int (Q 2), .ref v2, .int (er_ex X Y 2), .int (er_ey X Y 2), .int (er_ea X Y 2), .int (er_ed X Y 2), .int (er_lw (er_ea X Y 2) (er_ed X Y 2))])), (v0, .inl (k0, 28, .inl f0)), (v1, .inl (k1, 28, .inl f1)), (v2, .inl (k2, 28, .inl f2)), (m0, .inr (2, [.int th, .ref a1, .ref a2, .ref a3, .ref a4, .ref a5, .int (nI a), .int (nI b), .int (nI c9), .int (nI d), .int (er_b wk), .int lk, .int (er_b cv), .int mx, .int my])), (a1, .inl (g1, 3, .inl X)), (a2, .inl (g2, 3, .inl Y)), (a3, .inl (g3, 3, .inl D)), (a4, .inl (g4, 3, .inl Q)), (a5, .inl (g5, 84, .inl Vm)), (ho, .inl (ko, 1, .inr (.inl fo))), (h0, .inr (1, [.ref h1, .ref h2, .ref h3, .long (er_ar X Y), .int (nI a7), .int (nI b7), .int (nI c7), .int (nI d7), .int 0, .int 0, .int lx, .int ly]))] H := hP
    have hD : va_D (fun q : Nat => s.heap.size ≤ q) [(h1, .inr (0, [.int (X 0), .int (Y 0), .int (D 0), .int (Q 0), .ref v0, .int (er_ex X Y 0), .int (er_ey X Y 0), .int (er_ea X Y 0), .int (er_ed X Y 0), .int (er_lw (er_ea X Y 0) (er_ed X Y 0))])), (h2, .inr (0, [.int (X 1), .int (Y 1), .int (D 1), .int (Q 1), .ref v1, .int (er_ex X Y 1), .int (er_ey X Y 1), .int (er_ea X Y 1), .int (er_ed X Y 1), .int (er_lw (er_ea X Y 1) (er_ed X Y 1))])), (h3, .inr (0, [.int (X 2), .int (Y 2), .int (D 2), .int (Q 2), .ref v2, .int (er_ex X Y 2), .int (er_ey X Y 2), .int (er_ea X Y 2), .int (er_ed X Y 2), .int (er_lw (er_ea X Y 2) (er_ed X Y 2))])), (v0, .inl (k0, 28, .inl f0)), (v1, .inl (k1, 28, .inl f1)), (v2, .inl (k2, 28, .inl f2)), (m0, .inr (2, [.int th, .ref a1, .ref a2, .ref a3, .ref a4, .ref a5, .int (nI a), .int (nI b), .int (nI c9), .int (nI d), .int (er_b wk), .int lk, .int (er_b cv), .int mx, .int my])), (a1, .inl (g1, 3, .inl X)), (a2, .inl (g2, 3, .inl Y)), (a3, .inl (g3, 3, .inl D)), (a4, .inl (g4, 3, .inl Q)), (a5, .inl (g5, 84, .inl Vm)), (ho, .inl (ko, 1, .inr (.inl fo))), (h0, .inr (1, [.ref h1, .ref h2, .ref h3, .long (er_ar X Y), .int (nI a7), .int (nI b7), .int (nI c7), .int (nI d7), .int 0, .int 0, .int lx, .int ly]))] := hD
    have hK : va_K (dC, dI) classes [(k0, .int), (k1, .int), (k2, .int), (g1, .int), (g2, .int), (g3, .int), (g4, .int), (g5, .int), (ko, .long)] s := hK
    obtain rfl : 0 = r_1 := Eq.symm hw
    refine lv_istore (lv' := [(5, .int 0), (0, .ref bs), (1, .ref h0), (2, .ref m0), (3, .ref ho), (4, .int (nI i))]) hx hb d_L_law_272 hl (by decide) rfl (fun ls hl => ?_)
    refine lv_aload_n hx hb d_L_law_274 rfl (lv_at hl 3 rfl) ?_
    refine lv_aload_n hx hb d_L_law_275 rfl (lv_at hl 1 rfl) ?_
    refine lv_iload hx hb d_L_law_276 (lv_at hl 5 rfl) ?_
    refine lv_iconst (v := 1) hx hb d_L_law_278 (by decide) ?_
    refine lv_iadd hx hb d_L_law_279 ?_
    refine va_sld hx hb hSc hbl hbA hS (er_slot (xs := xs) (k := 1) rfl (by omega) hL).1 d_L_law_280 ?_
    refine lv_topi (x := xs ((nI i) + 1).toNatClampNeg) (fun y9 e9 => ?_)
    obtain rfl : nI a7 = y9 := (e9.trans ((er_slot (xs := xs) (i := i) (k := 1) (q := 1) rfl (by omega) hL).2.trans hp1)).symm
    refine lv_aload_n hx hb d_L_law_281 rfl (lv_at hl 1 rfl) ?_
    refine lv_iload hx hb d_L_law_282 (lv_at hl 5 rfl) ?_
    refine lv_iconst (v := 2) hx hb d_L_law_284 (by decide) ?_
    refine lv_iadd hx hb d_L_law_285 ?_
    refine va_sld hx hb hSc hbl hbA hS (er_slot (xs := xs) (k := 2) rfl (by omega) hL).1 d_L_law_286 ?_
    refine lv_topi (x := xs ((nI i) + 2).toNatClampNeg) (fun y9 e9 => ?_)
    obtain rfl : nI b7 = y9 := (e9.trans ((er_slot (xs := xs) (i := i) (k := 2) (q := 2) rfl (by omega) hL).2.trans hp2)).symm
    refine lv_aload_n hx hb d_L_law_287 rfl (lv_at hl 1 rfl) ?_
    refine lv_iload hx hb d_L_law_288 (lv_at hl 5 rfl) ?_
    refine lv_iconst (v := 3) hx hb d_L_law_290 (by decide) ?_
    refine lv_iadd hx hb d_L_law_291 ?_
    refine va_sld hx hb hSc hbl hbA hS (er_slot (xs := xs) (k := 3) rfl (by omega) hL).1 d_L_law_292 ?_
    refine lv_topi (x := xs ((nI i) + 3).toNatClampNeg) (fun y9 e9 => ?_)
    obtain rfl : nI c7 = y9 := (e9.trans ((er_slot (xs := xs) (i := i) (k := 3) (q := 3) rfl (by omega) hL).2.trans hp3)).symm
    refine lv_aload_n hx hb d_L_law_293 rfl (lv_at hl 1 rfl) ?_
    refine lv_iload hx hb d_L_law_294 (lv_at hl 5 rfl) ?_
    refine lv_iconst (v := 4) hx hb d_L_law_296 (by decide) ?_
    refine lv_iadd hx hb d_L_law_297 ?_
    refine va_sld hx hb hSc hbl hbA hS (er_slot (xs := xs) (k := 4) rfl (by omega) hL).1 d_L_law_298 ?_
    refine lv_topi (x := xs ((nI i) + 4).toNatClampNeg) (fun y9 e9 => ?_)
    obtain rfl : nI d7 = y9 := (e9.trans ((er_slot (xs := xs) (i := i) (k := 4) (q := 4) rfl (by omega) hL).2.trans hp4)).symm
    have hPc := hP.sub (ws' := [(m0, .inr (2, [.int th, .ref a1, .ref a2, .ref a3, .ref a4, .ref a5, .int (nI a), .int (nI b), .int (nI c9), .int (nI d), .int (er_b wk), .int lk, .int (er_b cv), .int mx, .int my]))]) [6] rfl
    have hDc := hD.sub (ws' := [(m0, .inr (2, [.int th, .ref a1, .ref a2, .ref a3, .ref a4, .ref a5, .int (nI a), .int (nI b), .int (nI c9), .int (nI d), .int (er_b wk), .int lk, .int (er_b cv), .int mx, .int my]))]) [6] (by decide) rfl
    have hKc := hK.sub (tys' := []) [] rfl
    have hFc := va_free (wc := [(m0, .inr (2, [.int th, .ref a1, .ref a2, .ref a3, .ref a4, .ref a5, .int (nI a), .int (nI b), .int (nI c9), .int (nI d), .int (er_b wk), .int lk, .int (er_b cv), .int mx, .int my]))]) hD hS hA [6] rfl
    refine va_callv (va_runV (As := [.int (nI a7), .int (nI b7), .int (nI c7), .int (nI d7)]) (rest := []) ⟨hx, hb, hml, hown, hts⟩ (c_M_window l dC dI m0 a1 a2 a3 a4 a5 th (nI a) (nI b) (nI c9) (nI d) (er_b wk) lk (er_b cv) mx my (nI a7) (nI b7) (nI c7) (nI d7) u1 u2 u3 u4 H.size) (cwV 4 hts (er_gV k_372 k_373 k_374 k_20 k_375) rfl rfl rfl (by decide +kernel) ⟨Nat.le_of_ble_eq_true rfl, Nat.le_of_ble_eq_true rfl⟩) ⟨PI.blind, va_recv hKc hPc (ci := 2) (q0 := 0) rfl rfl, PI.at hN hKc hPc hDc⟩ rfl rfl hl.1 rfl (lv_room (Nat.le_of_ble_eq_true rfl)) d_L_law_299 ⟨by show _ ≤ 1052; omega, by show _ ≤ 8514; omega⟩) hS (fun q _ h => hFc q h) hFc (fun u t H1 locs ht hvm hw hB hz1 hk1 hS => ?_)
    obtain ⟨hP1, hK1, hD1⟩ := hB
    rw [ht] at hP1
    have hK1 := va_K.moved hvm.symm hK1
    obtain ⟨hP, hD⟩ := va_join (wr := [(h1, .inr (0, [.int (X 0), .int (Y 0), .int (D 0), .int (Q 0), .ref v0, .int (er_ex X Y 0), .int (er_ey X Y 0), .int (er_ea X Y 0), .int (er_ed X Y 0), .int (er_lw (er_ea X Y 0) (er_ed X Y 0))])), (h2, .inr (0, [.int (X 1), .int (Y 1), .int (D 1), .int (Q 1), .ref v1, .int (er_ex X Y 1), .int (er_ey X Y 1), .int (er_ea X Y 1), .int (er_ed X Y 1), .int (er_lw (er_ea X Y 1) (er_ed X Y 1))])), (h3, .inr (0, [.int (X 2), .int (Y 2), .int (D 2), .int (Q 2), .ref v2, .int (er_ex X Y 2), .int (er_ey X Y 2), .int (er_ea X Y 2), .int (er_ed X Y 2), .int (er_lw (er_ea X Y 2) (er_ed X Y 2))])), (v0, .inl (k0, 28, .inl f0)), (v1, .inl (k1, 28, .inl f1)), (v2, .inl (k2, 28, .inl f2)), (a1, .inl (g1, 3, .inl X)), (a2, .inl (g2, 3, .inl Y)), (a3, .inl (g3, 3, .inl D)), (a4, .inl (g4, 3, .inl Q)), (a5, .inl (g5, 84, .inl Vm)), (ho, .inl (ko, 1, .inr (.inl fo))), (h0, .inr (1, [.ref h1, .ref h2, .ref h3, .long (er_ar X Y), .int (nI a7), .int (nI b7), .int (nI c7), .int (nI d7), .int 0, .int 0, .int lx, .int ly]))]) (w1 := [(m0, .inr (2, [.int (er_th false false), .ref a1, .ref a2, .ref a3, .ref a4, .ref a5, .int (nI a7), .int (nI b7), .int (nI c7), .int (nI d7), .int 0, .int lk, .int (er_b cv), .int mx, .int my]))]) hP hD [6] [0, 1, 2, 3, 4, 5, 7, 8, 9, 10, 11, 12, 13] rfl rfl (by decide) (by decide) hk1 hFc hP1 hD1
    have hK := (hK.sub (tys' := [(k0, .int), (k1, .int), (k2, .int), (g1, .int), (g2, .int), (g3, .int), (g4, .int), (g5, .int), (ko, .long)]) [0, 1, 2, 3, 4, 5, 6, 7, 8] rfl).app hK1
    generalize H1 = H at hP hS ⊢
    have hP : va_P (dC, dI) classes [(h1, .inr (0, [.int (X 0), .int (Y 0), .int (D 0), .int (Q 0), .ref v0, .int (er_ex X Y 0), .int (er_ey X Y 0), .int (er_ea X Y 0), .int (er_ed X Y 0), .int (er_lw (er_ea X Y 0) (er_ed X Y 0))])), (h2, .inr (0, [.int (X 1), .int (Y 1), .int (D 1), .int (Q 1), .ref v1, .int (er_ex X Y 1), .int (er_ey X Y 1), .int (er_ea X Y 1), .int (er_ed X Y 1), .int (er_lw (er_ea X Y 1) (er_ed X Y 1))])), (h3, .inr (0, [.int (X 2), .int (Y 2), .int (D 2), .int (Q 2), .ref v2, .int (er_ex X Y 2), .int (er_ey X Y 2), .int (er_ea X Y 2), .int (er_ed X Y 2), .int (er_lw (er_ea X Y 2) (er_ed X Y 2))])), (v0, .inl (k0, 28, .inl f0)), (v1, .inl (k1, 28, .inl f1)), (v2, .inl (k2, 28, .inl f2)), (a1, .inl (g1, 3, .inl X)), (a2, .inl (g2, 3, .inl Y)), (a3, .inl (g3, 3, .inl D)), (a4, .inl (g4, 3, .inl Q)), (a5, .inl (g5, 84, .inl Vm)), (ho, .inl (ko, 1, .inr (.inl fo))), (h0, .inr (1, [.ref h1, .ref h2, .ref h3, .long (er_ar X Y), .int (nI a7), .int (nI b7), .int (nI c7), .int (nI d7), .int 0, .int 0, .int lx, .int ly])), (m0, .inr (2, [.int (er_th false false), .ref a1, .ref a2, .ref a3, .ref a4, .ref a5, .int (nI a7), .int (nI b7), .int (nI c7), .int (nI d7), .int 0, .int lk, .int (er_b cv), .int mx, .int my]))] H := hP
    have hD : va_D (fun q : Nat => s.heap.size ≤ q) [(h1, .inr (0, [.int (X 0), .int (Y 0), .int (D 0), .int (Q 0), .ref v0, .int (er_ex X Y 0), .int (er_ey X Y 0), .int (er_ea X Y 0), .int (er_ed X Y 0), .int (er_lw (er_ea X Y 0) (er_ed X Y 0))])), (h2, .inr (0, [.int (X 1), .int (Y 1), .int (D 1), .int (Q 1), .ref v1, .int (er_ex X Y 1), .int (er_ey X Y 1), .int (er_ea X Y 1), .int (er_ed X Y 1), .int (er_lw (er_ea X Y 1) (er_ed X Y 1))])), (h3, .inr (0, [.int (X 2), .int (Y 2), .int (D 2), .int (Q 2), .ref v2, .int (er_ex X Y 2), .int (er_ey X Y 2), .int (er_ea X Y 2), .int (er_ed X Y 2), .int (er_lw (er_ea X Y 2) (er_ed X Y 2))])), (v0, .inl (k0, 28, .inl f0)), (v1, .inl (k1, 28, .inl f1)), (v2, .inl (k2, 28, .inl f2)), (a1, .inl (g1, 3, .inl X)), (a2, .inl (g2, 3, .inl Y)), (a3, .inl (g3, 3, .inl D)), (a4, .inl (g4, 3, .inl Q)), (a5, .inl (g5, 84, .inl Vm)), (ho, .inl (ko, 1, .inr (.inl fo))), (h0, .inr (1, [.ref h1, .ref h2, .ref h3, .long (er_ar X Y), .int (nI a7), .int (nI b7), .int (nI c7), .int (nI d7), .int 0, .int 0, .int lx, .int ly])), (m0, .inr (2, [.int (er_th false false), .ref a1, .ref a2, .ref a3, .ref a4, .ref a5, .int (nI a7), .int (nI b7), .int (nI c7), .int (nI d7), .int 0, .int lk, .int (er_b cv), .int mx, .int my]))] := hD
    have hK : va_K (dC, dI) classes [(k0, .int), (k1, .int), (k2, .int), (g1, .int), (g2, .int), (g3, .int), (g4, .int), (g5, .int), (ko, .long)] s := hK
    refine lv_aload_n hx hb d_L_law_302 rfl (lv_at hl 3 rfl) ?_
    have hPc := hP.sub (ws' := [(m0, .inr (2, [.int (er_th false false), .ref a1, .ref a2, .ref a3, .ref a4, .ref a5, .int (nI a7), .int (nI b7), .int (nI c7), .int (nI d7), .int 0, .int lk, .int (er_b cv), .int mx, .int my]))]) [13] rfl
    have hKc := hK.sub (tys' := []) [] rfl
    refine vp_callSi (va_runV (As := []) (rest := []) ⟨hx, hb, hml, hown, hts⟩ (c_M_thrown l dC dI m0 a1 a2 a3 a4 a5 (er_th false false) (nI a7) (nI b7) (nI c7) (nI d7) 0 lk (er_b cv) mx my) (cwV 0 hts (er_gV k_352 k_353 k_354 k_20 k_355) rfl rfl rfl (by decide +kernel) ⟨Nat.le_of_ble_eq_true rfl, Nat.le_of_ble_eq_true rfl⟩) ⟨PP.blind, va_recv hKc hPc (ci := 2) (q0 := 0) rfl rfl, PP.at hN hKc hPc⟩ rfl rfl hl.1 rfl (lv_room (Nat.le_of_ble_eq_true rfl)) d_L_law_303 ⟨by show _ ≤ 1052; omega, by show _ ≤ 8514; omega⟩).run (fun r_3 hr_3 => ?_)
    obtain rfl : er_th false false = r_3 := Eq.symm hr_3
    refine lv_iload hx hb d_L_law_306 (lv_at hl 0 rfl) ?_
    refine lv_icmp_eq (tgt := 313) hx hb d_L_law_308 (by decide) (fun _ => ?_) (fun c_4 => absurd c_4 (by decide))
    refine lv_goto (tgt := 628) hx hb d_L_law_313 (by decide) ?_
    exact hG h0 h1 h2 h3 v0 v1 v2 m0 a1 a2 a3 a4 a5 ho k0 k1 k2 g1 g2 g3 g4 g5 ko X Y D Q Vm f0 f1 f2 fo a7 b7 c7 d7 false cv lx ly mx my lk (er_th false false) _ _ (hI.window ha7 hb7 ⟨gc7, hc7⟩ ⟨gd7, hd7⟩) (by omega) (by omega) _ _ (hK.sub [0, 1, 2, 3, 4, 5, 6, 7, 8] rfl) (hP.sub [12, 0, 1, 2, 3, 4, 5, 13, 6, 7, 8, 9, 10, 11] rfl) (hD.sub [12, 0, 1, 2, 3, 4, 5, 13, 6, 7, 8, 9, 10, 11] (by decide) rfl) hS ls (lv_sub hl [1, 2, 3, 4, 5] rfl)
