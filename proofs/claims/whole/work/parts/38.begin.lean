-- THE LAW'S START: what the Statement gives of it
def er_z : Nat → Int32 := fun _ => 0
def er_q : Nat → Int32 := upd (upd (upd (fun _ => 0) 0 1) 1 1) 2 1
theorem er_z_ar : er_ar er_z er_z = 0 := by decide +kernel
theorem er_z_ex (j : Nat) : er_ex er_z er_z j = 0 := rfl
theorem er_z_ey (j : Nat) : er_ey er_z er_z j = 0 := rfl
theorem er_z_ea (j : Nat) : er_ea er_z er_z j = 0 := by show (0 : Int32) - 0 = 0; decide
theorem er_z_ed (j : Nat) : er_ed er_z er_z j = 0 := by show (0 : Int32) - 0 = 0; decide
theorem er_I0 : er_I er_z er_z er_q er_z er_z er_z er_z 0 0 1 1 false false 0 0 0 0 0 := by
  have hz : er_BX er_z := fun j _ => by show -16384 ≤ (0 : Int32).toInt ∧ (0 : Int32).toInt ≤ 16383; decide
  refine ⟨⟨hz, hz, fun j hj => ?_, fun n _ => ⟨rfl, rfl, rfl⟩, by omega, by omega, ⟨by omega, by omega⟩, ⟨by omega, by omega⟩⟩, (fun q => by cases q), (fun q => by cases q)⟩
  rcases (show j = 0 ∨ j = 1 ∨ j = 2 by omega) with rfl | rfl | rfl <;> decide
theorem er_Nof {s : State} {args : Array Value} (h : ∀ w ∈ lw_tbl, w.before args s = true) : er_N s := fun w hw => va_Nw.of (by
  have q : er_nest.all (fun w => w.onTables) = true := by decide +kernel
  exact List.all_eq_true.mp q w hw) (h w (er_nest_in w hw))
set_option maxRecDepth 100000 in
theorem er_dw_in : ∀ w ∈ er_dw, w ∈ lw_tbl := by decide +kernel
set_option maxRecDepth 100000 in
theorem er_str_in : ∀ q ∈ er_strs, Cond.stringRef R_E q.1 q.2 ∈ lw_tbl := by decide +kernel
set_option maxHeartbeats 4000000 in
set_option maxRecDepth 100000 in
theorem er_Xof {s : State} {args : Array Value} (h : ∀ w ∈ lw_tbl, w.before args s = true) (hg : (Jvm.Cond.and given_1 narrow_1).before args s = true) : er_X (fun q : Nat => s.heap.size ≤ q) s s.heap := by
  have hs := flat_of_before _ hg
  have hA : ∀ a : Nat, a < s.heap.size → ¬ (fun q : Nat => s.heap.size ≤ q) a := fun a h => Nat.not_le.mpr h
  refine ⟨fun w hw => va_Nw.of ?_ (h w (er_dw_in w hw)), fun q hq => ?_, ?_, ?_, ?_⟩
  · have z : er_dw.all (fun w => w.onTables) = true := by decide +kernel
    exact List.all_eq_true.mp z w hw
  · have h1 := h _ (er_str_in q hq)
    have h2 : (Cond.exactly (.string R_E q.1) "java/lang/String").before args s = true := by
      simp only [er_strs, List.mem_cons, List.not_mem_nil, or_false] at hq
      rcases hq with rfl | rfl | rfl | rfl | rfl | rfl | rfl | rfl | rfl | rfl | rfl <;> exact hs _ (by decide +kernel)
    obtain ⟨a, -, -, -, q1, -⟩ := Cond.exactly_spec h2
    exact ⟨a, vk_R.of h1 q1⟩
  · exact vx_Zqof (h (.laysStatic Bundle.tN "UNASSIGNED_STACK" Bundle.steD) (by decide +kernel)) (h (.initialized Bundle.tN) (by decide +kernel)) (hs (.isRef (.static Bundle.tN "UNASSIGNED_STACK" Bundle.steD)) (by decide +kernel)) hA
  · exact vx_Zqof (h (.laysStatic Bundle.tN "SUPPRESSED_SENTINEL" Bundle.listD) (by decide +kernel)) (h (.initialized Bundle.tN) (by decide +kernel)) (hs (.isRef (.static Bundle.tN "SUPPRESSED_SENTINEL" Bundle.listD)) (by decide +kernel)) hA
  · intro c1 c2 q1 q2
    have h3 : (Cond.not (.castable er_ISE er_IAE)).before args s = true := hs _ (by decide +kernel)
    simpa [Cond.before, Cond.holds, Cond.value, q1, q2] using h3
