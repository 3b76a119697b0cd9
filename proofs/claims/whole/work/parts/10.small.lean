/-! Page, Reader, Tally, Draws -/
theorem uX1_size_1 : ∀ w ∈ u_ws RX1 TX1 2, w ∈ wsX1_size := fun w h => List.mem_cons_of_mem _ (List.mem_append_right _ h)
theorem fX1_size_1_1 : Cond.fieldLink RX1 15 (TX1 1).1 (TX1 1).2.1 (TX1 1).2.2.1 ∈ wsX1_size := by decide +kernel
set_option maxHeartbeats 1000000 in
set_option maxRecDepth 100000 in
theorem c_X1_size (l : Launch) (D : va_G) (cI : ClassId) (p0 g0 : Nat) (pg : Nat → Int32) (pn : Nat) : zMr l D cI yX1_size wsX1_size { frames := 0, cells := 0, slots := 0, locals := 0 } [.ref p0] [(p0, .inr (1, [.ref g0, .int (nI pn)])), (g0, .inl (cI, 56, .inl pg))] (nI pn) := by
  refine zr_ent (maxL := 1) (by decide) rfl (Nat.le_of_ble_eq_true rfl) (fun X C E => ?_)
  have C : zC X l D cI { frames := 0, cells := 0, slots := 0, locals := 0 } 1 false cX1_size RX1 wsX1_size := C
  refine zg_cv (lv' := [(0, .ref p0)]) rfl rfl rfl ?_
  refine zg_aload_n C 0 dX1_size_0 rfl ?_
  refine zg_get C 0 (ci := 1) (f := 1) rfl rfl uX1_size_1 (by decide) fX1_size_1_1 dX1_size_1 rfl ?_
  exact zg_iret C E dX1_size_4 (rfl)
theorem uX1_append_1 : ∀ w ∈ u_ws RX1 TX1 2, w ∈ wsX1_append := fun w h => List.mem_cons_of_mem _ (List.mem_append_right _ h)
theorem fX1_append_1_1 : Cond.fieldLink RX1 15 (TX1 1).1 (TX1 1).2.1 (TX1 1).2.2.1 ∈ wsX1_append := by decide +kernel
theorem fX1_append_1_0 : Cond.fieldLink RX1 9 (TX1 0).1 (TX1 0).2.1 (TX1 0).2.2.1 ∈ wsX1_append := by decide +kernel
set_option maxHeartbeats 1000000 in
set_option maxRecDepth 100000 in
theorem c_X1_append (l : Launch) (D : va_G) (cI : ClassId) (p0 g0 : Nat) (pg : Nat → Int32) (pn : Nat) (x : Int32) (hpn : pn ≤ 56) : zMw l D cI yX1_append wsX1_append { frames := 0, cells := 0, slots := 0, locals := 0 } [.ref p0, .int x] [(p0, .inr (1, [.ref g0, .int (nI pn)])), (g0, .inl (cI, 56, .inl pg))] (fun v9 w9 => v9 = some (.int (zb (decide (pn < 56)))) ∧ w9 = [(p0, .inr (1, [.ref g0, .int (nI (if pn < 56 then pn + 1 else pn))])), (g0, .inl (cI, 56, .inl (if pn < 56 then upd pg pn x else pg)))]) 0 0 := by
  refine zw_ent (maxL := 2) (by decide) rfl (Nat.le_of_ble_eq_true rfl) (fun X C E hin9 => ?_)
  have C : zC X l D cI { frames := 0, cells := 0, slots := 0, locals := 0 } 2 true cX1_append RX1 wsX1_append := C
  refine zg_cv (lv' := [(0, .ref p0), (1, .int x)]) rfl rfl rfl ?_
  refine zg_aload_n C 0 dX1_append_0 rfl ?_
  refine zg_get C 0 (ci := 1) (f := 1) rfl rfl uX1_append_1 (by decide) fX1_append_1_1 dX1_append_1 rfl ?_
  refine zn_if_lt C 19 (by omega) dX1_append_4 (by decide) ?_
  refine zg_aload_n C 0 dX1_append_7 rfl ?_
  refine zg_get C 0 (ci := 1) (f := 1) rfl rfl uX1_append_1 (by decide) fX1_append_1_1 dX1_append_8 rfl ?_
  refine zg_aload_n C 0 dX1_append_11 rfl ?_
  refine zg_get C 0 (ci := 1) (f := 0) rfl rfl uX1_append_1 (by decide) fX1_append_1_0 dX1_append_12 rfl ?_
  refine zg_alen C 1 rfl dX1_append_15 ?_
  refine zn_icmp_lt C 21 (by omega) (by omega) dX1_append_16 (by decide) (fun c_16 => ?_) (fun c_16 => ?_)
  · skip
    refine zg_aload_n C 0 dX1_append_21 rfl ?_
    refine zg_get C 0 (ci := 1) (f := 0) rfl rfl uX1_append_1 (by decide) fX1_append_1_0 dX1_append_22 rfl ?_
    refine zg_aload_n C 0 dX1_append_25 rfl ?_
    refine zg_get C 0 (ci := 1) (f := 1) rfl rfl uX1_append_1 (by decide) fX1_append_1_1 dX1_append_26 rfl ?_
    refine zg_iload_n C 1 dX1_append_29 rfl ?_
    refine zg_iast C 1 (ws' := [(p0, .inr (1, [.ref g0, .int (nI pn)])), (g0, .inl (cI, 56, .inl (upd pg pn x)))]) rfl (by omega) (by decide) dX1_append_30 rfl ?_
    refine zg_aload_n C 0 dX1_append_31 rfl ?_
    refine zg_dup C dX1_append_32 rfl ?_
    refine zg_get C 0 (ci := 1) (f := 1) rfl rfl uX1_append_1 (by decide) fX1_append_1_1 dX1_append_33 rfl ?_
    refine zg_iconst (v := nI 1) C dX1_append_36 (by decide) ?_
    refine zg_iadd C dX1_append_37 (nI (pn + 1)) (nI_add _ _) ?_
    refine zg_put C 0 (ci := 1) (f := 1) (ws' := [(p0, .inr (1, [.ref g0, .int (nI (pn + 1))])), (g0, .inl (cI, 56, .inl (upd pg pn x)))]) rfl rfl uX1_append_1 tyX1_ok nmX1 (by decide) fX1_append_1_1 rfl rfl rfl rfl (Nat.le_of_ble_eq_true rfl) dX1_append_38 rfl ?_
    refine zg_iconst (v := nI 1) C dX1_append_41 (by decide) ?_
    exact zg_wzret C (decide (pn < 56)) E dX1_append_42 (zbt c_16) (⟨rfl, by rw [if_pos c_16, if_pos c_16]⟩)
  · skip
    refine zg_iconst (v := nI 0) C dX1_append_19 (by decide) ?_
    exact zg_wzret C (decide (pn < 56)) E dX1_append_20 (zbf (by omega)) (⟨rfl, by rw [if_neg (by omega), if_neg (by omega)]⟩)
theorem uX1_clear_1 : ∀ w ∈ u_ws RX1 TX1 2, w ∈ wsX1_clear := fun w h => List.mem_cons_of_mem _ (List.mem_append_right _ h)
theorem fX1_clear_1_1 : Cond.fieldLink RX1 15 (TX1 1).1 (TX1 1).2.1 (TX1 1).2.2.1 ∈ wsX1_clear := by decide +kernel
set_option maxHeartbeats 1000000 in
set_option maxRecDepth 100000 in
theorem c_X1_clear (l : Launch) (D : va_G) (cI : ClassId) (p0 g0 : Nat) (pg : Nat → Int32) (pn : Nat) : zMw l D cI yX1_clear wsX1_clear { frames := 0, cells := 0, slots := 0, locals := 0 } [.ref p0] [(p0, .inr (1, [.ref g0, .int (nI pn)])), (g0, .inl (cI, 56, .inl pg))] (fun v9 w9 => v9 = none ∧ w9 = [(p0, .inr (1, [.ref g0, .int (nI 0)])), (g0, .inl (cI, 56, .inl pg))]) 0 0 := by
  refine zw_ent (maxL := 1) (by decide) rfl (Nat.le_of_ble_eq_true rfl) (fun X C E hin9 => ?_)
  have C : zC X l D cI { frames := 0, cells := 0, slots := 0, locals := 0 } 1 true cX1_clear RX1 wsX1_clear := C
  refine zg_cv (lv' := [(0, .ref p0)]) rfl rfl rfl ?_
  refine zg_aload_n C 0 dX1_clear_0 rfl ?_
  refine zg_iconst (v := nI 0) C dX1_clear_1 (by decide) ?_
  refine zg_put C 0 (ci := 1) (f := 1) (ws' := [(p0, .inr (1, [.ref g0, .int (nI 0)])), (g0, .inl (cI, 56, .inl pg))]) rfl rfl uX1_clear_1 tyX1_ok nmX1 (by decide) fX1_clear_1_1 rfl rfl rfl rfl (Nat.le_of_ble_eq_true rfl) dX1_clear_2 rfl ?_
  exact zg_wvret C E dX1_clear_5 (⟨rfl, rfl⟩)
theorem uX1_letterAt_1 : ∀ w ∈ u_ws RX1 TX1 2, w ∈ wsX1_letterAt := fun w h => List.mem_cons_of_mem _ (List.mem_append_right _ h)
theorem fX1_letterAt_1_0 : Cond.fieldLink RX1 9 (TX1 0).1 (TX1 0).2.1 (TX1 0).2.2.1 ∈ wsX1_letterAt := by decide +kernel
set_option maxHeartbeats 1000000 in
set_option maxRecDepth 100000 in
theorem c_X1_letterAt (l : Launch) (D : va_G) (cI : ClassId) (p0 g0 : Nat) (pg : Nat → Int32) (pn : Nat) (i : Nat) (hi : i < 56) : zMr l D cI yX1_letterAt wsX1_letterAt { frames := 0, cells := 0, slots := 0, locals := 0 } [.ref p0, .int (nI i)] [(p0, .inr (1, [.ref g0, .int (nI pn)])), (g0, .inl (cI, 56, .inl pg))] (pg i) := by
  refine zr_ent (maxL := 2) (by decide) rfl (Nat.le_of_ble_eq_true rfl) (fun X C E => ?_)
  have C : zC X l D cI { frames := 0, cells := 0, slots := 0, locals := 0 } 2 false cX1_letterAt RX1 wsX1_letterAt := C
  refine zg_cv (lv' := [(0, .ref p0), (1, .int (nI i))]) rfl rfl rfl ?_
  refine zg_iload_n C 1 dX1_letterAt_0 rfl ?_
  refine zn_if_lt C 22 (by omega) dX1_letterAt_1 (by decide) ?_
  refine zg_iload_n C 1 dX1_letterAt_4 rfl ?_
  refine zg_aload_n C 0 dX1_letterAt_5 rfl ?_
  refine zg_get C 0 (ci := 1) (f := 0) rfl rfl uX1_letterAt_1 (by decide) fX1_letterAt_1_0 dX1_letterAt_6 rfl ?_
  refine zg_alen C 1 rfl dX1_letterAt_9 ?_
  refine zn_icmp_ge C 22 (by omega) (by omega) dX1_letterAt_10 (by decide) (fun c_10 => by omega) (fun c_10 => ?_)
  refine zg_aload_n C 0 dX1_letterAt_13 rfl ?_
  refine zg_get C 0 (ci := 1) (f := 0) rfl rfl uX1_letterAt_1 (by decide) fX1_letterAt_1_0 dX1_letterAt_14 rfl ?_
  refine zg_iload_n C 1 dX1_letterAt_17 rfl ?_
  refine zg_iald C 1 rfl (by omega) (by decide) dX1_letterAt_18 (pg i) (rfl) ?_
  refine zg_goto C 23 dX1_letterAt_19 (by decide) ?_
  exact zg_iret C E dX1_letterAt_23 (rfl)
theorem uX2_start_2 : ∀ w ∈ u_ws RX2 TX2 4, w ∈ wsX2_start := fun w h => List.mem_cons_of_mem _ (List.mem_append_right _ h)
theorem fX2_start_2_0 : Cond.fieldLink RX2 9 (TX2 0).1 (TX2 0).2.1 (TX2 0).2.2.1 ∈ wsX2_start := by decide +kernel
theorem fX2_start_2_1 : Cond.fieldLink RX2 15 (TX2 1).1 (TX2 1).2.1 (TX2 1).2.2.1 ∈ wsX2_start := by decide +kernel
theorem fX2_start_2_2 : Cond.fieldLink RX2 19 (TX2 2).1 (TX2 2).2.1 (TX2 2).2.2.1 ∈ wsX2_start := by decide +kernel
theorem fX2_start_2_3 : Cond.fieldLink RX2 22 (TX2 3).1 (TX2 3).2.1 (TX2 3).2.2.1 ∈ wsX2_start := by decide +kernel
set_option maxHeartbeats 1000000 in
set_option maxRecDepth 100000 in
theorem c_X2_start (l : Launch) (D : va_G) (cI : ClassId) (r0 b0 : Nat) (x1 x2 x3 : Int32) (Qf : Nat → Int32) : zMw l D cI yX2_start wsX2_start { frames := 0, cells := 0, slots := 0, locals := 0 } [.ref r0] [(r0, .inr (2, [.ref b0, .int x1, .int x2, .int x3])), (b0, .inl (cI, 5, .inl Qf))] (fun v9 w9 => v9 = none ∧ w9 = [(r0, .inr (2, [.ref b0, .int (nI 0), .int (nI 0), .int (nI 0)])), (b0, .inl (cI, 5, .inl (fun _ => nI 0)))]) 0 0 := by
  refine zw_ent (maxL := 2) (by decide) rfl (Nat.le_of_ble_eq_true rfl) (fun X C E hin9 => ?_)
  have C : zC X l D cI { frames := 0, cells := 0, slots := 0, locals := 0 } 2 true cX2_start RX2 wsX2_start := C
  refine zg_cv (lv' := [(0, .ref r0)]) rfl rfl rfl ?_
  refine zg_cell 1 (ws' := [(r0, .inr (2, [.ref b0, .int x1, .int x2, .int x3])), (b0, .inl (cI, 5, .inl (fun j => if j < 0 then nI 0 else Qf j)))]) (fun j => if j < 0 then nI 0 else Qf j) rfl (fun j _ => by rw [if_neg (Nat.not_lt_zero j)]) rfl ?_
  refine zg_iconst (v := nI 0) C dX2_start_0 (by decide) ?_
  refine zg_istore_n C [1, 0] (lv' := [(0, .ref r0), (1, .int (nI 0))]) dX2_start_1 (by decide) rfl ?_
  have L_2 : ∀ i, i ≤ 5 → zG X 0 0 [(0, .ref r0), (1, .int (nI i))] [] [(r0, .inr (2, [.ref b0, .int x1, .int x2, .int x3])), (b0, .inl (cI, 5, .inl (fun j => if j < i then nI 0 else Qf j)))] 2 := by
    refine zg_dn (fun i hi ih_2  => ?_)
    refine zg_iload_n C 1 dX2_start_2 rfl ?_
    refine zg_aload_n C 0 dX2_start_3 rfl ?_
    refine zg_get C 0 (ci := 2) (f := 0) rfl rfl uX2_start_2 (by decide) fX2_start_2_0 dX2_start_4 rfl ?_
    refine zg_alen C 1 rfl dX2_start_7 ?_
    refine zn_icmp_ge C 24 (by omega) (by omega) dX2_start_8 (by decide) (fun c_8 => ?_) (fun c_8 => ?_)
    · skip
      have e9_24 : 5 = i := by omega
      subst e9_24
      refine zg_cell 1 (ws' := [(r0, .inr (2, [.ref b0, .int x1, .int x2, .int x3])), (b0, .inl (cI, 5, .inl (fun _ => nI 0)))]) (fun _ => nI 0) rfl (fun j hj => by show (if j < 5 then nI 0 else Qf j) = nI 0; rw [if_pos hj]) rfl ?_
      refine zg_aload_n C 0 dX2_start_24 rfl ?_
      refine zg_iconst (v := nI 0) C dX2_start_25 (by decide) ?_
      refine zg_put C 0 (ci := 2) (f := 1) (ws' := [(r0, .inr (2, [.ref b0, .int (nI 0), .int x2, .int x3])), (b0, .inl (cI, 5, .inl (fun _ => nI 0)))]) rfl rfl uX2_start_2 tyX2_ok nmX2 (by decide) fX2_start_2_1 rfl rfl rfl rfl (Nat.le_of_ble_eq_true rfl) dX2_start_26 rfl ?_
      refine zg_aload_n C 0 dX2_start_29 rfl ?_
      refine zg_iconst (v := nI 0) C dX2_start_30 (by decide) ?_
      refine zg_put C 0 (ci := 2) (f := 2) (ws' := [(r0, .inr (2, [.ref b0, .int (nI 0), .int (nI 0), .int x3])), (b0, .inl (cI, 5, .inl (fun _ => nI 0)))]) rfl rfl uX2_start_2 tyX2_ok nmX2 (by decide) fX2_start_2_2 rfl rfl rfl rfl (Nat.le_of_ble_eq_true rfl) dX2_start_31 rfl ?_
      refine zg_aload_n C 0 dX2_start_34 rfl ?_
      refine zg_iconst (v := nI 0) C dX2_start_35 (by decide) ?_
      refine zg_put C 0 (ci := 2) (f := 3) (ws' := [(r0, .inr (2, [.ref b0, .int (nI 0), .int (nI 0), .int (nI 0)])), (b0, .inl (cI, 5, .inl (fun _ => nI 0)))]) rfl rfl uX2_start_2 tyX2_ok nmX2 (by decide) fX2_start_2_3 rfl rfl rfl rfl (Nat.le_of_ble_eq_true rfl) dX2_start_36 rfl ?_
      exact zg_wvret C E dX2_start_39 (⟨rfl, rfl⟩)
    · skip
      refine zg_aload_n C 0 dX2_start_11 rfl ?_
      refine zg_get C 0 (ci := 2) (f := 0) rfl rfl uX2_start_2 (by decide) fX2_start_2_0 dX2_start_12 rfl ?_
      refine zg_iload_n C 1 dX2_start_15 rfl ?_
      refine zg_iconst (v := nI 0) C dX2_start_16 (by decide) ?_
      refine zg_iast C 1 (ws' := [(r0, .inr (2, [.ref b0, .int x1, .int x2, .int x3])), (b0, .inl (cI, 5, .inl (upd (fun j => if j < i then nI 0 else Qf j) i (nI 0))))]) rfl (by omega) (by decide) dX2_start_17 rfl ?_
      refine zg_cell 1 (ws' := [(r0, .inr (2, [.ref b0, .int x1, .int x2, .int x3])), (b0, .inl (cI, 5, .inl (fun j => if j < (i + 1) then nI 0 else Qf j)))]) (fun j => if j < (i + 1) then nI 0 else Qf j) rfl (fun j _ => zfill j) rfl ?_
      refine zg_iinc C 1 [1, 0] (lv' := [(0, .ref r0), (1, .int (nI (i + 1)))]) (nI (i + 1)) dX2_start_18 rfl (zi_inc _) (by decide) rfl ?_
      refine zg_goto C 2 dX2_start_21 (by decide) ?_
      exact zg_cv (lv' := [(0, .ref r0), (1, .int (nI (i + 1)))]) (rfl) rfl (rfl) (ih_2 (by omega) )
  exact zg_cv (lv' := [(0, .ref r0), (1, .int (nI 0))]) (rfl) rfl (rfl) (L_2 0 (Nat.zero_le _) )
theorem uX2_rowIsWhole_2 : ∀ w ∈ u_ws RX2 TX2 4, w ∈ wsX2_rowIsWhole := fun w h => List.mem_cons_of_mem _ (List.mem_append_right _ h)
theorem fX2_rowIsWhole_2_1 : Cond.fieldLink RX2 15 (TX2 1).1 (TX2 1).2.1 (TX2 1).2.2.1 ∈ wsX2_rowIsWhole := by decide +kernel
theorem fX2_rowIsWhole_2_2 : Cond.fieldLink RX2 19 (TX2 2).1 (TX2 2).2.1 (TX2 2).2.2.1 ∈ wsX2_rowIsWhole := by decide +kernel
theorem fX2_rowIsWhole_2_3 : Cond.fieldLink RX2 22 (TX2 3).1 (TX2 3).2.1 (TX2 3).2.2.1 ∈ wsX2_rowIsWhole := by decide +kernel
set_option maxHeartbeats 1000000 in
set_option maxRecDepth 100000 in
theorem c_X2_rowIsWhole (l : Launch) (D : va_G) (cI : ClassId) (r0 b0 : Nat) (rw sg lg : Nat) (R : Nat → Nat) (hk : zrok (rw, sg, lg, R)) : zMr l D cI yX2_rowIsWhole wsX2_rowIsWhole { frames := 0, cells := 0, slots := 0, locals := 0 } [.ref r0] [(r0, .inr (2, [.ref b0, .int (nI rw), .int (nI sg), .int (nI lg)])), (b0, .inl (cI, 5, .inl (fun j => nI (R j))))] (zb (zwh rw sg lg)) := by
  refine zr_ent (maxL := 1) (by decide) rfl (Nat.le_of_ble_eq_true rfl) (fun X C E => ?_)
  have C : zC X l D cI { frames := 0, cells := 0, slots := 0, locals := 0 } 1 false cX2_rowIsWhole RX2 wsX2_rowIsWhole := C
  refine zg_cv (lv' := [(0, .ref r0)]) rfl rfl rfl ?_
  obtain ⟨k1, k2, k3, k4, k5, k6, k7, k8⟩ := id hk
  refine zg_aload_n C 0 dX2_rowIsWhole_0 rfl ?_
  refine zg_get C 0 (ci := 2) (f := 1) rfl rfl uX2_rowIsWhole_2 (by decide) fX2_rowIsWhole_2_1 dX2_rowIsWhole_1 rfl ?_
  refine zn_if_ne C 23 (by omega) dX2_rowIsWhole_4 (by decide) (fun c_4 => ?_) (fun c_4 => ?_)
  · skip
    refine zg_aload_n C 0 dX2_rowIsWhole_23 rfl ?_
    refine zg_get C 0 (ci := 2) (f := 2) rfl rfl uX2_rowIsWhole_2 (by decide) fX2_rowIsWhole_2_2 dX2_rowIsWhole_24 rfl ?_
    refine zg_aload_n C 0 dX2_rowIsWhole_27 rfl ?_
    refine zg_get C 0 (ci := 2) (f := 3) rfl rfl uX2_rowIsWhole_2 (by decide) fX2_rowIsWhole_2_3 dX2_rowIsWhole_28 rfl ?_
    refine zn_icmp_ne C 38 (by omega) (by omega) dX2_rowIsWhole_31 (by decide) (fun c_31 => ?_) (fun c_31 => ?_)
    · skip
      refine zg_iconst (v := nI 0) C dX2_rowIsWhole_38 (by decide) ?_
      exact zg_zret C E dX2_rowIsWhole_39 (zbF (by rw [zwh, if_neg (by omega), decide_eq_false c_31]))
    · skip
      refine zg_iconst (v := nI 1) C dX2_rowIsWhole_34 (by decide) ?_
      refine zg_goto C 39 dX2_rowIsWhole_35 (by decide) ?_
      exact zg_zret C E dX2_rowIsWhole_39 (zbT (by rw [zwh, if_neg (by omega), decide_eq_true c_31]))
  · skip
    refine zg_aload_n C 0 dX2_rowIsWhole_7 rfl ?_
    refine zg_get C 0 (ci := 2) (f := 2) rfl rfl uX2_rowIsWhole_2 (by decide) fX2_rowIsWhole_2_2 dX2_rowIsWhole_8 rfl ?_
    refine zg_iconst (v := nI 3) C dX2_rowIsWhole_11 (by decide) ?_
    refine zn_icmp_lt C 19 (by omega) (by omega) dX2_rowIsWhole_12 (by decide) (fun c_12 => ?_) (fun c_12 => ?_)
    · skip
      refine zg_iconst (v := nI 0) C dX2_rowIsWhole_19 (by decide) ?_
      refine zg_goto C 39 dX2_rowIsWhole_20 (by decide) ?_
      exact zg_zret C E dX2_rowIsWhole_39 (zbF (by rw [zwh, if_pos c_4, decide_eq_false (by omega)]))
    · skip
      refine zg_iconst (v := nI 1) C dX2_rowIsWhole_15 (by decide) ?_
      refine zg_goto C 39 dX2_rowIsWhole_16 (by decide) ?_
      exact zg_zret C E dX2_rowIsWhole_39 (zbT (by rw [zwh, if_pos c_4, decide_eq_true c_12]))
theorem uX2_rowsRead_2 : ∀ w ∈ u_ws RX2 TX2 4, w ∈ wsX2_rowsRead := fun w h => List.mem_cons_of_mem _ (List.mem_append_right _ h)
theorem fX2_rowsRead_2_1 : Cond.fieldLink RX2 15 (TX2 1).1 (TX2 1).2.1 (TX2 1).2.2.1 ∈ wsX2_rowsRead := by decide +kernel
set_option maxHeartbeats 1000000 in
set_option maxRecDepth 100000 in
theorem c_X2_rowsRead (l : Launch) (D : va_G) (cI : ClassId) (r0 b0 : Nat) (rw sg lg : Nat) (R : Nat → Nat) : zMr l D cI yX2_rowsRead wsX2_rowsRead { frames := 0, cells := 0, slots := 0, locals := 0 } [.ref r0] [(r0, .inr (2, [.ref b0, .int (nI rw), .int (nI sg), .int (nI lg)])), (b0, .inl (cI, 5, .inl (fun j => nI (R j))))] (nI (rw + 1)) := by
  refine zr_ent (maxL := 1) (by decide) rfl (Nat.le_of_ble_eq_true rfl) (fun X C E => ?_)
  have C : zC X l D cI { frames := 0, cells := 0, slots := 0, locals := 0 } 1 false cX2_rowsRead RX2 wsX2_rowsRead := C
  refine zg_cv (lv' := [(0, .ref r0)]) rfl rfl rfl ?_
  refine zg_aload_n C 0 dX2_rowsRead_0 rfl ?_
  refine zg_get C 0 (ci := 2) (f := 1) rfl rfl uX2_rowsRead_2 (by decide) fX2_rowsRead_2_1 dX2_rowsRead_1 rfl ?_
  refine zg_iconst (v := nI 1) C dX2_rowsRead_4 (by decide) ?_
  refine zg_iadd C dX2_rowsRead_5 (nI (rw + 1)) (nI_add _ _) ?_
  exact zg_iret C E dX2_rowsRead_6 (rfl)
theorem uX2_signsOfRow_2 : ∀ w ∈ u_ws RX2 TX2 4, w ∈ wsX2_signsOfRow := fun w h => List.mem_cons_of_mem _ (List.mem_append_right _ h)
theorem fX2_signsOfRow_2_2 : Cond.fieldLink RX2 19 (TX2 2).1 (TX2 2).2.1 (TX2 2).2.2.1 ∈ wsX2_signsOfRow := by decide +kernel
set_option maxHeartbeats 1000000 in
set_option maxRecDepth 100000 in
theorem c_X2_signsOfRow (l : Launch) (D : va_G) (cI : ClassId) (r0 b0 : Nat) (rw sg lg : Nat) (R : Nat → Nat) : zMr l D cI yX2_signsOfRow wsX2_signsOfRow { frames := 0, cells := 0, slots := 0, locals := 0 } [.ref r0] [(r0, .inr (2, [.ref b0, .int (nI rw), .int (nI sg), .int (nI lg)])), (b0, .inl (cI, 5, .inl (fun j => nI (R j))))] (nI sg) := by
  refine zr_ent (maxL := 1) (by decide) rfl (Nat.le_of_ble_eq_true rfl) (fun X C E => ?_)
  have C : zC X l D cI { frames := 0, cells := 0, slots := 0, locals := 0 } 1 false cX2_signsOfRow RX2 wsX2_signsOfRow := C
  refine zg_cv (lv' := [(0, .ref r0)]) rfl rfl rfl ?_
  refine zg_aload_n C 0 dX2_signsOfRow_0 rfl ?_
  refine zg_get C 0 (ci := 2) (f := 2) rfl rfl uX2_signsOfRow_2 (by decide) fX2_signsOfRow_2_2 dX2_signsOfRow_1 rfl ?_
  exact zg_iret C E dX2_signsOfRow_4 (rfl)
theorem uX2_rowAt_2 : ∀ w ∈ u_ws RX2 TX2 4, w ∈ wsX2_rowAt := fun w h => List.mem_cons_of_mem _ (List.mem_append_right _ h)
theorem fX2_rowAt_2_0 : Cond.fieldLink RX2 9 (TX2 0).1 (TX2 0).2.1 (TX2 0).2.2.1 ∈ wsX2_rowAt := by decide +kernel
set_option maxHeartbeats 1000000 in
set_option maxRecDepth 100000 in
theorem c_X2_rowAt (l : Launch) (D : va_G) (cI : ClassId) (r0 b0 : Nat) (rw sg lg : Nat) (R : Nat → Nat) (i : Nat) (hi : i < 5) : zMr l D cI yX2_rowAt wsX2_rowAt { frames := 0, cells := 0, slots := 0, locals := 0 } [.ref r0, .int (nI i)] [(r0, .inr (2, [.ref b0, .int (nI rw), .int (nI sg), .int (nI lg)])), (b0, .inl (cI, 5, .inl (fun j => nI (R j))))] (nI (R i)) := by
  refine zr_ent (maxL := 2) (by decide) rfl (Nat.le_of_ble_eq_true rfl) (fun X C E => ?_)
  have C : zC X l D cI { frames := 0, cells := 0, slots := 0, locals := 0 } 2 false cX2_rowAt RX2 wsX2_rowAt := C
  refine zg_cv (lv' := [(0, .ref r0), (1, .int (nI i))]) rfl rfl rfl ?_
  refine zg_iload_n C 1 dX2_rowAt_0 rfl ?_
  refine zn_if_lt C 22 (by omega) dX2_rowAt_1 (by decide) ?_
  refine zg_iload_n C 1 dX2_rowAt_4 rfl ?_
  refine zg_aload_n C 0 dX2_rowAt_5 rfl ?_
  refine zg_get C 0 (ci := 2) (f := 0) rfl rfl uX2_rowAt_2 (by decide) fX2_rowAt_2_0 dX2_rowAt_6 rfl ?_
  refine zg_alen C 1 rfl dX2_rowAt_9 ?_
  refine zn_icmp_ge C 22 (by omega) (by omega) dX2_rowAt_10 (by decide) (fun c_10 => by omega) (fun c_10 => ?_)
  refine zg_aload_n C 0 dX2_rowAt_13 rfl ?_
  refine zg_get C 0 (ci := 2) (f := 0) rfl rfl uX2_rowAt_2 (by decide) fX2_rowAt_2_0 dX2_rowAt_14 rfl ?_
  refine zg_iload_n C 1 dX2_rowAt_17 rfl ?_
  refine zg_iald C 1 rfl (by omega) (by decide) dX2_rowAt_18 (nI (R i)) (rfl) ?_
  refine zg_goto C 23 dX2_rowAt_19 (by decide) ?_
  exact zg_iret C E dX2_rowAt_23 (rfl)
theorem uX2_takesEndOfRow_2 : ∀ w ∈ u_ws RX2 TX2 4, w ∈ wsX2_takesEndOfRow := fun w h => List.mem_cons_of_mem _ (List.mem_append_right _ h)
theorem fX2_takesEndOfRow_2_1 : Cond.fieldLink RX2 15 (TX2 1).1 (TX2 1).2.1 (TX2 1).2.2.1 ∈ wsX2_takesEndOfRow := by decide +kernel
theorem fX2_takesEndOfRow_2_2 : Cond.fieldLink RX2 19 (TX2 2).1 (TX2 2).2.1 (TX2 2).2.2.1 ∈ wsX2_takesEndOfRow := by decide +kernel
theorem fX2_takesEndOfRow_2_3 : Cond.fieldLink RX2 22 (TX2 3).1 (TX2 3).2.1 (TX2 3).2.2.1 ∈ wsX2_takesEndOfRow := by decide +kernel
set_option maxHeartbeats 1000000 in
set_option maxRecDepth 100000 in
theorem c_X2_takesEndOfRow (l : Launch) (D : va_G) (cI : ClassId) (r0 b0 : Nat) (rw sg lg : Nat) (R : Nat → Nat) (hk : zrok (rw, sg, lg, R)) : zMw l D cI yX2_takesEndOfRow wsX2_takesEndOfRow { frames := 1, cells := 0, slots := 0, locals := 20 } [.ref r0] [(r0, .inr (2, [.ref b0, .int (nI rw), .int (nI sg), .int (nI lg)])), (b0, .inl (cI, 5, .inl (fun j => nI (R j))))] (fun v9 w9 => v9 = some (.int (zb ((zeor rw sg lg R).isSome))) ∧ w9 = [(r0, .inr (2, [.ref b0, .int (nI (((zeor rw sg lg R).getD (rw, sg, lg, R)).1)), .int (nI (((zeor rw sg lg R).getD (rw, sg, lg, R)).2.1)), .int (nI (((zeor rw sg lg R).getD (rw, sg, lg, R)).2.2.1))])), (b0, .inl (cI, 5, .inl (fun j => nI (((zeor rw sg lg R).getD (rw, sg, lg, R)).2.2.2 j))))]) 0 0 := by
  refine zw_ent (maxL := 1) (by decide) rfl (Nat.le_of_ble_eq_true rfl) (fun X C E hin9 => ?_)
  have C : zC X l D cI { frames := 1, cells := 0, slots := 0, locals := 20 } 1 true cX2_takesEndOfRow RX2 wsX2_takesEndOfRow := C
  refine zg_cv (lv' := [(0, .ref r0)]) rfl rfl rfl ?_
  obtain ⟨k1, k2, k3, k4, k5, k6, k7, k8⟩ := id hk
  refine zg_aload_n C 0 dX2_takesEndOfRow_0 rfl ?_
  refine zg_callr (As := []) (st := []) C [0, 1] 0 0 (c_X2_rowIsWhole l D cI r0 b0 rw sg lg R hk) gX2_takesEndOfRow_X2_rowIsWhole (by decide +kernel) rfl ⟨rfl, rfl⟩ ⟨Nat.le_of_ble_eq_true rfl, Nat.le_of_ble_eq_true rfl⟩ rfl (ci := 2) rfl rfl rfl rfl (Nat.le_of_ble_eq_true rfl) ⟨Nat.le_of_ble_eq_true rfl, Nat.le_of_ble_eq_true rfl⟩ dX2_takesEndOfRow_1 ?_
  refine zb_if_eq C 15 dX2_takesEndOfRow_4 (by decide) (fun c_4 => ?_) (fun c_4 => ?_)
  · skip
    refine zg_iconst (v := nI 0) C dX2_takesEndOfRow_15 (by decide) ?_
    exact zg_wzret C ((zeor rw sg lg R).isSome) E dX2_takesEndOfRow_16 (zbF (by rw [show (zeor rw sg lg R) = none from if_neg (fun q => by rw [c_4] at q; cases q.1)]; rfl)) (⟨rfl, by rw [show (zeor rw sg lg R) = none from if_neg (fun q => by rw [c_4] at q; cases q.1)]; rfl⟩)
  · skip
    refine zg_aload_n C 0 dX2_takesEndOfRow_7 rfl ?_
    refine zg_get C 0 (ci := 2) (f := 1) rfl rfl uX2_takesEndOfRow_2 (by decide) fX2_takesEndOfRow_2_1 dX2_takesEndOfRow_8 rfl ?_
    refine zg_iconst (v := nI 4) C dX2_takesEndOfRow_11 (by decide) ?_
    refine zn_icmp_lt C 17 (by omega) (by omega) dX2_takesEndOfRow_12 (by decide) (fun c_12 => ?_) (fun c_12 => ?_)
    · skip
      refine zg_aload_n C 0 dX2_takesEndOfRow_17 rfl ?_
      refine zg_aload_n C 0 dX2_takesEndOfRow_18 rfl ?_
      refine zg_get C 0 (ci := 2) (f := 2) rfl rfl uX2_takesEndOfRow_2 (by decide) fX2_takesEndOfRow_2_2 dX2_takesEndOfRow_19 rfl ?_
      refine zg_put C 0 (ci := 2) (f := 3) (ws' := [(r0, .inr (2, [.ref b0, .int (nI rw), .int (nI sg), .int (nI sg)])), (b0, .inl (cI, 5, .inl (fun j => nI (R j))))]) rfl rfl uX2_takesEndOfRow_2 tyX2_ok nmX2 (by decide) fX2_takesEndOfRow_2_3 rfl rfl rfl rfl (Nat.le_of_ble_eq_true rfl) dX2_takesEndOfRow_22 rfl ?_
      refine zg_aload_n C 0 dX2_takesEndOfRow_25 rfl ?_
      refine zg_dup C dX2_takesEndOfRow_26 rfl ?_
      refine zg_get C 0 (ci := 2) (f := 1) rfl rfl uX2_takesEndOfRow_2 (by decide) fX2_takesEndOfRow_2_1 dX2_takesEndOfRow_27 rfl ?_
      refine zg_iconst (v := nI 1) C dX2_takesEndOfRow_30 (by decide) ?_
      refine zg_iadd C dX2_takesEndOfRow_31 (nI (rw + 1)) (nI_add _ _) ?_
      refine zg_put C 0 (ci := 2) (f := 1) (ws' := [(r0, .inr (2, [.ref b0, .int (nI (rw + 1)), .int (nI sg), .int (nI sg)])), (b0, .inl (cI, 5, .inl (fun j => nI (R j))))]) rfl rfl uX2_takesEndOfRow_2 tyX2_ok nmX2 (by decide) fX2_takesEndOfRow_2_1 rfl rfl rfl rfl (Nat.le_of_ble_eq_true rfl) dX2_takesEndOfRow_32 rfl ?_
      refine zg_aload_n C 0 dX2_takesEndOfRow_35 rfl ?_
      refine zg_iconst (v := nI 0) C dX2_takesEndOfRow_36 (by decide) ?_
      refine zg_put C 0 (ci := 2) (f := 2) (ws' := [(r0, .inr (2, [.ref b0, .int (nI (rw + 1)), .int (nI 0), .int (nI sg)])), (b0, .inl (cI, 5, .inl (fun j => nI (R j))))]) rfl rfl uX2_takesEndOfRow_2 tyX2_ok nmX2 (by decide) fX2_takesEndOfRow_2_2 rfl rfl rfl rfl (Nat.le_of_ble_eq_true rfl) dX2_takesEndOfRow_37 rfl ?_
      refine zg_iconst (v := nI 1) C dX2_takesEndOfRow_40 (by decide) ?_
      exact zg_wzret C ((zeor rw sg lg R).isSome) E dX2_takesEndOfRow_41 (zbT (by rw [show (zeor rw sg lg R) = some (rw + 1, 0, sg, R) from if_pos ⟨c_4, c_12⟩]; rfl)) (⟨rfl, by rw [show (zeor rw sg lg R) = some (rw + 1, 0, sg, R) from if_pos ⟨c_4, c_12⟩]; rfl⟩)
    · skip
      refine zg_iconst (v := nI 0) C dX2_takesEndOfRow_15 (by decide) ?_
      exact zg_wzret C ((zeor rw sg lg R).isSome) E dX2_takesEndOfRow_16 (zbF (by rw [show (zeor rw sg lg R) = none from if_neg (fun q => by omega)]; rfl)) (⟨rfl, by rw [show (zeor rw sg lg R) = none from if_neg (fun q => by omega)]; rfl⟩)
theorem uX2_takesSign_2 : ∀ w ∈ u_ws RX2 TX2 4, w ∈ wsX2_takesSign := fun w h => List.mem_cons_of_mem _ (List.mem_append_right _ h)
theorem fX2_takesSign_2_1 : Cond.fieldLink RX2 15 (TX2 1).1 (TX2 1).2.1 (TX2 1).2.2.1 ∈ wsX2_takesSign := by decide +kernel
theorem fX2_takesSign_2_3 : Cond.fieldLink RX2 22 (TX2 3).1 (TX2 3).2.1 (TX2 3).2.2.1 ∈ wsX2_takesSign := by decide +kernel
theorem fX2_takesSign_2_2 : Cond.fieldLink RX2 19 (TX2 2).1 (TX2 2).2.1 (TX2 2).2.2.1 ∈ wsX2_takesSign := by decide +kernel
theorem fX2_takesSign_2_0 : Cond.fieldLink RX2 9 (TX2 0).1 (TX2 0).2.1 (TX2 0).2.2.1 ∈ wsX2_takesSign := by decide +kernel
set_option maxHeartbeats 1000000 in
set_option maxRecDepth 100000 in
theorem c_X2_takesSign (l : Launch) (D : va_G) (cI : ClassId) (r0 b0 : Nat) (rw sg lg : Nat) (R : Nat → Nat) (b : Nat) (hk : zrok (rw, sg, lg, R)) (hb : b < 2) : zMw l D cI yX2_takesSign wsX2_takesSign { frames := 0, cells := 0, slots := 0, locals := 0 } [.ref r0, .int (nI b)] [(r0, .inr (2, [.ref b0, .int (nI rw), .int (nI sg), .int (nI lg)])), (b0, .inl (cI, 5, .inl (fun j => nI (R j))))] (fun v9 w9 => v9 = some (.int (zb ((zsgn rw sg lg R b).isSome))) ∧ w9 = [(r0, .inr (2, [.ref b0, .int (nI (((zsgn rw sg lg R b).getD (rw, sg, lg, R)).1)), .int (nI (((zsgn rw sg lg R b).getD (rw, sg, lg, R)).2.1)), .int (nI (((zsgn rw sg lg R b).getD (rw, sg, lg, R)).2.2.1))])), (b0, .inl (cI, 5, .inl (fun j => nI (((zsgn rw sg lg R b).getD (rw, sg, lg, R)).2.2.2 j))))]) 0 0 := by
  refine zw_ent (maxL := 3) (by decide) rfl (Nat.le_of_ble_eq_true rfl) (fun X C E hin9 => ?_)
  have C : zC X l D cI { frames := 0, cells := 0, slots := 0, locals := 0 } 3 true cX2_takesSign RX2 wsX2_takesSign := C
  refine zg_cv (lv' := [(0, .ref r0), (1, .int (nI b))]) rfl rfl rfl ?_
  obtain ⟨k1, k2, k3, k4, k5, k6, k7, k8⟩ := id hk
  refine zg_aload_n C 0 dX2_takesSign_0 rfl ?_
  refine zg_get C 0 (ci := 2) (f := 1) rfl rfl uX2_takesSign_2 (by decide) fX2_takesSign_2_1 dX2_takesSign_1 rfl ?_
  refine zn_if_ne C 12 (by omega) dX2_takesSign_4 (by decide) (fun c_4 => ?_) (fun c_4 => ?_)
  · skip
    refine zg_aload_n C 0 dX2_takesSign_12 rfl ?_
    refine zg_get C 0 (ci := 2) (f := 3) rfl rfl uX2_takesSign_2 (by decide) fX2_takesSign_2_3 dX2_takesSign_13 rfl ?_
    refine zg_istore_n C [1, 2, 0] (lv' := [(0, .ref r0), (1, .int (nI b)), (2, .int (nI lg))]) dX2_takesSign_16 (by decide) rfl ?_
    have hm : zmo rw lg = lg := if_neg (by omega)
    refine zg_aload_n C 0 dX2_takesSign_17 rfl ?_
    refine zg_get C 0 (ci := 2) (f := 2) rfl rfl uX2_takesSign_2 (by decide) fX2_takesSign_2_2 dX2_takesSign_18 rfl ?_
    refine zg_iload_n C 2 dX2_takesSign_21 rfl ?_
    refine zn_icmp_ge C 44 (by omega) (by omega) dX2_takesSign_22 (by decide) (fun c_22 => ?_) (fun c_22 => ?_)
    · skip
      refine zg_iconst (v := nI 0) C dX2_takesSign_44 (by decide) ?_
      exact zg_wzret C ((zsgn rw sg lg R b).isSome) E dX2_takesSign_45 (zbF (by rw [show (zsgn rw sg lg R b) = none from if_neg (by omega)]; rfl)) (⟨rfl, by rw [show (zsgn rw sg lg R b) = none from if_neg (by omega)]; rfl⟩)
    · skip
      refine zg_aload_n C 0 dX2_takesSign_25 rfl ?_
      refine zg_get C 0 (ci := 2) (f := 1) rfl rfl uX2_takesSign_2 (by decide) fX2_takesSign_2_1 dX2_takesSign_26 rfl ?_
      refine zn_if_lt C 44 (by omega) dX2_takesSign_29 (by decide) ?_
      refine zg_aload_n C 0 dX2_takesSign_32 rfl ?_
      refine zg_get C 0 (ci := 2) (f := 1) rfl rfl uX2_takesSign_2 (by decide) fX2_takesSign_2_1 dX2_takesSign_33 rfl ?_
      refine zg_aload_n C 0 dX2_takesSign_36 rfl ?_
      refine zg_get C 0 (ci := 2) (f := 0) rfl rfl uX2_takesSign_2 (by decide) fX2_takesSign_2_0 dX2_takesSign_37 rfl ?_
      refine zg_alen C 1 rfl dX2_takesSign_40 ?_
      refine zn_icmp_lt C 46 (by omega) (by omega) dX2_takesSign_41 (by decide) (fun c_41 => ?_) (fun c_41 => by omega)
      refine zg_aload_n C 0 dX2_takesSign_46 rfl ?_
      refine zg_get C 0 (ci := 2) (f := 0) rfl rfl uX2_takesSign_2 (by decide) fX2_takesSign_2_0 dX2_takesSign_47 rfl ?_
      refine zg_aload_n C 0 dX2_takesSign_50 rfl ?_
      refine zg_get C 0 (ci := 2) (f := 1) rfl rfl uX2_takesSign_2 (by decide) fX2_takesSign_2_1 dX2_takesSign_51 rfl ?_
      refine zg_dup2 C dX2_takesSign_54 rfl rfl ?_
      refine zg_iald C 1 rfl (by omega) (by decide) dX2_takesSign_55 (nI (R rw)) (rfl) ?_
      refine zg_iload_n C 1 dX2_takesSign_56 rfl ?_
      refine zg_aload_n C 0 dX2_takesSign_57 rfl ?_
      refine zg_get C 0 (ci := 2) (f := 2) rfl rfl uX2_takesSign_2 (by decide) fX2_takesSign_2_2 dX2_takesSign_58 rfl ?_
      refine zg_ishl C dX2_takesSign_61 (nI (b * 2 ^ sg)) (zi_bsh hb (by omega)) ?_
      refine zg_ior C dX2_takesSign_62 (nI (R rw + b * 2 ^ sg)) ((zi_or _ _).trans (congrArg nI (zor_add k7))) ?_
      refine zg_iast C 1 (ws' := [(r0, .inr (2, [.ref b0, .int (nI rw), .int (nI sg), .int (nI lg)])), (b0, .inl (cI, 5, .inl (upd (fun j => nI (R j)) rw (nI (R rw + b * 2 ^ sg)))))]) rfl (by omega) (by decide) dX2_takesSign_63 rfl ?_
      refine zg_cell 1 (ws' := [(r0, .inr (2, [.ref b0, .int (nI rw), .int (nI sg), .int (nI lg)])), (b0, .inl (cI, 5, .inl (fun j => nI (zset R rw (R rw + b * 2 ^ sg) j))))]) (fun j => nI (zset R rw (R rw + b * 2 ^ sg) j)) rfl (fun j _ => zset_arr (rc := j + 1) (R := R) (fun _ _ => rfl) j (by omega)) rfl ?_
      refine zg_aload_n C 0 dX2_takesSign_64 rfl ?_
      refine zg_dup C dX2_takesSign_65 rfl ?_
      refine zg_get C 0 (ci := 2) (f := 2) rfl rfl uX2_takesSign_2 (by decide) fX2_takesSign_2_2 dX2_takesSign_66 rfl ?_
      refine zg_iconst (v := nI 1) C dX2_takesSign_69 (by decide) ?_
      refine zg_iadd C dX2_takesSign_70 (nI (sg + 1)) (nI_add _ _) ?_
      refine zg_put C 0 (ci := 2) (f := 2) (ws' := [(r0, .inr (2, [.ref b0, .int (nI rw), .int (nI (sg + 1)), .int (nI lg)])), (b0, .inl (cI, 5, .inl (fun j => nI (zset R rw (R rw + b * 2 ^ sg) j))))]) rfl rfl uX2_takesSign_2 tyX2_ok nmX2 (by decide) fX2_takesSign_2_2 rfl rfl rfl rfl (Nat.le_of_ble_eq_true rfl) dX2_takesSign_71 rfl ?_
      refine zg_iconst (v := nI 1) C dX2_takesSign_74 (by decide) ?_
      exact zg_wzret C ((zsgn rw sg lg R b).isSome) E dX2_takesSign_75 (zbT (by rw [show (zsgn rw sg lg R b) = some (rw, sg + 1, lg, zset R rw (R rw + b * 2 ^ sg)) from if_pos (by omega)]; rfl)) (⟨rfl, by rw [show (zsgn rw sg lg R b) = some (rw, sg + 1, lg, zset R rw (R rw + b * 2 ^ sg)) from if_pos (by omega)]; rfl⟩)
  · skip
    refine zg_bipush (v := nI 10) C dX2_takesSign_7 (by decide) ?_
    refine zg_goto C 16 dX2_takesSign_9 (by decide) ?_
    refine zg_istore_n C [1, 2, 0] (lv' := [(0, .ref r0), (1, .int (nI b)), (2, .int (nI 10))]) dX2_takesSign_16 (by decide) rfl ?_
    have hm : zmo rw lg = 10 := if_pos c_4
    refine zg_aload_n C 0 dX2_takesSign_17 rfl ?_
    refine zg_get C 0 (ci := 2) (f := 2) rfl rfl uX2_takesSign_2 (by decide) fX2_takesSign_2_2 dX2_takesSign_18 rfl ?_
    refine zg_iload_n C 2 dX2_takesSign_21 rfl ?_
    refine zn_icmp_ge C 44 (by omega) (by omega) dX2_takesSign_22 (by decide) (fun c_22 => ?_) (fun c_22 => ?_)
    · skip
      refine zg_iconst (v := nI 0) C dX2_takesSign_44 (by decide) ?_
      exact zg_wzret C ((zsgn rw sg lg R b).isSome) E dX2_takesSign_45 (zbF (by rw [show (zsgn rw sg lg R b) = none from if_neg (by omega)]; rfl)) (⟨rfl, by rw [show (zsgn rw sg lg R b) = none from if_neg (by omega)]; rfl⟩)
    · skip
      refine zg_aload_n C 0 dX2_takesSign_25 rfl ?_
      refine zg_get C 0 (ci := 2) (f := 1) rfl rfl uX2_takesSign_2 (by decide) fX2_takesSign_2_1 dX2_takesSign_26 rfl ?_
      refine zn_if_lt C 44 (by omega) dX2_takesSign_29 (by decide) ?_
      refine zg_aload_n C 0 dX2_takesSign_32 rfl ?_
      refine zg_get C 0 (ci := 2) (f := 1) rfl rfl uX2_takesSign_2 (by decide) fX2_takesSign_2_1 dX2_takesSign_33 rfl ?_
      refine zg_aload_n C 0 dX2_takesSign_36 rfl ?_
      refine zg_get C 0 (ci := 2) (f := 0) rfl rfl uX2_takesSign_2 (by decide) fX2_takesSign_2_0 dX2_takesSign_37 rfl ?_
      refine zg_alen C 1 rfl dX2_takesSign_40 ?_
      refine zn_icmp_lt C 46 (by omega) (by omega) dX2_takesSign_41 (by decide) (fun c_41 => ?_) (fun c_41 => by omega)
      refine zg_aload_n C 0 dX2_takesSign_46 rfl ?_
      refine zg_get C 0 (ci := 2) (f := 0) rfl rfl uX2_takesSign_2 (by decide) fX2_takesSign_2_0 dX2_takesSign_47 rfl ?_
      refine zg_aload_n C 0 dX2_takesSign_50 rfl ?_
      refine zg_get C 0 (ci := 2) (f := 1) rfl rfl uX2_takesSign_2 (by decide) fX2_takesSign_2_1 dX2_takesSign_51 rfl ?_
      refine zg_dup2 C dX2_takesSign_54 rfl rfl ?_
      refine zg_iald C 1 rfl (by omega) (by decide) dX2_takesSign_55 (nI (R rw)) (rfl) ?_
      refine zg_iload_n C 1 dX2_takesSign_56 rfl ?_
      refine zg_aload_n C 0 dX2_takesSign_57 rfl ?_
      refine zg_get C 0 (ci := 2) (f := 2) rfl rfl uX2_takesSign_2 (by decide) fX2_takesSign_2_2 dX2_takesSign_58 rfl ?_
      refine zg_ishl C dX2_takesSign_61 (nI (b * 2 ^ sg)) (zi_bsh hb (by omega)) ?_
      refine zg_ior C dX2_takesSign_62 (nI (R rw + b * 2 ^ sg)) ((zi_or _ _).trans (congrArg nI (zor_add k7))) ?_
      refine zg_iast C 1 (ws' := [(r0, .inr (2, [.ref b0, .int (nI rw), .int (nI sg), .int (nI lg)])), (b0, .inl (cI, 5, .inl (upd (fun j => nI (R j)) rw (nI (R rw + b * 2 ^ sg)))))]) rfl (by omega) (by decide) dX2_takesSign_63 rfl ?_
      refine zg_cell 1 (ws' := [(r0, .inr (2, [.ref b0, .int (nI rw), .int (nI sg), .int (nI lg)])), (b0, .inl (cI, 5, .inl (fun j => nI (zset R rw (R rw + b * 2 ^ sg) j))))]) (fun j => nI (zset R rw (R rw + b * 2 ^ sg) j)) rfl (fun j _ => zset_arr (rc := j + 1) (R := R) (fun _ _ => rfl) j (by omega)) rfl ?_
      refine zg_aload_n C 0 dX2_takesSign_64 rfl ?_
      refine zg_dup C dX2_takesSign_65 rfl ?_
      refine zg_get C 0 (ci := 2) (f := 2) rfl rfl uX2_takesSign_2 (by decide) fX2_takesSign_2_2 dX2_takesSign_66 rfl ?_
      refine zg_iconst (v := nI 1) C dX2_takesSign_69 (by decide) ?_
      refine zg_iadd C dX2_takesSign_70 (nI (sg + 1)) (nI_add _ _) ?_
      refine zg_put C 0 (ci := 2) (f := 2) (ws' := [(r0, .inr (2, [.ref b0, .int (nI rw), .int (nI (sg + 1)), .int (nI lg)])), (b0, .inl (cI, 5, .inl (fun j => nI (zset R rw (R rw + b * 2 ^ sg) j))))]) rfl rfl uX2_takesSign_2 tyX2_ok nmX2 (by decide) fX2_takesSign_2_2 rfl rfl rfl rfl (Nat.le_of_ble_eq_true rfl) dX2_takesSign_71 rfl ?_
      refine zg_iconst (v := nI 1) C dX2_takesSign_74 (by decide) ?_
      exact zg_wzret C ((zsgn rw sg lg R b).isSome) E dX2_takesSign_75 (zbT (by rw [show (zsgn rw sg lg R b) = some (rw, sg + 1, lg, zset R rw (R rw + b * 2 ^ sg)) from if_pos (by omega)]; rfl)) (⟨rfl, by rw [show (zsgn rw sg lg R b) = some (rw, sg + 1, lg, zset R rw (R rw + b * 2 ^ sg)) from if_pos (by omega)]; rfl⟩)
theorem ztab (x : Int32) : x.toInt = 47 ∨ x.toInt = 48 ∨ x.toInt = 49 ∨ (x.toInt < 47 ∨ 49 < x.toInt) := by omega
theorem zst_47 {rw sg lg : Nat} {R : Nat → Nat} {x : Int32} (h : x.toInt = 47) : zstep (rw, sg, lg, R) x = zeor rw sg lg R := if_pos h
theorem zst_48 {rw sg lg : Nat} {R : Nat → Nat} {x : Int32} (h : x.toInt = 48) : zstep (rw, sg, lg, R) x = zsgn rw sg lg R 0 := (if_neg (by omega)).trans (if_pos h)
theorem zst_49 {rw sg lg : Nat} {R : Nat → Nat} {x : Int32} (h : x.toInt = 49) : zstep (rw, sg, lg, R) x = zsgn rw sg lg R 1 := (if_neg (by omega)).trans ((if_neg (by omega)).trans (if_pos h))
theorem zst_no {rw sg lg : Nat} {R : Nat → Nat} {x : Int32} (h : x.toInt < 47 ∨ 49 < x.toInt) : zstep (rw, sg, lg, R) x = none := (if_neg (by omega)).trans ((if_neg (by omega)).trans (if_neg (by omega)))
set_option maxHeartbeats 1000000 in
set_option maxRecDepth 100000 in
theorem c_X2_takes (l : Launch) (D : va_G) (cI : ClassId) (r0 b0 : Nat) (rw sg lg : Nat) (R : Nat → Nat) (x : Int32) (hk : zrok (rw, sg, lg, R)) : zMw l D cI yX2_takes wsX2_takes { frames := 2, cells := 0, slots := 0, locals := 40 } [.ref r0, .int x] [(r0, .inr (2, [.ref b0, .int (nI rw), .int (nI sg), .int (nI lg)])), (b0, .inl (cI, 5, .inl (fun j => nI (R j))))] (fun v9 w9 => v9 = some (.int (zb ((zstep (rw, sg, lg, R) x).isSome))) ∧ w9 = [(r0, .inr (2, [.ref b0, .int (nI (((zstep (rw, sg, lg, R) x).getD (rw, sg, lg, R)).1)), .int (nI (((zstep (rw, sg, lg, R) x).getD (rw, sg, lg, R)).2.1)), .int (nI (((zstep (rw, sg, lg, R) x).getD (rw, sg, lg, R)).2.2.1))])), (b0, .inl (cI, 5, .inl (fun j => nI (((zstep (rw, sg, lg, R) x).getD (rw, sg, lg, R)).2.2.2 j))))]) 0 0 := by
  refine zw_ent (maxL := 2) (by decide) rfl (Nat.le_of_ble_eq_true rfl) (fun X C E hin9 => ?_)
  have C : zC X l D cI { frames := 2, cells := 0, slots := 0, locals := 40 } 2 true cX2_takes RX2 wsX2_takes := C
  refine zg_cv (lv' := [(0, .ref r0), (1, .int x)]) rfl rfl rfl ?_
  refine zg_iload_n C 1 dX2_takes_0 rfl ?_
  rcases ztab x with h | h | h | h
  · skip
    refine zg_tabIn (off := 27) C 28 dX2_takes_1 (by rw [h]; decide) (by rw [h]; decide) (by rw [h]; rfl) (by decide) ?_
    refine zg_aload_n C 0 dX2_takes_28 rfl ?_
    refine zg_callw (As := []) (st := []) (wo := []) C [0, 1] [] 0 0 (c_X2_takesEndOfRow l D cI r0 b0 rw sg lg R hk) gX2_takes_X2_takesEndOfRow (by decide +kernel) rfl ⟨rfl, rfl⟩ ⟨Nat.le_of_ble_eq_true rfl, Nat.le_of_ble_eq_true rfl⟩ rfl rfl rfl rfl (by decide) (ci := 2) rfl rfl rfl rfl (Nat.le_of_ble_eq_true rfl) ⟨Nat.le_of_ble_eq_true rfl, Nat.le_of_ble_eq_true rfl⟩ dX2_takes_29 (fun v9 w9 hw9 => ?_)
    obtain ⟨rfl, rfl⟩ := hw9
    refine zg_cv (k' := 0) (n' := 0) (st' := [.int (zb ((zeor rw sg lg R).isSome))]) (ws' := [(r0, .inr (2, [.ref b0, .int (nI (((zeor rw sg lg R).getD (rw, sg, lg, R)).1)), .int (nI (((zeor rw sg lg R).getD (rw, sg, lg, R)).2.1)), .int (nI (((zeor rw sg lg R).getD (rw, sg, lg, R)).2.2.1))])), (b0, .inl (cI, 5, .inl (fun j => nI (((zeor rw sg lg R).getD (rw, sg, lg, R)).2.2.2 j))))]) rfl rfl rfl ?_
    exact zg_wzret C ((zstep (rw, sg, lg, R) x).isSome) E dX2_takes_32 (by rw [zst_47 h]) (⟨rfl, by rw [zst_47 h]⟩)
  · skip
    refine zg_tabIn (off := 32) C 33 dX2_takes_1 (by rw [h]; decide) (by rw [h]; decide) (by rw [h]; rfl) (by decide) ?_
    refine zg_aload_n C 0 dX2_takes_33 rfl ?_
    refine zg_iconst (v := nI 0) C dX2_takes_34 (by decide) ?_
    refine zg_callw (As := [.int (nI 0)]) (st := []) (wo := []) C [0, 1] [] 0 1 (c_X2_takesSign l D cI r0 b0 rw sg lg R 0 hk (by omega)) gX2_takes_X2_takesSign (by decide +kernel) rfl ⟨rfl, rfl⟩ ⟨Nat.le_of_ble_eq_true rfl, Nat.le_of_ble_eq_true rfl⟩ rfl rfl rfl rfl (by decide) (ci := 2) rfl rfl rfl rfl (Nat.le_of_ble_eq_true rfl) ⟨Nat.le_of_ble_eq_true rfl, Nat.le_of_ble_eq_true rfl⟩ dX2_takes_35 (fun v9 w9 hw9 => ?_)
    obtain ⟨rfl, rfl⟩ := hw9
    refine zg_cv (k' := 0) (n' := 0) (st' := [.int (zb ((zsgn rw sg lg R 0).isSome))]) (ws' := [(r0, .inr (2, [.ref b0, .int (nI (((zsgn rw sg lg R 0).getD (rw, sg, lg, R)).1)), .int (nI (((zsgn rw sg lg R 0).getD (rw, sg, lg, R)).2.1)), .int (nI (((zsgn rw sg lg R 0).getD (rw, sg, lg, R)).2.2.1))])), (b0, .inl (cI, 5, .inl (fun j => nI (((zsgn rw sg lg R 0).getD (rw, sg, lg, R)).2.2.2 j))))]) rfl rfl rfl ?_
    exact zg_wzret C ((zstep (rw, sg, lg, R) x).isSome) E dX2_takes_38 (by rw [zst_48 h]) (⟨rfl, by rw [zst_48 h]⟩)
  · skip
    refine zg_tabIn (off := 38) C 39 dX2_takes_1 (by rw [h]; decide) (by rw [h]; decide) (by rw [h]; rfl) (by decide) ?_
    refine zg_aload_n C 0 dX2_takes_39 rfl ?_
    refine zg_iconst (v := nI 1) C dX2_takes_40 (by decide) ?_
    refine zg_callw (As := [.int (nI 1)]) (st := []) (wo := []) C [0, 1] [] 0 1 (c_X2_takesSign l D cI r0 b0 rw sg lg R 1 hk (by omega)) gX2_takes_X2_takesSign (by decide +kernel) rfl ⟨rfl, rfl⟩ ⟨Nat.le_of_ble_eq_true rfl, Nat.le_of_ble_eq_true rfl⟩ rfl rfl rfl rfl (by decide) (ci := 2) rfl rfl rfl rfl (Nat.le_of_ble_eq_true rfl) ⟨Nat.le_of_ble_eq_true rfl, Nat.le_of_ble_eq_true rfl⟩ dX2_takes_41 (fun v9 w9 hw9 => ?_)
    obtain ⟨rfl, rfl⟩ := hw9
    refine zg_cv (k' := 0) (n' := 0) (st' := [.int (zb ((zsgn rw sg lg R 1).isSome))]) (ws' := [(r0, .inr (2, [.ref b0, .int (nI (((zsgn rw sg lg R 1).getD (rw, sg, lg, R)).1)), .int (nI (((zsgn rw sg lg R 1).getD (rw, sg, lg, R)).2.1)), .int (nI (((zsgn rw sg lg R 1).getD (rw, sg, lg, R)).2.2.1))])), (b0, .inl (cI, 5, .inl (fun j => nI (((zsgn rw sg lg R 1).getD (rw, sg, lg, R)).2.2.2 j))))]) rfl rfl rfl ?_
    exact zg_wzret C ((zstep (rw, sg, lg, R) x).isSome) E dX2_takes_44 (by rw [zst_49 h]) (⟨rfl, by rw [zst_49 h]⟩)
  · skip
    refine zg_tabOut C 45 dX2_takes_1 (h) (by decide) ?_
    refine zg_iconst (v := nI 0) C dX2_takes_45 (by decide) ?_
    exact zg_wzret C ((zstep (rw, sg, lg, R) x).isSome) E dX2_takes_46 (zbF (by rw [show (zstep (rw, sg, lg, R) x) = none from zst_no h]; rfl)) (⟨rfl, by rw [show (zstep (rw, sg, lg, R) x) = none from zst_no h]; rfl⟩)
set_option maxHeartbeats 1000000 in
set_option maxRecDepth 100000 in
theorem c_X2_readAsFarAsItGoes (l : Launch) (D : va_G) (cI : ClassId) (r0 b0 : Nat) (x1 x2 x3 : Int32) (Qf : Nat → Int32) (p0 g0 : Nat) (pg : Nat → Int32) (pn : Nat) (hpn : pn ≤ 56) : zMw l D cI yX2_readAsFarAsItGoes wsX2_readAsFarAsItGoes { frames := 3, cells := 0, slots := 0, locals := 61 } [.ref r0, .ref p0] [(r0, .inr (2, [.ref b0, .int x1, .int x2, .int x3])), (b0, .inl (cI, 5, .inl Qf)), (p0, .inr (1, [.ref g0, .int (nI pn)])), (g0, .inl (cI, 56, .inl pg))] (fun v9 w9 => v9 = some (.int (nI ((zfa pg pn 0 zr0).1))) ∧ w9 = [(r0, .inr (2, [.ref b0, .int (nI ((zfa pg pn 0 zr0).2.1)), .int (nI ((zfa pg pn 0 zr0).2.2.1)), .int (nI ((zfa pg pn 0 zr0).2.2.2.1))])), (b0, .inl (cI, 5, .inl (fun j => nI ((zfa pg pn 0 zr0).2.2.2.2 j)))), (p0, .inr (1, [.ref g0, .int (nI pn)])), (g0, .inl (cI, 56, .inl pg))]) 0 0 := by
  refine zw_ent (maxL := 3) (by decide) rfl (Nat.le_of_ble_eq_true rfl) (fun X C E hin9 => ?_)
  have C : zC X l D cI { frames := 3, cells := 0, slots := 0, locals := 61 } 3 true cX2_readAsFarAsItGoes RX2 wsX2_readAsFarAsItGoes := C
  refine zg_cv (lv' := [(0, .ref r0), (1, .ref p0)]) rfl rfl rfl ?_
  refine zg_aload_n C 0 dX2_readAsFarAsItGoes_0 rfl ?_
  refine zg_callw (As := []) (st := []) (wo := [(p0, .inr (1, [.ref g0, .int (nI pn)])), (g0, .inl (cI, 56, .inl pg))]) C [0, 1] [2, 3] 0 0 (c_X2_start l D cI r0 b0 x1 x2 x3 Qf ) gX2_readAsFarAsItGoes_X2_start (by decide +kernel) rfl ⟨rfl, rfl⟩ ⟨Nat.le_of_ble_eq_true rfl, Nat.le_of_ble_eq_true rfl⟩ rfl rfl rfl rfl (by decide) (ci := 2) rfl rfl rfl rfl (Nat.le_of_ble_eq_true rfl) ⟨Nat.le_of_ble_eq_true rfl, Nat.le_of_ble_eq_true rfl⟩ dX2_readAsFarAsItGoes_1 (fun v9 w9 hw9 => ?_)
  obtain ⟨rfl, rfl⟩ := hw9
  refine zg_cv (k' := 0) (n' := 0) (st' := []) (ws' := [(p0, .inr (1, [.ref g0, .int (nI pn)])), (g0, .inl (cI, 56, .inl pg)), (r0, .inr (2, [.ref b0, .int (nI 0), .int (nI 0), .int (nI 0)])), (b0, .inl (cI, 5, .inl (fun _ => nI 0)))]) rfl rfl rfl ?_
  refine zg_perm [2, 3, 0, 1] (ws' := [(r0, .inr (2, [.ref b0, .int (nI 0), .int (nI 0), .int (nI 0)])), (b0, .inl (cI, 5, .inl (fun _ => nI 0))), (p0, .inr (1, [.ref g0, .int (nI pn)])), (g0, .inl (cI, 56, .inl pg))]) rfl rfl ?_
  refine zg_iconst (v := nI 0) C dX2_readAsFarAsItGoes_4 (by decide) ?_
  refine zg_istore_n C [1, 2, 0] (lv' := [(0, .ref r0), (1, .ref p0), (2, .int (nI 0))]) dX2_readAsFarAsItGoes_5 (by decide) rfl ?_
  have L_6 : ∀ i, i ≤ pn → ∀ (rw sg lg : Nat) (R : Nat → Nat), (zrok (rw, sg, lg, R)) → (zfa pg (pn - i) i (rw, sg, lg, R) = zfa pg pn 0 zr0) → zG X 0 0 [(0, .ref r0), (1, .ref p0), (2, .int (nI i))] [] [(r0, .inr (2, [.ref b0, .int (nI rw), .int (nI sg), .int (nI lg)])), (b0, .inl (cI, 5, .inl (fun j => nI (R j)))), (p0, .inr (1, [.ref g0, .int (nI pn)])), (g0, .inl (cI, 56, .inl pg))] 6 := by
    refine zg_dn (fun i hi ih_6 rw sg lg R hk hz => ?_)
    refine zg_iload_n C 2 dX2_readAsFarAsItGoes_6 rfl ?_
    refine zg_aload_n C 1 dX2_readAsFarAsItGoes_7 rfl ?_
    refine zg_callr (As := []) (st := [.int (nI i)]) C [2, 3] 2 0 (c_X1_size l D cI p0 g0 pg pn ) gX2_readAsFarAsItGoes_X1_size (by decide +kernel) rfl ⟨rfl, rfl⟩ ⟨Nat.le_of_ble_eq_true rfl, Nat.le_of_ble_eq_true rfl⟩ rfl (ci := 1) rfl rfl rfl rfl (Nat.le_of_ble_eq_true rfl) ⟨Nat.le_of_ble_eq_true rfl, Nat.le_of_ble_eq_true rfl⟩ dX2_readAsFarAsItGoes_8 ?_
    refine zn_icmp_ge C 34 (by omega) (by omega) dX2_readAsFarAsItGoes_11 (by decide) (fun c_11 => ?_) (fun c_11 => ?_)
    · skip
      refine zg_aload_n C 1 dX2_readAsFarAsItGoes_34 rfl ?_
      refine zg_callr (As := []) (st := []) C [2, 3] 2 0 (c_X1_size l D cI p0 g0 pg pn ) gX2_readAsFarAsItGoes_X1_size (by decide +kernel) rfl ⟨rfl, rfl⟩ ⟨Nat.le_of_ble_eq_true rfl, Nat.le_of_ble_eq_true rfl⟩ rfl (ci := 1) rfl rfl rfl rfl (Nat.le_of_ble_eq_true rfl) ⟨Nat.le_of_ble_eq_true rfl, Nat.le_of_ble_eq_true rfl⟩ dX2_readAsFarAsItGoes_35 ?_
      exact zg_wiret C E dX2_readAsFarAsItGoes_38 (⟨by rw [← hz, zfa_end (by omega), show i = pn by omega], by rw [← hz, zfa_end (by omega)]⟩)
    · skip
      refine zg_aload_n C 0 dX2_readAsFarAsItGoes_14 rfl ?_
      refine zg_aload_n C 1 dX2_readAsFarAsItGoes_15 rfl ?_
      refine zg_iload_n C 2 dX2_readAsFarAsItGoes_16 rfl ?_
      refine zg_callr (As := [.int (nI i)]) (st := [.ref r0]) C [2, 3] 2 1 (c_X1_letterAt l D cI p0 g0 pg pn i (by omega)) gX2_readAsFarAsItGoes_X1_letterAt (by decide +kernel) rfl ⟨rfl, rfl⟩ ⟨Nat.le_of_ble_eq_true rfl, Nat.le_of_ble_eq_true rfl⟩ rfl (ci := 1) rfl rfl rfl rfl (Nat.le_of_ble_eq_true rfl) ⟨Nat.le_of_ble_eq_true rfl, Nat.le_of_ble_eq_true rfl⟩ dX2_readAsFarAsItGoes_17 ?_
      refine zg_callw (As := [.int (pg i)]) (st := []) (wo := [(p0, .inr (1, [.ref g0, .int (nI pn)])), (g0, .inl (cI, 56, .inl pg))]) C [0, 1] [2, 3] 0 1 (c_X2_takes l D cI r0 b0 rw sg lg R (pg i) (by omega)) gX2_readAsFarAsItGoes_X2_takes (by decide +kernel) rfl ⟨rfl, rfl⟩ ⟨Nat.le_of_ble_eq_true rfl, Nat.le_of_ble_eq_true rfl⟩ rfl rfl rfl rfl (by decide) (ci := 2) rfl rfl rfl rfl (Nat.le_of_ble_eq_true rfl) ⟨Nat.le_of_ble_eq_true rfl, Nat.le_of_ble_eq_true rfl⟩ dX2_readAsFarAsItGoes_20 (fun v9 w9 hw9 => ?_)
      obtain ⟨rfl, rfl⟩ := hw9
      refine zg_cv (k' := 0) (n' := 0) (st' := [.int (zb ((zstep (rw, sg, lg, R) (pg i)).isSome))]) (ws' := [(p0, .inr (1, [.ref g0, .int (nI pn)])), (g0, .inl (cI, 56, .inl pg)), (r0, .inr (2, [.ref b0, .int (nI (((zstep (rw, sg, lg, R) (pg i)).getD (rw, sg, lg, R)).1)), .int (nI (((zstep (rw, sg, lg, R) (pg i)).getD (rw, sg, lg, R)).2.1)), .int (nI (((zstep (rw, sg, lg, R) (pg i)).getD (rw, sg, lg, R)).2.2.1))])), (b0, .inl (cI, 5, .inl (fun j => nI (((zstep (rw, sg, lg, R) (pg i)).getD (rw, sg, lg, R)).2.2.2 j))))]) rfl rfl rfl ?_
      refine zg_perm [2, 3, 0, 1] (ws' := [(r0, .inr (2, [.ref b0, .int (nI (((zstep (rw, sg, lg, R) (pg i)).getD (rw, sg, lg, R)).1)), .int (nI (((zstep (rw, sg, lg, R) (pg i)).getD (rw, sg, lg, R)).2.1)), .int (nI (((zstep (rw, sg, lg, R) (pg i)).getD (rw, sg, lg, R)).2.2.1))])), (b0, .inl (cI, 5, .inl (fun j => nI (((zstep (rw, sg, lg, R) (pg i)).getD (rw, sg, lg, R)).2.2.2 j)))), (p0, .inr (1, [.ref g0, .int (nI pn)])), (g0, .inl (cI, 56, .inl pg))]) rfl rfl ?_
      refine zb_if_ne C 28 dX2_readAsFarAsItGoes_23 (by decide) (fun c_23 => ?_) (fun c_23 => ?_)
      · skip
        obtain ⟨⟨u1, u2, u3, u4⟩, hs⟩ := Option.isSome_iff_exists.mp c_23
        refine zg_cell 1 (ws' := [(r0, .inr (2, [.ref b0, .int (nI (((zstep (rw, sg, lg, R) (pg i)).getD (rw, sg, lg, R)).1)), .int (nI (((zstep (rw, sg, lg, R) (pg i)).getD (rw, sg, lg, R)).2.1)), .int (nI (((zstep (rw, sg, lg, R) (pg i)).getD (rw, sg, lg, R)).2.2.1))])), (b0, .inl (cI, 5, .inl (fun j => nI (u4 j)))), (p0, .inr (1, [.ref g0, .int (nI pn)])), (g0, .inl (cI, 56, .inl pg))]) (fun j => nI (u4 j)) rfl (fun j _ => by rw [show (zstep (rw, sg, lg, R) (pg i)).getD (rw, sg, lg, R) = (u1, u2, u3, u4) from (by rw [hs]; rfl)]) rfl ?_
        refine zg_cv (ws' := [(r0, .inr (2, [.ref b0, .int (nI u1), .int (nI (((zstep (rw, sg, lg, R) (pg i)).getD (rw, sg, lg, R)).2.1)), .int (nI (((zstep (rw, sg, lg, R) (pg i)).getD (rw, sg, lg, R)).2.2.1))])), (b0, .inl (cI, 5, .inl (fun j => nI (u4 j)))), (p0, .inr (1, [.ref g0, .int (nI pn)])), (g0, .inl (cI, 56, .inl pg))]) rfl rfl (by rw [show ((zstep (rw, sg, lg, R) (pg i)).getD (rw, sg, lg, R)).1 = u1 from (by rw [hs]; rfl)]) ?_
        refine zg_cv (ws' := [(r0, .inr (2, [.ref b0, .int (nI u1), .int (nI u2), .int (nI (((zstep (rw, sg, lg, R) (pg i)).getD (rw, sg, lg, R)).2.2.1))])), (b0, .inl (cI, 5, .inl (fun j => nI (u4 j)))), (p0, .inr (1, [.ref g0, .int (nI pn)])), (g0, .inl (cI, 56, .inl pg))]) rfl rfl (by rw [show ((zstep (rw, sg, lg, R) (pg i)).getD (rw, sg, lg, R)).2.1 = u2 from (by rw [hs]; rfl)]) ?_
        refine zg_cv (ws' := [(r0, .inr (2, [.ref b0, .int (nI u1), .int (nI u2), .int (nI u3)])), (b0, .inl (cI, 5, .inl (fun j => nI (u4 j)))), (p0, .inr (1, [.ref g0, .int (nI pn)])), (g0, .inl (cI, 56, .inl pg))]) rfl rfl (by rw [show ((zstep (rw, sg, lg, R) (pg i)).getD (rw, sg, lg, R)).2.2.1 = u3 from (by rw [hs]; rfl)]) ?_
        refine zg_iinc C 2 [1, 2, 0] (lv' := [(0, .ref r0), (1, .ref p0), (2, .int (nI (i + 1)))]) (nI (i + 1)) dX2_readAsFarAsItGoes_28 rfl (zi_inc _) (by decide) rfl ?_
        refine zg_goto C 6 dX2_readAsFarAsItGoes_31 (by decide) ?_
        exact zg_cv (lv' := [(0, .ref r0), (1, .ref p0), (2, .int (nI (i + 1)))]) (rfl) rfl (rfl) (ih_6 (by omega) u1 u2 u3 u4 (zrok_step hk hs) ((zfa_yes (by omega) hs).symm.trans hz))
      · skip
        refine zg_iload_n C 2 dX2_readAsFarAsItGoes_26 rfl ?_
        exact zg_wiret C E dX2_readAsFarAsItGoes_27 (⟨by rw [← hz, zfa_no (by omega) (Option.not_isSome_iff_eq_none.mp (by rw [c_23]; decide))], by rw [← hz, zfa_no (by omega) (Option.not_isSome_iff_eq_none.mp (by rw [c_23]; decide)), Option.not_isSome_iff_eq_none.mp (show ¬ (zstep (rw, sg, lg, R) (pg i)).isSome = true from by rw [c_23]; decide)]; rfl⟩)
  exact zg_cv (lv' := [(0, .ref r0), (1, .ref p0), (2, .int (nI 0))]) (rfl) rfl (rfl) (L_6 0 (Nat.zero_le _) 0 0 0 (fun _ => 0) (zrok_0) (rfl))
theorem uX4_sumsRead_4 : ∀ w ∈ u_ws RX4 TX4 4, w ∈ wsX4_sumsRead := fun w h => List.mem_cons_of_mem _ (List.mem_append_right _ h)
theorem fX4_sumsRead_4_3 : Cond.fieldLink RX4 22 (TX4 3).1 (TX4 3).2.1 (TX4 3).2.2.1 ∈ wsX4_sumsRead := by decide +kernel
set_option maxHeartbeats 1000000 in
set_option maxRecDepth 100000 in
theorem c_X4_sumsRead (l : Launch) (D : va_G) (cI : ClassId) (t0 v0 : Nat) (V : Nat → Int32) (bs bp sr : Int32) : zMw l D cI yX4_sumsRead wsX4_sumsRead { frames := 0, cells := 0, slots := 0, locals := 0 } [.ref t0] [(t0, .inr (4, [.ref v0, .int bs, .int bp, .int sr])), (v0, .inl (cI, 4, .inl V))] (fun v9 w9 => v9 = none ∧ w9 = [(t0, .inr (4, [.ref v0, .int bs, .int bp, .int (sr + nI 1)])), (v0, .inl (cI, 4, .inl V))]) 0 0 := by
  refine zw_ent (maxL := 1) (by decide) rfl (Nat.le_of_ble_eq_true rfl) (fun X C E hin9 => ?_)
  have C : zC X l D cI { frames := 0, cells := 0, slots := 0, locals := 0 } 1 true cX4_sumsRead RX4 wsX4_sumsRead := C
  refine zg_cv (lv' := [(0, .ref t0)]) rfl rfl rfl ?_
  refine zg_aload_n C 0 dX4_sumsRead_0 rfl ?_
  refine zg_dup C dX4_sumsRead_1 rfl ?_
  refine zg_get C 0 (ci := 4) (f := 3) rfl rfl uX4_sumsRead_4 (by decide) fX4_sumsRead_4_3 dX4_sumsRead_2 rfl ?_
  refine zg_iconst (v := nI 1) C dX4_sumsRead_5 (by decide) ?_
  refine zg_iadd C dX4_sumsRead_6 (sr + (nI 1)) (rfl) ?_
  refine zg_put C 0 (ci := 4) (f := 3) (ws' := [(t0, .inr (4, [.ref v0, .int bs, .int bp, .int (sr + (nI 1))])), (v0, .inl (cI, 4, .inl V))]) rfl rfl uX4_sumsRead_4 tyX4_ok nmX4 (by decide) fX4_sumsRead_4_3 rfl rfl rfl rfl (Nat.le_of_ble_eq_true rfl) dX4_sumsRead_7 rfl ?_
  exact zg_wvret C E dX4_sumsRead_10 (⟨rfl, rfl⟩)
theorem uX4_sentPlain_4 : ∀ w ∈ u_ws RX4 TX4 4, w ∈ wsX4_sentPlain := fun w h => List.mem_cons_of_mem _ (List.mem_append_right _ h)
theorem fX4_sentPlain_4_0 : Cond.fieldLink RX4 9 (TX4 0).1 (TX4 0).2.1 (TX4 0).2.2.1 ∈ wsX4_sentPlain := by decide +kernel
theorem fX4_sentPlain_4_1 : Cond.fieldLink RX4 15 (TX4 1).1 (TX4 1).2.1 (TX4 1).2.2.1 ∈ wsX4_sentPlain := by decide +kernel
theorem fX4_sentPlain_4_2 : Cond.fieldLink RX4 19 (TX4 2).1 (TX4 2).2.1 (TX4 2).2.2.1 ∈ wsX4_sentPlain := by decide +kernel
set_option maxHeartbeats 1000000 in
set_option maxRecDepth 100000 in
theorem c_X4_sentPlain (l : Launch) (D : va_G) (cI : ClassId) (t0 v0 : Nat) (V : Nat → Int32) (bs bp sr : Int32) (u ln rk : Nat) (hu : u < 4) : zMw l D cI yX4_sentPlain wsX4_sentPlain { frames := 0, cells := 0, slots := 0, locals := 0 } [.ref t0, .int (nI u), .int (nI ln), .int (nI rk)] [(t0, .inr (4, [.ref v0, .int bs, .int bp, .int sr])), (v0, .inl (cI, 4, .inl V))] (fun v9 w9 => v9 = none ∧ w9 = [(t0, .inr (4, [.ref v0, .int (bs + nI (ln + rk)), .int (bp + nI (2 * ln)), .int sr])), (v0, .inl (cI, 4, .inl (upd V u (V u + nI 1))))]) 0 0 := by
  refine zw_ent (maxL := 4) (by decide) rfl (Nat.le_of_ble_eq_true rfl) (fun X C E hin9 => ?_)
  have C : zC X l D cI { frames := 0, cells := 0, slots := 0, locals := 0 } 4 true cX4_sentPlain RX4 wsX4_sentPlain := C
  refine zg_cv (lv' := [(0, .ref t0), (1, .int (nI u)), (2, .int (nI ln)), (3, .int (nI rk))]) rfl rfl rfl ?_
  refine zg_iload_n C 1 dX4_sentPlain_0 rfl ?_
  refine zn_if_lt C 23 (by omega) dX4_sentPlain_1 (by decide) ?_
  refine zg_iload_n C 1 dX4_sentPlain_4 rfl ?_
  refine zg_aload_n C 0 dX4_sentPlain_5 rfl ?_
  refine zg_get C 0 (ci := 4) (f := 0) rfl rfl uX4_sentPlain_4 (by decide) fX4_sentPlain_4_0 dX4_sentPlain_6 rfl ?_
  refine zg_alen C 1 rfl dX4_sentPlain_9 ?_
  refine zn_icmp_ge C 23 (by omega) (by omega) dX4_sentPlain_10 (by decide) (fun c_10 => by omega) (fun c_10 => ?_)
  refine zg_aload_n C 0 dX4_sentPlain_13 rfl ?_
  refine zg_get C 0 (ci := 4) (f := 0) rfl rfl uX4_sentPlain_4 (by decide) fX4_sentPlain_4_0 dX4_sentPlain_14 rfl ?_
  refine zg_iload_n C 1 dX4_sentPlain_17 rfl ?_
  refine zg_dup2 C dX4_sentPlain_18 rfl rfl ?_
  refine zg_iald C 1 rfl (by omega) (by decide) dX4_sentPlain_19 (V u) (rfl) ?_
  refine zg_iconst (v := nI 1) C dX4_sentPlain_20 (by decide) ?_
  refine zg_iadd C dX4_sentPlain_21 ((V u) + (nI 1)) (rfl) ?_
  refine zg_iast C 1 (ws' := [(t0, .inr (4, [.ref v0, .int bs, .int bp, .int sr])), (v0, .inl (cI, 4, .inl (upd V u ((V u) + (nI 1)))))]) rfl (by omega) (by decide) dX4_sentPlain_22 rfl ?_
  refine zg_aload_n C 0 dX4_sentPlain_23 rfl ?_
  refine zg_dup C dX4_sentPlain_24 rfl ?_
  refine zg_get C 0 (ci := 4) (f := 1) rfl rfl uX4_sentPlain_4 (by decide) fX4_sentPlain_4_1 dX4_sentPlain_25 rfl ?_
  refine zg_iload_n C 2 dX4_sentPlain_28 rfl ?_
  refine zg_iload_n C 3 dX4_sentPlain_29 rfl ?_
  refine zg_iadd C dX4_sentPlain_30 (nI (ln + rk)) (nI_add _ _) ?_
  refine zg_iadd C dX4_sentPlain_31 (bs + (nI (ln + rk))) (rfl) ?_
  refine zg_put C 0 (ci := 4) (f := 1) (ws' := [(t0, .inr (4, [.ref v0, .int (bs + (nI (ln + rk))), .int bp, .int sr])), (v0, .inl (cI, 4, .inl (upd V u ((V u) + (nI 1)))))]) rfl rfl uX4_sentPlain_4 tyX4_ok nmX4 (by decide) fX4_sentPlain_4_1 rfl rfl rfl rfl (Nat.le_of_ble_eq_true rfl) dX4_sentPlain_32 rfl ?_
  refine zg_aload_n C 0 dX4_sentPlain_35 rfl ?_
  refine zg_dup C dX4_sentPlain_36 rfl ?_
  refine zg_get C 0 (ci := 4) (f := 2) rfl rfl uX4_sentPlain_4 (by decide) fX4_sentPlain_4_2 dX4_sentPlain_37 rfl ?_
  refine zg_iconst (v := nI 2) C dX4_sentPlain_40 (by decide) ?_
  refine zg_iload_n C 2 dX4_sentPlain_41 rfl ?_
  refine zg_imul C dX4_sentPlain_42 (nI (2 * ln)) (pk_mul _ _) ?_
  refine zg_iadd C dX4_sentPlain_43 (bp + (nI (2 * ln))) (rfl) ?_
  refine zg_put C 0 (ci := 4) (f := 2) (ws' := [(t0, .inr (4, [.ref v0, .int (bs + (nI (ln + rk))), .int (bp + (nI (2 * ln))), .int sr])), (v0, .inl (cI, 4, .inl (upd V u ((V u) + (nI 1)))))]) rfl rfl uX4_sentPlain_4 tyX4_ok nmX4 (by decide) fX4_sentPlain_4_2 rfl rfl rfl rfl (Nat.le_of_ble_eq_true rfl) dX4_sentPlain_44 rfl ?_
  exact zg_wvret C E dX4_sentPlain_47 (⟨rfl, rfl⟩)
theorem uX4_sentWith_4 : ∀ w ∈ u_ws RX4 TX4 4, w ∈ wsX4_sentWith := fun w h => List.mem_cons_of_mem _ (List.mem_append_right _ h)
theorem fX4_sentWith_4_0 : Cond.fieldLink RX4 9 (TX4 0).1 (TX4 0).2.1 (TX4 0).2.2.1 ∈ wsX4_sentWith := by decide +kernel
set_option maxHeartbeats 1000000 in
set_option maxRecDepth 100000 in
theorem c_X4_sentWith (l : Launch) (D : va_G) (cI : ClassId) (t0 v0 : Nat) (V : Nat → Int32) (bs bp sr : Int32) (u : Nat) (hu : u < 4) : zMr l D cI yX4_sentWith wsX4_sentWith { frames := 0, cells := 0, slots := 0, locals := 0 } [.ref t0, .int (nI u)] [(t0, .inr (4, [.ref v0, .int bs, .int bp, .int sr])), (v0, .inl (cI, 4, .inl V))] (V u) := by
  refine zr_ent (maxL := 2) (by decide) rfl (Nat.le_of_ble_eq_true rfl) (fun X C E => ?_)
  have C : zC X l D cI { frames := 0, cells := 0, slots := 0, locals := 0 } 2 false cX4_sentWith RX4 wsX4_sentWith := C
  refine zg_cv (lv' := [(0, .ref t0), (1, .int (nI u))]) rfl rfl rfl ?_
  refine zg_iload_n C 1 dX4_sentWith_0 rfl ?_
  refine zn_if_lt C 22 (by omega) dX4_sentWith_1 (by decide) ?_
  refine zg_iload_n C 1 dX4_sentWith_4 rfl ?_
  refine zg_aload_n C 0 dX4_sentWith_5 rfl ?_
  refine zg_get C 0 (ci := 4) (f := 0) rfl rfl uX4_sentWith_4 (by decide) fX4_sentWith_4_0 dX4_sentWith_6 rfl ?_
  refine zg_alen C 1 rfl dX4_sentWith_9 ?_
  refine zn_icmp_ge C 22 (by omega) (by omega) dX4_sentWith_10 (by decide) (fun c_10 => by omega) (fun c_10 => ?_)
  refine zg_aload_n C 0 dX4_sentWith_13 rfl ?_
  refine zg_get C 0 (ci := 4) (f := 0) rfl rfl uX4_sentWith_4 (by decide) fX4_sentWith_4_0 dX4_sentWith_14 rfl ?_
  refine zg_iload_n C 1 dX4_sentWith_17 rfl ?_
  refine zg_iald C 1 rfl (by omega) (by decide) dX4_sentWith_18 (V u) (rfl) ?_
  refine zg_goto C 23 dX4_sentWith_19 (by decide) ?_
  exact zg_iret C E dX4_sentWith_23 (rfl)
theorem uX4_bitsSent_4 : ∀ w ∈ u_ws RX4 TX4 4, w ∈ wsX4_bitsSent := fun w h => List.mem_cons_of_mem _ (List.mem_append_right _ h)
theorem fX4_bitsSent_4_1 : Cond.fieldLink RX4 15 (TX4 1).1 (TX4 1).2.1 (TX4 1).2.2.1 ∈ wsX4_bitsSent := by decide +kernel
set_option maxHeartbeats 1000000 in
set_option maxRecDepth 100000 in
theorem c_X4_bitsSent (l : Launch) (D : va_G) (cI : ClassId) (t0 v0 : Nat) (V : Nat → Int32) (bs bp sr : Int32) : zMr l D cI yX4_bitsSent wsX4_bitsSent { frames := 0, cells := 0, slots := 0, locals := 0 } [.ref t0] [(t0, .inr (4, [.ref v0, .int bs, .int bp, .int sr])), (v0, .inl (cI, 4, .inl V))] (bs) := by
  refine zr_ent (maxL := 1) (by decide) rfl (Nat.le_of_ble_eq_true rfl) (fun X C E => ?_)
  have C : zC X l D cI { frames := 0, cells := 0, slots := 0, locals := 0 } 1 false cX4_bitsSent RX4 wsX4_bitsSent := C
  refine zg_cv (lv' := [(0, .ref t0)]) rfl rfl rfl ?_
  refine zg_aload_n C 0 dX4_bitsSent_0 rfl ?_
  refine zg_get C 0 (ci := 4) (f := 1) rfl rfl uX4_bitsSent_4 (by decide) fX4_bitsSent_4_1 dX4_bitsSent_1 rfl ?_
  exact zg_iret C E dX4_bitsSent_4 (rfl)
theorem uX4_bitsSentByBothPlainly_4 : ∀ w ∈ u_ws RX4 TX4 4, w ∈ wsX4_bitsSentByBothPlainly := fun w h => List.mem_cons_of_mem _ (List.mem_append_right _ h)
theorem fX4_bitsSentByBothPlainly_4_2 : Cond.fieldLink RX4 19 (TX4 2).1 (TX4 2).2.1 (TX4 2).2.2.1 ∈ wsX4_bitsSentByBothPlainly := by decide +kernel
set_option maxHeartbeats 1000000 in
set_option maxRecDepth 100000 in
theorem c_X4_bitsSentByBothPlainly (l : Launch) (D : va_G) (cI : ClassId) (t0 v0 : Nat) (V : Nat → Int32) (bs bp sr : Int32) : zMr l D cI yX4_bitsSentByBothPlainly wsX4_bitsSentByBothPlainly { frames := 0, cells := 0, slots := 0, locals := 0 } [.ref t0] [(t0, .inr (4, [.ref v0, .int bs, .int bp, .int sr])), (v0, .inl (cI, 4, .inl V))] (bp) := by
  refine zr_ent (maxL := 1) (by decide) rfl (Nat.le_of_ble_eq_true rfl) (fun X C E => ?_)
  have C : zC X l D cI { frames := 0, cells := 0, slots := 0, locals := 0 } 1 false cX4_bitsSentByBothPlainly RX4 wsX4_bitsSentByBothPlainly := C
  refine zg_cv (lv' := [(0, .ref t0)]) rfl rfl rfl ?_
  refine zg_aload_n C 0 dX4_bitsSentByBothPlainly_0 rfl ?_
  refine zg_get C 0 (ci := 4) (f := 2) rfl rfl uX4_bitsSentByBothPlainly_4 (by decide) fX4_bitsSentByBothPlainly_4_2 dX4_bitsSentByBothPlainly_1 rfl ?_
  exact zg_iret C E dX4_bitsSentByBothPlainly_4 (rfl)
theorem uX4_timesSumsRead_4 : ∀ w ∈ u_ws RX4 TX4 4, w ∈ wsX4_timesSumsRead := fun w h => List.mem_cons_of_mem _ (List.mem_append_right _ h)
theorem fX4_timesSumsRead_4_3 : Cond.fieldLink RX4 22 (TX4 3).1 (TX4 3).2.1 (TX4 3).2.2.1 ∈ wsX4_timesSumsRead := by decide +kernel
set_option maxHeartbeats 1000000 in
set_option maxRecDepth 100000 in
theorem c_X4_timesSumsRead (l : Launch) (D : va_G) (cI : ClassId) (t0 v0 : Nat) (V : Nat → Int32) (bs bp sr : Int32) : zMr l D cI yX4_timesSumsRead wsX4_timesSumsRead { frames := 0, cells := 0, slots := 0, locals := 0 } [.ref t0] [(t0, .inr (4, [.ref v0, .int bs, .int bp, .int sr])), (v0, .inl (cI, 4, .inl V))] (sr) := by
  refine zr_ent (maxL := 1) (by decide) rfl (Nat.le_of_ble_eq_true rfl) (fun X C E => ?_)
  have C : zC X l D cI { frames := 0, cells := 0, slots := 0, locals := 0 } 1 false cX4_timesSumsRead RX4 wsX4_timesSumsRead := C
  refine zg_cv (lv' := [(0, .ref t0)]) rfl rfl rfl ?_
  refine zg_aload_n C 0 dX4_timesSumsRead_0 rfl ?_
  refine zg_get C 0 (ci := 4) (f := 3) rfl rfl uX4_timesSumsRead_4 (by decide) fX4_timesSumsRead_4_3 dX4_timesSumsRead_1 rfl ?_
  exact zg_iret C E dX4_timesSumsRead_4 (rfl)
theorem uX0_last_0 : ∀ w ∈ u_ws RX0 TX0 1, w ∈ wsX0_last := fun w h => List.mem_cons_of_mem _ (List.mem_append_right _ h)
theorem fX0_last_0_0 : Cond.fieldLink RX0 7 (TX0 0).1 (TX0 0).2.1 (TX0 0).2.2.1 ∈ wsX0_last := by decide +kernel
set_option maxHeartbeats 1000000 in
set_option maxRecDepth 100000 in
theorem c_X0_last (l : Launch) (D : va_G) (cI : ClassId) (d0 : Nat) (sd : Int32) : zMr l D cI yX0_last wsX0_last { frames := 0, cells := 0, slots := 0, locals := 0 } [.ref d0] [(d0, .inr (0, [.int sd]))] (sd) := by
  refine zr_ent (maxL := 1) (by decide) rfl (Nat.le_of_ble_eq_true rfl) (fun X C E => ?_)
  have C : zC X l D cI { frames := 0, cells := 0, slots := 0, locals := 0 } 1 false cX0_last RX0 wsX0_last := C
  refine zg_cv (lv' := [(0, .ref d0)]) rfl rfl rfl ?_
  refine zg_aload_n C 0 dX0_last_0 rfl ?_
  refine zg_get C 0 (ci := 0) (f := 0) rfl rfl uX0_last_0 (by decide) fX0_last_0_0 dX0_last_1 rfl ?_
  exact zg_iret C E dX0_last_4 (rfl)
theorem uX0_startFrom_0 : ∀ w ∈ u_ws RX0 TX0 1, w ∈ wsX0_startFrom := fun w h => List.mem_cons_of_mem _ (List.mem_append_right _ h)
theorem fX0_startFrom_0_0 : Cond.fieldLink RX0 7 (TX0 0).1 (TX0 0).2.1 (TX0 0).2.2.1 ∈ wsX0_startFrom := by decide +kernel
set_option maxHeartbeats 1000000 in
set_option maxRecDepth 100000 in
theorem c_X0_startFrom (l : Launch) (D : va_G) (cI : ClassId) (d0 : Nat) (sd : Int32) (x : Int32) : zMw l D cI yX0_startFrom wsX0_startFrom { frames := 0, cells := 0, slots := 0, locals := 0 } [.ref d0, .int x] [(d0, .inr (0, [.int sd]))] (fun v9 w9 => v9 = none ∧ w9 = [(d0, .inr (0, [.int x]))]) 0 0 := by
  refine zw_ent (maxL := 2) (by decide) rfl (Nat.le_of_ble_eq_true rfl) (fun X C E hin9 => ?_)
  have C : zC X l D cI { frames := 0, cells := 0, slots := 0, locals := 0 } 2 true cX0_startFrom RX0 wsX0_startFrom := C
  refine zg_cv (lv' := [(0, .ref d0), (1, .int x)]) rfl rfl rfl ?_
  refine zg_aload_n C 0 dX0_startFrom_0 rfl ?_
  refine zg_iload_n C 1 dX0_startFrom_1 rfl ?_
  refine zg_put C 0 (ci := 0) (f := 0) (ws' := [(d0, .inr (0, [.int x]))]) rfl rfl uX0_startFrom_0 tyX0_ok nmX0 (by decide) fX0_startFrom_0_0 rfl rfl rfl rfl (Nat.le_of_ble_eq_true rfl) dX0_startFrom_2 rfl ?_
  exact zg_wvret C E dX0_startFrom_5 (⟨rfl, rfl⟩)
theorem wX0_next_0 : Cond.constantLong RX0 13 (1103515245) ∈ wsX0_next := by decide +kernel
theorem uX0_next_0 : ∀ w ∈ u_ws RX0 TX0 1, w ∈ wsX0_next := fun w h => List.mem_cons_of_mem _ (List.mem_append_right _ h)
theorem fX0_next_0_0 : Cond.fieldLink RX0 7 (TX0 0).1 (TX0 0).2.1 (TX0 0).2.2.1 ∈ wsX0_next := by decide +kernel
theorem wX0_next_1 : Cond.constantLong RX0 15 (12345) ∈ wsX0_next := by decide +kernel
theorem wX0_next_2 : Cond.constantLong RX0 17 (2147483647) ∈ wsX0_next := by decide +kernel
set_option maxHeartbeats 1000000 in
set_option maxRecDepth 100000 in
theorem c_X0_next (l : Launch) (D : va_G) (cI : ClassId) (d0 s b : Nat) (hs : s < 2 ^ 31) (hb : b ≤ 10) : zMw l D cI yX0_next wsX0_next { frames := 0, cells := 0, slots := 0, locals := 0 } [.ref d0, .int (nI b)] [(d0, .inr (0, [.int (nI s)]))] (fun v9 w9 => v9 = some (.int (nI (zdr s (2 ^ b)))) ∧ w9 = [(d0, .inr (0, [.int (nI (znx s))]))]) 0 0 := by
  refine zw_ent (maxL := 2) (by decide) rfl (Nat.le_of_ble_eq_true rfl) (fun X C E hin9 => ?_)
  have C : zC X l D cI { frames := 0, cells := 0, slots := 0, locals := 0 } 2 true cX0_next RX0 wsX0_next := C
  refine zg_cv (lv' := [(0, .ref d0), (1, .int (nI b))]) rfl rfl rfl ?_
  have q0 := znx_lt s
  have q1 := zpw hb
  have q2 := zpw0 b
  refine zg_aload_n C 0 dX0_next_0 rfl ?_
  refine zg_ldc2 C dX0_next_1 wX0_next_0 ?_
  refine zg_aload_n C 0 dX0_next_4 rfl ?_
  refine zg_get C 0 (ci := 0) (f := 0) rfl rfl uX0_next_0 (by decide) fX0_next_0_0 dX0_next_5 rfl ?_
  refine zg_i2l C dX0_next_8 (lN s) (zi_l hs) ?_
  refine zg_lmul C dX0_next_9 (lN (1103515245 * s)) (by rw [zl_a, lN_mul]) ?_
  refine zg_ldc2 C dX0_next_10 wX0_next_1 ?_
  refine zg_ladd C dX0_next_13 (lN (1103515245 * s + 12345)) (by rw [zl_b, lN_add]) ?_
  refine zg_ldc2 C dX0_next_14 wX0_next_2 ?_
  refine zg_land C dX0_next_17 (lN (znx s)) (zl_and _) ?_
  refine zg_l2i C dX0_next_18 (nI (znx s)) (lN_i _) ?_
  refine zg_put C 0 (ci := 0) (f := 0) (ws' := [(d0, .inr (0, [.int (nI (znx s))]))]) rfl rfl uX0_next_0 tyX0_ok nmX0 (by decide) fX0_next_0_0 rfl rfl rfl rfl (Nat.le_of_ble_eq_true rfl) dX0_next_19 rfl ?_
  refine zg_aload_n C 0 dX0_next_22 rfl ?_
  refine zg_get C 0 (ci := 0) (f := 0) rfl rfl uX0_next_0 (by decide) fX0_next_0_0 dX0_next_23 rfl ?_
  refine zg_bipush (v := nI 16) C dX0_next_26 (by decide) ?_
  refine zg_ishr C dX0_next_28 (nI ((znx s) / 2 ^ 16)) (zi_shr (by omega) (by omega)) ?_
  refine zg_iconst (v := nI 1) C dX0_next_29 (by decide) ?_
  refine zg_iload_n C 1 dX0_next_30 rfl ?_
  refine zg_ishl C dX0_next_31 (nI (2 ^ b)) (zi_shl1 (by omega)) ?_
  refine zg_iconst (v := nI 1) C dX0_next_32 (by decide) ?_
  refine zg_isub C dX0_next_33 (nI ((2 ^ b) - 1)) (pk_sub (by omega)) ?_
  refine zg_iand C dX0_next_34 (nI (zdr s (2 ^ b))) (zi_mask _ _) ?_
  exact zg_wiret C E dX0_next_35 (⟨rfl, rfl⟩)
