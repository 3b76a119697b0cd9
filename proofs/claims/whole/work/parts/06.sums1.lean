/-! Sums: its small methods -/
theorem wJ6_bitCount_0f7a4_0 : Cond.constant RJ6 265 (1431655765) ∈ wsJ6_bitCount_0f7a4 := by decide +kernel
theorem wJ6_bitCount_0f7a4_1 : Cond.constant RJ6 266 (858993459) ∈ wsJ6_bitCount_0f7a4 := by decide +kernel
theorem wJ6_bitCount_0f7a4_2 : Cond.constant RJ6 267 (252645135) ∈ wsJ6_bitCount_0f7a4 := by decide +kernel
set_option maxHeartbeats 1000000 in
set_option maxRecDepth 100000 in
/-- Integer.bitCount of a word -/
theorem c_J6_bitCount_0f7a4 (l : Launch) (D : va_G) (cI : ClassId) (w : Nat) (hw : w < 1024) : zMr l D cI yJ6_bitCount_0f7a4 wsJ6_bitCount_0f7a4 { frames := 0, cells := 0, slots := 0, locals := 0 } [.int (nI w)] [] (nI (zpc w)) := by
  refine zr_ent (maxL := 1) (by decide) rfl (Nat.le_of_ble_eq_true rfl) (fun X C E => ?_)
  have C : zC X l D cI { frames := 0, cells := 0, slots := 0, locals := 0 } 1 false cJ6_bitCount_0f7a4 RJ6 wsJ6_bitCount_0f7a4 := C
  refine zg_cv (lv' := [(0, .int (nI w))]) rfl rfl rfl ?_
  refine zg_iload_n C 0 dJ6_bitCount_0f7a4_0 rfl ?_
  refine zg_iload_n C 0 dJ6_bitCount_0f7a4_1 rfl ?_
  refine zg_iconst (v := nI 1) C dJ6_bitCount_0f7a4_2 (by decide) ?_
  refine zg_iushr C dJ6_bitCount_0f7a4_3 (((nI w).toUInt32 >>> ((nI 1).toUInt32 &&& Int32.toUInt32 31)).toInt32) (rfl) ?_
  refine zg_ldcw C dJ6_bitCount_0f7a4_4 wJ6_bitCount_0f7a4_0 ?_
  refine zg_iand C dJ6_bitCount_0f7a4_7 ((((nI w).toUInt32 >>> ((nI 1).toUInt32 &&& Int32.toUInt32 31)).toInt32) &&& (1431655765)) (rfl) ?_
  refine zg_isub C dJ6_bitCount_0f7a4_8 (zc1 (nI w)) (rfl) ?_
  refine zg_istore_n C [0] (lv' := [(0, .int (zc1 (nI w)))]) dJ6_bitCount_0f7a4_9 (by decide) rfl ?_
  refine zg_iload_n C 0 dJ6_bitCount_0f7a4_10 rfl ?_
  refine zg_ldcw C dJ6_bitCount_0f7a4_11 wJ6_bitCount_0f7a4_1 ?_
  refine zg_iand C dJ6_bitCount_0f7a4_14 ((zc1 (nI w)) &&& (858993459)) (rfl) ?_
  refine zg_iload_n C 0 dJ6_bitCount_0f7a4_15 rfl ?_
  refine zg_iconst (v := nI 2) C dJ6_bitCount_0f7a4_16 (by decide) ?_
  refine zg_iushr C dJ6_bitCount_0f7a4_17 (((zc1 (nI w)).toUInt32 >>> ((nI 2).toUInt32 &&& Int32.toUInt32 31)).toInt32) (rfl) ?_
  refine zg_ldcw C dJ6_bitCount_0f7a4_18 wJ6_bitCount_0f7a4_1 ?_
  refine zg_iand C dJ6_bitCount_0f7a4_21 ((((zc1 (nI w)).toUInt32 >>> ((nI 2).toUInt32 &&& Int32.toUInt32 31)).toInt32) &&& (858993459)) (rfl) ?_
  refine zg_iadd C dJ6_bitCount_0f7a4_22 (zc2 (zc1 (nI w))) (rfl) ?_
  refine zg_istore_n C [0] (lv' := [(0, .int (zc2 (zc1 (nI w))))]) dJ6_bitCount_0f7a4_23 (by decide) rfl ?_
  refine zg_iload_n C 0 dJ6_bitCount_0f7a4_24 rfl ?_
  refine zg_iload_n C 0 dJ6_bitCount_0f7a4_25 rfl ?_
  refine zg_iconst (v := nI 4) C dJ6_bitCount_0f7a4_26 (by decide) ?_
  refine zg_iushr C dJ6_bitCount_0f7a4_27 (((zc2 (zc1 (nI w))).toUInt32 >>> ((nI 4).toUInt32 &&& Int32.toUInt32 31)).toInt32) (rfl) ?_
  refine zg_iadd C dJ6_bitCount_0f7a4_28 ((zc2 (zc1 (nI w))) + (((zc2 (zc1 (nI w))).toUInt32 >>> ((nI 4).toUInt32 &&& Int32.toUInt32 31)).toInt32)) (rfl) ?_
  refine zg_ldcw C dJ6_bitCount_0f7a4_29 wJ6_bitCount_0f7a4_2 ?_
  refine zg_iand C dJ6_bitCount_0f7a4_32 (zc3 (zc2 (zc1 (nI w)))) (rfl) ?_
  refine zg_istore_n C [0] (lv' := [(0, .int (zc3 (zc2 (zc1 (nI w)))))]) dJ6_bitCount_0f7a4_33 (by decide) rfl ?_
  refine zg_iload_n C 0 dJ6_bitCount_0f7a4_34 rfl ?_
  refine zg_iload_n C 0 dJ6_bitCount_0f7a4_35 rfl ?_
  refine zg_bipush (v := nI 8) C dJ6_bitCount_0f7a4_36 (by decide) ?_
  refine zg_iushr C dJ6_bitCount_0f7a4_38 (((zc3 (zc2 (zc1 (nI w)))).toUInt32 >>> ((nI 8).toUInt32 &&& Int32.toUInt32 31)).toInt32) (rfl) ?_
  refine zg_iadd C dJ6_bitCount_0f7a4_39 (zc4 (zc3 (zc2 (zc1 (nI w))))) (rfl) ?_
  refine zg_istore_n C [0] (lv' := [(0, .int (zc4 (zc3 (zc2 (zc1 (nI w))))))]) dJ6_bitCount_0f7a4_40 (by decide) rfl ?_
  refine zg_iload_n C 0 dJ6_bitCount_0f7a4_41 rfl ?_
  refine zg_iload_n C 0 dJ6_bitCount_0f7a4_42 rfl ?_
  refine zg_bipush (v := nI 16) C dJ6_bitCount_0f7a4_43 (by decide) ?_
  refine zg_iushr C dJ6_bitCount_0f7a4_45 (((zc4 (zc3 (zc2 (zc1 (nI w))))).toUInt32 >>> ((nI 16).toUInt32 &&& Int32.toUInt32 31)).toInt32) (rfl) ?_
  refine zg_iadd C dJ6_bitCount_0f7a4_46 (zc5 (zc4 (zc3 (zc2 (zc1 (nI w)))))) (rfl) ?_
  refine zg_istore_n C [0] (lv' := [(0, .int (zc5 (zc4 (zc3 (zc2 (zc1 (nI w)))))))]) dJ6_bitCount_0f7a4_47 (by decide) rfl ?_
  refine zg_iload_n C 0 dJ6_bitCount_0f7a4_48 rfl ?_
  refine zg_bipush (v := nI 63) C dJ6_bitCount_0f7a4_49 (by decide) ?_
  refine zg_iand C dJ6_bitCount_0f7a4_51 (zc6 (zc5 (zc4 (zc3 (zc2 (zc1 (nI w))))))) (rfl) ?_
  exact zg_iret C E dJ6_bitCount_0f7a4_52 (zbc hw)
theorem uX3_words_3 : ∀ w ∈ u_ws RX3 TX3 9, w ∈ wsX3_words := fun w h => List.mem_cons_of_mem _ (List.mem_append_right _ h)
theorem fX3_words_3_4 : Cond.fieldLink RX3 25 (TX3 4).1 (TX3 4).2.1 (TX3 4).2.2.1 ∈ wsX3_words := by decide +kernel
set_option maxHeartbeats 1000000 in
set_option maxRecDepth 100000 in
theorem c_X3_words (l : Launch) (D : va_G) (cI : ClassId) (h0 a0 a1 a2 : Nat) (Rf Lf Wf : Nat → Int32) (rc ln rk ds su rd : Nat) (hln : ln ≤ 10) : zMr l D cI yX3_words wsX3_words { frames := 0, cells := 0, slots := 0, locals := 0 } [.ref h0] [(h0, .inr (3, [.ref a0, .ref a1, .ref a2, .int (nI rc), .int (nI ln), .int (nI rk), .int (nI ds), .int (nI su), .int (nI rd)])), (a0, .inl (cI, 5, .inl Rf)), (a1, .inl (cI, 32, .inl Lf)), (a2, .inl (cI, 11, .inl Wf))] (nI (2 ^ ln)) := by
  refine zr_ent (maxL := 1) (by decide) rfl (Nat.le_of_ble_eq_true rfl) (fun X C E => ?_)
  have C : zC X l D cI { frames := 0, cells := 0, slots := 0, locals := 0 } 1 false cX3_words RX3 wsX3_words := C
  refine zg_cv (lv' := [(0, .ref h0)]) rfl rfl rfl ?_
  refine zg_iconst (v := nI 1) C dX3_words_0 (by decide) ?_
  refine zg_aload_n C 0 dX3_words_1 rfl ?_
  refine zg_get C 0 (ci := 3) (f := 4) rfl rfl uX3_words_3 (by decide) fX3_words_3_4 dX3_words_2 rfl ?_
  refine zg_ishl C dX3_words_5 (nI (2 ^ ln)) (zi_shl1 (by omega)) ?_
  exact zg_iret C E dX3_words_6 (rfl)
theorem uX3_syndromes_3 : ∀ w ∈ u_ws RX3 TX3 9, w ∈ wsX3_syndromes := fun w h => List.mem_cons_of_mem _ (List.mem_append_right _ h)
theorem fX3_syndromes_3_3 : Cond.fieldLink RX3 21 (TX3 3).1 (TX3 3).2.1 (TX3 3).2.2.1 ∈ wsX3_syndromes := by decide +kernel
set_option maxHeartbeats 1000000 in
set_option maxRecDepth 100000 in
theorem c_X3_syndromes (l : Launch) (D : va_G) (cI : ClassId) (h0 a0 a1 a2 : Nat) (Rf Lf Wf : Nat → Int32) (rc ln rk ds su rd : Nat) (hrc : rc ≤ 5) : zMr l D cI yX3_syndromes wsX3_syndromes { frames := 0, cells := 0, slots := 0, locals := 0 } [.ref h0] [(h0, .inr (3, [.ref a0, .ref a1, .ref a2, .int (nI rc), .int (nI ln), .int (nI rk), .int (nI ds), .int (nI su), .int (nI rd)])), (a0, .inl (cI, 5, .inl Rf)), (a1, .inl (cI, 32, .inl Lf)), (a2, .inl (cI, 11, .inl Wf))] (nI (2 ^ rc)) := by
  refine zr_ent (maxL := 1) (by decide) rfl (Nat.le_of_ble_eq_true rfl) (fun X C E => ?_)
  have C : zC X l D cI { frames := 0, cells := 0, slots := 0, locals := 0 } 1 false cX3_syndromes RX3 wsX3_syndromes := C
  refine zg_cv (lv' := [(0, .ref h0)]) rfl rfl rfl ?_
  refine zg_iconst (v := nI 1) C dX3_syndromes_0 (by decide) ?_
  refine zg_aload_n C 0 dX3_syndromes_1 rfl ?_
  refine zg_get C 0 (ci := 3) (f := 3) rfl rfl uX3_syndromes_3 (by decide) fX3_syndromes_3_3 dX3_syndromes_2 rfl ?_
  refine zg_ishl C dX3_syndromes_5 (nI (2 ^ rc)) (zi_shl1 (by omega)) ?_
  exact zg_iret C E dX3_syndromes_6 (rfl)
theorem uX3_length_3 : ∀ w ∈ u_ws RX3 TX3 9, w ∈ wsX3_length := fun w h => List.mem_cons_of_mem _ (List.mem_append_right _ h)
theorem fX3_length_3_4 : Cond.fieldLink RX3 25 (TX3 4).1 (TX3 4).2.1 (TX3 4).2.2.1 ∈ wsX3_length := by decide +kernel
set_option maxHeartbeats 1000000 in
set_option maxRecDepth 100000 in
theorem c_X3_length (l : Launch) (D : va_G) (cI : ClassId) (h0 a0 a1 a2 : Nat) (Rf Lf Wf : Nat → Int32) (rc ln rk ds su rd : Nat) : zMr l D cI yX3_length wsX3_length { frames := 0, cells := 0, slots := 0, locals := 0 } [.ref h0] [(h0, .inr (3, [.ref a0, .ref a1, .ref a2, .int (nI rc), .int (nI ln), .int (nI rk), .int (nI ds), .int (nI su), .int (nI rd)])), (a0, .inl (cI, 5, .inl Rf)), (a1, .inl (cI, 32, .inl Lf)), (a2, .inl (cI, 11, .inl Wf))] (nI ln) := by
  refine zr_ent (maxL := 1) (by decide) rfl (Nat.le_of_ble_eq_true rfl) (fun X C E => ?_)
  have C : zC X l D cI { frames := 0, cells := 0, slots := 0, locals := 0 } 1 false cX3_length RX3 wsX3_length := C
  refine zg_cv (lv' := [(0, .ref h0)]) rfl rfl rfl ?_
  refine zg_aload_n C 0 dX3_length_0 rfl ?_
  refine zg_get C 0 (ci := 3) (f := 4) rfl rfl uX3_length_3 (by decide) fX3_length_3_4 dX3_length_1 rfl ?_
  exact zg_iret C E dX3_length_4 (rfl)
theorem uX3_rowCount_3 : ∀ w ∈ u_ws RX3 TX3 9, w ∈ wsX3_rowCount := fun w h => List.mem_cons_of_mem _ (List.mem_append_right _ h)
theorem fX3_rowCount_3_3 : Cond.fieldLink RX3 21 (TX3 3).1 (TX3 3).2.1 (TX3 3).2.2.1 ∈ wsX3_rowCount := by decide +kernel
set_option maxHeartbeats 1000000 in
set_option maxRecDepth 100000 in
theorem c_X3_rowCount (l : Launch) (D : va_G) (cI : ClassId) (h0 a0 a1 a2 : Nat) (Rf Lf Wf : Nat → Int32) (rc ln rk ds su rd : Nat) : zMr l D cI yX3_rowCount wsX3_rowCount { frames := 0, cells := 0, slots := 0, locals := 0 } [.ref h0] [(h0, .inr (3, [.ref a0, .ref a1, .ref a2, .int (nI rc), .int (nI ln), .int (nI rk), .int (nI ds), .int (nI su), .int (nI rd)])), (a0, .inl (cI, 5, .inl Rf)), (a1, .inl (cI, 32, .inl Lf)), (a2, .inl (cI, 11, .inl Wf))] (nI rc) := by
  refine zr_ent (maxL := 1) (by decide) rfl (Nat.le_of_ble_eq_true rfl) (fun X C E => ?_)
  have C : zC X l D cI { frames := 0, cells := 0, slots := 0, locals := 0 } 1 false cX3_rowCount RX3 wsX3_rowCount := C
  refine zg_cv (lv' := [(0, .ref h0)]) rfl rfl rfl ?_
  refine zg_aload_n C 0 dX3_rowCount_0 rfl ?_
  refine zg_get C 0 (ci := 3) (f := 3) rfl rfl uX3_rowCount_3 (by decide) fX3_rowCount_3_3 dX3_rowCount_1 rfl ?_
  exact zg_iret C E dX3_rowCount_4 (rfl)
theorem uX3_rank_3 : ∀ w ∈ u_ws RX3 TX3 9, w ∈ wsX3_rank := fun w h => List.mem_cons_of_mem _ (List.mem_append_right _ h)
theorem fX3_rank_3_5 : Cond.fieldLink RX3 28 (TX3 5).1 (TX3 5).2.1 (TX3 5).2.2.1 ∈ wsX3_rank := by decide +kernel
set_option maxHeartbeats 1000000 in
set_option maxRecDepth 100000 in
theorem c_X3_rank (l : Launch) (D : va_G) (cI : ClassId) (h0 a0 a1 a2 : Nat) (Rf Lf Wf : Nat → Int32) (rc ln rk ds su rd : Nat) : zMr l D cI yX3_rank wsX3_rank { frames := 0, cells := 0, slots := 0, locals := 0 } [.ref h0] [(h0, .inr (3, [.ref a0, .ref a1, .ref a2, .int (nI rc), .int (nI ln), .int (nI rk), .int (nI ds), .int (nI su), .int (nI rd)])), (a0, .inl (cI, 5, .inl Rf)), (a1, .inl (cI, 32, .inl Lf)), (a2, .inl (cI, 11, .inl Wf))] (nI rk) := by
  refine zr_ent (maxL := 1) (by decide) rfl (Nat.le_of_ble_eq_true rfl) (fun X C E => ?_)
  have C : zC X l D cI { frames := 0, cells := 0, slots := 0, locals := 0 } 1 false cX3_rank RX3 wsX3_rank := C
  refine zg_cv (lv' := [(0, .ref h0)]) rfl rfl rfl ?_
  refine zg_aload_n C 0 dX3_rank_0 rfl ?_
  refine zg_get C 0 (ci := 3) (f := 5) rfl rfl uX3_rank_3 (by decide) fX3_rank_3_5 dX3_rank_1 rfl ?_
  exact zg_iret C E dX3_rank_4 (rfl)
theorem uX3_sure_3 : ∀ w ∈ u_ws RX3 TX3 9, w ∈ wsX3_sure := fun w h => List.mem_cons_of_mem _ (List.mem_append_right _ h)
theorem fX3_sure_3_7 : Cond.fieldLink RX3 34 (TX3 7).1 (TX3 7).2.1 (TX3 7).2.2.1 ∈ wsX3_sure := by decide +kernel
set_option maxHeartbeats 1000000 in
set_option maxRecDepth 100000 in
theorem c_X3_sure (l : Launch) (D : va_G) (cI : ClassId) (h0 a0 a1 a2 : Nat) (Rf Lf Wf : Nat → Int32) (rc ln rk ds su rd : Nat) : zMr l D cI yX3_sure wsX3_sure { frames := 0, cells := 0, slots := 0, locals := 0 } [.ref h0] [(h0, .inr (3, [.ref a0, .ref a1, .ref a2, .int (nI rc), .int (nI ln), .int (nI rk), .int (nI ds), .int (nI su), .int (nI rd)])), (a0, .inl (cI, 5, .inl Rf)), (a1, .inl (cI, 32, .inl Lf)), (a2, .inl (cI, 11, .inl Wf))] (nI su) := by
  refine zr_ent (maxL := 1) (by decide) rfl (Nat.le_of_ble_eq_true rfl) (fun X C E => ?_)
  have C : zC X l D cI { frames := 0, cells := 0, slots := 0, locals := 0 } 1 false cX3_sure RX3 wsX3_sure := C
  refine zg_cv (lv' := [(0, .ref h0)]) rfl rfl rfl ?_
  refine zg_aload_n C 0 dX3_sure_0 rfl ?_
  refine zg_get C 0 (ci := 3) (f := 7) rfl rfl uX3_sure_3 (by decide) fX3_sure_3_7 dX3_sure_1 rfl ?_
  exact zg_iret C E dX3_sure_4 (rfl)
theorem uX3_radius_3 : ∀ w ∈ u_ws RX3 TX3 9, w ∈ wsX3_radius := fun w h => List.mem_cons_of_mem _ (List.mem_append_right _ h)
theorem fX3_radius_3_8 : Cond.fieldLink RX3 37 (TX3 8).1 (TX3 8).2.1 (TX3 8).2.2.1 ∈ wsX3_radius := by decide +kernel
set_option maxHeartbeats 1000000 in
set_option maxRecDepth 100000 in
theorem c_X3_radius (l : Launch) (D : va_G) (cI : ClassId) (h0 a0 a1 a2 : Nat) (Rf Lf Wf : Nat → Int32) (rc ln rk ds su rd : Nat) : zMr l D cI yX3_radius wsX3_radius { frames := 0, cells := 0, slots := 0, locals := 0 } [.ref h0] [(h0, .inr (3, [.ref a0, .ref a1, .ref a2, .int (nI rc), .int (nI ln), .int (nI rk), .int (nI ds), .int (nI su), .int (nI rd)])), (a0, .inl (cI, 5, .inl Rf)), (a1, .inl (cI, 32, .inl Lf)), (a2, .inl (cI, 11, .inl Wf))] (nI rd) := by
  refine zr_ent (maxL := 1) (by decide) rfl (Nat.le_of_ble_eq_true rfl) (fun X C E => ?_)
  have C : zC X l D cI { frames := 0, cells := 0, slots := 0, locals := 0 } 1 false cX3_radius RX3 wsX3_radius := C
  refine zg_cv (lv' := [(0, .ref h0)]) rfl rfl rfl ?_
  refine zg_aload_n C 0 dX3_radius_0 rfl ?_
  refine zg_get C 0 (ci := 3) (f := 8) rfl rfl uX3_radius_3 (by decide) fX3_radius_3_8 dX3_radius_1 rfl ?_
  exact zg_iret C E dX3_radius_4 (rfl)
theorem uX3_areThere_3 : ∀ w ∈ u_ws RX3 TX3 9, w ∈ wsX3_areThere := fun w h => List.mem_cons_of_mem _ (List.mem_append_right _ h)
theorem fX3_areThere_3_4 : Cond.fieldLink RX3 25 (TX3 4).1 (TX3 4).2.1 (TX3 4).2.2.1 ∈ wsX3_areThere := by decide +kernel
set_option maxHeartbeats 1000000 in
set_option maxRecDepth 100000 in
theorem c_X3_areThere (l : Launch) (D : va_G) (cI : ClassId) (h0 a0 a1 a2 : Nat) (Rf Lf Wf : Nat → Int32) (rc ln rk ds su rd : Nat) (hln : ln ≤ 10) : zMr l D cI yX3_areThere wsX3_areThere { frames := 0, cells := 0, slots := 0, locals := 0 } [.ref h0] [(h0, .inr (3, [.ref a0, .ref a1, .ref a2, .int (nI rc), .int (nI ln), .int (nI rk), .int (nI ds), .int (nI su), .int (nI rd)])), (a0, .inl (cI, 5, .inl Rf)), (a1, .inl (cI, 32, .inl Lf)), (a2, .inl (cI, 11, .inl Wf))] (zb (decide (0 < ln))) := by
  refine zr_ent (maxL := 1) (by decide) rfl (Nat.le_of_ble_eq_true rfl) (fun X C E => ?_)
  have C : zC X l D cI { frames := 0, cells := 0, slots := 0, locals := 0 } 1 false cX3_areThere RX3 wsX3_areThere := C
  refine zg_cv (lv' := [(0, .ref h0)]) rfl rfl rfl ?_
  refine zg_aload_n C 0 dX3_areThere_0 rfl ?_
  refine zg_get C 0 (ci := 3) (f := 4) rfl rfl uX3_areThere_3 (by decide) fX3_areThere_3_4 dX3_areThere_1 rfl ?_
  refine zn_if_le C 11 (by omega) dX3_areThere_4 (by decide) (fun c_4 => ?_) (fun c_4 => ?_)
  · skip
    refine zg_iconst (v := nI 0) C dX3_areThere_11 (by decide) ?_
    exact zg_zret C E dX3_areThere_12 (zbf (by omega))
  · skip
    refine zg_iconst (v := nI 1) C dX3_areThere_7 (by decide) ?_
    refine zg_goto C 12 dX3_areThere_8 (by decide) ?_
    exact zg_zret C E dX3_areThere_12 (zbt c_4)
def zdn (ln d : Nat) : Int32 := if ln < d then -1001 else nI d
theorem uX3_distanceOrNone_3 : ∀ w ∈ u_ws RX3 TX3 9, w ∈ wsX3_distanceOrNone := fun w h => List.mem_cons_of_mem _ (List.mem_append_right _ h)
theorem fX3_distanceOrNone_3_6 : Cond.fieldLink RX3 31 (TX3 6).1 (TX3 6).2.1 (TX3 6).2.2.1 ∈ wsX3_distanceOrNone := by decide +kernel
theorem fX3_distanceOrNone_3_4 : Cond.fieldLink RX3 25 (TX3 4).1 (TX3 4).2.1 (TX3 4).2.2.1 ∈ wsX3_distanceOrNone := by decide +kernel
set_option maxHeartbeats 1000000 in
set_option maxRecDepth 100000 in
theorem c_X3_distanceOrNone (l : Launch) (D : va_G) (cI : ClassId) (h0 a0 a1 a2 : Nat) (Rf Lf Wf : Nat → Int32) (rc ln rk ds su rd : Nat) (hln : ln ≤ 10) (hds : ds ≤ ln + 1) : zMr l D cI yX3_distanceOrNone wsX3_distanceOrNone { frames := 0, cells := 0, slots := 0, locals := 0 } [.ref h0] [(h0, .inr (3, [.ref a0, .ref a1, .ref a2, .int (nI rc), .int (nI ln), .int (nI rk), .int (nI ds), .int (nI su), .int (nI rd)])), (a0, .inl (cI, 5, .inl Rf)), (a1, .inl (cI, 32, .inl Lf)), (a2, .inl (cI, 11, .inl Wf))] (zdn ln ds) := by
  refine zr_ent (maxL := 1) (by decide) rfl (Nat.le_of_ble_eq_true rfl) (fun X C E => ?_)
  have C : zC X l D cI { frames := 0, cells := 0, slots := 0, locals := 0 } 1 false cX3_distanceOrNone RX3 wsX3_distanceOrNone := C
  refine zg_cv (lv' := [(0, .ref h0)]) rfl rfl rfl ?_
  refine zg_aload_n C 0 dX3_distanceOrNone_0 rfl ?_
  refine zg_get C 0 (ci := 3) (f := 6) rfl rfl uX3_distanceOrNone_3 (by decide) fX3_distanceOrNone_3_6 dX3_distanceOrNone_1 rfl ?_
  refine zg_aload_n C 0 dX3_distanceOrNone_4 rfl ?_
  refine zg_get C 0 (ci := 3) (f := 4) rfl rfl uX3_distanceOrNone_3 (by decide) fX3_distanceOrNone_3_4 dX3_distanceOrNone_5 rfl ?_
  refine zn_icmp_le C 17 (by omega) (by omega) dX3_distanceOrNone_8 (by decide) (fun c_8 => ?_) (fun c_8 => ?_)
  · skip
    refine zg_aload_n C 0 dX3_distanceOrNone_17 rfl ?_
    refine zg_get C 0 (ci := 3) (f := 6) rfl rfl uX3_distanceOrNone_3 (by decide) fX3_distanceOrNone_3_6 dX3_distanceOrNone_18 rfl ?_
    exact zg_iret C E dX3_distanceOrNone_21 (by rw [zdn, if_neg (by omega)])
  · skip
    refine zg_sipush (v := (-1001)) C dX3_distanceOrNone_11 (by decide) ?_
    refine zg_goto C 21 dX3_distanceOrNone_14 (by decide) ?_
    exact zg_iret C E dX3_distanceOrNone_21 (by rw [zdn, if_pos c_8])
theorem uX3_isRow_3 : ∀ w ∈ u_ws RX3 TX3 9, w ∈ wsX3_isRow := fun w h => List.mem_cons_of_mem _ (List.mem_append_right _ h)
theorem fX3_isRow_3_3 : Cond.fieldLink RX3 21 (TX3 3).1 (TX3 3).2.1 (TX3 3).2.2.1 ∈ wsX3_isRow := by decide +kernel
theorem fX3_isRow_3_0 : Cond.fieldLink RX3 9 (TX3 0).1 (TX3 0).2.1 (TX3 0).2.2.1 ∈ wsX3_isRow := by decide +kernel
set_option maxHeartbeats 1000000 in
set_option maxRecDepth 100000 in
theorem c_X3_isRow (l : Launch) (D : va_G) (cI : ClassId) (h0 a0 a1 a2 : Nat) (Rf Lf Wf : Nat → Int32) (rc ln rk ds su rd : Nat) (x : Int32) (hrc : rc ≤ 5) : zMr l D cI yX3_isRow wsX3_isRow { frames := 0, cells := 0, slots := 0, locals := 0 } [.ref h0, .int x] [(h0, .inr (3, [.ref a0, .ref a1, .ref a2, .int (nI rc), .int (nI ln), .int (nI rk), .int (nI ds), .int (nI su), .int (nI rd)])), (a0, .inl (cI, 5, .inl Rf)), (a1, .inl (cI, 32, .inl Lf)), (a2, .inl (cI, 11, .inl Wf))] (zb (decide (zin x rc))) := by
  refine zr_ent (maxL := 2) (by decide) rfl (Nat.le_of_ble_eq_true rfl) (fun X C E => ?_)
  have C : zC X l D cI { frames := 0, cells := 0, slots := 0, locals := 0 } 2 false cX3_isRow RX3 wsX3_isRow := C
  refine zg_cv (lv' := [(0, .ref h0), (1, .int x)]) rfl rfl rfl ?_
  refine zg_iload_n C 1 dX3_isRow_0 rfl ?_
  refine zg_if_lt C 25 dX3_isRow_1 (by decide) (fun c_1 => ?_) (fun c_1 => ?_)
  · skip
    refine zg_iconst (v := nI 0) C dX3_isRow_25 (by decide) ?_
    exact zg_zret C E dX3_isRow_26 (zbf (fun q => absurd c_1 (zlt_not.mpr q.1)))
  · skip
    refine zg_iload_n C 1 dX3_isRow_4 rfl ?_
    refine zg_aload_n C 0 dX3_isRow_5 rfl ?_
    refine zg_get C 0 (ci := 3) (f := 3) rfl rfl uX3_isRow_3 (by decide) fX3_isRow_3_3 dX3_isRow_6 rfl ?_
    refine zg_icmp_ge C 25 dX3_isRow_9 (by decide) (fun c_9 => ?_) (fun c_9 => ?_)
    · skip
      refine zg_iconst (v := nI 0) C dX3_isRow_25 (by decide) ?_
      exact zg_zret C E dX3_isRow_26 (zbf (fun q => absurd q.2 (zlt_not.mpr c_9)))
    · skip
      refine zg_iload_n C 1 dX3_isRow_12 rfl ?_
      refine zg_aload_n C 0 dX3_isRow_13 rfl ?_
      refine zg_get C 0 (ci := 3) (f := 0) rfl rfl uX3_isRow_3 (by decide) fX3_isRow_3_0 dX3_isRow_14 rfl ?_
      refine zg_alen C 1 rfl dX3_isRow_17 ?_
      refine zg_icmp_ge C 25 dX3_isRow_18 (by decide) (fun c_18 => by exact absurd (Int32.lt_iff_toInt_lt.mp (zle_not.mp c_9)) (by have q1 := Int32.le_iff_toInt_le.mp c_18; rw [nI_toInt (by omega)] at q1; rw [nI_toInt (by omega)]; omega)) (fun c_18 => ?_)
      refine zg_iconst (v := nI 1) C dX3_isRow_21 (by decide) ?_
      refine zg_goto C 26 dX3_isRow_22 (by decide) ?_
      exact zg_zret C E dX3_isRow_26 (zbt ⟨zlt_not.mp c_1, zle_not.mp c_9⟩)
set_option maxHeartbeats 1000000 in
set_option maxRecDepth 100000 in
theorem c_X3_isWord (l : Launch) (D : va_G) (cI : ClassId) (h0 a0 a1 a2 : Nat) (Rf Lf Wf : Nat → Int32) (rc ln rk ds su rd : Nat) (x : Int32) (hln : ln ≤ 10) : zMr l D cI yX3_isWord wsX3_isWord { frames := 1, cells := 0, slots := 0, locals := 20 } [.ref h0, .int x] [(h0, .inr (3, [.ref a0, .ref a1, .ref a2, .int (nI rc), .int (nI ln), .int (nI rk), .int (nI ds), .int (nI su), .int (nI rd)])), (a0, .inl (cI, 5, .inl Rf)), (a1, .inl (cI, 32, .inl Lf)), (a2, .inl (cI, 11, .inl Wf))] (zb (decide (zin x (2 ^ ln)))) := by
  refine zr_ent (maxL := 2) (by decide) rfl (Nat.le_of_ble_eq_true rfl) (fun X C E => ?_)
  have C : zC X l D cI { frames := 1, cells := 0, slots := 0, locals := 20 } 2 false cX3_isWord RX3 wsX3_isWord := C
  refine zg_cv (lv' := [(0, .ref h0), (1, .int x)]) rfl rfl rfl ?_
  refine zg_iload_n C 1 dX3_isWord_0 rfl ?_
  refine zg_if_lt C 16 dX3_isWord_1 (by decide) (fun c_1 => ?_) (fun c_1 => ?_)
  · skip
    refine zg_iconst (v := nI 0) C dX3_isWord_16 (by decide) ?_
    exact zg_zret C E dX3_isWord_17 (zbf (fun q => absurd c_1 (zlt_not.mpr q.1)))
  · skip
    refine zg_iload_n C 1 dX3_isWord_4 rfl ?_
    refine zg_aload_n C 0 dX3_isWord_5 rfl ?_
    refine zg_callr (As := []) (st := [.int x]) C [0, 1, 2, 3] 0 0 (c_X3_words l D cI h0 a0 a1 a2 Rf Lf Wf rc ln rk ds su rd hln) gX3_isWord_X3_words (by decide +kernel) rfl ⟨rfl, rfl⟩ ⟨Nat.le_of_ble_eq_true rfl, Nat.le_of_ble_eq_true rfl⟩ rfl (ci := 3) rfl rfl rfl rfl (Nat.le_of_ble_eq_true rfl) ⟨Nat.le_of_ble_eq_true rfl, Nat.le_of_ble_eq_true rfl⟩ dX3_isWord_6 ?_
    refine zg_icmp_ge C 16 dX3_isWord_9 (by decide) (fun c_9 => ?_) (fun c_9 => ?_)
    · skip
      refine zg_iconst (v := nI 0) C dX3_isWord_16 (by decide) ?_
      exact zg_zret C E dX3_isWord_17 (zbf (fun q => absurd q.2 (zlt_not.mpr c_9)))
    · skip
      refine zg_iconst (v := nI 1) C dX3_isWord_12 (by decide) ?_
      refine zg_goto C 17 dX3_isWord_13 (by decide) ?_
      exact zg_zret C E dX3_isWord_17 (zbt ⟨zlt_not.mp c_1, zle_not.mp c_9⟩)
theorem uX3_isSyndrome_3 : ∀ w ∈ u_ws RX3 TX3 9, w ∈ wsX3_isSyndrome := fun w h => List.mem_cons_of_mem _ (List.mem_append_right _ h)
theorem fX3_isSyndrome_3_1 : Cond.fieldLink RX3 15 (TX3 1).1 (TX3 1).2.1 (TX3 1).2.2.1 ∈ wsX3_isSyndrome := by decide +kernel
set_option maxHeartbeats 1000000 in
set_option maxRecDepth 100000 in
theorem c_X3_isSyndrome (l : Launch) (D : va_G) (cI : ClassId) (h0 a0 a1 a2 : Nat) (Rf Lf Wf : Nat → Int32) (rc ln rk ds su rd : Nat) (x : Int32) (hrc : rc ≤ 5) : zMr l D cI yX3_isSyndrome wsX3_isSyndrome { frames := 1, cells := 0, slots := 0, locals := 20 } [.ref h0, .int x] [(h0, .inr (3, [.ref a0, .ref a1, .ref a2, .int (nI rc), .int (nI ln), .int (nI rk), .int (nI ds), .int (nI su), .int (nI rd)])), (a0, .inl (cI, 5, .inl Rf)), (a1, .inl (cI, 32, .inl Lf)), (a2, .inl (cI, 11, .inl Wf))] (zb (decide (zin x (2 ^ rc)))) := by
  refine zr_ent (maxL := 2) (by decide) rfl (Nat.le_of_ble_eq_true rfl) (fun X C E => ?_)
  have C : zC X l D cI { frames := 1, cells := 0, slots := 0, locals := 20 } 2 false cX3_isSyndrome RX3 wsX3_isSyndrome := C
  refine zg_cv (lv' := [(0, .ref h0), (1, .int x)]) rfl rfl rfl ?_
  refine zg_iload_n C 1 dX3_isSyndrome_0 rfl ?_
  refine zg_if_lt C 25 dX3_isSyndrome_1 (by decide) (fun c_1 => ?_) (fun c_1 => ?_)
  · skip
    refine zg_iconst (v := nI 0) C dX3_isSyndrome_25 (by decide) ?_
    exact zg_zret C E dX3_isSyndrome_26 (zbf (fun q => absurd c_1 (zlt_not.mpr q.1)))
  · skip
    refine zg_iload_n C 1 dX3_isSyndrome_4 rfl ?_
    refine zg_aload_n C 0 dX3_isSyndrome_5 rfl ?_
    refine zg_callr (As := []) (st := [.int x]) C [0, 1, 2, 3] 0 0 (c_X3_syndromes l D cI h0 a0 a1 a2 Rf Lf Wf rc ln rk ds su rd hrc) gX3_isSyndrome_X3_syndromes (by decide +kernel) rfl ⟨rfl, rfl⟩ ⟨Nat.le_of_ble_eq_true rfl, Nat.le_of_ble_eq_true rfl⟩ rfl (ci := 3) rfl rfl rfl rfl (Nat.le_of_ble_eq_true rfl) ⟨Nat.le_of_ble_eq_true rfl, Nat.le_of_ble_eq_true rfl⟩ dX3_isSyndrome_6 ?_
    refine zg_icmp_ge C 25 dX3_isSyndrome_9 (by decide) (fun c_9 => ?_) (fun c_9 => ?_)
    · skip
      refine zg_iconst (v := nI 0) C dX3_isSyndrome_25 (by decide) ?_
      exact zg_zret C E dX3_isSyndrome_26 (zbf (fun q => absurd q.2 (zlt_not.mpr c_9)))
    · skip
      refine zg_iload_n C 1 dX3_isSyndrome_12 rfl ?_
      refine zg_aload_n C 0 dX3_isSyndrome_13 rfl ?_
      refine zg_get C 0 (ci := 3) (f := 1) rfl rfl uX3_isSyndrome_3 (by decide) fX3_isSyndrome_3_1 dX3_isSyndrome_14 rfl ?_
      refine zg_alen C 2 rfl dX3_isSyndrome_17 ?_
      refine zg_icmp_ge C 25 dX3_isSyndrome_18 (by decide) (fun c_18 => by exact absurd (Int32.lt_iff_toInt_lt.mp (zle_not.mp c_9)) (by have q0 := zpw5 hrc; have q1 := Int32.le_iff_toInt_le.mp c_18; rw [nI_toInt (by omega)] at q1; rw [nI_toInt (by omega)]; omega)) (fun c_18 => ?_)
      refine zg_iconst (v := nI 1) C dX3_isSyndrome_21 (by decide) ?_
      refine zg_goto C 26 dX3_isSyndrome_22 (by decide) ?_
      exact zg_zret C E dX3_isSyndrome_26 (zbt ⟨zlt_not.mp c_1, zle_not.mp c_9⟩)
theorem uX3_isWeight_3 : ∀ w ∈ u_ws RX3 TX3 9, w ∈ wsX3_isWeight := fun w h => List.mem_cons_of_mem _ (List.mem_append_right _ h)
theorem fX3_isWeight_3_4 : Cond.fieldLink RX3 25 (TX3 4).1 (TX3 4).2.1 (TX3 4).2.2.1 ∈ wsX3_isWeight := by decide +kernel
theorem fX3_isWeight_3_2 : Cond.fieldLink RX3 18 (TX3 2).1 (TX3 2).2.1 (TX3 2).2.2.1 ∈ wsX3_isWeight := by decide +kernel
set_option maxHeartbeats 1000000 in
set_option maxRecDepth 100000 in
theorem c_X3_isWeight (l : Launch) (D : va_G) (cI : ClassId) (h0 a0 a1 a2 : Nat) (Rf Lf Wf : Nat → Int32) (rc ln rk ds su rd : Nat) (x : Int32) (hln : ln ≤ 10) : zMr l D cI yX3_isWeight wsX3_isWeight { frames := 0, cells := 0, slots := 0, locals := 0 } [.ref h0, .int x] [(h0, .inr (3, [.ref a0, .ref a1, .ref a2, .int (nI rc), .int (nI ln), .int (nI rk), .int (nI ds), .int (nI su), .int (nI rd)])), (a0, .inl (cI, 5, .inl Rf)), (a1, .inl (cI, 32, .inl Lf)), (a2, .inl (cI, 11, .inl Wf))] (zb (decide (zin x (ln + 1)))) := by
  refine zr_ent (maxL := 2) (by decide) rfl (Nat.le_of_ble_eq_true rfl) (fun X C E => ?_)
  have C : zC X l D cI { frames := 0, cells := 0, slots := 0, locals := 0 } 2 false cX3_isWeight RX3 wsX3_isWeight := C
  refine zg_cv (lv' := [(0, .ref h0), (1, .int x)]) rfl rfl rfl ?_
  refine zg_iload_n C 1 dX3_isWeight_0 rfl ?_
  refine zg_if_lt C 25 dX3_isWeight_1 (by decide) (fun c_1 => ?_) (fun c_1 => ?_)
  · skip
    refine zg_iconst (v := nI 0) C dX3_isWeight_25 (by decide) ?_
    exact zg_zret C E dX3_isWeight_26 (zbf (fun q => absurd c_1 (zlt_not.mpr q.1)))
  · skip
    refine zg_iload_n C 1 dX3_isWeight_4 rfl ?_
    refine zg_aload_n C 0 dX3_isWeight_5 rfl ?_
    refine zg_get C 0 (ci := 3) (f := 4) rfl rfl uX3_isWeight_3 (by decide) fX3_isWeight_3_4 dX3_isWeight_6 rfl ?_
    refine zg_icmp_gt C 25 dX3_isWeight_9 (by decide) (fun c_9 => ?_) (fun c_9 => ?_)
    · skip
      refine zg_iconst (v := nI 0) C dX3_isWeight_25 (by decide) ?_
      exact zg_zret C E dX3_isWeight_26 (zbf (fun q => absurd ((zin_le (N := ln + 1) (by omega) (by omega)).mpr q).2 (zle_not.mpr c_9)))
    · skip
      refine zg_iload_n C 1 dX3_isWeight_12 rfl ?_
      refine zg_aload_n C 0 dX3_isWeight_13 rfl ?_
      refine zg_get C 0 (ci := 3) (f := 2) rfl rfl uX3_isWeight_3 (by decide) fX3_isWeight_3_2 dX3_isWeight_14 rfl ?_
      refine zg_alen C 3 rfl dX3_isWeight_17 ?_
      refine zg_icmp_ge C 25 dX3_isWeight_18 (by decide) (fun c_18 => by exact absurd (Int32.le_iff_toInt_le.mp (zlt_not.mp c_9)) (by have q1 := Int32.le_iff_toInt_le.mp c_18; rw [nI_toInt (by omega)] at q1; rw [nI_toInt (by omega)]; omega)) (fun c_18 => ?_)
      refine zg_iconst (v := nI 1) C dX3_isWeight_21 (by decide) ?_
      refine zg_goto C 26 dX3_isWeight_22 (by decide) ?_
      exact zg_zret C E dX3_isWeight_26 (zbt ((zin_le (N := ln + 1) (by omega) (by omega)).mp ⟨zlt_not.mp c_1, zlt_not.mp c_9⟩))
set_option maxHeartbeats 1000000 in
set_option maxRecDepth 100000 in
theorem c_X3_areSharedSets (l : Launch) (D : va_G) (cI : ClassId) (h0 a0 a1 a2 : Nat) (Rf Lf Wf : Nat → Int32) (rc ln rk ds su rd : Nat) (x y : Int32) (hln : ln ≤ 10) : zMr l D cI yX3_areSharedSets wsX3_areSharedSets { frames := 2, cells := 0, slots := 0, locals := 41 } [.ref h0, .int x, .int y] [(h0, .inr (3, [.ref a0, .ref a1, .ref a2, .int (nI rc), .int (nI ln), .int (nI rk), .int (nI ds), .int (nI su), .int (nI rd)])), (a0, .inl (cI, 5, .inl Rf)), (a1, .inl (cI, 32, .inl Lf)), (a2, .inl (cI, 11, .inl Wf))] (zb (decide (zin x (2 ^ ln) ∧ zin y (2 ^ ln) ∧ x &&& y = 0))) := by
  refine zr_ent (maxL := 3) (by decide) rfl (Nat.le_of_ble_eq_true rfl) (fun X C E => ?_)
  have C : zC X l D cI { frames := 2, cells := 0, slots := 0, locals := 41 } 3 false cX3_areSharedSets RX3 wsX3_areSharedSets := C
  refine zg_cv (lv' := [(0, .ref h0), (1, .int x), (2, .int y)]) rfl rfl rfl ?_
  refine zg_aload_n C 0 dX3_areSharedSets_0 rfl ?_
  refine zg_iload_n C 1 dX3_areSharedSets_1 rfl ?_
  refine zg_callr (As := [.int x]) (st := []) C [0, 1, 2, 3] 0 1 (c_X3_isWord l D cI h0 a0 a1 a2 Rf Lf Wf rc ln rk ds su rd x hln) gX3_areSharedSets_X3_isWord (by decide +kernel) rfl ⟨rfl, rfl⟩ ⟨Nat.le_of_ble_eq_true rfl, Nat.le_of_ble_eq_true rfl⟩ rfl (ci := 3) rfl rfl rfl rfl (Nat.le_of_ble_eq_true rfl) ⟨Nat.le_of_ble_eq_true rfl, Nat.le_of_ble_eq_true rfl⟩ dX3_areSharedSets_2 ?_
  refine zp_if_eq C 26 dX3_areSharedSets_5 (by decide) (fun c_5 => ?_) (fun c_5 => ?_)
  · skip
    refine zg_iconst (v := nI 0) C dX3_areSharedSets_26 (by decide) ?_
    exact zg_zret C E dX3_areSharedSets_27 (zbf (fun q => c_5 q.1))
  · skip
    refine zg_aload_n C 0 dX3_areSharedSets_8 rfl ?_
    refine zg_iload_n C 2 dX3_areSharedSets_9 rfl ?_
    refine zg_callr (As := [.int y]) (st := []) C [0, 1, 2, 3] 0 1 (c_X3_isWord l D cI h0 a0 a1 a2 Rf Lf Wf rc ln rk ds su rd y hln) gX3_areSharedSets_X3_isWord (by decide +kernel) rfl ⟨rfl, rfl⟩ ⟨Nat.le_of_ble_eq_true rfl, Nat.le_of_ble_eq_true rfl⟩ rfl (ci := 3) rfl rfl rfl rfl (Nat.le_of_ble_eq_true rfl) ⟨Nat.le_of_ble_eq_true rfl, Nat.le_of_ble_eq_true rfl⟩ dX3_areSharedSets_10 ?_
    refine zp_if_eq C 26 dX3_areSharedSets_13 (by decide) (fun c_13 => ?_) (fun c_13 => ?_)
    · skip
      refine zg_iconst (v := nI 0) C dX3_areSharedSets_26 (by decide) ?_
      exact zg_zret C E dX3_areSharedSets_27 (zbf (fun q => c_13 q.2.1))
    · skip
      refine zg_iload_n C 1 dX3_areSharedSets_16 rfl ?_
      refine zg_iload_n C 2 dX3_areSharedSets_17 rfl ?_
      refine zg_iand C dX3_areSharedSets_18 (x &&& y) (rfl) ?_
      refine zg_if_ne C 26 dX3_areSharedSets_19 (by decide) (fun c_19 => ?_) (fun c_19 => ?_)
      · skip
        refine zg_iconst (v := nI 0) C dX3_areSharedSets_26 (by decide) ?_
        exact zg_zret C E dX3_areSharedSets_27 (zbf (fun q => c_19 q.2.2))
      · skip
        refine zg_iconst (v := nI 1) C dX3_areSharedSets_22 (by decide) ?_
        refine zg_goto C 27 dX3_areSharedSets_23 (by decide) ?_
        exact zg_zret C E dX3_areSharedSets_27 (zbt ⟨c_5, c_13, c_19⟩)
theorem uX3_rowAt_3 : ∀ w ∈ u_ws RX3 TX3 9, w ∈ wsX3_rowAt := fun w h => List.mem_cons_of_mem _ (List.mem_append_right _ h)
theorem fX3_rowAt_3_0 : Cond.fieldLink RX3 9 (TX3 0).1 (TX3 0).2.1 (TX3 0).2.2.1 ∈ wsX3_rowAt := by decide +kernel
set_option maxHeartbeats 1000000 in
set_option maxRecDepth 100000 in
theorem c_X3_rowAt (l : Launch) (D : va_G) (cI : ClassId) (h0 a0 a1 a2 : Nat) (Rf Lf Wf : Nat → Int32) (rc ln rk ds su rd : Nat) (i : Nat) (hrc : rc ≤ 5) (hi : i < rc) : zMr l D cI yX3_rowAt wsX3_rowAt { frames := 1, cells := 0, slots := 0, locals := 21 } [.ref h0, .int (nI i)] [(h0, .inr (3, [.ref a0, .ref a1, .ref a2, .int (nI rc), .int (nI ln), .int (nI rk), .int (nI ds), .int (nI su), .int (nI rd)])), (a0, .inl (cI, 5, .inl Rf)), (a1, .inl (cI, 32, .inl Lf)), (a2, .inl (cI, 11, .inl Wf))] (Rf i) := by
  refine zr_ent (maxL := 2) (by decide) rfl (Nat.le_of_ble_eq_true rfl) (fun X C E => ?_)
  have C : zC X l D cI { frames := 1, cells := 0, slots := 0, locals := 21 } 2 false cX3_rowAt RX3 wsX3_rowAt := C
  refine zg_cv (lv' := [(0, .ref h0), (1, .int (nI i))]) rfl rfl rfl ?_
  refine zg_aload_n C 0 dX3_rowAt_0 rfl ?_
  refine zg_iload_n C 1 dX3_rowAt_1 rfl ?_
  refine zg_callr (As := [.int (nI i)]) (st := []) C [0, 1, 2, 3] 0 1 (c_X3_isRow l D cI h0 a0 a1 a2 Rf Lf Wf rc ln rk ds su rd (nI i) hrc) gX3_rowAt_X3_isRow (by decide +kernel) rfl ⟨rfl, rfl⟩ ⟨Nat.le_of_ble_eq_true rfl, Nat.le_of_ble_eq_true rfl⟩ rfl (ci := 3) rfl rfl rfl rfl (Nat.le_of_ble_eq_true rfl) ⟨Nat.le_of_ble_eq_true rfl, Nat.le_of_ble_eq_true rfl⟩ dX3_rowAt_2 ?_
  refine zp_if_eq C 17 dX3_rowAt_5 (by decide) (fun c_5 => by exact absurd (zin_nI hi (by omega)) c_5) (fun c_5 => ?_)
  refine zg_aload_n C 0 dX3_rowAt_8 rfl ?_
  refine zg_get C 0 (ci := 3) (f := 0) rfl rfl uX3_rowAt_3 (by decide) fX3_rowAt_3_0 dX3_rowAt_9 rfl ?_
  refine zg_iload_n C 1 dX3_rowAt_12 rfl ?_
  refine zg_iald C 1 rfl (by omega) (by decide) dX3_rowAt_13 (Rf i) (rfl) ?_
  refine zg_goto C 18 dX3_rowAt_14 (by decide) ?_
  exact zg_iret C E dX3_rowAt_18 (rfl)
theorem uX3_leaderOf_3 : ∀ w ∈ u_ws RX3 TX3 9, w ∈ wsX3_leaderOf := fun w h => List.mem_cons_of_mem _ (List.mem_append_right _ h)
theorem fX3_leaderOf_3_1 : Cond.fieldLink RX3 15 (TX3 1).1 (TX3 1).2.1 (TX3 1).2.2.1 ∈ wsX3_leaderOf := by decide +kernel
set_option maxHeartbeats 1000000 in
set_option maxRecDepth 100000 in
theorem c_X3_leaderOf (l : Launch) (D : va_G) (cI : ClassId) (h0 a0 a1 a2 : Nat) (Rf Lf Wf : Nat → Int32) (rc ln rk ds su rd : Nat) (y : Nat) (hrc : rc ≤ 5) (hy : y < 2 ^ rc) : zMr l D cI yX3_leaderOf wsX3_leaderOf { frames := 2, cells := 0, slots := 0, locals := 41 } [.ref h0, .int (nI y)] [(h0, .inr (3, [.ref a0, .ref a1, .ref a2, .int (nI rc), .int (nI ln), .int (nI rk), .int (nI ds), .int (nI su), .int (nI rd)])), (a0, .inl (cI, 5, .inl Rf)), (a1, .inl (cI, 32, .inl Lf)), (a2, .inl (cI, 11, .inl Wf))] (Lf y) := by
  refine zr_ent (maxL := 2) (by decide) rfl (Nat.le_of_ble_eq_true rfl) (fun X C E => ?_)
  have C : zC X l D cI { frames := 2, cells := 0, slots := 0, locals := 41 } 2 false cX3_leaderOf RX3 wsX3_leaderOf := C
  refine zg_cv (lv' := [(0, .ref h0), (1, .int (nI y))]) rfl rfl rfl ?_
  have q0 := zpw5 hrc
  refine zg_aload_n C 0 dX3_leaderOf_0 rfl ?_
  refine zg_iload_n C 1 dX3_leaderOf_1 rfl ?_
  refine zg_callr (As := [.int (nI y)]) (st := []) C [0, 1, 2, 3] 0 1 (c_X3_isSyndrome l D cI h0 a0 a1 a2 Rf Lf Wf rc ln rk ds su rd (nI y) hrc) gX3_leaderOf_X3_isSyndrome (by decide +kernel) rfl ⟨rfl, rfl⟩ ⟨Nat.le_of_ble_eq_true rfl, Nat.le_of_ble_eq_true rfl⟩ rfl (ci := 3) rfl rfl rfl rfl (Nat.le_of_ble_eq_true rfl) ⟨Nat.le_of_ble_eq_true rfl, Nat.le_of_ble_eq_true rfl⟩ dX3_leaderOf_2 ?_
  refine zp_if_eq C 17 dX3_leaderOf_5 (by decide) (fun c_5 => by exact absurd (zin_nI hy (by omega)) c_5) (fun c_5 => ?_)
  refine zg_aload_n C 0 dX3_leaderOf_8 rfl ?_
  refine zg_get C 0 (ci := 3) (f := 1) rfl rfl uX3_leaderOf_3 (by decide) fX3_leaderOf_3_1 dX3_leaderOf_9 rfl ?_
  refine zg_iload_n C 1 dX3_leaderOf_12 rfl ?_
  refine zg_iald C 2 rfl (by omega) (by decide) dX3_leaderOf_13 (Lf y) (rfl) ?_
  refine zg_goto C 20 dX3_leaderOf_14 (by decide) ?_
  exact zg_iret C E dX3_leaderOf_20 (rfl)
theorem uX3_leadersOfWeight_3 : ∀ w ∈ u_ws RX3 TX3 9, w ∈ wsX3_leadersOfWeight := fun w h => List.mem_cons_of_mem _ (List.mem_append_right _ h)
theorem fX3_leadersOfWeight_3_2 : Cond.fieldLink RX3 18 (TX3 2).1 (TX3 2).2.1 (TX3 2).2.2.1 ∈ wsX3_leadersOfWeight := by decide +kernel
set_option maxHeartbeats 1000000 in
set_option maxRecDepth 100000 in
theorem c_X3_leadersOfWeight (l : Launch) (D : va_G) (cI : ClassId) (h0 a0 a1 a2 : Nat) (Rf Lf Wf : Nat → Int32) (rc ln rk ds su rd : Nat) (y : Nat) (hln : ln ≤ 10) (hy : y < ln + 1) : zMr l D cI yX3_leadersOfWeight wsX3_leadersOfWeight { frames := 1, cells := 0, slots := 0, locals := 21 } [.ref h0, .int (nI y)] [(h0, .inr (3, [.ref a0, .ref a1, .ref a2, .int (nI rc), .int (nI ln), .int (nI rk), .int (nI ds), .int (nI su), .int (nI rd)])), (a0, .inl (cI, 5, .inl Rf)), (a1, .inl (cI, 32, .inl Lf)), (a2, .inl (cI, 11, .inl Wf))] (Wf y) := by
  refine zr_ent (maxL := 2) (by decide) rfl (Nat.le_of_ble_eq_true rfl) (fun X C E => ?_)
  have C : zC X l D cI { frames := 1, cells := 0, slots := 0, locals := 21 } 2 false cX3_leadersOfWeight RX3 wsX3_leadersOfWeight := C
  refine zg_cv (lv' := [(0, .ref h0), (1, .int (nI y))]) rfl rfl rfl ?_
  refine zg_aload_n C 0 dX3_leadersOfWeight_0 rfl ?_
  refine zg_iload_n C 1 dX3_leadersOfWeight_1 rfl ?_
  refine zg_callr (As := [.int (nI y)]) (st := []) C [0, 1, 2, 3] 0 1 (c_X3_isWeight l D cI h0 a0 a1 a2 Rf Lf Wf rc ln rk ds su rd (nI y) hln) gX3_leadersOfWeight_X3_isWeight (by decide +kernel) rfl ⟨rfl, rfl⟩ ⟨Nat.le_of_ble_eq_true rfl, Nat.le_of_ble_eq_true rfl⟩ rfl (ci := 3) rfl rfl rfl rfl (Nat.le_of_ble_eq_true rfl) ⟨Nat.le_of_ble_eq_true rfl, Nat.le_of_ble_eq_true rfl⟩ dX3_leadersOfWeight_2 ?_
  refine zp_if_eq C 17 dX3_leadersOfWeight_5 (by decide) (fun c_5 => by exact absurd (zin_nI hy (by omega)) c_5) (fun c_5 => ?_)
  refine zg_aload_n C 0 dX3_leadersOfWeight_8 rfl ?_
  refine zg_get C 0 (ci := 3) (f := 2) rfl rfl uX3_leadersOfWeight_3 (by decide) fX3_leadersOfWeight_3_2 dX3_leadersOfWeight_9 rfl ?_
  refine zg_iload_n C 1 dX3_leadersOfWeight_12 rfl ?_
  refine zg_iald C 3 rfl (by omega) (by decide) dX3_leadersOfWeight_13 (Wf y) (rfl) ?_
  refine zg_goto C 18 dX3_leadersOfWeight_14 (by decide) ?_
  exact zg_iret C E dX3_leadersOfWeight_18 (rfl)
set_option maxHeartbeats 1000000 in
set_option maxRecDepth 100000 in
theorem c_X3_isNearer (l : Launch) (D : va_G) (cI : ClassId) (w : Nat) (o : Option Nat) (hw : w < 1024) (ho : ∀ v, o = some v → v < 1024) : zMr l D cI yX3_isNearer wsX3_isNearer { frames := 1, cells := 0, slots := 0, locals := 20 } [.int (nI w), .int (zo o)] [] (zb (znear w o)) := by
  refine zr_ent (maxL := 2) (by decide) rfl (Nat.le_of_ble_eq_true rfl) (fun X C E => ?_)
  have C : zC X l D cI { frames := 1, cells := 0, slots := 0, locals := 20 } 2 false cX3_isNearer RX3 wsX3_isNearer := C
  refine zg_cv (lv' := [(0, .int (nI w)), (1, .int (zo o))]) rfl rfl rfl ?_
  rcases o with _ | v
  · skip
    refine zg_iload_n C 1 dX3_isNearer_0 rfl ?_
    refine zg_sipush (v := (-1001)) C dX3_isNearer_1 (by decide) ?_
    refine zg_icmp_eq C 18 dX3_isNearer_4 (by decide) (fun c_4 => ?_) (fun c_4 => by exact absurd rfl c_4)
    refine zg_iconst (v := nI 1) C dX3_isNearer_18 (by decide) ?_
    refine zg_goto C 23 dX3_isNearer_19 (by decide) ?_
    exact zg_zret C E dX3_isNearer_23 (rfl)
  · skip
    have hv := ho v rfl
    refine zg_cv (lv' := [(0, .int (nI w)), (1, .int (nI v))]) (by rw [show zo (some v) = nI v from rfl]) rfl rfl ?_
    refine zg_iload_n C 1 dX3_isNearer_0 rfl ?_
    refine zg_sipush (v := (-1001)) C dX3_isNearer_1 (by decide) ?_
    refine zg_icmp_eq C 18 dX3_isNearer_4 (by decide) (fun c_4 => by exact absurd c_4 (zo_ne (by omega))) (fun c_4 => ?_)
    refine zg_iload_n C 0 dX3_isNearer_7 rfl ?_
    refine zg_calls (As := [.int (nI w)]) (st := []) C [] 1 (c_J6_bitCount_0f7a4 l D cI w hw) gX3_isNearer_J6_bitCount_0f7a4 (by decide +kernel) rfl ⟨rfl, rfl⟩ ⟨Nat.le_of_ble_eq_true rfl, Nat.le_of_ble_eq_true rfl⟩ rfl rfl rfl (Nat.le_of_ble_eq_true rfl) ⟨Nat.le_of_ble_eq_true rfl, Nat.le_of_ble_eq_true rfl⟩ dX3_isNearer_8 ?_
    refine zg_iload_n C 1 dX3_isNearer_11 rfl ?_
    refine zg_calls (As := [.int (nI v)]) (st := [.int (nI (zpc w))]) C [] 1 (c_J6_bitCount_0f7a4 l D cI v (by omega)) gX3_isNearer_J6_bitCount_0f7a4 (by decide +kernel) rfl ⟨rfl, rfl⟩ ⟨Nat.le_of_ble_eq_true rfl, Nat.le_of_ble_eq_true rfl⟩ rfl rfl rfl (Nat.le_of_ble_eq_true rfl) ⟨Nat.le_of_ble_eq_true rfl, Nat.le_of_ble_eq_true rfl⟩ dX3_isNearer_12 ?_
    have q1 := zpc_le w
    have q2 := zpc_le v
    refine zn_icmp_ge C 22 (by omega) (by omega) dX3_isNearer_15 (by decide) (fun c_15 => ?_) (fun c_15 => ?_)
    · skip
      refine zg_iconst (v := nI 0) C dX3_isNearer_22 (by decide) ?_
      exact zg_zret C E dX3_isNearer_23 (zbf (P := zpc w < zpc v) (by omega))
    · skip
      refine zg_iconst (v := nI 1) C dX3_isNearer_18 (by decide) ?_
      refine zg_goto C 23 dX3_isNearer_19 (by decide) ?_
      exact zg_zret C E dX3_isNearer_23 (zbt (P := zpc w < zpc v) c_15)
theorem uX3_syndromeOf_3 : ∀ w ∈ u_ws RX3 TX3 9, w ∈ wsX3_syndromeOf := fun w h => List.mem_cons_of_mem _ (List.mem_append_right _ h)
theorem fX3_syndromeOf_3_3 : Cond.fieldLink RX3 21 (TX3 3).1 (TX3 3).2.1 (TX3 3).2.2.1 ∈ wsX3_syndromeOf := by decide +kernel
theorem fX3_syndromeOf_3_0 : Cond.fieldLink RX3 9 (TX3 0).1 (TX3 0).2.1 (TX3 0).2.2.1 ∈ wsX3_syndromeOf := by decide +kernel
set_option maxHeartbeats 1000000 in
set_option maxRecDepth 100000 in
/-- the syndrome of a word -/
theorem c_X3_syndromeOf (l : Launch) (D : va_G) (cI : ClassId) (h0 a0 a1 a2 : Nat) (Rf Lf Wf : Nat → Int32) (rc ln rk ds su rd : Nat) (R : Nat → Nat) (w : Nat) (hrc : rc ≤ 5) (hR : ∀ i, i < rc → Rf i = nI (R i)) (hRb : ∀ i, i < rc → R i < 1024) (hw : w < 1024) : zMr l D cI yX3_syndromeOf wsX3_syndromeOf { frames := 1, cells := 0, slots := 0, locals := 20 } [.ref h0, .int (nI w)] [(h0, .inr (3, [.ref a0, .ref a1, .ref a2, .int (nI rc), .int (nI ln), .int (nI rk), .int (nI ds), .int (nI su), .int (nI rd)])), (a0, .inl (cI, 5, .inl Rf)), (a1, .inl (cI, 32, .inl Lf)), (a2, .inl (cI, 11, .inl Wf))] (nI (zsk R w rc)) := by
  refine zr_ent (maxL := 4) (by decide) rfl (Nat.le_of_ble_eq_true rfl) (fun X C E => ?_)
  have C : zC X l D cI { frames := 1, cells := 0, slots := 0, locals := 20 } 4 false cX3_syndromeOf RX3 wsX3_syndromeOf := C
  refine zg_cv (lv' := [(0, .ref h0), (1, .int (nI w))]) rfl rfl rfl ?_
  refine zg_iconst (v := nI 0) C dX3_syndromeOf_0 (by decide) ?_
  refine zg_istore_n C [1, 2, 0] (lv' := [(0, .ref h0), (1, .int (nI w)), (2, .int (nI 0))]) dX3_syndromeOf_1 (by decide) rfl ?_
  refine zg_iconst (v := nI 0) C dX3_syndromeOf_2 (by decide) ?_
  refine zg_istore_n C [1, 2, 3, 0] (lv' := [(0, .ref h0), (1, .int (nI w)), (2, .int (nI 0)), (3, .int (nI 0))]) dX3_syndromeOf_3 (by decide) rfl ?_
  have L_4 : ∀ i, i ≤ rc → zG X 0 0 [(0, .ref h0), (1, .int (nI w)), (2, .int (nI (zsk R w i))), (3, .int (nI i))] [] [(h0, .inr (3, [.ref a0, .ref a1, .ref a2, .int (nI rc), .int (nI ln), .int (nI rk), .int (nI ds), .int (nI su), .int (nI rd)])), (a0, .inl (cI, 5, .inl Rf)), (a1, .inl (cI, 32, .inl Lf)), (a2, .inl (cI, 11, .inl Wf))] 4 := by
    refine zg_dn (fun i hi ih_4  => ?_)
    refine zg_iload_n C 3 dX3_syndromeOf_4 rfl ?_
    refine zg_aload_n C 0 dX3_syndromeOf_5 rfl ?_
    refine zg_get C 0 (ci := 3) (f := 3) rfl rfl uX3_syndromeOf_3 (by decide) fX3_syndromeOf_3_3 dX3_syndromeOf_6 rfl ?_
    refine zn_icmp_ge C 45 (by omega) (by omega) dX3_syndromeOf_9 (by decide) (fun c_9 => ?_) (fun c_9 => ?_)
    · skip
      refine zg_iload_n C 2 dX3_syndromeOf_45 rfl ?_
      exact zg_iret C E dX3_syndromeOf_46 (by rw [show i = rc by omega])
    · skip
      refine zg_iload_n C 3 dX3_syndromeOf_12 rfl ?_
      refine zg_aload_n C 0 dX3_syndromeOf_13 rfl ?_
      refine zg_get C 0 (ci := 3) (f := 0) rfl rfl uX3_syndromeOf_3 (by decide) fX3_syndromeOf_3_0 dX3_syndromeOf_14 rfl ?_
      refine zg_alen C 1 rfl dX3_syndromeOf_17 ?_
      refine zn_icmp_ge C 45 (by omega) (by omega) dX3_syndromeOf_18 (by decide) (fun c_18 => by exfalso; omega) (fun c_18 => ?_)
      refine zg_iload_n C 2 dX3_syndromeOf_21 rfl ?_
      refine zg_aload_n C 0 dX3_syndromeOf_22 rfl ?_
      refine zg_get C 0 (ci := 3) (f := 0) rfl rfl uX3_syndromeOf_3 (by decide) fX3_syndromeOf_3_0 dX3_syndromeOf_23 rfl ?_
      refine zg_iload_n C 3 dX3_syndromeOf_26 rfl ?_
      refine zg_iald C 1 rfl (by omega) (by decide) dX3_syndromeOf_27 (nI (R i)) (hR i c_9) ?_
      refine zg_iload_n C 1 dX3_syndromeOf_28 rfl ?_
      refine zg_iand C dX3_syndromeOf_29 (nI ((R i) &&& w)) (zi_and _ _) ?_
      refine zg_calls (As := [.int (nI ((R i) &&& w))]) (st := [.int (nI (zsk R w i))]) C [] 1 (c_J6_bitCount_0f7a4 l D cI ((R i) &&& w) (Nat.lt_of_le_of_lt Nat.and_le_right hw)) gX3_syndromeOf_J6_bitCount_0f7a4 (by decide +kernel) rfl ⟨rfl, rfl⟩ ⟨Nat.le_of_ble_eq_true rfl, Nat.le_of_ble_eq_true rfl⟩ rfl rfl rfl (Nat.le_of_ble_eq_true rfl) ⟨Nat.le_of_ble_eq_true rfl, Nat.le_of_ble_eq_true rfl⟩ dX3_syndromeOf_30 ?_
      refine zg_iconst (v := nI 1) C dX3_syndromeOf_33 (by decide) ?_
      refine zg_iand C dX3_syndromeOf_34 (nI (zpc (R i &&& w) % 2)) (zi_and1 _) ?_
      refine zg_iload_n C 3 dX3_syndromeOf_35 rfl ?_
      refine zg_ishl C dX3_syndromeOf_36 (nI (zpc (R i &&& w) % 2 * 2 ^ i)) (zi_bsh (Nat.mod_lt _ (by decide)) (by omega)) ?_
      refine zg_ior C dX3_syndromeOf_37 (nI (zsk R w (i + 1))) ((zi_or _ _).trans (congrArg nI (zor_add (zsk_lt R w i)))) ?_
      refine zg_istore_n C [1, 2, 0, 3] (lv' := [(0, .ref h0), (1, .int (nI w)), (2, .int (nI (zsk R w (i + 1)))), (3, .int (nI i))]) dX3_syndromeOf_38 (by decide) rfl ?_
      refine zg_iinc C 3 [1, 2, 3, 0] (lv' := [(0, .ref h0), (1, .int (nI w)), (2, .int (nI (zsk R w (i + 1)))), (3, .int (nI (i + 1)))]) (nI (i + 1)) dX3_syndromeOf_39 rfl (zi_inc _) (by decide) rfl ?_
      refine zg_goto C 4 dX3_syndromeOf_42 (by decide) ?_
      exact zg_cv (lv' := [(0, .ref h0), (1, .int (nI w)), (2, .int (nI (zsk R w (i + 1)))), (3, .int (nI (i + 1)))]) (rfl) rfl (rfl) (ih_4 (by omega) )
  exact zg_cv (lv' := [(0, .ref h0), (1, .int (nI w)), (2, .int (nI (zsk R w 0))), (3, .int (nI 0))]) (rfl) rfl (rfl) (L_4 0 (Nat.zero_le _) )
