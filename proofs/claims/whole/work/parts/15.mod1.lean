/-! the reference: reading, and the numbers of SUMS -/
set_option maxHeartbeats 1000000 in
set_option maxRecDepth 100000 in
theorem c_X6_within (l : Launch) (D : va_G) (cI : ClassId) (v lo hi : Int32) : zMr l D cI yX6_within wsX6_within { frames := 0, cells := 0, slots := 0, locals := 0 } [.int v, .int lo, .int hi] [] (zb (decide (lo ≤ v ∧ v ≤ hi))) := by
  refine zr_ent (maxL := 3) (by decide) rfl (Nat.le_of_ble_eq_true rfl) (fun X C E => ?_)
  have C : zC X l D cI { frames := 0, cells := 0, slots := 0, locals := 0 } 3 false cX6_within RX6 wsX6_within := C
  refine zg_cv (lv' := [(0, .int v), (1, .int lo), (2, .int hi)]) rfl rfl rfl ?_
  refine zg_iload_n C 0 dX6_within_0 rfl ?_
  refine zg_iload_n C 1 dX6_within_1 rfl ?_
  refine zg_icmp_lt C 14 dX6_within_2 (by decide) (fun c_2 => ?_) (fun c_2 => ?_)
  · skip
    refine zg_iconst (v := nI 0) C dX6_within_14 (by decide) ?_
    exact zg_zret C E dX6_within_15 (zbf (fun q => absurd c_2 (zlt_not.mpr q.1)))
  · skip
    refine zg_iload_n C 0 dX6_within_5 rfl ?_
    refine zg_iload_n C 2 dX6_within_6 rfl ?_
    refine zg_icmp_gt C 14 dX6_within_7 (by decide) (fun c_7 => ?_) (fun c_7 => ?_)
    · skip
      refine zg_iconst (v := nI 0) C dX6_within_14 (by decide) ?_
      exact zg_zret C E dX6_within_15 (zbf (fun q => absurd c_7 (zlt_not.mpr q.2)))
    · skip
      refine zg_iconst (v := nI 1) C dX6_within_10 (by decide) ?_
      refine zg_goto C 15 dX6_within_11 (by decide) ?_
      exact zg_zret C E dX6_within_15 (zbt ⟨zlt_not.mp c_2, zlt_not.mp c_7⟩)
set_option maxHeartbeats 1000000 in
set_option maxRecDepth 100000 in
theorem c_X6_ones (l : Launch) (D : va_G) (cI : ClassId) (w : Nat) (hw : w < 1024) : zMr l D cI yX6_ones wsX6_ones { frames := 0, cells := 0, slots := 0, locals := 0 } [.int (nI w)] [] (nI (zpc w)) := by
  refine zr_ent (maxL := 3) (by decide) rfl (Nat.le_of_ble_eq_true rfl) (fun X C E => ?_)
  have C : zC X l D cI { frames := 0, cells := 0, slots := 0, locals := 0 } 3 false cX6_ones RX6 wsX6_ones := C
  refine zg_cv (lv' := [(0, .int (nI w))]) rfl rfl rfl ?_
  refine zg_iconst (v := nI 0) C dX6_ones_0 (by decide) ?_
  refine zg_istore_n C [1, 0] (lv' := [(0, .int (nI w)), (1, .int (nI 0))]) dX6_ones_1 (by decide) rfl ?_
  refine zg_iconst (v := nI 0) C dX6_ones_2 (by decide) ?_
  refine zg_istore_n C [1, 2, 0] (lv' := [(0, .int (nI w)), (1, .int (nI 0)), (2, .int (nI 0))]) dX6_ones_3 (by decide) rfl ?_
  have L_4 : ∀ i, i ≤ 10 → zG X 0 0 [(0, .int (nI w)), (1, .int (nI (zpk w i))), (2, .int (nI i))] [] [] 4 := by
    refine zg_dn (fun i hi ih_4  => ?_)
    refine zg_iload_n C 2 dX6_ones_4 rfl ?_
    refine zg_bipush (v := nI 10) C dX6_ones_5 (by decide) ?_
    refine zn_icmp_ge C 24 (by omega) (by omega) dX6_ones_7 (by decide) (fun c_7 => ?_) (fun c_7 => ?_)
    · skip
      refine zg_iload_n C 1 dX6_ones_24 rfl ?_
      exact zg_iret C E dX6_ones_25 (by rw [show i = 10 by omega])
    · skip
      refine zg_iload_n C 1 dX6_ones_10 rfl ?_
      refine zg_iload_n C 0 dX6_ones_11 rfl ?_
      refine zg_iload_n C 2 dX6_ones_12 rfl ?_
      refine zg_ishr C dX6_ones_13 (nI (w / 2 ^ i)) (zi_shr (by omega) (by omega)) ?_
      refine zg_iconst (v := nI 1) C dX6_ones_14 (by decide) ?_
      refine zg_iand C dX6_ones_15 (nI (w / 2 ^ i % 2)) (zi_and1 _) ?_
      refine zg_iadd C dX6_ones_16 (nI (zpk w (i + 1))) (nI_add _ _) ?_
      refine zg_istore_n C [1, 0, 2] (lv' := [(0, .int (nI w)), (1, .int (nI (zpk w (i + 1)))), (2, .int (nI i))]) dX6_ones_17 (by decide) rfl ?_
      refine zg_iinc C 2 [1, 2, 0] (lv' := [(0, .int (nI w)), (1, .int (nI (zpk w (i + 1)))), (2, .int (nI (i + 1)))]) (nI (i + 1)) dX6_ones_18 rfl (zi_inc _) (by decide) rfl ?_
      refine zg_goto C 4 dX6_ones_21 (by decide) ?_
      exact zg_cv (lv' := [(0, .int (nI w)), (1, .int (nI (zpk w (i + 1)))), (2, .int (nI (i + 1)))]) (rfl) rfl (rfl) (ih_4 (by omega) )
  exact zg_cv (lv' := [(0, .int (nI w)), (1, .int (nI (zpk w 0))), (2, .int (nI 0))]) (rfl) rfl (rfl) (L_4 0 (Nat.zero_le _) )
theorem uX6_letter_6 : ∀ w ∈ u_ws RX6 TX6 21, w ∈ wsX6_letter := fun w h => List.mem_cons_of_mem _ (List.mem_append_right _ h)
theorem fX6_letter_6_0 : Cond.fieldLink RX6 36 (TX6 0).1 (TX6 0).2.1 (TX6 0).2.2.1 ∈ wsX6_letter := by decide +kernel
theorem fX6_letter_6_1 : Cond.fieldLink RX6 7 (TX6 1).1 (TX6 1).2.1 (TX6 1).2.2.1 ∈ wsX6_letter := by decide +kernel
set_option maxHeartbeats 1000000 in
set_option maxRecDepth 100000 in
theorem c_X6_letter (l : Launch) (D : va_G) (cI : ClassId) (m0 mp mo mv mn my ml : Nat) (pg Of V Nf Yf Lf : Nat → Int32) (pn rc ln rk su rd : Nat) (sd bs bp sr y1 y2 y3 dz : Int32) (hh : Int64) (x : Int32) (hok : zokL pn x) : zMw l D cI yX6_letter wsX6_letter { frames := 1, cells := 0, slots := 0, locals := 22 } [.ref m0, .int x] [(m0, .inr (6, [.int (nI pn), .ref mp, .int (nI rc), .int (nI ln), .ref mo, .int sd, .ref mv, .int bs, .int bp, .int sr, .int y1, .int y2, .int y3, .ref mn, .ref my, .ref ml, .int (nI rk), .int dz, .int (nI su), .int (nI rd), .long hh])), (mp, .inl (cI, 56, .inl pg)), (mo, .inl (cI, 5, .inl Of)), (mv, .inl (cI, 4, .inl V)), (mn, .inl (cI, 5, .inl Nf)), (my, .inl (cI, 1024, .inl Yf)), (ml, .inl (cI, 32, .inl Lf))] (fun v9 w9 => v9 = some (.int (nI (pn + 1))) ∧ w9 = [(m0, .inr (6, [.int (nI (pn + 1)), .ref mp, .int (nI rc), .int (nI ln), .ref mo, .int sd, .ref mv, .int bs, .int bp, .int sr, .int y1, .int y2, .int y3, .ref mn, .ref my, .ref ml, .int (nI rk), .int dz, .int (nI su), .int (nI rd), .long hh])), (mp, .inl (cI, 56, .inl (upd pg pn x))), (mo, .inl (cI, 5, .inl Of)), (mv, .inl (cI, 4, .inl V)), (mn, .inl (cI, 5, .inl Nf)), (my, .inl (cI, 1024, .inl Yf)), (ml, .inl (cI, 32, .inl Lf))]) 0 0 := by
  refine zw_ent (maxL := 2) (by decide) rfl (Nat.le_of_ble_eq_true rfl) (fun X C E hin9 => ?_)
  have C : zC X l D cI { frames := 1, cells := 0, slots := 0, locals := 22 } 2 true cX6_letter RX6 wsX6_letter := C
  refine zg_cv (lv' := [(0, .ref m0), (1, .int x)]) rfl rfl rfl ?_
  obtain ⟨o1, o2, o3⟩ := id hok
  refine zg_iload_n C 1 dX6_letter_0 rfl ?_
  refine zg_bipush (v := nI 32) C dX6_letter_1 (by decide) ?_
  refine zg_bipush (v := nI 126) C dX6_letter_3 (by decide) ?_
  refine zg_calls (As := [.int x, .int (nI 32), .int (nI 126)]) (st := []) C [] 3 (c_X6_within l D cI x (nI 32) (nI 126) ) gX6_letter_X6_within (by decide +kernel) rfl ⟨rfl, rfl⟩ ⟨Nat.le_of_ble_eq_true rfl, Nat.le_of_ble_eq_true rfl⟩ rfl rfl rfl (Nat.le_of_ble_eq_true rfl) ⟨Nat.le_of_ble_eq_true rfl, Nat.le_of_ble_eq_true rfl⟩ dX6_letter_5 ?_
  refine zp_if_ne C 15 dX6_letter_8 (by decide) (fun c_8 => ?_) (fun c_8 => by exact absurd ⟨o1, o2⟩ c_8)
  refine zg_aload_n C 0 dX6_letter_15 rfl ?_
  refine zg_get C 0 (ci := 6) (f := 0) rfl rfl uX6_letter_6 (by decide) fX6_letter_6_0 dX6_letter_16 rfl ?_
  refine zg_bipush (v := nI 56) C dX6_letter_19 (by decide) ?_
  refine zn_icmp_ne C 28 (by omega) (by omega) dX6_letter_21 (by decide) (fun c_21 => ?_) (fun c_21 => by omega)
  refine zg_aload_n C 0 dX6_letter_28 rfl ?_
  refine zg_get C 0 (ci := 6) (f := 1) rfl rfl uX6_letter_6 (by decide) fX6_letter_6_1 dX6_letter_29 rfl ?_
  refine zg_aload_n C 0 dX6_letter_32 rfl ?_
  refine zg_get C 0 (ci := 6) (f := 0) rfl rfl uX6_letter_6 (by decide) fX6_letter_6_0 dX6_letter_33 rfl ?_
  refine zg_iload_n C 1 dX6_letter_36 rfl ?_
  refine zg_iast C 1 (ws' := [(m0, .inr (6, [.int (nI pn), .ref mp, .int (nI rc), .int (nI ln), .ref mo, .int sd, .ref mv, .int bs, .int bp, .int sr, .int y1, .int y2, .int y3, .ref mn, .ref my, .ref ml, .int (nI rk), .int dz, .int (nI su), .int (nI rd), .long hh])), (mp, .inl (cI, 56, .inl (upd pg pn x))), (mo, .inl (cI, 5, .inl Of)), (mv, .inl (cI, 4, .inl V)), (mn, .inl (cI, 5, .inl Nf)), (my, .inl (cI, 1024, .inl Yf)), (ml, .inl (cI, 32, .inl Lf))]) rfl (by omega) (by decide) dX6_letter_37 rfl ?_
  refine zg_aload_n C 0 dX6_letter_38 rfl ?_
  refine zg_dup C dX6_letter_39 rfl ?_
  refine zg_get C 0 (ci := 6) (f := 0) rfl rfl uX6_letter_6 (by decide) fX6_letter_6_0 dX6_letter_40 rfl ?_
  refine zg_iconst (v := nI 1) C dX6_letter_43 (by decide) ?_
  refine zg_iadd C dX6_letter_44 (nI (pn + 1)) (nI_add _ _) ?_
  refine zg_put C 0 (ci := 6) (f := 0) (ws' := [(m0, .inr (6, [.int (nI (pn + 1)), .ref mp, .int (nI rc), .int (nI ln), .ref mo, .int sd, .ref mv, .int bs, .int bp, .int sr, .int y1, .int y2, .int y3, .ref mn, .ref my, .ref ml, .int (nI rk), .int dz, .int (nI su), .int (nI rd), .long hh])), (mp, .inl (cI, 56, .inl (upd pg pn x))), (mo, .inl (cI, 5, .inl Of)), (mv, .inl (cI, 4, .inl V)), (mn, .inl (cI, 5, .inl Nf)), (my, .inl (cI, 1024, .inl Yf)), (ml, .inl (cI, 32, .inl Lf))]) rfl rfl uX6_letter_6 tyX6_ok nmX6 (by decide) fX6_letter_6_0 rfl rfl rfl rfl (Nat.le_of_ble_eq_true rfl) dX6_letter_45 rfl ?_
  refine zg_aload_n C 0 dX6_letter_48 rfl ?_
  refine zg_get C 0 (ci := 6) (f := 0) rfl rfl uX6_letter_6 (by decide) fX6_letter_6_0 dX6_letter_49 rfl ?_
  exact zg_wiret C E dX6_letter_52 (⟨rfl, rfl⟩)
theorem uc_X6_letter_no_6 : ∀ w ∈ u_ws RX6 TX6 21, w ∈ wsX6_letter := fun w h => List.mem_cons_of_mem _ (List.mem_append_right _ h)
theorem fc_X6_letter_no_6_0 : Cond.fieldLink RX6 36 (TX6 0).1 (TX6 0).2.1 (TX6 0).2.2.1 ∈ wsX6_letter := by decide +kernel
set_option maxHeartbeats 1000000 in
set_option maxRecDepth 100000 in
theorem c_X6_letter_no (l : Launch) (D : va_G) (cI : ClassId) (m0 mp mo mv mn my ml : Nat) (pg Of V Nf Yf Lf : Nat → Int32) (pn rc ln rk su rd : Nat) (sd bs bp sr y1 y2 y3 dz : Int32) (hh : Int64) (x : Int32) (hno : ¬ zokL pn x) (hpn : pn ≤ 56) : zMr l D cI yX6_letter wsX6_letter { frames := 1, cells := 0, slots := 0, locals := 22 } [.ref m0, .int x] [(m0, .inr (6, [.int (nI pn), .ref mp, .int (nI rc), .int (nI ln), .ref mo, .int sd, .ref mv, .int bs, .int bp, .int sr, .int y1, .int y2, .int y3, .ref mn, .ref my, .ref ml, .int (nI rk), .int dz, .int (nI su), .int (nI rd), .long hh])), (mp, .inl (cI, 56, .inl pg)), (mo, .inl (cI, 5, .inl Of)), (mv, .inl (cI, 4, .inl V)), (mn, .inl (cI, 5, .inl Nf)), (my, .inl (cI, 1024, .inl Yf)), (ml, .inl (cI, 32, .inl Lf))] (zAlet pn x) := by
  refine zr_ent (maxL := 2) (by decide) rfl (Nat.le_of_ble_eq_true rfl) (fun X C E => ?_)
  have C : zC X l D cI { frames := 1, cells := 0, slots := 0, locals := 22 } 2 false cX6_letter RX6 wsX6_letter := C
  refine zg_cv (lv' := [(0, .ref m0), (1, .int x)]) rfl rfl rfl ?_
  refine zg_iload_n C 1 dX6_letter_0 rfl ?_
  refine zg_bipush (v := nI 32) C dX6_letter_1 (by decide) ?_
  refine zg_bipush (v := nI 126) C dX6_letter_3 (by decide) ?_
  refine zg_calls (As := [.int x, .int (nI 32), .int (nI 126)]) (st := []) C [] 3 (c_X6_within l D cI x (nI 32) (nI 126) ) gX6_letter_X6_within (by decide +kernel) rfl ⟨rfl, rfl⟩ ⟨Nat.le_of_ble_eq_true rfl, Nat.le_of_ble_eq_true rfl⟩ rfl rfl rfl (Nat.le_of_ble_eq_true rfl) ⟨Nat.le_of_ble_eq_true rfl, Nat.le_of_ble_eq_true rfl⟩ dX6_letter_5 ?_
  refine zp_if_ne C 15 dX6_letter_8 (by decide) (fun c_8 => ?_) (fun c_8 => ?_)
  · skip
    refine zg_aload_n C 0 dX6_letter_15 rfl ?_
    refine zg_get C 0 (ci := 6) (f := 0) rfl rfl uc_X6_letter_no_6 (by decide) fc_X6_letter_no_6_0 dX6_letter_16 rfl ?_
    refine zg_bipush (v := nI 56) C dX6_letter_19 (by decide) ?_
    refine zn_icmp_ne C 28 (by omega) (by omega) dX6_letter_21 (by decide) (fun c_21 => by exact (hno ⟨c_8.1, c_8.2, by omega⟩).elim) (fun c_21 => ?_)
    refine zg_sipush (v := (-1004)) C dX6_letter_24 (by decide) ?_
    exact zg_iret C E dX6_letter_27 (by rw [zAlet, if_pos (show 32 ≤ x ∧ x ≤ 126 from c_8), if_neg (by omega)])
  · skip
    refine zg_sipush (v := (-1002)) C dX6_letter_11 (by decide) ?_
    exact zg_iret C E dX6_letter_14 (by rw [zAlet, if_neg (show ¬ (32 ≤ x ∧ x ≤ 126) from c_8)])
theorem uX6_blank_6 : ∀ w ∈ u_ws RX6 TX6 21, w ∈ wsX6_blank := fun w h => List.mem_cons_of_mem _ (List.mem_append_right _ h)
theorem fX6_blank_6_0 : Cond.fieldLink RX6 36 (TX6 0).1 (TX6 0).2.1 (TX6 0).2.2.1 ∈ wsX6_blank := by decide +kernel
set_option maxHeartbeats 1000000 in
set_option maxRecDepth 100000 in
theorem c_X6_blank (l : Launch) (D : va_G) (cI : ClassId) (m0 mp mo mv mn my ml : Nat) (pg Of V Nf Yf Lf : Nat → Int32) (pn rc ln rk su rd : Nat) (sd bs bp sr y1 y2 y3 dz : Int32) (hh : Int64) : zMw l D cI yX6_blank wsX6_blank { frames := 0, cells := 0, slots := 0, locals := 0 } [.ref m0] [(m0, .inr (6, [.int (nI pn), .ref mp, .int (nI rc), .int (nI ln), .ref mo, .int sd, .ref mv, .int bs, .int bp, .int sr, .int y1, .int y2, .int y3, .ref mn, .ref my, .ref ml, .int (nI rk), .int dz, .int (nI su), .int (nI rd), .long hh])), (mp, .inl (cI, 56, .inl pg)), (mo, .inl (cI, 5, .inl Of)), (mv, .inl (cI, 4, .inl V)), (mn, .inl (cI, 5, .inl Nf)), (my, .inl (cI, 1024, .inl Yf)), (ml, .inl (cI, 32, .inl Lf))] (fun v9 w9 => v9 = some (.int (nI pn)) ∧ w9 = [(m0, .inr (6, [.int (nI 0), .ref mp, .int (nI rc), .int (nI ln), .ref mo, .int sd, .ref mv, .int bs, .int bp, .int sr, .int y1, .int y2, .int y3, .ref mn, .ref my, .ref ml, .int (nI rk), .int dz, .int (nI su), .int (nI rd), .long hh])), (mp, .inl (cI, 56, .inl pg)), (mo, .inl (cI, 5, .inl Of)), (mv, .inl (cI, 4, .inl V)), (mn, .inl (cI, 5, .inl Nf)), (my, .inl (cI, 1024, .inl Yf)), (ml, .inl (cI, 32, .inl Lf))]) 0 0 := by
  refine zw_ent (maxL := 2) (by decide) rfl (Nat.le_of_ble_eq_true rfl) (fun X C E hin9 => ?_)
  have C : zC X l D cI { frames := 0, cells := 0, slots := 0, locals := 0 } 2 true cX6_blank RX6 wsX6_blank := C
  refine zg_cv (lv' := [(0, .ref m0)]) rfl rfl rfl ?_
  refine zg_aload_n C 0 dX6_blank_0 rfl ?_
  refine zg_get C 0 (ci := 6) (f := 0) rfl rfl uX6_blank_6 (by decide) fX6_blank_6_0 dX6_blank_1 rfl ?_
  refine zg_istore_n C [1, 0] (lv' := [(0, .ref m0), (1, .int (nI pn))]) dX6_blank_4 (by decide) rfl ?_
  refine zg_aload_n C 0 dX6_blank_5 rfl ?_
  refine zg_iconst (v := nI 0) C dX6_blank_6 (by decide) ?_
  refine zg_put C 0 (ci := 6) (f := 0) (ws' := [(m0, .inr (6, [.int (nI 0), .ref mp, .int (nI rc), .int (nI ln), .ref mo, .int sd, .ref mv, .int bs, .int bp, .int sr, .int y1, .int y2, .int y3, .ref mn, .ref my, .ref ml, .int (nI rk), .int dz, .int (nI su), .int (nI rd), .long hh])), (mp, .inl (cI, 56, .inl pg)), (mo, .inl (cI, 5, .inl Of)), (mv, .inl (cI, 4, .inl V)), (mn, .inl (cI, 5, .inl Nf)), (my, .inl (cI, 1024, .inl Yf)), (ml, .inl (cI, 32, .inl Lf))]) rfl rfl uX6_blank_6 tyX6_ok nmX6 (by decide) fX6_blank_6_0 rfl rfl rfl rfl (Nat.le_of_ble_eq_true rfl) dX6_blank_7 rfl ?_
  refine zg_iload_n C 1 dX6_blank_10 rfl ?_
  exact zg_wiret C E dX6_blank_11 (⟨rfl, rfl⟩)
theorem uX6_takes_6 : ∀ w ∈ u_ws RX6 TX6 21, w ∈ wsX6_takes := fun w h => List.mem_cons_of_mem _ (List.mem_append_right _ h)
theorem fX6_takes_6_11 : Cond.fieldLink RX6 45 (TX6 11).1 (TX6 11).2.1 (TX6 11).2.2.1 ∈ wsX6_takes := by decide +kernel
theorem fX6_takes_6_12 : Cond.fieldLink RX6 42 (TX6 12).1 (TX6 12).2.1 (TX6 12).2.2.1 ∈ wsX6_takes := by decide +kernel
theorem fX6_takes_6_13 : Cond.fieldLink RX6 23 (TX6 13).1 (TX6 13).2.1 (TX6 13).2.2.1 ∈ wsX6_takes := by decide +kernel
theorem fX6_takes_6_10 : Cond.fieldLink RX6 39 (TX6 10).1 (TX6 10).2.1 (TX6 10).2.2.1 ∈ wsX6_takes := by decide +kernel
set_option maxHeartbeats 1000000 in
set_option maxRecDepth 100000 in
theorem c_X6_takes (l : Launch) (D : va_G) (cI : ClassId) (m0 mp mo mv mn my ml : Nat) (pg Of V Nf Yf Lf : Nat → Int32) (pn rc ln rk su rd : Nat) (sd bs bp sr dz : Int32) (hh : Int64) (rw sg lg : Nat) (R : Nat → Nat) (x : Int32) (hk : zrok (rw, sg, lg, R)) (hN : zNr Nf (rw, sg, lg, R)) : zMw l D cI yX6_takes wsX6_takes { frames := 0, cells := 0, slots := 0, locals := 0 } [.ref m0, .int x] [(m0, .inr (6, [.int (nI pn), .ref mp, .int (nI rc), .int (nI ln), .ref mo, .int sd, .ref mv, .int bs, .int bp, .int sr, .int (nI rw), .int (nI sg), .int (nI lg), .ref mn, .ref my, .ref ml, .int (nI rk), .int dz, .int (nI su), .int (nI rd), .long hh])), (mp, .inl (cI, 56, .inl pg)), (mo, .inl (cI, 5, .inl Of)), (mv, .inl (cI, 4, .inl V)), (mn, .inl (cI, 5, .inl Nf)), (my, .inl (cI, 1024, .inl Yf)), (ml, .inl (cI, 32, .inl Lf))] (fun v9 w9 => ∃ (Nf9 : Nat → Int32), v9 = some (.int (zb ((zstep (rw, sg, lg, R) x).isSome))) ∧ w9 = [(m0, .inr (6, [.int (nI pn), .ref mp, .int (nI rc), .int (nI ln), .ref mo, .int sd, .ref mv, .int bs, .int bp, .int sr, .int (nI (((zstep (rw, sg, lg, R) x).getD (rw, sg, lg, R)).1)), .int (nI (((zstep (rw, sg, lg, R) x).getD (rw, sg, lg, R)).2.1)), .int (nI (((zstep (rw, sg, lg, R) x).getD (rw, sg, lg, R)).2.2.1)), .ref mn, .ref my, .ref ml, .int (nI rk), .int dz, .int (nI su), .int (nI rd), .long hh])), (mp, .inl (cI, 56, .inl pg)), (mo, .inl (cI, 5, .inl Of)), (mv, .inl (cI, 4, .inl V)), (mn, .inl (cI, 5, .inl Nf9)), (my, .inl (cI, 1024, .inl Yf)), (ml, .inl (cI, 32, .inl Lf))] ∧ zNr Nf9 ((zstep (rw, sg, lg, R) x).getD (rw, sg, lg, R))) 0 0 := by
  refine zw_ent (maxL := 3) (by decide) rfl (Nat.le_of_ble_eq_true rfl) (fun X C E hin9 => ?_)
  have C : zC X l D cI { frames := 0, cells := 0, slots := 0, locals := 0 } 3 true cX6_takes RX6 wsX6_takes := C
  refine zg_cv (lv' := [(0, .ref m0), (1, .int x)]) rfl rfl rfl ?_
  obtain ⟨k1, k2, k3, k4, k5, k6, k7, k8⟩ := id hk
  refine zg_iload_n C 1 dX6_takes_0 rfl ?_
  refine zg_bipush (v := nI 47) C dX6_takes_1 (by decide) ?_
  refine zg_icmp_ne C 106 dX6_takes_3 (by decide) (fun c_3 => ?_) (fun c_3 => ?_)
  · skip
    refine zg_iload_n C 1 dX6_takes_106 rfl ?_
    refine zg_bipush (v := nI 48) C dX6_takes_107 (by decide) ?_
    refine zg_icmp_eq C 118 dX6_takes_109 (by decide) (fun c_109 => ?_) (fun c_109 => ?_)
    · skip
      subst c_109
      refine zg_aload_n C 0 dX6_takes_118 rfl ?_
      refine zg_get C 0 (ci := 6) (f := 11) rfl rfl uX6_takes_6 (by decide) fX6_takes_6_11 dX6_takes_119 rfl ?_
      refine zg_aload_n C 0 dX6_takes_122 rfl ?_
      refine zg_get C 0 (ci := 6) (f := 12) rfl rfl uX6_takes_6 (by decide) fX6_takes_6_12 dX6_takes_123 rfl ?_
      refine zn_if_ne C 134 (by omega) dX6_takes_126 (by decide) (fun c_126 => ?_) (fun c_126 => ?_)
      · skip
        refine zg_aload_n C 0 dX6_takes_134 rfl ?_
        refine zg_get C 0 (ci := 6) (f := 12) rfl rfl uX6_takes_6 (by decide) fX6_takes_6_12 dX6_takes_135 rfl ?_
        refine zn_icmp_ge C 145 (by omega) (by omega) dX6_takes_138 (by decide) (fun c_138 => ?_) (fun c_138 => ?_)
        · skip
          refine zg_iconst (v := nI 0) C dX6_takes_145 (by decide) ?_
          refine zg_istore_n C [1, 2, 0] (lv' := [(0, .ref m0), (1, .int (nI 48)), (2, .int (nI 0))]) dX6_takes_146 (by decide) rfl ?_
          refine zg_iload_n C 2 dX6_takes_147 rfl ?_
          refine zn_if_eq C 200 (by omega) dX6_takes_148 (by decide) (fun c_148 => ?_) (fun c_148 => by omega)
          refine zg_iload_n C 2 dX6_takes_200 rfl ?_
          have hs : (zstep (rw, sg, lg, R) (nI 48)) = none := (zst_48 (by decide)).trans (if_neg (by rw [zmo_of hk]; split <;> omega))
          exact zg_wzret C ((zstep (rw, sg, lg, R) (nI 48)).isSome) E dX6_takes_201 (zbF (by rw [hs]; rfl)) (⟨_, rfl, by rw [hs]; rfl, by rw [hs]; exact hN⟩)
        · skip
          refine zg_iconst (v := nI 1) C dX6_takes_141 (by decide) ?_
          refine zg_goto C 146 dX6_takes_142 (by decide) ?_
          refine zg_istore_n C [1, 2, 0] (lv' := [(0, .ref m0), (1, .int (nI 48)), (2, .int (nI 1))]) dX6_takes_146 (by decide) rfl ?_
          refine zg_iload_n C 2 dX6_takes_147 rfl ?_
          refine zn_if_eq C 200 (by omega) dX6_takes_148 (by decide) (fun c_148 => by omega) (fun c_148 => ?_)
          refine zg_aload_n C 0 dX6_takes_151 rfl ?_
          refine zg_get C 0 (ci := 6) (f := 13) rfl rfl uX6_takes_6 (by decide) fX6_takes_6_13 dX6_takes_152 rfl ?_
          refine zg_aload_n C 0 dX6_takes_155 rfl ?_
          refine zg_get C 0 (ci := 6) (f := 10) rfl rfl uX6_takes_6 (by decide) fX6_takes_6_10 dX6_takes_156 rfl ?_
          refine zg_aload_n C 0 dX6_takes_159 rfl ?_
          refine zg_get C 0 (ci := 6) (f := 11) rfl rfl uX6_takes_6 (by decide) fX6_takes_6_11 dX6_takes_160 rfl ?_
          refine zn_if_ne C 170 (by omega) dX6_takes_163 (by decide) (fun c_163 => ?_) (fun c_163 => ?_)
          · skip
            refine zg_aload_n C 0 dX6_takes_170 rfl ?_
            refine zg_get C 0 (ci := 6) (f := 13) rfl rfl uX6_takes_6 (by decide) fX6_takes_6_13 dX6_takes_171 rfl ?_
            refine zg_aload_n C 0 dX6_takes_174 rfl ?_
            refine zg_get C 0 (ci := 6) (f := 10) rfl rfl uX6_takes_6 (by decide) fX6_takes_6_10 dX6_takes_175 rfl ?_
            refine zg_iald C 4 rfl (by omega) (by decide) dX6_takes_178 (nI (R rw)) (hN.2 (by omega)) ?_
            refine zg_iload_n C 1 dX6_takes_179 rfl ?_
            refine zg_bipush (v := nI 48) C dX6_takes_180 (by decide) ?_
            refine zg_isub C dX6_takes_182 (nI 0) (by decide) ?_
            refine zg_aload_n C 0 dX6_takes_183 rfl ?_
            refine zg_get C 0 (ci := 6) (f := 11) rfl rfl uX6_takes_6 (by decide) fX6_takes_6_11 dX6_takes_184 rfl ?_
            refine zg_ishl C dX6_takes_187 (nI (0 * 2 ^ sg)) (zi_bsh (by decide) (by omega)) ?_
            refine zg_ior C dX6_takes_188 (nI (R rw + 0 * 2 ^ sg)) ((zi_or _ _).trans (congrArg nI (zor_add k7))) ?_
            refine zg_iast C 4 (ws' := [(m0, .inr (6, [.int (nI pn), .ref mp, .int (nI rc), .int (nI ln), .ref mo, .int sd, .ref mv, .int bs, .int bp, .int sr, .int (nI rw), .int (nI sg), .int (nI lg), .ref mn, .ref my, .ref ml, .int (nI rk), .int dz, .int (nI su), .int (nI rd), .long hh])), (mp, .inl (cI, 56, .inl pg)), (mo, .inl (cI, 5, .inl Of)), (mv, .inl (cI, 4, .inl V)), (mn, .inl (cI, 5, .inl (upd Nf rw (nI (R rw + 0 * 2 ^ sg))))), (my, .inl (cI, 1024, .inl Yf)), (ml, .inl (cI, 32, .inl Lf))]) rfl (by omega) (by decide) dX6_takes_189 rfl ?_
            refine zg_aload_n C 0 dX6_takes_190 rfl ?_
            refine zg_dup C dX6_takes_191 rfl ?_
            refine zg_get C 0 (ci := 6) (f := 11) rfl rfl uX6_takes_6 (by decide) fX6_takes_6_11 dX6_takes_192 rfl ?_
            refine zg_iconst (v := nI 1) C dX6_takes_195 (by decide) ?_
            refine zg_iadd C dX6_takes_196 (nI (sg + 1)) (nI_add _ _) ?_
            refine zg_put C 0 (ci := 6) (f := 11) (ws' := [(m0, .inr (6, [.int (nI pn), .ref mp, .int (nI rc), .int (nI ln), .ref mo, .int sd, .ref mv, .int bs, .int bp, .int sr, .int (nI rw), .int (nI (sg + 1)), .int (nI lg), .ref mn, .ref my, .ref ml, .int (nI rk), .int dz, .int (nI su), .int (nI rd), .long hh])), (mp, .inl (cI, 56, .inl pg)), (mo, .inl (cI, 5, .inl Of)), (mv, .inl (cI, 4, .inl V)), (mn, .inl (cI, 5, .inl (upd Nf rw (nI (R rw + 0 * 2 ^ sg))))), (my, .inl (cI, 1024, .inl Yf)), (ml, .inl (cI, 32, .inl Lf))]) rfl rfl uX6_takes_6 tyX6_ok nmX6 (by decide) fX6_takes_6_11 rfl rfl rfl rfl (Nat.le_of_ble_eq_true rfl) dX6_takes_197 rfl ?_
            refine zg_iload_n C 2 dX6_takes_200 rfl ?_
            have hs : (zstep (rw, sg, lg, R) (nI 48)) = some (rw, sg + 1, lg, zset R rw (R rw + 0 * 2 ^ sg)) := (zst_48 (by decide)).trans (if_pos (by rw [zmo_of hk]; split <;> omega))
            exact zg_wzret C ((zstep (rw, sg, lg, R) (nI 48)).isSome) E dX6_takes_201 (zbT (by rw [hs]; rfl)) (⟨_, rfl, by rw [hs]; rfl, by rw [hs]; exact zNr_sgn hN⟩)
          · skip
            refine zg_iconst (v := nI 0) C dX6_takes_166 (by decide) ?_
            refine zg_goto C 179 dX6_takes_167 (by decide) ?_
            have h0R : 0 = R rw := by have k9 := k7; rw [c_163] at k9; have : 2 ^ 0 = 1 := rfl; omega
            refine zg_cv (st' := [.int (nI (R rw)), .int (nI rw), .ref mn]) rfl (congrArg (fun q9 => ([.int (nI q9), .int (nI rw), .ref mn] : List Value)) (h0R)) rfl ?_
            refine zg_iload_n C 1 dX6_takes_179 rfl ?_
            refine zg_bipush (v := nI 48) C dX6_takes_180 (by decide) ?_
            refine zg_isub C dX6_takes_182 (nI 0) (by decide) ?_
            refine zg_aload_n C 0 dX6_takes_183 rfl ?_
            refine zg_get C 0 (ci := 6) (f := 11) rfl rfl uX6_takes_6 (by decide) fX6_takes_6_11 dX6_takes_184 rfl ?_
            refine zg_ishl C dX6_takes_187 (nI (0 * 2 ^ sg)) (zi_bsh (by decide) (by omega)) ?_
            refine zg_ior C dX6_takes_188 (nI (R rw + 0 * 2 ^ sg)) ((zi_or _ _).trans (congrArg nI (zor_add k7))) ?_
            refine zg_iast C 4 (ws' := [(m0, .inr (6, [.int (nI pn), .ref mp, .int (nI rc), .int (nI ln), .ref mo, .int sd, .ref mv, .int bs, .int bp, .int sr, .int (nI rw), .int (nI sg), .int (nI lg), .ref mn, .ref my, .ref ml, .int (nI rk), .int dz, .int (nI su), .int (nI rd), .long hh])), (mp, .inl (cI, 56, .inl pg)), (mo, .inl (cI, 5, .inl Of)), (mv, .inl (cI, 4, .inl V)), (mn, .inl (cI, 5, .inl (upd Nf rw (nI (R rw + 0 * 2 ^ sg))))), (my, .inl (cI, 1024, .inl Yf)), (ml, .inl (cI, 32, .inl Lf))]) rfl (by omega) (by decide) dX6_takes_189 rfl ?_
            refine zg_aload_n C 0 dX6_takes_190 rfl ?_
            refine zg_dup C dX6_takes_191 rfl ?_
            refine zg_get C 0 (ci := 6) (f := 11) rfl rfl uX6_takes_6 (by decide) fX6_takes_6_11 dX6_takes_192 rfl ?_
            refine zg_iconst (v := nI 1) C dX6_takes_195 (by decide) ?_
            refine zg_iadd C dX6_takes_196 (nI (sg + 1)) (nI_add _ _) ?_
            refine zg_put C 0 (ci := 6) (f := 11) (ws' := [(m0, .inr (6, [.int (nI pn), .ref mp, .int (nI rc), .int (nI ln), .ref mo, .int sd, .ref mv, .int bs, .int bp, .int sr, .int (nI rw), .int (nI (sg + 1)), .int (nI lg), .ref mn, .ref my, .ref ml, .int (nI rk), .int dz, .int (nI su), .int (nI rd), .long hh])), (mp, .inl (cI, 56, .inl pg)), (mo, .inl (cI, 5, .inl Of)), (mv, .inl (cI, 4, .inl V)), (mn, .inl (cI, 5, .inl (upd Nf rw (nI (R rw + 0 * 2 ^ sg))))), (my, .inl (cI, 1024, .inl Yf)), (ml, .inl (cI, 32, .inl Lf))]) rfl rfl uX6_takes_6 tyX6_ok nmX6 (by decide) fX6_takes_6_11 rfl rfl rfl rfl (Nat.le_of_ble_eq_true rfl) dX6_takes_197 rfl ?_
            refine zg_iload_n C 2 dX6_takes_200 rfl ?_
            have hs : (zstep (rw, sg, lg, R) (nI 48)) = some (rw, sg + 1, lg, zset R rw (R rw + 0 * 2 ^ sg)) := (zst_48 (by decide)).trans (if_pos (by rw [zmo_of hk]; split <;> omega))
            exact zg_wzret C ((zstep (rw, sg, lg, R) (nI 48)).isSome) E dX6_takes_201 (zbT (by rw [hs]; rfl)) (⟨_, rfl, by rw [hs]; rfl, by rw [hs]; exact zNr_sgn hN⟩)
      · skip
        refine zg_bipush (v := nI 10) C dX6_takes_129 (by decide) ?_
        refine zg_goto C 138 dX6_takes_131 (by decide) ?_
        refine zn_icmp_ge C 145 (by omega) (by omega) dX6_takes_138 (by decide) (fun c_138 => ?_) (fun c_138 => ?_)
        · skip
          refine zg_iconst (v := nI 0) C dX6_takes_145 (by decide) ?_
          refine zg_istore_n C [1, 2, 0] (lv' := [(0, .ref m0), (1, .int (nI 48)), (2, .int (nI 0))]) dX6_takes_146 (by decide) rfl ?_
          refine zg_iload_n C 2 dX6_takes_147 rfl ?_
          refine zn_if_eq C 200 (by omega) dX6_takes_148 (by decide) (fun c_148 => ?_) (fun c_148 => by omega)
          refine zg_iload_n C 2 dX6_takes_200 rfl ?_
          have hs : (zstep (rw, sg, lg, R) (nI 48)) = none := (zst_48 (by decide)).trans (if_neg (by rw [zmo_of hk]; split <;> omega))
          exact zg_wzret C ((zstep (rw, sg, lg, R) (nI 48)).isSome) E dX6_takes_201 (zbF (by rw [hs]; rfl)) (⟨_, rfl, by rw [hs]; rfl, by rw [hs]; exact hN⟩)
        · skip
          refine zg_iconst (v := nI 1) C dX6_takes_141 (by decide) ?_
          refine zg_goto C 146 dX6_takes_142 (by decide) ?_
          refine zg_istore_n C [1, 2, 0] (lv' := [(0, .ref m0), (1, .int (nI 48)), (2, .int (nI 1))]) dX6_takes_146 (by decide) rfl ?_
          refine zg_iload_n C 2 dX6_takes_147 rfl ?_
          refine zn_if_eq C 200 (by omega) dX6_takes_148 (by decide) (fun c_148 => by omega) (fun c_148 => ?_)
          refine zg_aload_n C 0 dX6_takes_151 rfl ?_
          refine zg_get C 0 (ci := 6) (f := 13) rfl rfl uX6_takes_6 (by decide) fX6_takes_6_13 dX6_takes_152 rfl ?_
          refine zg_aload_n C 0 dX6_takes_155 rfl ?_
          refine zg_get C 0 (ci := 6) (f := 10) rfl rfl uX6_takes_6 (by decide) fX6_takes_6_10 dX6_takes_156 rfl ?_
          refine zg_aload_n C 0 dX6_takes_159 rfl ?_
          refine zg_get C 0 (ci := 6) (f := 11) rfl rfl uX6_takes_6 (by decide) fX6_takes_6_11 dX6_takes_160 rfl ?_
          refine zn_if_ne C 170 (by omega) dX6_takes_163 (by decide) (fun c_163 => ?_) (fun c_163 => ?_)
          · skip
            refine zg_aload_n C 0 dX6_takes_170 rfl ?_
            refine zg_get C 0 (ci := 6) (f := 13) rfl rfl uX6_takes_6 (by decide) fX6_takes_6_13 dX6_takes_171 rfl ?_
            refine zg_aload_n C 0 dX6_takes_174 rfl ?_
            refine zg_get C 0 (ci := 6) (f := 10) rfl rfl uX6_takes_6 (by decide) fX6_takes_6_10 dX6_takes_175 rfl ?_
            refine zg_iald C 4 rfl (by omega) (by decide) dX6_takes_178 (nI (R rw)) (hN.2 (by omega)) ?_
            refine zg_iload_n C 1 dX6_takes_179 rfl ?_
            refine zg_bipush (v := nI 48) C dX6_takes_180 (by decide) ?_
            refine zg_isub C dX6_takes_182 (nI 0) (by decide) ?_
            refine zg_aload_n C 0 dX6_takes_183 rfl ?_
            refine zg_get C 0 (ci := 6) (f := 11) rfl rfl uX6_takes_6 (by decide) fX6_takes_6_11 dX6_takes_184 rfl ?_
            refine zg_ishl C dX6_takes_187 (nI (0 * 2 ^ sg)) (zi_bsh (by decide) (by omega)) ?_
            refine zg_ior C dX6_takes_188 (nI (R rw + 0 * 2 ^ sg)) ((zi_or _ _).trans (congrArg nI (zor_add k7))) ?_
            refine zg_iast C 4 (ws' := [(m0, .inr (6, [.int (nI pn), .ref mp, .int (nI rc), .int (nI ln), .ref mo, .int sd, .ref mv, .int bs, .int bp, .int sr, .int (nI rw), .int (nI sg), .int (nI lg), .ref mn, .ref my, .ref ml, .int (nI rk), .int dz, .int (nI su), .int (nI rd), .long hh])), (mp, .inl (cI, 56, .inl pg)), (mo, .inl (cI, 5, .inl Of)), (mv, .inl (cI, 4, .inl V)), (mn, .inl (cI, 5, .inl (upd Nf rw (nI (R rw + 0 * 2 ^ sg))))), (my, .inl (cI, 1024, .inl Yf)), (ml, .inl (cI, 32, .inl Lf))]) rfl (by omega) (by decide) dX6_takes_189 rfl ?_
            refine zg_aload_n C 0 dX6_takes_190 rfl ?_
            refine zg_dup C dX6_takes_191 rfl ?_
            refine zg_get C 0 (ci := 6) (f := 11) rfl rfl uX6_takes_6 (by decide) fX6_takes_6_11 dX6_takes_192 rfl ?_
            refine zg_iconst (v := nI 1) C dX6_takes_195 (by decide) ?_
            refine zg_iadd C dX6_takes_196 (nI (sg + 1)) (nI_add _ _) ?_
            refine zg_put C 0 (ci := 6) (f := 11) (ws' := [(m0, .inr (6, [.int (nI pn), .ref mp, .int (nI rc), .int (nI ln), .ref mo, .int sd, .ref mv, .int bs, .int bp, .int sr, .int (nI rw), .int (nI (sg + 1)), .int (nI lg), .ref mn, .ref my, .ref ml, .int (nI rk), .int dz, .int (nI su), .int (nI rd), .long hh])), (mp, .inl (cI, 56, .inl pg)), (mo, .inl (cI, 5, .inl Of)), (mv, .inl (cI, 4, .inl V)), (mn, .inl (cI, 5, .inl (upd Nf rw (nI (R rw + 0 * 2 ^ sg))))), (my, .inl (cI, 1024, .inl Yf)), (ml, .inl (cI, 32, .inl Lf))]) rfl rfl uX6_takes_6 tyX6_ok nmX6 (by decide) fX6_takes_6_11 rfl rfl rfl rfl (Nat.le_of_ble_eq_true rfl) dX6_takes_197 rfl ?_
            refine zg_iload_n C 2 dX6_takes_200 rfl ?_
            have hs : (zstep (rw, sg, lg, R) (nI 48)) = some (rw, sg + 1, lg, zset R rw (R rw + 0 * 2 ^ sg)) := (zst_48 (by decide)).trans (if_pos (by rw [zmo_of hk]; split <;> omega))
            exact zg_wzret C ((zstep (rw, sg, lg, R) (nI 48)).isSome) E dX6_takes_201 (zbT (by rw [hs]; rfl)) (⟨_, rfl, by rw [hs]; rfl, by rw [hs]; exact zNr_sgn hN⟩)
          · skip
            refine zg_iconst (v := nI 0) C dX6_takes_166 (by decide) ?_
            refine zg_goto C 179 dX6_takes_167 (by decide) ?_
            have h0R : 0 = R rw := by have k9 := k7; rw [c_163] at k9; have : 2 ^ 0 = 1 := rfl; omega
            refine zg_cv (st' := [.int (nI (R rw)), .int (nI rw), .ref mn]) rfl (congrArg (fun q9 => ([.int (nI q9), .int (nI rw), .ref mn] : List Value)) (h0R)) rfl ?_
            refine zg_iload_n C 1 dX6_takes_179 rfl ?_
            refine zg_bipush (v := nI 48) C dX6_takes_180 (by decide) ?_
            refine zg_isub C dX6_takes_182 (nI 0) (by decide) ?_
            refine zg_aload_n C 0 dX6_takes_183 rfl ?_
            refine zg_get C 0 (ci := 6) (f := 11) rfl rfl uX6_takes_6 (by decide) fX6_takes_6_11 dX6_takes_184 rfl ?_
            refine zg_ishl C dX6_takes_187 (nI (0 * 2 ^ sg)) (zi_bsh (by decide) (by omega)) ?_
            refine zg_ior C dX6_takes_188 (nI (R rw + 0 * 2 ^ sg)) ((zi_or _ _).trans (congrArg nI (zor_add k7))) ?_
            refine zg_iast C 4 (ws' := [(m0, .inr (6, [.int (nI pn), .ref mp, .int (nI rc), .int (nI ln), .ref mo, .int sd, .ref mv, .int bs, .int bp, .int sr, .int (nI rw), .int (nI sg), .int (nI lg), .ref mn, .ref my, .ref ml, .int (nI rk), .int dz, .int (nI su), .int (nI rd), .long hh])), (mp, .inl (cI, 56, .inl pg)), (mo, .inl (cI, 5, .inl Of)), (mv, .inl (cI, 4, .inl V)), (mn, .inl (cI, 5, .inl (upd Nf rw (nI (R rw + 0 * 2 ^ sg))))), (my, .inl (cI, 1024, .inl Yf)), (ml, .inl (cI, 32, .inl Lf))]) rfl (by omega) (by decide) dX6_takes_189 rfl ?_
            refine zg_aload_n C 0 dX6_takes_190 rfl ?_
            refine zg_dup C dX6_takes_191 rfl ?_
            refine zg_get C 0 (ci := 6) (f := 11) rfl rfl uX6_takes_6 (by decide) fX6_takes_6_11 dX6_takes_192 rfl ?_
            refine zg_iconst (v := nI 1) C dX6_takes_195 (by decide) ?_
            refine zg_iadd C dX6_takes_196 (nI (sg + 1)) (nI_add _ _) ?_
            refine zg_put C 0 (ci := 6) (f := 11) (ws' := [(m0, .inr (6, [.int (nI pn), .ref mp, .int (nI rc), .int (nI ln), .ref mo, .int sd, .ref mv, .int bs, .int bp, .int sr, .int (nI rw), .int (nI (sg + 1)), .int (nI lg), .ref mn, .ref my, .ref ml, .int (nI rk), .int dz, .int (nI su), .int (nI rd), .long hh])), (mp, .inl (cI, 56, .inl pg)), (mo, .inl (cI, 5, .inl Of)), (mv, .inl (cI, 4, .inl V)), (mn, .inl (cI, 5, .inl (upd Nf rw (nI (R rw + 0 * 2 ^ sg))))), (my, .inl (cI, 1024, .inl Yf)), (ml, .inl (cI, 32, .inl Lf))]) rfl rfl uX6_takes_6 tyX6_ok nmX6 (by decide) fX6_takes_6_11 rfl rfl rfl rfl (Nat.le_of_ble_eq_true rfl) dX6_takes_197 rfl ?_
            refine zg_iload_n C 2 dX6_takes_200 rfl ?_
            have hs : (zstep (rw, sg, lg, R) (nI 48)) = some (rw, sg + 1, lg, zset R rw (R rw + 0 * 2 ^ sg)) := (zst_48 (by decide)).trans (if_pos (by rw [zmo_of hk]; split <;> omega))
            exact zg_wzret C ((zstep (rw, sg, lg, R) (nI 48)).isSome) E dX6_takes_201 (zbT (by rw [hs]; rfl)) (⟨_, rfl, by rw [hs]; rfl, by rw [hs]; exact zNr_sgn hN⟩)
    · skip
      refine zg_iload_n C 1 dX6_takes_112 rfl ?_
      refine zg_bipush (v := nI 49) C dX6_takes_113 (by decide) ?_
      refine zg_icmp_ne C 145 dX6_takes_115 (by decide) (fun c_115 => ?_) (fun c_115 => ?_)
      · skip
        refine zg_iconst (v := nI 0) C dX6_takes_145 (by decide) ?_
        refine zg_istore_n C [1, 2, 0] (lv' := [(0, .ref m0), (1, .int x), (2, .int (nI 0))]) dX6_takes_146 (by decide) rfl ?_
        refine zg_iload_n C 2 dX6_takes_147 rfl ?_
        refine zn_if_eq C 200 (by omega) dX6_takes_148 (by decide) (fun c_148 => ?_) (fun c_148 => by omega)
        refine zg_iload_n C 2 dX6_takes_200 rfl ?_
        have hs : (zstep (rw, sg, lg, R) x) = none := zst_no (by have q1 : ¬ x.toInt = 47 := fun q => c_3 ((zxt (k := 47) (by decide)).mpr q); have q2 : ¬ x.toInt = 48 := fun q => c_109 ((zxt (k := 48) (by decide)).mpr q); have q3 : ¬ x.toInt = 49 := fun q => c_115 ((zxt (k := 49) (by decide)).mpr q); omega)
        exact zg_wzret C ((zstep (rw, sg, lg, R) x).isSome) E dX6_takes_201 (zbF (by rw [hs]; rfl)) (⟨_, rfl, by rw [hs]; rfl, by rw [hs]; exact hN⟩)
      · skip
        subst c_115
        refine zg_aload_n C 0 dX6_takes_118 rfl ?_
        refine zg_get C 0 (ci := 6) (f := 11) rfl rfl uX6_takes_6 (by decide) fX6_takes_6_11 dX6_takes_119 rfl ?_
        refine zg_aload_n C 0 dX6_takes_122 rfl ?_
        refine zg_get C 0 (ci := 6) (f := 12) rfl rfl uX6_takes_6 (by decide) fX6_takes_6_12 dX6_takes_123 rfl ?_
        refine zn_if_ne C 134 (by omega) dX6_takes_126 (by decide) (fun c_126 => ?_) (fun c_126 => ?_)
        · skip
          refine zg_aload_n C 0 dX6_takes_134 rfl ?_
          refine zg_get C 0 (ci := 6) (f := 12) rfl rfl uX6_takes_6 (by decide) fX6_takes_6_12 dX6_takes_135 rfl ?_
          refine zn_icmp_ge C 145 (by omega) (by omega) dX6_takes_138 (by decide) (fun c_138 => ?_) (fun c_138 => ?_)
          · skip
            refine zg_iconst (v := nI 0) C dX6_takes_145 (by decide) ?_
            refine zg_istore_n C [1, 2, 0] (lv' := [(0, .ref m0), (1, .int (nI 49)), (2, .int (nI 0))]) dX6_takes_146 (by decide) rfl ?_
            refine zg_iload_n C 2 dX6_takes_147 rfl ?_
            refine zn_if_eq C 200 (by omega) dX6_takes_148 (by decide) (fun c_148 => ?_) (fun c_148 => by omega)
            refine zg_iload_n C 2 dX6_takes_200 rfl ?_
            have hs : (zstep (rw, sg, lg, R) (nI 49)) = none := (zst_49 (by decide)).trans (if_neg (by rw [zmo_of hk]; split <;> omega))
            exact zg_wzret C ((zstep (rw, sg, lg, R) (nI 49)).isSome) E dX6_takes_201 (zbF (by rw [hs]; rfl)) (⟨_, rfl, by rw [hs]; rfl, by rw [hs]; exact hN⟩)
          · skip
            refine zg_iconst (v := nI 1) C dX6_takes_141 (by decide) ?_
            refine zg_goto C 146 dX6_takes_142 (by decide) ?_
            refine zg_istore_n C [1, 2, 0] (lv' := [(0, .ref m0), (1, .int (nI 49)), (2, .int (nI 1))]) dX6_takes_146 (by decide) rfl ?_
            refine zg_iload_n C 2 dX6_takes_147 rfl ?_
            refine zn_if_eq C 200 (by omega) dX6_takes_148 (by decide) (fun c_148 => by omega) (fun c_148 => ?_)
            refine zg_aload_n C 0 dX6_takes_151 rfl ?_
            refine zg_get C 0 (ci := 6) (f := 13) rfl rfl uX6_takes_6 (by decide) fX6_takes_6_13 dX6_takes_152 rfl ?_
            refine zg_aload_n C 0 dX6_takes_155 rfl ?_
            refine zg_get C 0 (ci := 6) (f := 10) rfl rfl uX6_takes_6 (by decide) fX6_takes_6_10 dX6_takes_156 rfl ?_
            refine zg_aload_n C 0 dX6_takes_159 rfl ?_
            refine zg_get C 0 (ci := 6) (f := 11) rfl rfl uX6_takes_6 (by decide) fX6_takes_6_11 dX6_takes_160 rfl ?_
            refine zn_if_ne C 170 (by omega) dX6_takes_163 (by decide) (fun c_163 => ?_) (fun c_163 => ?_)
            · skip
              refine zg_aload_n C 0 dX6_takes_170 rfl ?_
              refine zg_get C 0 (ci := 6) (f := 13) rfl rfl uX6_takes_6 (by decide) fX6_takes_6_13 dX6_takes_171 rfl ?_
              refine zg_aload_n C 0 dX6_takes_174 rfl ?_
              refine zg_get C 0 (ci := 6) (f := 10) rfl rfl uX6_takes_6 (by decide) fX6_takes_6_10 dX6_takes_175 rfl ?_
              refine zg_iald C 4 rfl (by omega) (by decide) dX6_takes_178 (nI (R rw)) (hN.2 (by omega)) ?_
              refine zg_iload_n C 1 dX6_takes_179 rfl ?_
              refine zg_bipush (v := nI 48) C dX6_takes_180 (by decide) ?_
              refine zg_isub C dX6_takes_182 (nI 1) (by decide) ?_
              refine zg_aload_n C 0 dX6_takes_183 rfl ?_
              refine zg_get C 0 (ci := 6) (f := 11) rfl rfl uX6_takes_6 (by decide) fX6_takes_6_11 dX6_takes_184 rfl ?_
              refine zg_ishl C dX6_takes_187 (nI (1 * 2 ^ sg)) (zi_bsh (by decide) (by omega)) ?_
              refine zg_ior C dX6_takes_188 (nI (R rw + 1 * 2 ^ sg)) ((zi_or _ _).trans (congrArg nI (zor_add k7))) ?_
              refine zg_iast C 4 (ws' := [(m0, .inr (6, [.int (nI pn), .ref mp, .int (nI rc), .int (nI ln), .ref mo, .int sd, .ref mv, .int bs, .int bp, .int sr, .int (nI rw), .int (nI sg), .int (nI lg), .ref mn, .ref my, .ref ml, .int (nI rk), .int dz, .int (nI su), .int (nI rd), .long hh])), (mp, .inl (cI, 56, .inl pg)), (mo, .inl (cI, 5, .inl Of)), (mv, .inl (cI, 4, .inl V)), (mn, .inl (cI, 5, .inl (upd Nf rw (nI (R rw + 1 * 2 ^ sg))))), (my, .inl (cI, 1024, .inl Yf)), (ml, .inl (cI, 32, .inl Lf))]) rfl (by omega) (by decide) dX6_takes_189 rfl ?_
              refine zg_aload_n C 0 dX6_takes_190 rfl ?_
              refine zg_dup C dX6_takes_191 rfl ?_
              refine zg_get C 0 (ci := 6) (f := 11) rfl rfl uX6_takes_6 (by decide) fX6_takes_6_11 dX6_takes_192 rfl ?_
              refine zg_iconst (v := nI 1) C dX6_takes_195 (by decide) ?_
              refine zg_iadd C dX6_takes_196 (nI (sg + 1)) (nI_add _ _) ?_
              refine zg_put C 0 (ci := 6) (f := 11) (ws' := [(m0, .inr (6, [.int (nI pn), .ref mp, .int (nI rc), .int (nI ln), .ref mo, .int sd, .ref mv, .int bs, .int bp, .int sr, .int (nI rw), .int (nI (sg + 1)), .int (nI lg), .ref mn, .ref my, .ref ml, .int (nI rk), .int dz, .int (nI su), .int (nI rd), .long hh])), (mp, .inl (cI, 56, .inl pg)), (mo, .inl (cI, 5, .inl Of)), (mv, .inl (cI, 4, .inl V)), (mn, .inl (cI, 5, .inl (upd Nf rw (nI (R rw + 1 * 2 ^ sg))))), (my, .inl (cI, 1024, .inl Yf)), (ml, .inl (cI, 32, .inl Lf))]) rfl rfl uX6_takes_6 tyX6_ok nmX6 (by decide) fX6_takes_6_11 rfl rfl rfl rfl (Nat.le_of_ble_eq_true rfl) dX6_takes_197 rfl ?_
              refine zg_iload_n C 2 dX6_takes_200 rfl ?_
              have hs : (zstep (rw, sg, lg, R) (nI 49)) = some (rw, sg + 1, lg, zset R rw (R rw + 1 * 2 ^ sg)) := (zst_49 (by decide)).trans (if_pos (by rw [zmo_of hk]; split <;> omega))
              exact zg_wzret C ((zstep (rw, sg, lg, R) (nI 49)).isSome) E dX6_takes_201 (zbT (by rw [hs]; rfl)) (⟨_, rfl, by rw [hs]; rfl, by rw [hs]; exact zNr_sgn hN⟩)
            · skip
              refine zg_iconst (v := nI 0) C dX6_takes_166 (by decide) ?_
              refine zg_goto C 179 dX6_takes_167 (by decide) ?_
              have h0R : 0 = R rw := by have k9 := k7; rw [c_163] at k9; have : 2 ^ 0 = 1 := rfl; omega
              refine zg_cv (st' := [.int (nI (R rw)), .int (nI rw), .ref mn]) rfl (congrArg (fun q9 => ([.int (nI q9), .int (nI rw), .ref mn] : List Value)) (h0R)) rfl ?_
              refine zg_iload_n C 1 dX6_takes_179 rfl ?_
              refine zg_bipush (v := nI 48) C dX6_takes_180 (by decide) ?_
              refine zg_isub C dX6_takes_182 (nI 1) (by decide) ?_
              refine zg_aload_n C 0 dX6_takes_183 rfl ?_
              refine zg_get C 0 (ci := 6) (f := 11) rfl rfl uX6_takes_6 (by decide) fX6_takes_6_11 dX6_takes_184 rfl ?_
              refine zg_ishl C dX6_takes_187 (nI (1 * 2 ^ sg)) (zi_bsh (by decide) (by omega)) ?_
              refine zg_ior C dX6_takes_188 (nI (R rw + 1 * 2 ^ sg)) ((zi_or _ _).trans (congrArg nI (zor_add k7))) ?_
              refine zg_iast C 4 (ws' := [(m0, .inr (6, [.int (nI pn), .ref mp, .int (nI rc), .int (nI ln), .ref mo, .int sd, .ref mv, .int bs, .int bp, .int sr, .int (nI rw), .int (nI sg), .int (nI lg), .ref mn, .ref my, .ref ml, .int (nI rk), .int dz, .int (nI su), .int (nI rd), .long hh])), (mp, .inl (cI, 56, .inl pg)), (mo, .inl (cI, 5, .inl Of)), (mv, .inl (cI, 4, .inl V)), (mn, .inl (cI, 5, .inl (upd Nf rw (nI (R rw + 1 * 2 ^ sg))))), (my, .inl (cI, 1024, .inl Yf)), (ml, .inl (cI, 32, .inl Lf))]) rfl (by omega) (by decide) dX6_takes_189 rfl ?_
              refine zg_aload_n C 0 dX6_takes_190 rfl ?_
              refine zg_dup C dX6_takes_191 rfl ?_
              refine zg_get C 0 (ci := 6) (f := 11) rfl rfl uX6_takes_6 (by decide) fX6_takes_6_11 dX6_takes_192 rfl ?_
              refine zg_iconst (v := nI 1) C dX6_takes_195 (by decide) ?_
              refine zg_iadd C dX6_takes_196 (nI (sg + 1)) (nI_add _ _) ?_
              refine zg_put C 0 (ci := 6) (f := 11) (ws' := [(m0, .inr (6, [.int (nI pn), .ref mp, .int (nI rc), .int (nI ln), .ref mo, .int sd, .ref mv, .int bs, .int bp, .int sr, .int (nI rw), .int (nI (sg + 1)), .int (nI lg), .ref mn, .ref my, .ref ml, .int (nI rk), .int dz, .int (nI su), .int (nI rd), .long hh])), (mp, .inl (cI, 56, .inl pg)), (mo, .inl (cI, 5, .inl Of)), (mv, .inl (cI, 4, .inl V)), (mn, .inl (cI, 5, .inl (upd Nf rw (nI (R rw + 1 * 2 ^ sg))))), (my, .inl (cI, 1024, .inl Yf)), (ml, .inl (cI, 32, .inl Lf))]) rfl rfl uX6_takes_6 tyX6_ok nmX6 (by decide) fX6_takes_6_11 rfl rfl rfl rfl (Nat.le_of_ble_eq_true rfl) dX6_takes_197 rfl ?_
              refine zg_iload_n C 2 dX6_takes_200 rfl ?_
              have hs : (zstep (rw, sg, lg, R) (nI 49)) = some (rw, sg + 1, lg, zset R rw (R rw + 1 * 2 ^ sg)) := (zst_49 (by decide)).trans (if_pos (by rw [zmo_of hk]; split <;> omega))
              exact zg_wzret C ((zstep (rw, sg, lg, R) (nI 49)).isSome) E dX6_takes_201 (zbT (by rw [hs]; rfl)) (⟨_, rfl, by rw [hs]; rfl, by rw [hs]; exact zNr_sgn hN⟩)
        · skip
          refine zg_bipush (v := nI 10) C dX6_takes_129 (by decide) ?_
          refine zg_goto C 138 dX6_takes_131 (by decide) ?_
          refine zn_icmp_ge C 145 (by omega) (by omega) dX6_takes_138 (by decide) (fun c_138 => ?_) (fun c_138 => ?_)
          · skip
            refine zg_iconst (v := nI 0) C dX6_takes_145 (by decide) ?_
            refine zg_istore_n C [1, 2, 0] (lv' := [(0, .ref m0), (1, .int (nI 49)), (2, .int (nI 0))]) dX6_takes_146 (by decide) rfl ?_
            refine zg_iload_n C 2 dX6_takes_147 rfl ?_
            refine zn_if_eq C 200 (by omega) dX6_takes_148 (by decide) (fun c_148 => ?_) (fun c_148 => by omega)
            refine zg_iload_n C 2 dX6_takes_200 rfl ?_
            have hs : (zstep (rw, sg, lg, R) (nI 49)) = none := (zst_49 (by decide)).trans (if_neg (by rw [zmo_of hk]; split <;> omega))
            exact zg_wzret C ((zstep (rw, sg, lg, R) (nI 49)).isSome) E dX6_takes_201 (zbF (by rw [hs]; rfl)) (⟨_, rfl, by rw [hs]; rfl, by rw [hs]; exact hN⟩)
          · skip
            refine zg_iconst (v := nI 1) C dX6_takes_141 (by decide) ?_
            refine zg_goto C 146 dX6_takes_142 (by decide) ?_
            refine zg_istore_n C [1, 2, 0] (lv' := [(0, .ref m0), (1, .int (nI 49)), (2, .int (nI 1))]) dX6_takes_146 (by decide) rfl ?_
            refine zg_iload_n C 2 dX6_takes_147 rfl ?_
            refine zn_if_eq C 200 (by omega) dX6_takes_148 (by decide) (fun c_148 => by omega) (fun c_148 => ?_)
            refine zg_aload_n C 0 dX6_takes_151 rfl ?_
            refine zg_get C 0 (ci := 6) (f := 13) rfl rfl uX6_takes_6 (by decide) fX6_takes_6_13 dX6_takes_152 rfl ?_
            refine zg_aload_n C 0 dX6_takes_155 rfl ?_
            refine zg_get C 0 (ci := 6) (f := 10) rfl rfl uX6_takes_6 (by decide) fX6_takes_6_10 dX6_takes_156 rfl ?_
            refine zg_aload_n C 0 dX6_takes_159 rfl ?_
            refine zg_get C 0 (ci := 6) (f := 11) rfl rfl uX6_takes_6 (by decide) fX6_takes_6_11 dX6_takes_160 rfl ?_
            refine zn_if_ne C 170 (by omega) dX6_takes_163 (by decide) (fun c_163 => ?_) (fun c_163 => ?_)
            · skip
              refine zg_aload_n C 0 dX6_takes_170 rfl ?_
              refine zg_get C 0 (ci := 6) (f := 13) rfl rfl uX6_takes_6 (by decide) fX6_takes_6_13 dX6_takes_171 rfl ?_
              refine zg_aload_n C 0 dX6_takes_174 rfl ?_
              refine zg_get C 0 (ci := 6) (f := 10) rfl rfl uX6_takes_6 (by decide) fX6_takes_6_10 dX6_takes_175 rfl ?_
              refine zg_iald C 4 rfl (by omega) (by decide) dX6_takes_178 (nI (R rw)) (hN.2 (by omega)) ?_
              refine zg_iload_n C 1 dX6_takes_179 rfl ?_
              refine zg_bipush (v := nI 48) C dX6_takes_180 (by decide) ?_
              refine zg_isub C dX6_takes_182 (nI 1) (by decide) ?_
              refine zg_aload_n C 0 dX6_takes_183 rfl ?_
              refine zg_get C 0 (ci := 6) (f := 11) rfl rfl uX6_takes_6 (by decide) fX6_takes_6_11 dX6_takes_184 rfl ?_
              refine zg_ishl C dX6_takes_187 (nI (1 * 2 ^ sg)) (zi_bsh (by decide) (by omega)) ?_
              refine zg_ior C dX6_takes_188 (nI (R rw + 1 * 2 ^ sg)) ((zi_or _ _).trans (congrArg nI (zor_add k7))) ?_
              refine zg_iast C 4 (ws' := [(m0, .inr (6, [.int (nI pn), .ref mp, .int (nI rc), .int (nI ln), .ref mo, .int sd, .ref mv, .int bs, .int bp, .int sr, .int (nI rw), .int (nI sg), .int (nI lg), .ref mn, .ref my, .ref ml, .int (nI rk), .int dz, .int (nI su), .int (nI rd), .long hh])), (mp, .inl (cI, 56, .inl pg)), (mo, .inl (cI, 5, .inl Of)), (mv, .inl (cI, 4, .inl V)), (mn, .inl (cI, 5, .inl (upd Nf rw (nI (R rw + 1 * 2 ^ sg))))), (my, .inl (cI, 1024, .inl Yf)), (ml, .inl (cI, 32, .inl Lf))]) rfl (by omega) (by decide) dX6_takes_189 rfl ?_
              refine zg_aload_n C 0 dX6_takes_190 rfl ?_
              refine zg_dup C dX6_takes_191 rfl ?_
              refine zg_get C 0 (ci := 6) (f := 11) rfl rfl uX6_takes_6 (by decide) fX6_takes_6_11 dX6_takes_192 rfl ?_
              refine zg_iconst (v := nI 1) C dX6_takes_195 (by decide) ?_
              refine zg_iadd C dX6_takes_196 (nI (sg + 1)) (nI_add _ _) ?_
              refine zg_put C 0 (ci := 6) (f := 11) (ws' := [(m0, .inr (6, [.int (nI pn), .ref mp, .int (nI rc), .int (nI ln), .ref mo, .int sd, .ref mv, .int bs, .int bp, .int sr, .int (nI rw), .int (nI (sg + 1)), .int (nI lg), .ref mn, .ref my, .ref ml, .int (nI rk), .int dz, .int (nI su), .int (nI rd), .long hh])), (mp, .inl (cI, 56, .inl pg)), (mo, .inl (cI, 5, .inl Of)), (mv, .inl (cI, 4, .inl V)), (mn, .inl (cI, 5, .inl (upd Nf rw (nI (R rw + 1 * 2 ^ sg))))), (my, .inl (cI, 1024, .inl Yf)), (ml, .inl (cI, 32, .inl Lf))]) rfl rfl uX6_takes_6 tyX6_ok nmX6 (by decide) fX6_takes_6_11 rfl rfl rfl rfl (Nat.le_of_ble_eq_true rfl) dX6_takes_197 rfl ?_
              refine zg_iload_n C 2 dX6_takes_200 rfl ?_
              have hs : (zstep (rw, sg, lg, R) (nI 49)) = some (rw, sg + 1, lg, zset R rw (R rw + 1 * 2 ^ sg)) := (zst_49 (by decide)).trans (if_pos (by rw [zmo_of hk]; split <;> omega))
              exact zg_wzret C ((zstep (rw, sg, lg, R) (nI 49)).isSome) E dX6_takes_201 (zbT (by rw [hs]; rfl)) (⟨_, rfl, by rw [hs]; rfl, by rw [hs]; exact zNr_sgn hN⟩)
            · skip
              refine zg_iconst (v := nI 0) C dX6_takes_166 (by decide) ?_
              refine zg_goto C 179 dX6_takes_167 (by decide) ?_
              have h0R : 0 = R rw := by have k9 := k7; rw [c_163] at k9; have : 2 ^ 0 = 1 := rfl; omega
              refine zg_cv (st' := [.int (nI (R rw)), .int (nI rw), .ref mn]) rfl (congrArg (fun q9 => ([.int (nI q9), .int (nI rw), .ref mn] : List Value)) (h0R)) rfl ?_
              refine zg_iload_n C 1 dX6_takes_179 rfl ?_
              refine zg_bipush (v := nI 48) C dX6_takes_180 (by decide) ?_
              refine zg_isub C dX6_takes_182 (nI 1) (by decide) ?_
              refine zg_aload_n C 0 dX6_takes_183 rfl ?_
              refine zg_get C 0 (ci := 6) (f := 11) rfl rfl uX6_takes_6 (by decide) fX6_takes_6_11 dX6_takes_184 rfl ?_
              refine zg_ishl C dX6_takes_187 (nI (1 * 2 ^ sg)) (zi_bsh (by decide) (by omega)) ?_
              refine zg_ior C dX6_takes_188 (nI (R rw + 1 * 2 ^ sg)) ((zi_or _ _).trans (congrArg nI (zor_add k7))) ?_
              refine zg_iast C 4 (ws' := [(m0, .inr (6, [.int (nI pn), .ref mp, .int (nI rc), .int (nI ln), .ref mo, .int sd, .ref mv, .int bs, .int bp, .int sr, .int (nI rw), .int (nI sg), .int (nI lg), .ref mn, .ref my, .ref ml, .int (nI rk), .int dz, .int (nI su), .int (nI rd), .long hh])), (mp, .inl (cI, 56, .inl pg)), (mo, .inl (cI, 5, .inl Of)), (mv, .inl (cI, 4, .inl V)), (mn, .inl (cI, 5, .inl (upd Nf rw (nI (R rw + 1 * 2 ^ sg))))), (my, .inl (cI, 1024, .inl Yf)), (ml, .inl (cI, 32, .inl Lf))]) rfl (by omega) (by decide) dX6_takes_189 rfl ?_
              refine zg_aload_n C 0 dX6_takes_190 rfl ?_
              refine zg_dup C dX6_takes_191 rfl ?_
              refine zg_get C 0 (ci := 6) (f := 11) rfl rfl uX6_takes_6 (by decide) fX6_takes_6_11 dX6_takes_192 rfl ?_
              refine zg_iconst (v := nI 1) C dX6_takes_195 (by decide) ?_
              refine zg_iadd C dX6_takes_196 (nI (sg + 1)) (nI_add _ _) ?_
              refine zg_put C 0 (ci := 6) (f := 11) (ws' := [(m0, .inr (6, [.int (nI pn), .ref mp, .int (nI rc), .int (nI ln), .ref mo, .int sd, .ref mv, .int bs, .int bp, .int sr, .int (nI rw), .int (nI (sg + 1)), .int (nI lg), .ref mn, .ref my, .ref ml, .int (nI rk), .int dz, .int (nI su), .int (nI rd), .long hh])), (mp, .inl (cI, 56, .inl pg)), (mo, .inl (cI, 5, .inl Of)), (mv, .inl (cI, 4, .inl V)), (mn, .inl (cI, 5, .inl (upd Nf rw (nI (R rw + 1 * 2 ^ sg))))), (my, .inl (cI, 1024, .inl Yf)), (ml, .inl (cI, 32, .inl Lf))]) rfl rfl uX6_takes_6 tyX6_ok nmX6 (by decide) fX6_takes_6_11 rfl rfl rfl rfl (Nat.le_of_ble_eq_true rfl) dX6_takes_197 rfl ?_
              refine zg_iload_n C 2 dX6_takes_200 rfl ?_
              have hs : (zstep (rw, sg, lg, R) (nI 49)) = some (rw, sg + 1, lg, zset R rw (R rw + 1 * 2 ^ sg)) := (zst_49 (by decide)).trans (if_pos (by rw [zmo_of hk]; split <;> omega))
              exact zg_wzret C ((zstep (rw, sg, lg, R) (nI 49)).isSome) E dX6_takes_201 (zbT (by rw [hs]; rfl)) (⟨_, rfl, by rw [hs]; rfl, by rw [hs]; exact zNr_sgn hN⟩)
  · skip
    refine zg_aload_n C 0 dX6_takes_6 rfl ?_
    refine zg_get C 0 (ci := 6) (f := 10) rfl rfl uX6_takes_6 (by decide) fX6_takes_6_10 dX6_takes_7 rfl ?_
    refine zg_iconst (v := nI 1) C dX6_takes_10 (by decide) ?_
    refine zg_iadd C dX6_takes_11 (nI (rw + 1)) (nI_add _ _) ?_
    refine zg_iconst (v := nI 5) C dX6_takes_12 (by decide) ?_
    refine zn_icmp_ge C 49 (by omega) (by omega) dX6_takes_13 (by decide) (fun c_13 => ?_) (fun c_13 => ?_)
    · skip
      refine zg_iconst (v := nI 0) C dX6_takes_49 (by decide) ?_
      refine zg_istore_n C [1, 2, 0] (lv' := [(0, .ref m0), (1, .int x), (2, .int (nI 0))]) dX6_takes_50 (by decide) rfl ?_
      refine zg_aload_n C 0 dX6_takes_51 rfl ?_
      refine zg_iload_n C 2 dX6_takes_52 rfl ?_
      refine zn_if_eq C 63 (by omega) dX6_takes_53 (by decide) (fun c_53 => ?_) (fun c_53 => by omega)
      refine zg_aload_n C 0 dX6_takes_63 rfl ?_
      refine zg_get C 0 (ci := 6) (f := 12) rfl rfl uX6_takes_6 (by decide) fX6_takes_6_12 dX6_takes_64 rfl ?_
      refine zg_put C 0 (ci := 6) (f := 12) (ws' := [(m0, .inr (6, [.int (nI pn), .ref mp, .int (nI rc), .int (nI ln), .ref mo, .int sd, .ref mv, .int bs, .int bp, .int sr, .int (nI rw), .int (nI sg), .int (nI lg), .ref mn, .ref my, .ref ml, .int (nI rk), .int dz, .int (nI su), .int (nI rd), .long hh])), (mp, .inl (cI, 56, .inl pg)), (mo, .inl (cI, 5, .inl Of)), (mv, .inl (cI, 4, .inl V)), (mn, .inl (cI, 5, .inl Nf)), (my, .inl (cI, 1024, .inl Yf)), (ml, .inl (cI, 32, .inl Lf))]) rfl rfl uX6_takes_6 tyX6_ok nmX6 (by decide) fX6_takes_6_12 rfl rfl rfl rfl (Nat.le_of_ble_eq_true rfl) dX6_takes_67 rfl ?_
      refine zg_aload_n C 0 dX6_takes_70 rfl ?_
      refine zg_dup C dX6_takes_71 rfl ?_
      refine zg_get C 0 (ci := 6) (f := 10) rfl rfl uX6_takes_6 (by decide) fX6_takes_6_10 dX6_takes_72 rfl ?_
      refine zg_iload_n C 2 dX6_takes_75 rfl ?_
      refine zn_if_eq C 83 (by omega) dX6_takes_76 (by decide) (fun c_76 => ?_) (fun c_76 => by omega)
      refine zg_iconst (v := nI 0) C dX6_takes_83 (by decide) ?_
      refine zg_iadd C dX6_takes_84 (nI (rw + 0)) (nI_add _ _) ?_
      refine zg_put C 0 (ci := 6) (f := 10) (ws' := [(m0, .inr (6, [.int (nI pn), .ref mp, .int (nI rc), .int (nI ln), .ref mo, .int sd, .ref mv, .int bs, .int bp, .int sr, .int (nI (rw + 0)), .int (nI sg), .int (nI lg), .ref mn, .ref my, .ref ml, .int (nI rk), .int dz, .int (nI su), .int (nI rd), .long hh])), (mp, .inl (cI, 56, .inl pg)), (mo, .inl (cI, 5, .inl Of)), (mv, .inl (cI, 4, .inl V)), (mn, .inl (cI, 5, .inl Nf)), (my, .inl (cI, 1024, .inl Yf)), (ml, .inl (cI, 32, .inl Lf))]) rfl rfl uX6_takes_6 tyX6_ok nmX6 (by decide) fX6_takes_6_10 rfl rfl rfl rfl (Nat.le_of_ble_eq_true rfl) dX6_takes_85 rfl ?_
      refine zg_aload_n C 0 dX6_takes_88 rfl ?_
      refine zg_iload_n C 2 dX6_takes_89 rfl ?_
      refine zn_if_eq C 97 (by omega) dX6_takes_90 (by decide) (fun c_90 => ?_) (fun c_90 => by omega)
      refine zg_aload_n C 0 dX6_takes_97 rfl ?_
      refine zg_get C 0 (ci := 6) (f := 11) rfl rfl uX6_takes_6 (by decide) fX6_takes_6_11 dX6_takes_98 rfl ?_
      refine zg_put C 0 (ci := 6) (f := 11) (ws' := [(m0, .inr (6, [.int (nI pn), .ref mp, .int (nI rc), .int (nI ln), .ref mo, .int sd, .ref mv, .int bs, .int bp, .int sr, .int (nI (rw + 0)), .int (nI sg), .int (nI lg), .ref mn, .ref my, .ref ml, .int (nI rk), .int dz, .int (nI su), .int (nI rd), .long hh])), (mp, .inl (cI, 56, .inl pg)), (mo, .inl (cI, 5, .inl Of)), (mv, .inl (cI, 4, .inl V)), (mn, .inl (cI, 5, .inl Nf)), (my, .inl (cI, 1024, .inl Yf)), (ml, .inl (cI, 32, .inl Lf))]) rfl rfl uX6_takes_6 tyX6_ok nmX6 (by decide) fX6_takes_6_11 rfl rfl rfl rfl (Nat.le_of_ble_eq_true rfl) dX6_takes_101 rfl ?_
      refine zg_iload_n C 2 dX6_takes_104 rfl ?_
      have hs : (zstep (rw, sg, lg, R) x) = none := (zst_47 ((zxt (by decide)).mp c_3)).trans (if_neg (fun q => by have := (zwh_of hk).mp q.1; omega))
      exact zg_wzret C ((zstep (rw, sg, lg, R) x).isSome) E dX6_takes_105 (zbF (by rw [hs]; rfl)) (⟨_, rfl, by rw [hs]; rfl, by rw [hs]; exact hN⟩)
    · skip
      refine zg_aload_n C 0 dX6_takes_16 rfl ?_
      refine zg_get C 0 (ci := 6) (f := 12) rfl rfl uX6_takes_6 (by decide) fX6_takes_6_12 dX6_takes_17 rfl ?_
      refine zn_if_ne C 34 (by omega) dX6_takes_20 (by decide) (fun c_20 => ?_) (fun c_20 => ?_)
      · skip
        refine zg_aload_n C 0 dX6_takes_34 rfl ?_
        refine zg_get C 0 (ci := 6) (f := 11) rfl rfl uX6_takes_6 (by decide) fX6_takes_6_11 dX6_takes_35 rfl ?_
        refine zg_aload_n C 0 dX6_takes_38 rfl ?_
        refine zg_get C 0 (ci := 6) (f := 12) rfl rfl uX6_takes_6 (by decide) fX6_takes_6_12 dX6_takes_39 rfl ?_
        refine zn_icmp_ne C 49 (by omega) (by omega) dX6_takes_42 (by decide) (fun c_42 => ?_) (fun c_42 => ?_)
        · skip
          refine zg_iconst (v := nI 0) C dX6_takes_49 (by decide) ?_
          refine zg_istore_n C [1, 2, 0] (lv' := [(0, .ref m0), (1, .int x), (2, .int (nI 0))]) dX6_takes_50 (by decide) rfl ?_
          refine zg_aload_n C 0 dX6_takes_51 rfl ?_
          refine zg_iload_n C 2 dX6_takes_52 rfl ?_
          refine zn_if_eq C 63 (by omega) dX6_takes_53 (by decide) (fun c_53 => ?_) (fun c_53 => by omega)
          refine zg_aload_n C 0 dX6_takes_63 rfl ?_
          refine zg_get C 0 (ci := 6) (f := 12) rfl rfl uX6_takes_6 (by decide) fX6_takes_6_12 dX6_takes_64 rfl ?_
          refine zg_put C 0 (ci := 6) (f := 12) (ws' := [(m0, .inr (6, [.int (nI pn), .ref mp, .int (nI rc), .int (nI ln), .ref mo, .int sd, .ref mv, .int bs, .int bp, .int sr, .int (nI rw), .int (nI sg), .int (nI lg), .ref mn, .ref my, .ref ml, .int (nI rk), .int dz, .int (nI su), .int (nI rd), .long hh])), (mp, .inl (cI, 56, .inl pg)), (mo, .inl (cI, 5, .inl Of)), (mv, .inl (cI, 4, .inl V)), (mn, .inl (cI, 5, .inl Nf)), (my, .inl (cI, 1024, .inl Yf)), (ml, .inl (cI, 32, .inl Lf))]) rfl rfl uX6_takes_6 tyX6_ok nmX6 (by decide) fX6_takes_6_12 rfl rfl rfl rfl (Nat.le_of_ble_eq_true rfl) dX6_takes_67 rfl ?_
          refine zg_aload_n C 0 dX6_takes_70 rfl ?_
          refine zg_dup C dX6_takes_71 rfl ?_
          refine zg_get C 0 (ci := 6) (f := 10) rfl rfl uX6_takes_6 (by decide) fX6_takes_6_10 dX6_takes_72 rfl ?_
          refine zg_iload_n C 2 dX6_takes_75 rfl ?_
          refine zn_if_eq C 83 (by omega) dX6_takes_76 (by decide) (fun c_76 => ?_) (fun c_76 => by omega)
          refine zg_iconst (v := nI 0) C dX6_takes_83 (by decide) ?_
          refine zg_iadd C dX6_takes_84 (nI (rw + 0)) (nI_add _ _) ?_
          refine zg_put C 0 (ci := 6) (f := 10) (ws' := [(m0, .inr (6, [.int (nI pn), .ref mp, .int (nI rc), .int (nI ln), .ref mo, .int sd, .ref mv, .int bs, .int bp, .int sr, .int (nI (rw + 0)), .int (nI sg), .int (nI lg), .ref mn, .ref my, .ref ml, .int (nI rk), .int dz, .int (nI su), .int (nI rd), .long hh])), (mp, .inl (cI, 56, .inl pg)), (mo, .inl (cI, 5, .inl Of)), (mv, .inl (cI, 4, .inl V)), (mn, .inl (cI, 5, .inl Nf)), (my, .inl (cI, 1024, .inl Yf)), (ml, .inl (cI, 32, .inl Lf))]) rfl rfl uX6_takes_6 tyX6_ok nmX6 (by decide) fX6_takes_6_10 rfl rfl rfl rfl (Nat.le_of_ble_eq_true rfl) dX6_takes_85 rfl ?_
          refine zg_aload_n C 0 dX6_takes_88 rfl ?_
          refine zg_iload_n C 2 dX6_takes_89 rfl ?_
          refine zn_if_eq C 97 (by omega) dX6_takes_90 (by decide) (fun c_90 => ?_) (fun c_90 => by omega)
          refine zg_aload_n C 0 dX6_takes_97 rfl ?_
          refine zg_get C 0 (ci := 6) (f := 11) rfl rfl uX6_takes_6 (by decide) fX6_takes_6_11 dX6_takes_98 rfl ?_
          refine zg_put C 0 (ci := 6) (f := 11) (ws' := [(m0, .inr (6, [.int (nI pn), .ref mp, .int (nI rc), .int (nI ln), .ref mo, .int sd, .ref mv, .int bs, .int bp, .int sr, .int (nI (rw + 0)), .int (nI sg), .int (nI lg), .ref mn, .ref my, .ref ml, .int (nI rk), .int dz, .int (nI su), .int (nI rd), .long hh])), (mp, .inl (cI, 56, .inl pg)), (mo, .inl (cI, 5, .inl Of)), (mv, .inl (cI, 4, .inl V)), (mn, .inl (cI, 5, .inl Nf)), (my, .inl (cI, 1024, .inl Yf)), (ml, .inl (cI, 32, .inl Lf))]) rfl rfl uX6_takes_6 tyX6_ok nmX6 (by decide) fX6_takes_6_11 rfl rfl rfl rfl (Nat.le_of_ble_eq_true rfl) dX6_takes_101 rfl ?_
          refine zg_iload_n C 2 dX6_takes_104 rfl ?_
          have hs : (zstep (rw, sg, lg, R) x) = none := (zst_47 ((zxt (by decide)).mp c_3)).trans (if_neg (fun q => by have := (zwh_of hk).mp q.1; omega))
          exact zg_wzret C ((zstep (rw, sg, lg, R) x).isSome) E dX6_takes_105 (zbF (by rw [hs]; rfl)) (⟨_, rfl, by rw [hs]; rfl, by rw [hs]; exact hN⟩)
        · skip
          refine zg_iconst (v := nI 1) C dX6_takes_45 (by decide) ?_
          refine zg_goto C 50 dX6_takes_46 (by decide) ?_
          refine zg_istore_n C [1, 2, 0] (lv' := [(0, .ref m0), (1, .int x), (2, .int (nI 1))]) dX6_takes_50 (by decide) rfl ?_
          refine zg_aload_n C 0 dX6_takes_51 rfl ?_
          refine zg_iload_n C 2 dX6_takes_52 rfl ?_
          refine zn_if_eq C 63 (by omega) dX6_takes_53 (by decide) (fun c_53 => by omega) (fun c_53 => ?_)
          refine zg_aload_n C 0 dX6_takes_56 rfl ?_
          refine zg_get C 0 (ci := 6) (f := 11) rfl rfl uX6_takes_6 (by decide) fX6_takes_6_11 dX6_takes_57 rfl ?_
          refine zg_goto C 67 dX6_takes_60 (by decide) ?_
          refine zg_put C 0 (ci := 6) (f := 12) (ws' := [(m0, .inr (6, [.int (nI pn), .ref mp, .int (nI rc), .int (nI ln), .ref mo, .int sd, .ref mv, .int bs, .int bp, .int sr, .int (nI rw), .int (nI sg), .int (nI sg), .ref mn, .ref my, .ref ml, .int (nI rk), .int dz, .int (nI su), .int (nI rd), .long hh])), (mp, .inl (cI, 56, .inl pg)), (mo, .inl (cI, 5, .inl Of)), (mv, .inl (cI, 4, .inl V)), (mn, .inl (cI, 5, .inl Nf)), (my, .inl (cI, 1024, .inl Yf)), (ml, .inl (cI, 32, .inl Lf))]) rfl rfl uX6_takes_6 tyX6_ok nmX6 (by decide) fX6_takes_6_12 rfl rfl rfl rfl (Nat.le_of_ble_eq_true rfl) dX6_takes_67 rfl ?_
          refine zg_aload_n C 0 dX6_takes_70 rfl ?_
          refine zg_dup C dX6_takes_71 rfl ?_
          refine zg_get C 0 (ci := 6) (f := 10) rfl rfl uX6_takes_6 (by decide) fX6_takes_6_10 dX6_takes_72 rfl ?_
          refine zg_iload_n C 2 dX6_takes_75 rfl ?_
          refine zn_if_eq C 83 (by omega) dX6_takes_76 (by decide) (fun c_76 => by omega) (fun c_76 => ?_)
          refine zg_iconst (v := nI 1) C dX6_takes_79 (by decide) ?_
          refine zg_goto C 84 dX6_takes_80 (by decide) ?_
          refine zg_iadd C dX6_takes_84 (nI (rw + 1)) (nI_add _ _) ?_
          refine zg_put C 0 (ci := 6) (f := 10) (ws' := [(m0, .inr (6, [.int (nI pn), .ref mp, .int (nI rc), .int (nI ln), .ref mo, .int sd, .ref mv, .int bs, .int bp, .int sr, .int (nI (rw + 1)), .int (nI sg), .int (nI sg), .ref mn, .ref my, .ref ml, .int (nI rk), .int dz, .int (nI su), .int (nI rd), .long hh])), (mp, .inl (cI, 56, .inl pg)), (mo, .inl (cI, 5, .inl Of)), (mv, .inl (cI, 4, .inl V)), (mn, .inl (cI, 5, .inl Nf)), (my, .inl (cI, 1024, .inl Yf)), (ml, .inl (cI, 32, .inl Lf))]) rfl rfl uX6_takes_6 tyX6_ok nmX6 (by decide) fX6_takes_6_10 rfl rfl rfl rfl (Nat.le_of_ble_eq_true rfl) dX6_takes_85 rfl ?_
          refine zg_aload_n C 0 dX6_takes_88 rfl ?_
          refine zg_iload_n C 2 dX6_takes_89 rfl ?_
          refine zn_if_eq C 97 (by omega) dX6_takes_90 (by decide) (fun c_90 => by omega) (fun c_90 => ?_)
          refine zg_iconst (v := nI 0) C dX6_takes_93 (by decide) ?_
          refine zg_goto C 101 dX6_takes_94 (by decide) ?_
          refine zg_put C 0 (ci := 6) (f := 11) (ws' := [(m0, .inr (6, [.int (nI pn), .ref mp, .int (nI rc), .int (nI ln), .ref mo, .int sd, .ref mv, .int bs, .int bp, .int sr, .int (nI (rw + 1)), .int (nI 0), .int (nI sg), .ref mn, .ref my, .ref ml, .int (nI rk), .int dz, .int (nI su), .int (nI rd), .long hh])), (mp, .inl (cI, 56, .inl pg)), (mo, .inl (cI, 5, .inl Of)), (mv, .inl (cI, 4, .inl V)), (mn, .inl (cI, 5, .inl Nf)), (my, .inl (cI, 1024, .inl Yf)), (ml, .inl (cI, 32, .inl Lf))]) rfl rfl uX6_takes_6 tyX6_ok nmX6 (by decide) fX6_takes_6_11 rfl rfl rfl rfl (Nat.le_of_ble_eq_true rfl) dX6_takes_101 rfl ?_
          refine zg_iload_n C 2 dX6_takes_104 rfl ?_
          have hs : (zstep (rw, sg, lg, R) x) = some (rw + 1, 0, sg, R) := (zst_47 ((zxt (by decide)).mp c_3)).trans (if_pos ⟨(zwh_of hk).mpr (by omega), by omega⟩)
          exact zg_wzret C ((zstep (rw, sg, lg, R) x).isSome) E dX6_takes_105 (zbT (by rw [hs]; rfl)) (⟨_, rfl, by rw [hs]; rfl, by rw [hs]; exact zNr_eor hN (by omega)⟩)
      · skip
        refine zg_aload_n C 0 dX6_takes_23 rfl ?_
        refine zg_get C 0 (ci := 6) (f := 11) rfl rfl uX6_takes_6 (by decide) fX6_takes_6_11 dX6_takes_24 rfl ?_
        refine zg_iconst (v := nI 3) C dX6_takes_27 (by decide) ?_
        refine zn_icmp_lt C 49 (by omega) (by omega) dX6_takes_28 (by decide) (fun c_28 => ?_) (fun c_28 => ?_)
        · skip
          refine zg_iconst (v := nI 0) C dX6_takes_49 (by decide) ?_
          refine zg_istore_n C [1, 2, 0] (lv' := [(0, .ref m0), (1, .int x), (2, .int (nI 0))]) dX6_takes_50 (by decide) rfl ?_
          refine zg_aload_n C 0 dX6_takes_51 rfl ?_
          refine zg_iload_n C 2 dX6_takes_52 rfl ?_
          refine zn_if_eq C 63 (by omega) dX6_takes_53 (by decide) (fun c_53 => ?_) (fun c_53 => by omega)
          refine zg_aload_n C 0 dX6_takes_63 rfl ?_
          refine zg_get C 0 (ci := 6) (f := 12) rfl rfl uX6_takes_6 (by decide) fX6_takes_6_12 dX6_takes_64 rfl ?_
          refine zg_put C 0 (ci := 6) (f := 12) (ws' := [(m0, .inr (6, [.int (nI pn), .ref mp, .int (nI rc), .int (nI ln), .ref mo, .int sd, .ref mv, .int bs, .int bp, .int sr, .int (nI rw), .int (nI sg), .int (nI lg), .ref mn, .ref my, .ref ml, .int (nI rk), .int dz, .int (nI su), .int (nI rd), .long hh])), (mp, .inl (cI, 56, .inl pg)), (mo, .inl (cI, 5, .inl Of)), (mv, .inl (cI, 4, .inl V)), (mn, .inl (cI, 5, .inl Nf)), (my, .inl (cI, 1024, .inl Yf)), (ml, .inl (cI, 32, .inl Lf))]) rfl rfl uX6_takes_6 tyX6_ok nmX6 (by decide) fX6_takes_6_12 rfl rfl rfl rfl (Nat.le_of_ble_eq_true rfl) dX6_takes_67 rfl ?_
          refine zg_aload_n C 0 dX6_takes_70 rfl ?_
          refine zg_dup C dX6_takes_71 rfl ?_
          refine zg_get C 0 (ci := 6) (f := 10) rfl rfl uX6_takes_6 (by decide) fX6_takes_6_10 dX6_takes_72 rfl ?_
          refine zg_iload_n C 2 dX6_takes_75 rfl ?_
          refine zn_if_eq C 83 (by omega) dX6_takes_76 (by decide) (fun c_76 => ?_) (fun c_76 => by omega)
          refine zg_iconst (v := nI 0) C dX6_takes_83 (by decide) ?_
          refine zg_iadd C dX6_takes_84 (nI (rw + 0)) (nI_add _ _) ?_
          refine zg_put C 0 (ci := 6) (f := 10) (ws' := [(m0, .inr (6, [.int (nI pn), .ref mp, .int (nI rc), .int (nI ln), .ref mo, .int sd, .ref mv, .int bs, .int bp, .int sr, .int (nI (rw + 0)), .int (nI sg), .int (nI lg), .ref mn, .ref my, .ref ml, .int (nI rk), .int dz, .int (nI su), .int (nI rd), .long hh])), (mp, .inl (cI, 56, .inl pg)), (mo, .inl (cI, 5, .inl Of)), (mv, .inl (cI, 4, .inl V)), (mn, .inl (cI, 5, .inl Nf)), (my, .inl (cI, 1024, .inl Yf)), (ml, .inl (cI, 32, .inl Lf))]) rfl rfl uX6_takes_6 tyX6_ok nmX6 (by decide) fX6_takes_6_10 rfl rfl rfl rfl (Nat.le_of_ble_eq_true rfl) dX6_takes_85 rfl ?_
          refine zg_aload_n C 0 dX6_takes_88 rfl ?_
          refine zg_iload_n C 2 dX6_takes_89 rfl ?_
          refine zn_if_eq C 97 (by omega) dX6_takes_90 (by decide) (fun c_90 => ?_) (fun c_90 => by omega)
          refine zg_aload_n C 0 dX6_takes_97 rfl ?_
          refine zg_get C 0 (ci := 6) (f := 11) rfl rfl uX6_takes_6 (by decide) fX6_takes_6_11 dX6_takes_98 rfl ?_
          refine zg_put C 0 (ci := 6) (f := 11) (ws' := [(m0, .inr (6, [.int (nI pn), .ref mp, .int (nI rc), .int (nI ln), .ref mo, .int sd, .ref mv, .int bs, .int bp, .int sr, .int (nI (rw + 0)), .int (nI sg), .int (nI lg), .ref mn, .ref my, .ref ml, .int (nI rk), .int dz, .int (nI su), .int (nI rd), .long hh])), (mp, .inl (cI, 56, .inl pg)), (mo, .inl (cI, 5, .inl Of)), (mv, .inl (cI, 4, .inl V)), (mn, .inl (cI, 5, .inl Nf)), (my, .inl (cI, 1024, .inl Yf)), (ml, .inl (cI, 32, .inl Lf))]) rfl rfl uX6_takes_6 tyX6_ok nmX6 (by decide) fX6_takes_6_11 rfl rfl rfl rfl (Nat.le_of_ble_eq_true rfl) dX6_takes_101 rfl ?_
          refine zg_iload_n C 2 dX6_takes_104 rfl ?_
          have hs : (zstep (rw, sg, lg, R) x) = none := (zst_47 ((zxt (by decide)).mp c_3)).trans (if_neg (fun q => by have := (zwh_of hk).mp q.1; omega))
          exact zg_wzret C ((zstep (rw, sg, lg, R) x).isSome) E dX6_takes_105 (zbF (by rw [hs]; rfl)) (⟨_, rfl, by rw [hs]; rfl, by rw [hs]; exact hN⟩)
        · skip
          refine zg_goto C 45 dX6_takes_31 (by decide) ?_
          refine zg_iconst (v := nI 1) C dX6_takes_45 (by decide) ?_
          refine zg_goto C 50 dX6_takes_46 (by decide) ?_
          refine zg_istore_n C [1, 2, 0] (lv' := [(0, .ref m0), (1, .int x), (2, .int (nI 1))]) dX6_takes_50 (by decide) rfl ?_
          refine zg_aload_n C 0 dX6_takes_51 rfl ?_
          refine zg_iload_n C 2 dX6_takes_52 rfl ?_
          refine zn_if_eq C 63 (by omega) dX6_takes_53 (by decide) (fun c_53 => by omega) (fun c_53 => ?_)
          refine zg_aload_n C 0 dX6_takes_56 rfl ?_
          refine zg_get C 0 (ci := 6) (f := 11) rfl rfl uX6_takes_6 (by decide) fX6_takes_6_11 dX6_takes_57 rfl ?_
          refine zg_goto C 67 dX6_takes_60 (by decide) ?_
          refine zg_put C 0 (ci := 6) (f := 12) (ws' := [(m0, .inr (6, [.int (nI pn), .ref mp, .int (nI rc), .int (nI ln), .ref mo, .int sd, .ref mv, .int bs, .int bp, .int sr, .int (nI rw), .int (nI sg), .int (nI sg), .ref mn, .ref my, .ref ml, .int (nI rk), .int dz, .int (nI su), .int (nI rd), .long hh])), (mp, .inl (cI, 56, .inl pg)), (mo, .inl (cI, 5, .inl Of)), (mv, .inl (cI, 4, .inl V)), (mn, .inl (cI, 5, .inl Nf)), (my, .inl (cI, 1024, .inl Yf)), (ml, .inl (cI, 32, .inl Lf))]) rfl rfl uX6_takes_6 tyX6_ok nmX6 (by decide) fX6_takes_6_12 rfl rfl rfl rfl (Nat.le_of_ble_eq_true rfl) dX6_takes_67 rfl ?_
          refine zg_aload_n C 0 dX6_takes_70 rfl ?_
          refine zg_dup C dX6_takes_71 rfl ?_
          refine zg_get C 0 (ci := 6) (f := 10) rfl rfl uX6_takes_6 (by decide) fX6_takes_6_10 dX6_takes_72 rfl ?_
          refine zg_iload_n C 2 dX6_takes_75 rfl ?_
          refine zn_if_eq C 83 (by omega) dX6_takes_76 (by decide) (fun c_76 => by omega) (fun c_76 => ?_)
          refine zg_iconst (v := nI 1) C dX6_takes_79 (by decide) ?_
          refine zg_goto C 84 dX6_takes_80 (by decide) ?_
          refine zg_iadd C dX6_takes_84 (nI (rw + 1)) (nI_add _ _) ?_
          refine zg_put C 0 (ci := 6) (f := 10) (ws' := [(m0, .inr (6, [.int (nI pn), .ref mp, .int (nI rc), .int (nI ln), .ref mo, .int sd, .ref mv, .int bs, .int bp, .int sr, .int (nI (rw + 1)), .int (nI sg), .int (nI sg), .ref mn, .ref my, .ref ml, .int (nI rk), .int dz, .int (nI su), .int (nI rd), .long hh])), (mp, .inl (cI, 56, .inl pg)), (mo, .inl (cI, 5, .inl Of)), (mv, .inl (cI, 4, .inl V)), (mn, .inl (cI, 5, .inl Nf)), (my, .inl (cI, 1024, .inl Yf)), (ml, .inl (cI, 32, .inl Lf))]) rfl rfl uX6_takes_6 tyX6_ok nmX6 (by decide) fX6_takes_6_10 rfl rfl rfl rfl (Nat.le_of_ble_eq_true rfl) dX6_takes_85 rfl ?_
          refine zg_aload_n C 0 dX6_takes_88 rfl ?_
          refine zg_iload_n C 2 dX6_takes_89 rfl ?_
          refine zn_if_eq C 97 (by omega) dX6_takes_90 (by decide) (fun c_90 => by omega) (fun c_90 => ?_)
          refine zg_iconst (v := nI 0) C dX6_takes_93 (by decide) ?_
          refine zg_goto C 101 dX6_takes_94 (by decide) ?_
          refine zg_put C 0 (ci := 6) (f := 11) (ws' := [(m0, .inr (6, [.int (nI pn), .ref mp, .int (nI rc), .int (nI ln), .ref mo, .int sd, .ref mv, .int bs, .int bp, .int sr, .int (nI (rw + 1)), .int (nI 0), .int (nI sg), .ref mn, .ref my, .ref ml, .int (nI rk), .int dz, .int (nI su), .int (nI rd), .long hh])), (mp, .inl (cI, 56, .inl pg)), (mo, .inl (cI, 5, .inl Of)), (mv, .inl (cI, 4, .inl V)), (mn, .inl (cI, 5, .inl Nf)), (my, .inl (cI, 1024, .inl Yf)), (ml, .inl (cI, 32, .inl Lf))]) rfl rfl uX6_takes_6 tyX6_ok nmX6 (by decide) fX6_takes_6_11 rfl rfl rfl rfl (Nat.le_of_ble_eq_true rfl) dX6_takes_101 rfl ?_
          refine zg_iload_n C 2 dX6_takes_104 rfl ?_
          have hs : (zstep (rw, sg, lg, R) x) = some (rw + 1, 0, sg, R) := (zst_47 ((zxt (by decide)).mp c_3)).trans (if_pos ⟨(zwh_of hk).mpr (by omega), by omega⟩)
          exact zg_wzret C ((zstep (rw, sg, lg, R) x).isSome) E dX6_takes_105 (zbT (by rw [hs]; rfl)) (⟨_, rfl, by rw [hs]; rfl, by rw [hs]; exact zNr_eor hN (by omega)⟩)
theorem uX6_goAlong_6 : ∀ w ∈ u_ws RX6 TX6 21, w ∈ wsX6_goAlong := fun w h => List.mem_cons_of_mem _ (List.mem_append_right _ h)
theorem fX6_goAlong_6_10 : Cond.fieldLink RX6 39 (TX6 10).1 (TX6 10).2.1 (TX6 10).2.2.1 ∈ wsX6_goAlong := by decide +kernel
theorem fX6_goAlong_6_11 : Cond.fieldLink RX6 45 (TX6 11).1 (TX6 11).2.1 (TX6 11).2.2.1 ∈ wsX6_goAlong := by decide +kernel
theorem fX6_goAlong_6_12 : Cond.fieldLink RX6 42 (TX6 12).1 (TX6 12).2.1 (TX6 12).2.2.1 ∈ wsX6_goAlong := by decide +kernel
theorem fX6_goAlong_6_0 : Cond.fieldLink RX6 36 (TX6 0).1 (TX6 0).2.1 (TX6 0).2.2.1 ∈ wsX6_goAlong := by decide +kernel
theorem fX6_goAlong_6_1 : Cond.fieldLink RX6 7 (TX6 1).1 (TX6 1).2.1 (TX6 1).2.2.1 ∈ wsX6_goAlong := by decide +kernel
set_option maxHeartbeats 1000000 in
set_option maxRecDepth 100000 in
theorem c_X6_goAlong (l : Launch) (D : va_G) (cI : ClassId) (m0 mp mo mv mn my ml : Nat) (pg Of V Nf Yf Lf : Nat → Int32) (pn rc ln rk su rd : Nat) (sd bs bp sr y1 y2 y3 dz : Int32) (hh : Int64) (hpn : pn ≤ 56) : zMw l D cI yX6_goAlong wsX6_goAlong { frames := 1, cells := 0, slots := 0, locals := 22 } [.ref m0] [(m0, .inr (6, [.int (nI pn), .ref mp, .int (nI rc), .int (nI ln), .ref mo, .int sd, .ref mv, .int bs, .int bp, .int sr, .int y1, .int y2, .int y3, .ref mn, .ref my, .ref ml, .int (nI rk), .int dz, .int (nI su), .int (nI rd), .long hh])), (mp, .inl (cI, 56, .inl pg)), (mo, .inl (cI, 5, .inl Of)), (mv, .inl (cI, 4, .inl V)), (mn, .inl (cI, 5, .inl Nf)), (my, .inl (cI, 1024, .inl Yf)), (ml, .inl (cI, 32, .inl Lf))] (fun v9 w9 => ∃ (Nf9 : Nat → Int32), v9 = some (.int (nI ((zfa pg pn 0 zr0).1))) ∧ w9 = [(m0, .inr (6, [.int (nI pn), .ref mp, .int (nI rc), .int (nI ln), .ref mo, .int sd, .ref mv, .int bs, .int bp, .int sr, .int (nI ((zfa pg pn 0 zr0).2.1)), .int (nI ((zfa pg pn 0 zr0).2.2.1)), .int (nI ((zfa pg pn 0 zr0).2.2.2.1)), .ref mn, .ref my, .ref ml, .int (nI rk), .int dz, .int (nI su), .int (nI rd), .long hh])), (mp, .inl (cI, 56, .inl pg)), (mo, .inl (cI, 5, .inl Of)), (mv, .inl (cI, 4, .inl V)), (mn, .inl (cI, 5, .inl Nf9)), (my, .inl (cI, 1024, .inl Yf)), (ml, .inl (cI, 32, .inl Lf))] ∧ zNr Nf9 (zfa pg pn 0 zr0).2) 0 0 := by
  refine zw_ent (maxL := 2) (by decide) rfl (Nat.le_of_ble_eq_true rfl) (fun X C E hin9 => ?_)
  have C : zC X l D cI { frames := 1, cells := 0, slots := 0, locals := 22 } 2 true cX6_goAlong RX6 wsX6_goAlong := C
  refine zg_cv (lv' := [(0, .ref m0)]) rfl rfl rfl ?_
  refine zg_aload_n C 0 dX6_goAlong_0 rfl ?_
  refine zg_iconst (v := nI 0) C dX6_goAlong_1 (by decide) ?_
  refine zg_put C 0 (ci := 6) (f := 10) (ws' := [(m0, .inr (6, [.int (nI pn), .ref mp, .int (nI rc), .int (nI ln), .ref mo, .int sd, .ref mv, .int bs, .int bp, .int sr, .int (nI 0), .int y2, .int y3, .ref mn, .ref my, .ref ml, .int (nI rk), .int dz, .int (nI su), .int (nI rd), .long hh])), (mp, .inl (cI, 56, .inl pg)), (mo, .inl (cI, 5, .inl Of)), (mv, .inl (cI, 4, .inl V)), (mn, .inl (cI, 5, .inl Nf)), (my, .inl (cI, 1024, .inl Yf)), (ml, .inl (cI, 32, .inl Lf))]) rfl rfl uX6_goAlong_6 tyX6_ok nmX6 (by decide) fX6_goAlong_6_10 rfl rfl rfl rfl (Nat.le_of_ble_eq_true rfl) dX6_goAlong_2 rfl ?_
  refine zg_aload_n C 0 dX6_goAlong_5 rfl ?_
  refine zg_iconst (v := nI 0) C dX6_goAlong_6 (by decide) ?_
  refine zg_put C 0 (ci := 6) (f := 11) (ws' := [(m0, .inr (6, [.int (nI pn), .ref mp, .int (nI rc), .int (nI ln), .ref mo, .int sd, .ref mv, .int bs, .int bp, .int sr, .int (nI 0), .int (nI 0), .int y3, .ref mn, .ref my, .ref ml, .int (nI rk), .int dz, .int (nI su), .int (nI rd), .long hh])), (mp, .inl (cI, 56, .inl pg)), (mo, .inl (cI, 5, .inl Of)), (mv, .inl (cI, 4, .inl V)), (mn, .inl (cI, 5, .inl Nf)), (my, .inl (cI, 1024, .inl Yf)), (ml, .inl (cI, 32, .inl Lf))]) rfl rfl uX6_goAlong_6 tyX6_ok nmX6 (by decide) fX6_goAlong_6_11 rfl rfl rfl rfl (Nat.le_of_ble_eq_true rfl) dX6_goAlong_7 rfl ?_
  refine zg_aload_n C 0 dX6_goAlong_10 rfl ?_
  refine zg_iconst (v := nI 0) C dX6_goAlong_11 (by decide) ?_
  refine zg_put C 0 (ci := 6) (f := 12) (ws' := [(m0, .inr (6, [.int (nI pn), .ref mp, .int (nI rc), .int (nI ln), .ref mo, .int sd, .ref mv, .int bs, .int bp, .int sr, .int (nI 0), .int (nI 0), .int (nI 0), .ref mn, .ref my, .ref ml, .int (nI rk), .int dz, .int (nI su), .int (nI rd), .long hh])), (mp, .inl (cI, 56, .inl pg)), (mo, .inl (cI, 5, .inl Of)), (mv, .inl (cI, 4, .inl V)), (mn, .inl (cI, 5, .inl Nf)), (my, .inl (cI, 1024, .inl Yf)), (ml, .inl (cI, 32, .inl Lf))]) rfl rfl uX6_goAlong_6 tyX6_ok nmX6 (by decide) fX6_goAlong_6_12 rfl rfl rfl rfl (Nat.le_of_ble_eq_true rfl) dX6_goAlong_12 rfl ?_
  refine zg_iconst (v := nI 0) C dX6_goAlong_15 (by decide) ?_
  refine zg_istore_n C [1, 0] (lv' := [(0, .ref m0), (1, .int (nI 0))]) dX6_goAlong_16 (by decide) rfl ?_
  have L_17 : ∀ i, i ≤ pn → ∀ (rw sg lg : Nat) (R : Nat → Nat) (Nf : Nat → Int32), (zrok (rw, sg, lg, R)) → (zNr Nf (rw, sg, lg, R)) → (zfa pg (pn - i) i (rw, sg, lg, R) = (zfa pg pn 0 zr0)) → zG X 0 0 [(0, .ref m0), (1, .int (nI i))] [] [(m0, .inr (6, [.int (nI pn), .ref mp, .int (nI rc), .int (nI ln), .ref mo, .int sd, .ref mv, .int bs, .int bp, .int sr, .int (nI rw), .int (nI sg), .int (nI lg), .ref mn, .ref my, .ref ml, .int (nI rk), .int dz, .int (nI su), .int (nI rd), .long hh])), (mp, .inl (cI, 56, .inl pg)), (mo, .inl (cI, 5, .inl Of)), (mv, .inl (cI, 4, .inl V)), (mn, .inl (cI, 5, .inl Nf)), (my, .inl (cI, 1024, .inl Yf)), (ml, .inl (cI, 32, .inl Lf))] 17 := by
    refine zg_dn (fun i hi ih_17 rw sg lg R Nf hk hN hz => ?_)
    refine zg_iload_n C 1 dX6_goAlong_17 rfl ?_
    refine zg_aload_n C 0 dX6_goAlong_18 rfl ?_
    refine zg_get C 0 (ci := 6) (f := 0) rfl rfl uX6_goAlong_6 (by decide) fX6_goAlong_6_0 dX6_goAlong_19 rfl ?_
    refine zn_icmp_ge C 44 (by omega) (by omega) dX6_goAlong_22 (by decide) (fun c_22 => ?_) (fun c_22 => ?_)
    · skip
      refine zg_iload_n C 1 dX6_goAlong_44 rfl ?_
      exact zg_wiret C E dX6_goAlong_45 (⟨_, by rw [← hz, zfa_end (by omega)], by rw [← hz, zfa_end (by omega)], by rw [← hz, zfa_end (by omega)]; exact hN⟩)
    · skip
      refine zg_aload_n C 0 dX6_goAlong_25 rfl ?_
      refine zg_aload_n C 0 dX6_goAlong_26 rfl ?_
      refine zg_get C 0 (ci := 6) (f := 1) rfl rfl uX6_goAlong_6 (by decide) fX6_goAlong_6_1 dX6_goAlong_27 rfl ?_
      refine zg_iload_n C 1 dX6_goAlong_30 rfl ?_
      refine zg_iald C 1 rfl (by omega) (by decide) dX6_goAlong_31 (pg i) (rfl) ?_
      refine zg_callw (As := [.int (pg i)]) (st := []) (wo := []) C [0, 1, 2, 3, 4, 5, 6] [] 0 1 (c_X6_takes l D cI m0 mp mo mv mn my ml pg Of V Nf Yf Lf pn rc ln rk su rd sd bs bp sr dz hh rw sg lg R (pg i) (hk) (hN)) gX6_goAlong_X6_takes (by decide +kernel) rfl ⟨rfl, rfl⟩ ⟨Nat.le_of_ble_eq_true rfl, Nat.le_of_ble_eq_true rfl⟩ rfl rfl rfl rfl (by decide) (ci := 6) rfl rfl rfl rfl (Nat.le_of_ble_eq_true rfl) ⟨Nat.le_of_ble_eq_true rfl, Nat.le_of_ble_eq_true rfl⟩ dX6_goAlong_32 (fun v9 w9 hw9 => ?_)
      obtain ⟨Nf9_32, rfl, rfl, hp_32⟩ := hw9
      refine zg_cv (k' := 0) (n' := 0) (st' := [.int (zb ((zstep (rw, sg, lg, R) (pg i)).isSome))]) (ws' := [(m0, .inr (6, [.int (nI pn), .ref mp, .int (nI rc), .int (nI ln), .ref mo, .int sd, .ref mv, .int bs, .int bp, .int sr, .int (nI (((zstep (rw, sg, lg, R) (pg i)).getD (rw, sg, lg, R)).1)), .int (nI (((zstep (rw, sg, lg, R) (pg i)).getD (rw, sg, lg, R)).2.1)), .int (nI (((zstep (rw, sg, lg, R) (pg i)).getD (rw, sg, lg, R)).2.2.1)), .ref mn, .ref my, .ref ml, .int (nI rk), .int dz, .int (nI su), .int (nI rd), .long hh])), (mp, .inl (cI, 56, .inl pg)), (mo, .inl (cI, 5, .inl Of)), (mv, .inl (cI, 4, .inl V)), (mn, .inl (cI, 5, .inl Nf9_32)), (my, .inl (cI, 1024, .inl Yf)), (ml, .inl (cI, 32, .inl Lf))]) rfl rfl rfl ?_
      refine zb_if_eq C 44 dX6_goAlong_35 (by decide) (fun c_35 => ?_) (fun c_35 => ?_)
      · skip
        have hs : (zstep (rw, sg, lg, R) (pg i)) = none := Option.not_isSome_iff_eq_none.mp (by rw [c_35]; decide)
        refine zg_iload_n C 1 dX6_goAlong_44 rfl ?_
        exact zg_wiret C E dX6_goAlong_45 (⟨_, by rw [← hz, zfa_no (by omega) hs], by rw [← hz, zfa_no (by omega) hs, hs]; rfl, by rw [← hz, zfa_no (by omega) hs]; rw [hs] at hp_32; exact hp_32⟩)
      · skip
        obtain ⟨⟨u1, u2, u3, u4⟩, hs⟩ := Option.isSome_iff_exists.mp c_35
        refine zg_cv (ws' := [(m0, .inr (6, [.int (nI pn), .ref mp, .int (nI rc), .int (nI ln), .ref mo, .int sd, .ref mv, .int bs, .int bp, .int sr, .int (nI u1), .int (nI (((zstep (rw, sg, lg, R) (pg i)).getD (rw, sg, lg, R)).2.1)), .int (nI (((zstep (rw, sg, lg, R) (pg i)).getD (rw, sg, lg, R)).2.2.1)), .ref mn, .ref my, .ref ml, .int (nI rk), .int dz, .int (nI su), .int (nI rd), .long hh])), (mp, .inl (cI, 56, .inl pg)), (mo, .inl (cI, 5, .inl Of)), (mv, .inl (cI, 4, .inl V)), (mn, .inl (cI, 5, .inl Nf9_32)), (my, .inl (cI, 1024, .inl Yf)), (ml, .inl (cI, 32, .inl Lf))]) rfl rfl (by rw [show ((zstep (rw, sg, lg, R) (pg i)).getD (rw, sg, lg, R)).1 = u1 from (by rw [hs]; rfl)]) ?_
        refine zg_cv (ws' := [(m0, .inr (6, [.int (nI pn), .ref mp, .int (nI rc), .int (nI ln), .ref mo, .int sd, .ref mv, .int bs, .int bp, .int sr, .int (nI u1), .int (nI u2), .int (nI (((zstep (rw, sg, lg, R) (pg i)).getD (rw, sg, lg, R)).2.2.1)), .ref mn, .ref my, .ref ml, .int (nI rk), .int dz, .int (nI su), .int (nI rd), .long hh])), (mp, .inl (cI, 56, .inl pg)), (mo, .inl (cI, 5, .inl Of)), (mv, .inl (cI, 4, .inl V)), (mn, .inl (cI, 5, .inl Nf9_32)), (my, .inl (cI, 1024, .inl Yf)), (ml, .inl (cI, 32, .inl Lf))]) rfl rfl (by rw [show ((zstep (rw, sg, lg, R) (pg i)).getD (rw, sg, lg, R)).2.1 = u2 from (by rw [hs]; rfl)]) ?_
        refine zg_cv (ws' := [(m0, .inr (6, [.int (nI pn), .ref mp, .int (nI rc), .int (nI ln), .ref mo, .int sd, .ref mv, .int bs, .int bp, .int sr, .int (nI u1), .int (nI u2), .int (nI u3), .ref mn, .ref my, .ref ml, .int (nI rk), .int dz, .int (nI su), .int (nI rd), .long hh])), (mp, .inl (cI, 56, .inl pg)), (mo, .inl (cI, 5, .inl Of)), (mv, .inl (cI, 4, .inl V)), (mn, .inl (cI, 5, .inl Nf9_32)), (my, .inl (cI, 1024, .inl Yf)), (ml, .inl (cI, 32, .inl Lf))]) rfl rfl (by rw [show ((zstep (rw, sg, lg, R) (pg i)).getD (rw, sg, lg, R)).2.2.1 = u3 from (by rw [hs]; rfl)]) ?_
        refine zg_iinc C 1 [1, 0] (lv' := [(0, .ref m0), (1, .int (nI (i + 1)))]) (nI (i + 1)) dX6_goAlong_38 rfl (zi_inc _) (by decide) rfl ?_
        refine zg_goto C 17 dX6_goAlong_41 (by decide) ?_
        exact zg_cv (lv' := [(0, .ref m0), (1, .int (nI (i + 1)))]) (rfl) rfl (rfl) (ih_17 (by omega) u1 u2 u3 u4 Nf9_32 (zrok_step hk hs) (by rw [hs] at hp_32; exact hp_32) ((zfa_yes (by omega) hs).symm.trans hz))
  exact zg_cv (lv' := [(0, .ref m0), (1, .int (nI 0))]) (rfl) rfl (rfl) (L_17 0 (Nat.zero_le _) 0 0 0 (fun _ => 0) Nf (zrok_0) (zNr_0 _) (rfl))
set_option maxHeartbeats 1000000 in
set_option maxRecDepth 100000 in
theorem c_X6_fault (l : Launch) (D : va_G) (cI : ClassId) (m0 mp mo mv mn my ml : Nat) (pg Of V Nf Yf Lf : Nat → Int32) (pn rc ln rk su rd : Nat) (sd bs bp sr y1 y2 y3 dz : Int32) (hh : Int64) (hpn : pn ≤ 56) : zMw l D cI yX6_fault wsX6_fault { frames := 2, cells := 0, slots := 0, locals := 43 } [.ref m0] [(m0, .inr (6, [.int (nI pn), .ref mp, .int (nI rc), .int (nI ln), .ref mo, .int sd, .ref mv, .int bs, .int bp, .int sr, .int y1, .int y2, .int y3, .ref mn, .ref my, .ref ml, .int (nI rk), .int dz, .int (nI su), .int (nI rd), .long hh])), (mp, .inl (cI, 56, .inl pg)), (mo, .inl (cI, 5, .inl Of)), (mv, .inl (cI, 4, .inl V)), (mn, .inl (cI, 5, .inl Nf)), (my, .inl (cI, 1024, .inl Yf)), (ml, .inl (cI, 32, .inl Lf))] (fun v9 w9 => ∃ (Nf9 : Nat → Int32), v9 = some (.int (nI ((zfa pg pn 0 zr0).1))) ∧ w9 = [(m0, .inr (6, [.int (nI pn), .ref mp, .int (nI rc), .int (nI ln), .ref mo, .int sd, .ref mv, .int bs, .int bp, .int sr, .int (nI ((zfa pg pn 0 zr0).2.1)), .int (nI ((zfa pg pn 0 zr0).2.2.1)), .int (nI ((zfa pg pn 0 zr0).2.2.2.1)), .ref mn, .ref my, .ref ml, .int (nI rk), .int dz, .int (nI su), .int (nI rd), .long hh])), (mp, .inl (cI, 56, .inl pg)), (mo, .inl (cI, 5, .inl Of)), (mv, .inl (cI, 4, .inl V)), (mn, .inl (cI, 5, .inl Nf9)), (my, .inl (cI, 1024, .inl Yf)), (ml, .inl (cI, 32, .inl Lf))] ∧ zNr Nf9 (zfa pg pn 0 zr0).2) 0 0 := by
  refine zw_ent (maxL := 1) (by decide) rfl (Nat.le_of_ble_eq_true rfl) (fun X C E hin9 => ?_)
  have C : zC X l D cI { frames := 2, cells := 0, slots := 0, locals := 43 } 1 true cX6_fault RX6 wsX6_fault := C
  refine zg_cv (lv' := [(0, .ref m0)]) rfl rfl rfl ?_
  refine zg_aload_n C 0 dX6_fault_0 rfl ?_
  refine zg_callw (As := []) (st := []) (wo := []) C [0, 1, 2, 3, 4, 5, 6] [] 0 0 (c_X6_goAlong l D cI m0 mp mo mv mn my ml pg Of V Nf Yf Lf pn rc ln rk su rd sd bs bp sr y1 y2 y3 dz hh hpn) gX6_fault_X6_goAlong (by decide +kernel) rfl ⟨rfl, rfl⟩ ⟨Nat.le_of_ble_eq_true rfl, Nat.le_of_ble_eq_true rfl⟩ rfl rfl rfl rfl (by decide) (ci := 6) rfl rfl rfl rfl (Nat.le_of_ble_eq_true rfl) ⟨Nat.le_of_ble_eq_true rfl, Nat.le_of_ble_eq_true rfl⟩ dX6_fault_1 (fun v9 w9 hw9 => ?_)
  obtain ⟨Nf9_1, rfl, rfl, hp_1⟩ := hw9
  refine zg_cv (k' := 0) (n' := 0) (st' := [.int (nI ((zfa pg pn 0 zr0).1))]) (ws' := [(m0, .inr (6, [.int (nI pn), .ref mp, .int (nI rc), .int (nI ln), .ref mo, .int sd, .ref mv, .int bs, .int bp, .int sr, .int (nI ((zfa pg pn 0 zr0).2.1)), .int (nI ((zfa pg pn 0 zr0).2.2.1)), .int (nI ((zfa pg pn 0 zr0).2.2.2.1)), .ref mn, .ref my, .ref ml, .int (nI rk), .int dz, .int (nI su), .int (nI rd), .long hh])), (mp, .inl (cI, 56, .inl pg)), (mo, .inl (cI, 5, .inl Of)), (mv, .inl (cI, 4, .inl V)), (mn, .inl (cI, 5, .inl Nf9_1)), (my, .inl (cI, 1024, .inl Yf)), (ml, .inl (cI, 32, .inl Lf))]) rfl rfl rfl ?_
  exact zg_wiret C E dX6_fault_4 (⟨_, rfl, rfl, hp_1⟩)
theorem uX6_words_6 : ∀ w ∈ u_ws RX6 TX6 21, w ∈ wsX6_words := fun w h => List.mem_cons_of_mem _ (List.mem_append_right _ h)
theorem fX6_words_6_3 : Cond.fieldLink RX6 59 (TX6 3).1 (TX6 3).2.1 (TX6 3).2.2.1 ∈ wsX6_words := by decide +kernel
set_option maxHeartbeats 1000000 in
set_option maxRecDepth 100000 in
theorem c_X6_words (l : Launch) (D : va_G) (cI : ClassId) (m0 mp mo mv mn my ml : Nat) (pg Of V Nf Yf Lf : Nat → Int32) (pn rc ln rk su rd : Nat) (sd bs bp sr y1 y2 y3 dz : Int32) (hh : Int64) (hln : ln ≤ 10) : zMr l D cI yX6_words wsX6_words { frames := 0, cells := 0, slots := 0, locals := 0 } [.ref m0] [(m0, .inr (6, [.int (nI pn), .ref mp, .int (nI rc), .int (nI ln), .ref mo, .int sd, .ref mv, .int bs, .int bp, .int sr, .int y1, .int y2, .int y3, .ref mn, .ref my, .ref ml, .int (nI rk), .int dz, .int (nI su), .int (nI rd), .long hh])), (mp, .inl (cI, 56, .inl pg)), (mo, .inl (cI, 5, .inl Of)), (mv, .inl (cI, 4, .inl V)), (mn, .inl (cI, 5, .inl Nf)), (my, .inl (cI, 1024, .inl Yf)), (ml, .inl (cI, 32, .inl Lf))] (nI (2 ^ ln)) := by
  refine zr_ent (maxL := 1) (by decide) rfl (Nat.le_of_ble_eq_true rfl) (fun X C E => ?_)
  have C : zC X l D cI { frames := 0, cells := 0, slots := 0, locals := 0 } 1 false cX6_words RX6 wsX6_words := C
  refine zg_cv (lv' := [(0, .ref m0)]) rfl rfl rfl ?_
  refine zg_iconst (v := nI 1) C dX6_words_0 (by decide) ?_
  refine zg_aload_n C 0 dX6_words_1 rfl ?_
  refine zg_get C 0 (ci := 6) (f := 3) rfl rfl uX6_words_6 (by decide) fX6_words_6_3 dX6_words_2 rfl ?_
  refine zg_ishl C dX6_words_5 (nI (2 ^ ln)) (zi_shl1 (by omega)) ?_
  exact zg_iret C E dX6_words_6 (rfl)
theorem uX6_isThere_6 : ∀ w ∈ u_ws RX6 TX6 21, w ∈ wsX6_isThere := fun w h => List.mem_cons_of_mem _ (List.mem_append_right _ h)
theorem fX6_isThere_6_2 : Cond.fieldLink RX6 56 (TX6 2).1 (TX6 2).2.1 (TX6 2).2.2.1 ∈ wsX6_isThere := by decide +kernel
set_option maxHeartbeats 1000000 in
set_option maxRecDepth 100000 in
theorem c_X6_isThere (l : Launch) (D : va_G) (cI : ClassId) (m0 mp mo mv mn my ml : Nat) (pg Of V Nf Yf Lf : Nat → Int32) (pn rc ln rk su rd : Nat) (sd bs bp sr y1 y2 y3 dz : Int32) (hh : Int64) (hrc : rc ≤ 5) : zMr l D cI yX6_isThere wsX6_isThere { frames := 0, cells := 0, slots := 0, locals := 0 } [.ref m0] [(m0, .inr (6, [.int (nI pn), .ref mp, .int (nI rc), .int (nI ln), .ref mo, .int sd, .ref mv, .int bs, .int bp, .int sr, .int y1, .int y2, .int y3, .ref mn, .ref my, .ref ml, .int (nI rk), .int dz, .int (nI su), .int (nI rd), .long hh])), (mp, .inl (cI, 56, .inl pg)), (mo, .inl (cI, 5, .inl Of)), (mv, .inl (cI, 4, .inl V)), (mn, .inl (cI, 5, .inl Nf)), (my, .inl (cI, 1024, .inl Yf)), (ml, .inl (cI, 32, .inl Lf))] (zb (decide (0 < rc))) := by
  refine zr_ent (maxL := 1) (by decide) rfl (Nat.le_of_ble_eq_true rfl) (fun X C E => ?_)
  have C : zC X l D cI { frames := 0, cells := 0, slots := 0, locals := 0 } 1 false cX6_isThere RX6 wsX6_isThere := C
  refine zg_cv (lv' := [(0, .ref m0)]) rfl rfl rfl ?_
  refine zg_aload_n C 0 dX6_isThere_0 rfl ?_
  refine zg_get C 0 (ci := 6) (f := 2) rfl rfl uX6_isThere_6 (by decide) fX6_isThere_6_2 dX6_isThere_1 rfl ?_
  refine zn_if_le C 11 (by omega) dX6_isThere_4 (by decide) (fun c_4 => ?_) (fun c_4 => ?_)
  · skip
    refine zg_iconst (v := nI 0) C dX6_isThere_11 (by decide) ?_
    exact zg_zret C E dX6_isThere_12 (zbf (by omega))
  · skip
    refine zg_iconst (v := nI 1) C dX6_isThere_7 (by decide) ?_
    refine zg_goto C 12 dX6_isThere_8 (by decide) ?_
    exact zg_zret C E dX6_isThere_12 (zbt c_4)
theorem uX6_syndromeBy_6 : ∀ w ∈ u_ws RX6 TX6 21, w ∈ wsX6_syndromeBy := fun w h => List.mem_cons_of_mem _ (List.mem_append_right _ h)
theorem fX6_syndromeBy_6_2 : Cond.fieldLink RX6 56 (TX6 2).1 (TX6 2).2.1 (TX6 2).2.2.1 ∈ wsX6_syndromeBy := by decide +kernel
theorem fX6_syndromeBy_6_4 : Cond.fieldLink RX6 13 (TX6 4).1 (TX6 4).2.1 (TX6 4).2.2.1 ∈ wsX6_syndromeBy := by decide +kernel
set_option maxHeartbeats 1000000 in
set_option maxRecDepth 100000 in
theorem c_X6_syndromeBy (l : Launch) (D : va_G) (cI : ClassId) (m0 mp mo mv mn my ml : Nat) (pg Of V Nf Yf Lf : Nat → Int32) (pn rc ln rk su rd : Nat) (sd bs bp sr y1 y2 y3 dz : Int32) (hh : Int64) (R : Nat → Nat) (w : Nat) (hrc : rc ≤ 5) (hO : ∀ i, i < rc → Of i = nI (R i)) (hRb : ∀ i, i < rc → R i < 1024) (hw : w < 1024) : zMr l D cI yX6_syndromeBy wsX6_syndromeBy { frames := 1, cells := 0, slots := 0, locals := 22 } [.ref m0, .int (nI w)] [(m0, .inr (6, [.int (nI pn), .ref mp, .int (nI rc), .int (nI ln), .ref mo, .int sd, .ref mv, .int bs, .int bp, .int sr, .int y1, .int y2, .int y3, .ref mn, .ref my, .ref ml, .int (nI rk), .int dz, .int (nI su), .int (nI rd), .long hh])), (mp, .inl (cI, 56, .inl pg)), (mo, .inl (cI, 5, .inl Of)), (mv, .inl (cI, 4, .inl V)), (mn, .inl (cI, 5, .inl Nf)), (my, .inl (cI, 1024, .inl Yf)), (ml, .inl (cI, 32, .inl Lf))] (nI (zsk R w rc)) := by
  refine zr_ent (maxL := 4) (by decide) rfl (Nat.le_of_ble_eq_true rfl) (fun X C E => ?_)
  have C : zC X l D cI { frames := 1, cells := 0, slots := 0, locals := 22 } 4 false cX6_syndromeBy RX6 wsX6_syndromeBy := C
  refine zg_cv (lv' := [(0, .ref m0), (1, .int (nI w))]) rfl rfl rfl ?_
  refine zg_iconst (v := nI 0) C dX6_syndromeBy_0 (by decide) ?_
  refine zg_istore_n C [1, 2, 0] (lv' := [(0, .ref m0), (1, .int (nI w)), (2, .int (nI 0))]) dX6_syndromeBy_1 (by decide) rfl ?_
  refine zg_iconst (v := nI 0) C dX6_syndromeBy_2 (by decide) ?_
  refine zg_istore_n C [1, 2, 3, 0] (lv' := [(0, .ref m0), (1, .int (nI w)), (2, .int (nI 0)), (3, .int (nI 0))]) dX6_syndromeBy_3 (by decide) rfl ?_
  have L_4 : ∀ i, i ≤ rc → zG X 0 0 [(0, .ref m0), (1, .int (nI w)), (2, .int (nI (zsk R w i))), (3, .int (nI i))] [] [(m0, .inr (6, [.int (nI pn), .ref mp, .int (nI rc), .int (nI ln), .ref mo, .int sd, .ref mv, .int bs, .int bp, .int sr, .int y1, .int y2, .int y3, .ref mn, .ref my, .ref ml, .int (nI rk), .int dz, .int (nI su), .int (nI rd), .long hh])), (mp, .inl (cI, 56, .inl pg)), (mo, .inl (cI, 5, .inl Of)), (mv, .inl (cI, 4, .inl V)), (mn, .inl (cI, 5, .inl Nf)), (my, .inl (cI, 1024, .inl Yf)), (ml, .inl (cI, 32, .inl Lf))] 4 := by
    refine zg_dn (fun i hi ih_4  => ?_)
    refine zg_iload_n C 3 dX6_syndromeBy_4 rfl ?_
    refine zg_aload_n C 0 dX6_syndromeBy_5 rfl ?_
    refine zg_get C 0 (ci := 6) (f := 2) rfl rfl uX6_syndromeBy_6 (by decide) fX6_syndromeBy_6_2 dX6_syndromeBy_6 rfl ?_
    refine zn_icmp_ge C 36 (by omega) (by omega) dX6_syndromeBy_9 (by decide) (fun c_9 => ?_) (fun c_9 => ?_)
    · skip
      refine zg_iload_n C 2 dX6_syndromeBy_36 rfl ?_
      exact zg_iret C E dX6_syndromeBy_37 (by rw [show i = rc by omega])
    · skip
      refine zg_iload_n C 2 dX6_syndromeBy_12 rfl ?_
      refine zg_aload_n C 0 dX6_syndromeBy_13 rfl ?_
      refine zg_get C 0 (ci := 6) (f := 4) rfl rfl uX6_syndromeBy_6 (by decide) fX6_syndromeBy_6_4 dX6_syndromeBy_14 rfl ?_
      refine zg_iload_n C 3 dX6_syndromeBy_17 rfl ?_
      refine zg_iald C 2 rfl (by omega) (by decide) dX6_syndromeBy_18 (nI (R i)) (hO i c_9) ?_
      refine zg_iload_n C 1 dX6_syndromeBy_19 rfl ?_
      refine zg_iand C dX6_syndromeBy_20 (nI ((R i) &&& w)) (zi_and _ _) ?_
      refine zg_calls (As := [.int (nI ((R i) &&& w))]) (st := [.int (nI (zsk R w i))]) C [] 1 (c_X6_ones l D cI ((R i) &&& w) (Nat.lt_of_le_of_lt Nat.and_le_right hw)) gX6_syndromeBy_X6_ones (by decide +kernel) rfl ⟨rfl, rfl⟩ ⟨Nat.le_of_ble_eq_true rfl, Nat.le_of_ble_eq_true rfl⟩ rfl rfl rfl (Nat.le_of_ble_eq_true rfl) ⟨Nat.le_of_ble_eq_true rfl, Nat.le_of_ble_eq_true rfl⟩ dX6_syndromeBy_21 ?_
      refine zg_iconst (v := nI 2) C dX6_syndromeBy_24 (by decide) ?_
      have q9 := zpc_le (R i &&& w)
      refine zg_irem C dX6_syndromeBy_25 (by decide) (nI (zpc (R i &&& w) % 2)) (zi_rem2 (by omega)) ?_
      refine zg_iload_n C 3 dX6_syndromeBy_26 rfl ?_
      refine zg_ishl C dX6_syndromeBy_27 (nI (zpc (R i &&& w) % 2 * 2 ^ i)) (zi_bsh (Nat.mod_lt _ (by decide)) (by omega)) ?_
      refine zg_ior C dX6_syndromeBy_28 (nI (zsk R w (i + 1))) ((zi_or _ _).trans (congrArg nI (zor_add (zsk_lt R w i)))) ?_
      refine zg_istore_n C [1, 2, 0, 3] (lv' := [(0, .ref m0), (1, .int (nI w)), (2, .int (nI (zsk R w (i + 1)))), (3, .int (nI i))]) dX6_syndromeBy_29 (by decide) rfl ?_
      refine zg_iinc C 3 [1, 2, 3, 0] (lv' := [(0, .ref m0), (1, .int (nI w)), (2, .int (nI (zsk R w (i + 1)))), (3, .int (nI (i + 1)))]) (nI (i + 1)) dX6_syndromeBy_30 rfl (zi_inc _) (by decide) rfl ?_
      refine zg_goto C 4 dX6_syndromeBy_33 (by decide) ?_
      exact zg_cv (lv' := [(0, .ref m0), (1, .int (nI w)), (2, .int (nI (zsk R w (i + 1)))), (3, .int (nI (i + 1)))]) (rfl) rfl (rfl) (ih_4 (by omega) )
  exact zg_cv (lv' := [(0, .ref m0), (1, .int (nI w)), (2, .int (nI (zsk R w 0))), (3, .int (nI 0))]) (rfl) rfl (rfl) (L_4 0 (Nat.zero_le _) )
set_option maxHeartbeats 1000000 in
set_option maxRecDepth 100000 in
theorem c_X6_distanceNow (l : Launch) (D : va_G) (cI : ClassId) (m0 mp mo mv mn my ml : Nat) (pg Of V Nf Yf Lf : Nat → Int32) (pn rc ln rk su rd : Nat) (sd bs bp sr y1 y2 y3 dz : Int32) (hh : Int64) (R : Nat → Nat) (hrc : rc ≤ 5) (hln : ln ≤ 10) (hO : ∀ i, i < rc → Of i = nI (R i)) (hRb : ∀ i, i < rc → R i < 1024) : zMr l D cI yX6_distanceNow wsX6_distanceNow { frames := 2, cells := 0, slots := 0, locals := 45 } [.ref m0] [(m0, .inr (6, [.int (nI pn), .ref mp, .int (nI rc), .int (nI ln), .ref mo, .int sd, .ref mv, .int bs, .int bp, .int sr, .int y1, .int y2, .int y3, .ref mn, .ref my, .ref ml, .int (nI rk), .int dz, .int (nI su), .int (nI rd), .long hh])), (mp, .inl (cI, 56, .inl pg)), (mo, .inl (cI, 5, .inl Of)), (mv, .inl (cI, 4, .inl V)), (mn, .inl (cI, 5, .inl Nf)), (my, .inl (cI, 1024, .inl Yf)), (ml, .inl (cI, 32, .inl Lf))] (zdn ln (zdm R rc ln (2 ^ ln))) := by
  refine zr_ent (maxL := 3) (by decide) rfl (Nat.le_of_ble_eq_true rfl) (fun X C E => ?_)
  have C : zC X l D cI { frames := 2, cells := 0, slots := 0, locals := 45 } 3 false cX6_distanceNow RX6 wsX6_distanceNow := C
  refine zg_cv (lv' := [(0, .ref m0)]) rfl rfl rfl ?_
  have q0 := zpw hln
  have q1 := zpw0 ln
  have q5 := zpw5 hrc
  refine zg_sipush (v := (-1001)) C dX6_distanceNow_0 (by decide) ?_
  refine zg_istore_n C [1, 0] (lv' := [(0, .ref m0), (1, .int (-1001))]) dX6_distanceNow_3 (by decide) rfl ?_
  refine zg_iconst (v := nI 1) C dX6_distanceNow_4 (by decide) ?_
  refine zg_istore_n C [1, 2, 0] (lv' := [(0, .ref m0), (1, .int (-1001)), (2, .int (nI 1))]) dX6_distanceNow_5 (by decide) rfl ?_
  have L_6 : ∀ i, i ≤ 2 ^ ln - 1 → zG X 0 0 [(0, .ref m0), (1, .int (zdn ln (zdm R rc ln (i + 1)))), (2, .int (nI (i + 1)))] [] [(m0, .inr (6, [.int (nI pn), .ref mp, .int (nI rc), .int (nI ln), .ref mo, .int sd, .ref mv, .int bs, .int bp, .int sr, .int y1, .int y2, .int y3, .ref mn, .ref my, .ref ml, .int (nI rk), .int dz, .int (nI su), .int (nI rd), .long hh])), (mp, .inl (cI, 56, .inl pg)), (mo, .inl (cI, 5, .inl Of)), (mv, .inl (cI, 4, .inl V)), (mn, .inl (cI, 5, .inl Nf)), (my, .inl (cI, 1024, .inl Yf)), (ml, .inl (cI, 32, .inl Lf))] 6 := by
    refine zg_dn (fun i hi ih_6  => ?_)
    refine zg_iload_n C 2 dX6_distanceNow_6 rfl ?_
    refine zg_aload_n C 0 dX6_distanceNow_7 rfl ?_
    refine zg_callr (As := []) (st := [.int (nI (i + 1))]) C [0, 1, 2, 3, 4, 5, 6] 0 0 (c_X6_words l D cI m0 mp mo mv mn my ml pg Of V Nf Yf Lf pn rc ln rk su rd sd bs bp sr y1 y2 y3 dz hh hln) gX6_distanceNow_X6_words (by decide +kernel) rfl ⟨rfl, rfl⟩ ⟨Nat.le_of_ble_eq_true rfl, Nat.le_of_ble_eq_true rfl⟩ rfl (ci := 6) rfl rfl rfl rfl (Nat.le_of_ble_eq_true rfl) ⟨Nat.le_of_ble_eq_true rfl, Nat.le_of_ble_eq_true rfl⟩ dX6_distanceNow_8 ?_
    refine zn_icmp_ge C 52 (by omega) (by omega) dX6_distanceNow_11 (by decide) (fun c_11 => ?_) (fun c_11 => ?_)
    · skip
      refine zg_iload_n C 1 dX6_distanceNow_52 rfl ?_
      exact zg_iret C E dX6_distanceNow_53 (by rw [show i + 1 = 2 ^ ln by omega])
    · skip
      have q4 := zsk_lt R (i + 1) rc
      have q3 : zpc (i + 1) ≤ ln := zpk_hi (show i + 1 < 2 ^ ln by omega) 10
      have q2 := zdm_le R rc ln (i + 1)
      refine zg_aload_n C 0 dX6_distanceNow_14 rfl ?_
      refine zg_iload_n C 2 dX6_distanceNow_15 rfl ?_
      refine zg_callr (As := [.int (nI (i + 1))]) (st := []) C [0, 1, 2, 3, 4, 5, 6] 0 1 (c_X6_syndromeBy l D cI m0 mp mo mv mn my ml pg Of V Nf Yf Lf pn rc ln rk su rd sd bs bp sr y1 y2 y3 dz hh R (i + 1) hrc hO hRb (by omega)) gX6_distanceNow_X6_syndromeBy (by decide +kernel) rfl ⟨rfl, rfl⟩ ⟨Nat.le_of_ble_eq_true rfl, Nat.le_of_ble_eq_true rfl⟩ rfl (ci := 6) rfl rfl rfl rfl (Nat.le_of_ble_eq_true rfl) ⟨Nat.le_of_ble_eq_true rfl, Nat.le_of_ble_eq_true rfl⟩ dX6_distanceNow_16 ?_
      refine zn_if_ne C 44 (by omega) dX6_distanceNow_19 (by decide) (fun c_19 => ?_) (fun c_19 => ?_)
      · skip
        refine zg_iload_n C 1 dX6_distanceNow_44 rfl ?_
        refine zg_istore_n C [1, 0, 2] (lv' := [(0, .ref m0), (1, .int (zdn ln (zdm R rc ln (i + 1)))), (2, .int (nI (i + 1)))]) dX6_distanceNow_45 (by decide) rfl ?_
        refine zg_iinc C 2 [1, 2, 0] (lv' := [(0, .ref m0), (1, .int (zdn ln (zdm R rc ln (i + 1)))), (2, .int (nI (i + 1 + 1)))]) (nI (i + 1 + 1)) dX6_distanceNow_46 rfl (zi_inc _) (by decide) rfl ?_
        refine zg_goto C 6 dX6_distanceNow_49 (by decide) ?_
        exact zg_cv (lv' := [(0, .ref m0), (1, .int (zdn ln (zdm R rc ln ((i + 1) + 1)))), (2, .int (nI ((i + 1) + 1)))]) (by rw [zdm_miss (w := i + 1) (fun q => by omega)]) rfl (rfl) (ih_6 (by omega) )
      · skip
        rcases Nat.lt_or_ge ln (zdm R rc ln (i + 1)) with hz | hz
        · skip
          refine zg_cv (lv' := [(0, .ref m0), (1, .int (-1001)), (2, .int (nI (i + 1)))]) (congrArg (fun q9 => ([(0, .ref m0), (1, .int q9), (2, .int (nI (i + 1)))] : List (Nat × Value))) (zdn_1 hz)) rfl rfl ?_
          refine zg_iload_n C 1 dX6_distanceNow_22 rfl ?_
          refine zg_sipush (v := (-1001)) C dX6_distanceNow_23 (by decide) ?_
          refine zg_icmp_eq C 37 dX6_distanceNow_26 (by decide) (fun c_26 => ?_) (fun c_26 => by exact absurd rfl c_26)
          refine zg_iload_n C 2 dX6_distanceNow_37 rfl ?_
          refine zg_calls (As := [.int (nI (i + 1))]) (st := []) C [] 1 (c_X6_ones l D cI (i + 1) (by omega)) gX6_distanceNow_X6_ones (by decide +kernel) rfl ⟨rfl, rfl⟩ ⟨Nat.le_of_ble_eq_true rfl, Nat.le_of_ble_eq_true rfl⟩ rfl rfl rfl (Nat.le_of_ble_eq_true rfl) ⟨Nat.le_of_ble_eq_true rfl, Nat.le_of_ble_eq_true rfl⟩ dX6_distanceNow_38 ?_
          refine zg_goto C 45 dX6_distanceNow_41 (by decide) ?_
          refine zg_istore_n C [1, 0, 2] (lv' := [(0, .ref m0), (1, .int (nI (zpc (i + 1)))), (2, .int (nI (i + 1)))]) dX6_distanceNow_45 (by decide) rfl ?_
          refine zg_iinc C 2 [1, 2, 0] (lv' := [(0, .ref m0), (1, .int (nI (zpc (i + 1)))), (2, .int (nI (i + 1 + 1)))]) (nI (i + 1 + 1)) dX6_distanceNow_46 rfl (zi_inc _) (by decide) rfl ?_
          refine zg_goto C 6 dX6_distanceNow_49 (by decide) ?_
          exact zg_cv (lv' := [(0, .ref m0), (1, .int (zdn ln (zdm R rc ln ((i + 1) + 1)))), (2, .int (nI ((i + 1) + 1)))]) (by rw [zdm_hit (w := i + 1) (by omega) c_19 (by omega), zdn_2 (by omega)]) rfl (rfl) (ih_6 (by omega) )
        · skip
          refine zg_cv (lv' := [(0, .ref m0), (1, .int (nI (zdm R rc ln (i + 1)))), (2, .int (nI (i + 1)))]) (congrArg (fun q9 => ([(0, .ref m0), (1, .int q9), (2, .int (nI (i + 1)))] : List (Nat × Value))) (zdn_2 hz)) rfl rfl ?_
          refine zg_iload_n C 1 dX6_distanceNow_22 rfl ?_
          refine zg_sipush (v := (-1001)) C dX6_distanceNow_23 (by decide) ?_
          refine zg_icmp_eq C 37 dX6_distanceNow_26 (by decide) (fun c_26 => by exact absurd c_26 (zo_ne (by omega))) (fun c_26 => ?_)
          refine zg_iload_n C 2 dX6_distanceNow_29 rfl ?_
          refine zg_calls (As := [.int (nI (i + 1))]) (st := []) C [] 1 (c_X6_ones l D cI (i + 1) (by omega)) gX6_distanceNow_X6_ones (by decide +kernel) rfl ⟨rfl, rfl⟩ ⟨Nat.le_of_ble_eq_true rfl, Nat.le_of_ble_eq_true rfl⟩ rfl rfl rfl (Nat.le_of_ble_eq_true rfl) ⟨Nat.le_of_ble_eq_true rfl, Nat.le_of_ble_eq_true rfl⟩ dX6_distanceNow_30 ?_
          refine zg_iload_n C 1 dX6_distanceNow_33 rfl ?_
          refine zn_icmp_ge C 44 (by omega) (by omega) dX6_distanceNow_34 (by decide) (fun c_34 => ?_) (fun c_34 => ?_)
          · skip
            refine zg_iload_n C 1 dX6_distanceNow_44 rfl ?_
            refine zg_istore_n C [1, 0, 2] (lv' := [(0, .ref m0), (1, .int (nI (zdm R rc ln (i + 1)))), (2, .int (nI (i + 1)))]) dX6_distanceNow_45 (by decide) rfl ?_
            refine zg_iinc C 2 [1, 2, 0] (lv' := [(0, .ref m0), (1, .int (nI (zdm R rc ln (i + 1)))), (2, .int (nI (i + 1 + 1)))]) (nI (i + 1 + 1)) dX6_distanceNow_46 rfl (zi_inc _) (by decide) rfl ?_
            refine zg_goto C 6 dX6_distanceNow_49 (by decide) ?_
            exact zg_cv (lv' := [(0, .ref m0), (1, .int (zdn ln (zdm R rc ln ((i + 1) + 1)))), (2, .int (nI ((i + 1) + 1)))]) (by rw [zdm_miss (w := i + 1) (fun q => by omega), zdn_2 (by omega)]) rfl (rfl) (ih_6 (by omega) )
          · skip
            refine zg_iload_n C 2 dX6_distanceNow_37 rfl ?_
            refine zg_calls (As := [.int (nI (i + 1))]) (st := []) C [] 1 (c_X6_ones l D cI (i + 1) (by omega)) gX6_distanceNow_X6_ones (by decide +kernel) rfl ⟨rfl, rfl⟩ ⟨Nat.le_of_ble_eq_true rfl, Nat.le_of_ble_eq_true rfl⟩ rfl rfl rfl (Nat.le_of_ble_eq_true rfl) ⟨Nat.le_of_ble_eq_true rfl, Nat.le_of_ble_eq_true rfl⟩ dX6_distanceNow_38 ?_
            refine zg_goto C 45 dX6_distanceNow_41 (by decide) ?_
            refine zg_istore_n C [1, 0, 2] (lv' := [(0, .ref m0), (1, .int (nI (zpc (i + 1)))), (2, .int (nI (i + 1)))]) dX6_distanceNow_45 (by decide) rfl ?_
            refine zg_iinc C 2 [1, 2, 0] (lv' := [(0, .ref m0), (1, .int (nI (zpc (i + 1)))), (2, .int (nI (i + 1 + 1)))]) (nI (i + 1 + 1)) dX6_distanceNow_46 rfl (zi_inc _) (by decide) rfl ?_
            refine zg_goto C 6 dX6_distanceNow_49 (by decide) ?_
            exact zg_cv (lv' := [(0, .ref m0), (1, .int (zdn ln (zdm R rc ln ((i + 1) + 1)))), (2, .int (nI ((i + 1) + 1)))]) (by rw [zdm_hit (w := i + 1) (by omega) c_19 (by omega), zdn_2 (by omega)]) rfl (rfl) (ih_6 (by omega) )
  exact zg_cv (lv' := [(0, .ref m0), (1, .int (zdn ln (zdm R rc ln (0 + 1)))), (2, .int (nI (0 + 1)))]) (by rw [zdm_1, zdn_1 (by omega)]) rfl (rfl) (L_6 0 (Nat.zero_le _) )
theorem uX6_isSole_6 : ∀ w ∈ u_ws RX6 TX6 21, w ∈ wsX6_isSole := fun w h => List.mem_cons_of_mem _ (List.mem_append_right _ h)
theorem fX6_isSole_6_14 : Cond.fieldLink RX6 26 (TX6 14).1 (TX6 14).2.1 (TX6 14).2.2.1 ∈ wsX6_isSole := by decide +kernel
set_option maxHeartbeats 1000000 in
set_option maxRecDepth 100000 in
theorem c_X6_isSole (l : Launch) (D : va_G) (cI : ClassId) (m0 mp mo mv mn my ml : Nat) (pg Of V Nf Yf Lf : Nat → Int32) (pn rc ln rk su rd : Nat) (sd bs bp sr y1 y2 y3 dz : Int32) (hh : Int64) (R : Nat → Nat) (w : Nat) (hrc : rc ≤ 5) (hln : ln ≤ 10) (hY : ∀ w, w < 2 ^ ln → Yf w = nI (zsk R w rc)) (hw : w < 2 ^ ln) : zMr l D cI yX6_isSole wsX6_isSole { frames := 1, cells := 0, slots := 0, locals := 22 } [.ref m0, .int (nI w)] [(m0, .inr (6, [.int (nI pn), .ref mp, .int (nI rc), .int (nI ln), .ref mo, .int sd, .ref mv, .int bs, .int bp, .int sr, .int y1, .int y2, .int y3, .ref mn, .ref my, .ref ml, .int (nI rk), .int dz, .int (nI su), .int (nI rd), .long hh])), (mp, .inl (cI, 56, .inl pg)), (mo, .inl (cI, 5, .inl Of)), (mv, .inl (cI, 4, .inl V)), (mn, .inl (cI, 5, .inl Nf)), (my, .inl (cI, 1024, .inl Yf)), (ml, .inl (cI, 32, .inl Lf))] (zb (decide (zsl R rc w (2 ^ ln) = 0))) := by
  refine zr_ent (maxL := 4) (by decide) rfl (Nat.le_of_ble_eq_true rfl) (fun X C E => ?_)
  have C : zC X l D cI { frames := 1, cells := 0, slots := 0, locals := 22 } 4 false cX6_isSole RX6 wsX6_isSole := C
  refine zg_cv (lv' := [(0, .ref m0), (1, .int (nI w))]) rfl rfl rfl ?_
  have q0 := zpw hln
  have q1 := zpw0 ln
  have q5 := zpw5 hrc
  have q6 := zsk_lt R w rc
  refine zg_iconst (v := nI 0) C dX6_isSole_0 (by decide) ?_
  refine zg_istore_n C [1, 2, 0] (lv' := [(0, .ref m0), (1, .int (nI w)), (2, .int (nI 0))]) dX6_isSole_1 (by decide) rfl ?_
  refine zg_iconst (v := nI 0) C dX6_isSole_2 (by decide) ?_
  refine zg_istore_n C [1, 2, 3, 0] (lv' := [(0, .ref m0), (1, .int (nI w)), (2, .int (nI 0)), (3, .int (nI 0))]) dX6_isSole_3 (by decide) rfl ?_
  have L_4 : ∀ i, i ≤ 2 ^ ln → zG X 0 0 [(0, .ref m0), (1, .int (nI w)), (2, .int (nI (zsl R rc w i))), (3, .int (nI i))] [] [(m0, .inr (6, [.int (nI pn), .ref mp, .int (nI rc), .int (nI ln), .ref mo, .int sd, .ref mv, .int bs, .int bp, .int sr, .int y1, .int y2, .int y3, .ref mn, .ref my, .ref ml, .int (nI rk), .int dz, .int (nI su), .int (nI rd), .long hh])), (mp, .inl (cI, 56, .inl pg)), (mo, .inl (cI, 5, .inl Of)), (mv, .inl (cI, 4, .inl V)), (mn, .inl (cI, 5, .inl Nf)), (my, .inl (cI, 1024, .inl Yf)), (ml, .inl (cI, 32, .inl Lf))] 4 := by
    refine zg_dn (fun i hi ih_4  => ?_)
    refine zg_iload_n C 3 dX6_isSole_4 rfl ?_
    refine zg_aload_n C 0 dX6_isSole_5 rfl ?_
    refine zg_callr (As := []) (st := [.int (nI i)]) C [0, 1, 2, 3, 4, 5, 6] 0 0 (c_X6_words l D cI m0 mp mo mv mn my ml pg Of V Nf Yf Lf pn rc ln rk su rd sd bs bp sr y1 y2 y3 dz hh hln) gX6_isSole_X6_words (by decide +kernel) rfl ⟨rfl, rfl⟩ ⟨Nat.le_of_ble_eq_true rfl, Nat.le_of_ble_eq_true rfl⟩ rfl (ci := 6) rfl rfl rfl rfl (Nat.le_of_ble_eq_true rfl) ⟨Nat.le_of_ble_eq_true rfl, Nat.le_of_ble_eq_true rfl⟩ dX6_isSole_6 ?_
    refine zn_icmp_ge C 57 (by omega) (by omega) dX6_isSole_9 (by decide) (fun c_9 => ?_) (fun c_9 => ?_)
    · skip
      refine zg_iload_n C 2 dX6_isSole_57 rfl ?_
      have q7 := zsl_le R rc w i
      refine zn_if_ne C 65 (by omega) dX6_isSole_58 (by decide) (fun c_58 => ?_) (fun c_58 => ?_)
      · skip
        refine zg_iconst (v := nI 0) C dX6_isSole_65 (by decide) ?_
        exact zg_zret C E dX6_isSole_66 (zbf (by rw [← show i = 2 ^ ln by omega]; omega))
      · skip
        refine zg_iconst (v := nI 1) C dX6_isSole_61 (by decide) ?_
        refine zg_goto C 66 dX6_isSole_62 (by decide) ?_
        exact zg_zret C E dX6_isSole_66 (zbt (by rw [← show i = 2 ^ ln by omega]; exact c_58))
    · skip
      refine zg_iload_n C 2 dX6_isSole_12 rfl ?_
      refine zg_aload_n C 0 dX6_isSole_13 rfl ?_
      refine zg_get C 0 (ci := 6) (f := 14) rfl rfl uX6_isSole_6 (by decide) fX6_isSole_6_14 dX6_isSole_14 rfl ?_
      refine zg_iload_n C 3 dX6_isSole_17 rfl ?_
      refine zg_iald C 5 rfl (by omega) (by decide) dX6_isSole_18 (nI (zsk R i rc)) (hY i (by omega)) ?_
      refine zg_aload_n C 0 dX6_isSole_19 rfl ?_
      refine zg_get C 0 (ci := 6) (f := 14) rfl rfl uX6_isSole_6 (by decide) fX6_isSole_6_14 dX6_isSole_20 rfl ?_
      refine zg_iload_n C 1 dX6_isSole_23 rfl ?_
      have q7 := zsk_lt R i rc
      refine zg_iald C 5 rfl (by omega) (by decide) dX6_isSole_24 (nI (zsk R w rc)) (hY w hw) ?_
      refine zn_icmp_ne C 48 (by omega) (by omega) dX6_isSole_25 (by decide) (fun c_25 => ?_) (fun c_25 => ?_)
      · skip
        refine zg_iconst (v := nI 0) C dX6_isSole_48 (by decide) ?_
        refine zg_iadd C dX6_isSole_49 (nI ((zsl R rc w i) + 0)) (nI_add _ _) ?_
        refine zg_istore_n C [1, 2, 0, 3] (lv' := [(0, .ref m0), (1, .int (nI w)), (2, .int (nI ((zsl R rc w i) + 0))), (3, .int (nI i))]) dX6_isSole_50 (by decide) rfl ?_
        refine zg_iinc C 3 [1, 2, 3, 0] (lv' := [(0, .ref m0), (1, .int (nI w)), (2, .int (nI ((zsl R rc w i) + 0))), (3, .int (nI (i + 1)))]) (nI (i + 1)) dX6_isSole_51 rfl (zi_inc _) (by decide) rfl ?_
        refine zg_goto C 4 dX6_isSole_54 (by decide) ?_
        exact zg_cv (lv' := [(0, .ref m0), (1, .int (nI w)), (2, .int (nI (zsl R rc w (i + 1)))), (3, .int (nI (i + 1)))]) (by rw [zsl_f (fun q => by omega)]) rfl (rfl) (ih_4 (by omega) )
      · skip
        refine zg_iload_n C 3 dX6_isSole_28 rfl ?_
        refine zg_iload_n C 1 dX6_isSole_29 rfl ?_
        refine zn_icmp_eq C 48 (by omega) (by omega) dX6_isSole_30 (by decide) (fun c_30 => ?_) (fun c_30 => ?_)
        · skip
          refine zg_iconst (v := nI 0) C dX6_isSole_48 (by decide) ?_
          refine zg_iadd C dX6_isSole_49 (nI ((zsl R rc w i) + 0)) (nI_add _ _) ?_
          refine zg_istore_n C [1, 2, 0, 3] (lv' := [(0, .ref m0), (1, .int (nI w)), (2, .int (nI ((zsl R rc w i) + 0))), (3, .int (nI i))]) dX6_isSole_50 (by decide) rfl ?_
          refine zg_iinc C 3 [1, 2, 3, 0] (lv' := [(0, .ref m0), (1, .int (nI w)), (2, .int (nI ((zsl R rc w i) + 0))), (3, .int (nI (i + 1)))]) (nI (i + 1)) dX6_isSole_51 rfl (zi_inc _) (by decide) rfl ?_
          refine zg_goto C 4 dX6_isSole_54 (by decide) ?_
          exact zg_cv (lv' := [(0, .ref m0), (1, .int (nI w)), (2, .int (nI (zsl R rc w (i + 1)))), (3, .int (nI (i + 1)))]) (by rw [zsl_f (fun q => q.2.1 c_30)]) rfl (rfl) (ih_4 (by omega) )
        · skip
          refine zg_iload_n C 3 dX6_isSole_33 rfl ?_
          refine zg_calls (As := [.int (nI i)]) (st := [.int (nI (zsl R rc w i))]) C [] 1 (c_X6_ones l D cI i (by omega)) gX6_isSole_X6_ones (by decide +kernel) rfl ⟨rfl, rfl⟩ ⟨Nat.le_of_ble_eq_true rfl, Nat.le_of_ble_eq_true rfl⟩ rfl rfl rfl (Nat.le_of_ble_eq_true rfl) ⟨Nat.le_of_ble_eq_true rfl, Nat.le_of_ble_eq_true rfl⟩ dX6_isSole_34 ?_
          refine zg_iload_n C 1 dX6_isSole_37 rfl ?_
          refine zg_calls (As := [.int (nI w)]) (st := [.int (nI (zpc i)), .int (nI (zsl R rc w i))]) C [] 1 (c_X6_ones l D cI w (by omega)) gX6_isSole_X6_ones (by decide +kernel) rfl ⟨rfl, rfl⟩ ⟨Nat.le_of_ble_eq_true rfl, Nat.le_of_ble_eq_true rfl⟩ rfl rfl rfl (Nat.le_of_ble_eq_true rfl) ⟨Nat.le_of_ble_eq_true rfl, Nat.le_of_ble_eq_true rfl⟩ dX6_isSole_38 ?_
          have q8 := zpc_le i
          have q9 := zpc_le w
          refine zn_icmp_gt C 48 (by omega) (by omega) dX6_isSole_41 (by decide) (fun c_41 => ?_) (fun c_41 => ?_)
          · skip
            refine zg_iconst (v := nI 0) C dX6_isSole_48 (by decide) ?_
            refine zg_iadd C dX6_isSole_49 (nI ((zsl R rc w i) + 0)) (nI_add _ _) ?_
            refine zg_istore_n C [1, 2, 0, 3] (lv' := [(0, .ref m0), (1, .int (nI w)), (2, .int (nI ((zsl R rc w i) + 0))), (3, .int (nI i))]) dX6_isSole_50 (by decide) rfl ?_
            refine zg_iinc C 3 [1, 2, 3, 0] (lv' := [(0, .ref m0), (1, .int (nI w)), (2, .int (nI ((zsl R rc w i) + 0))), (3, .int (nI (i + 1)))]) (nI (i + 1)) dX6_isSole_51 rfl (zi_inc _) (by decide) rfl ?_
            refine zg_goto C 4 dX6_isSole_54 (by decide) ?_
            exact zg_cv (lv' := [(0, .ref m0), (1, .int (nI w)), (2, .int (nI (zsl R rc w (i + 1)))), (3, .int (nI (i + 1)))]) (by rw [zsl_f (fun q => by omega)]) rfl (rfl) (ih_4 (by omega) )
          · skip
            refine zg_iconst (v := nI 1) C dX6_isSole_44 (by decide) ?_
            refine zg_goto C 49 dX6_isSole_45 (by decide) ?_
            refine zg_iadd C dX6_isSole_49 (nI ((zsl R rc w i) + 1)) (nI_add _ _) ?_
            refine zg_istore_n C [1, 2, 0, 3] (lv' := [(0, .ref m0), (1, .int (nI w)), (2, .int (nI ((zsl R rc w i) + 1))), (3, .int (nI i))]) dX6_isSole_50 (by decide) rfl ?_
            refine zg_iinc C 3 [1, 2, 3, 0] (lv' := [(0, .ref m0), (1, .int (nI w)), (2, .int (nI ((zsl R rc w i) + 1))), (3, .int (nI (i + 1)))]) (nI (i + 1)) dX6_isSole_51 rfl (zi_inc _) (by decide) rfl ?_
            refine zg_goto C 4 dX6_isSole_54 (by decide) ?_
            exact zg_cv (lv' := [(0, .ref m0), (1, .int (nI w)), (2, .int (nI (zsl R rc w (i + 1)))), (3, .int (nI (i + 1)))]) (by rw [zsl_t ⟨c_25, c_30, c_41⟩]) rfl (rfl) (ih_4 (by omega) )
  exact zg_cv (lv' := [(0, .ref m0), (1, .int (nI w)), (2, .int (nI (zsl R rc w 0))), (3, .int (nI 0))]) (rfl) rfl (rfl) (L_4 0 (Nat.zero_le _) )
