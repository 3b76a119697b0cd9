/-! the reference: what is sent, runs, what is told of all -/
theorem uX6_flipsOf_6 : ∀ w ∈ u_ws RX6 TX6 21, w ∈ wsX6_flipsOf := fun w h => List.mem_cons_of_mem _ (List.mem_append_right _ h)
theorem fX6_flipsOf_6_15 : Cond.fieldLink RX6 29 (TX6 15).1 (TX6 15).2.1 (TX6 15).2.2.1 ∈ wsX6_flipsOf := by decide +kernel
theorem fX6_flipsOf_6_14 : Cond.fieldLink RX6 26 (TX6 14).1 (TX6 14).2.1 (TX6 14).2.2.1 ∈ wsX6_flipsOf := by decide +kernel
set_option maxHeartbeats 1000000 in
set_option maxRecDepth 100000 in
theorem c_X6_flipsOf (l : Launch) (D : va_G) (cI : ClassId) (m0 mp mo mv mn my ml : Nat) (pg Of V Nf Yf Lf : Nat → Int32) (pn rc ln rk su rd : Nat) (sd bs bp sr y1 y2 y3 dz : Int32) (hh : Int64) (R : Nat → Nat) (x y f : Nat) (hrc : rc ≤ 5) (hln : ln ≤ 10) (hY : ∀ w, w < 2 ^ ln → Yf w = nI (zsk R w rc)) (hL : ∀ y, y < 32 → Lf y = zo (zld R rc (2 ^ ln) y)) (hf : zld R rc (2 ^ ln) (zsk R (x ^^^ y) rc) = some f) (hx : x < 2 ^ ln) (hy : y < 2 ^ ln) : zMr l D cI yX6_flipsOf wsX6_flipsOf { frames := 0, cells := 0, slots := 0, locals := 0 } [.ref m0, .int (nI x), .int (nI y)] [(m0, .inr (6, [.int (nI pn), .ref mp, .int (nI rc), .int (nI ln), .ref mo, .int sd, .ref mv, .int bs, .int bp, .int sr, .int y1, .int y2, .int y3, .ref mn, .ref my, .ref ml, .int (nI rk), .int dz, .int (nI su), .int (nI rd), .long hh])), (mp, .inl (cI, 56, .inl pg)), (mo, .inl (cI, 5, .inl Of)), (mv, .inl (cI, 4, .inl V)), (mn, .inl (cI, 5, .inl Nf)), (my, .inl (cI, 1024, .inl Yf)), (ml, .inl (cI, 32, .inl Lf))] (nI f) := by
  refine zr_ent (maxL := 3) (by decide) rfl (Nat.le_of_ble_eq_true rfl) (fun X C E => ?_)
  have C : zC X l D cI { frames := 0, cells := 0, slots := 0, locals := 0 } 3 false cX6_flipsOf RX6 wsX6_flipsOf := C
  refine zg_cv (lv' := [(0, .ref m0), (1, .int (nI x)), (2, .int (nI y))]) rfl rfl rfl ?_
  have q0 := zpw hln
  have q2 : x ^^^ y < 2 ^ ln := Nat.xor_lt_two_pow hx hy
  have q3 := zsk_lt R (x ^^^ y) rc
  have q5 := zpw5 hrc
  refine zg_aload_n C 0 dX6_flipsOf_0 rfl ?_
  refine zg_get C 0 (ci := 6) (f := 15) rfl rfl uX6_flipsOf_6 (by decide) fX6_flipsOf_6_15 dX6_flipsOf_1 rfl ?_
  refine zg_aload_n C 0 dX6_flipsOf_4 rfl ?_
  refine zg_get C 0 (ci := 6) (f := 14) rfl rfl uX6_flipsOf_6 (by decide) fX6_flipsOf_6_14 dX6_flipsOf_5 rfl ?_
  refine zg_iload_n C 1 dX6_flipsOf_8 rfl ?_
  refine zg_iload_n C 2 dX6_flipsOf_9 rfl ?_
  refine zg_ixor C dX6_flipsOf_10 (nI (x ^^^ y)) (zi_xor _ _) ?_
  refine zg_iald C 5 rfl (by omega) (by decide) dX6_flipsOf_11 (nI (zsk R (x ^^^ y) rc)) (hY _ q2) ?_
  refine zg_iald C 6 rfl (by omega) (by decide) dX6_flipsOf_12 (nI f) ((hL _ (by omega)).trans (by rw [hf]; rfl)) ?_
  exact zg_iret C E dX6_flipsOf_13 (rfl)
theorem uX6_verdictOf_6 : ∀ w ∈ u_ws RX6 TX6 21, w ∈ wsX6_verdictOf := fun w h => List.mem_cons_of_mem _ (List.mem_append_right _ h)
theorem fX6_verdictOf_6_18 : Cond.fieldLink RX6 90 (TX6 18).1 (TX6 18).2.1 (TX6 18).2.2.1 ∈ wsX6_verdictOf := by decide +kernel
set_option maxHeartbeats 1000000 in
set_option maxRecDepth 100000 in
theorem c_X6_verdictOf (l : Launch) (D : va_G) (cI : ClassId) (m0 mp mo mv mn my ml : Nat) (pg Of V Nf Yf Lf : Nat → Int32) (pn rc ln rk su rd : Nat) (sd bs bp sr y1 y2 y3 dz : Int32) (hh : Int64) (R : Nat → Nat) (x y f : Nat) (hrc : rc ≤ 5) (hln : ln ≤ 10) (hY : ∀ w, w < 2 ^ ln → Yf w = nI (zsk R w rc)) (hL : ∀ y, y < 32 → Lf y = zo (zld R rc (2 ^ ln) y)) (hf : zld R rc (2 ^ ln) (zsk R (x ^^^ y) rc) = some f) (hx : x < 2 ^ ln) (hy : y < 2 ^ ln) (hsu : su ≤ 10) : zMr l D cI yX6_verdictOf wsX6_verdictOf { frames := 1, cells := 0, slots := 0, locals := 22 } [.ref m0, .int (nI x), .int (nI y)] [(m0, .inr (6, [.int (nI pn), .ref mp, .int (nI rc), .int (nI ln), .ref mo, .int sd, .ref mv, .int bs, .int bp, .int sr, .int y1, .int y2, .int y3, .ref mn, .ref my, .ref ml, .int (nI rk), .int dz, .int (nI su), .int (nI rd), .long hh])), (mp, .inl (cI, 56, .inl pg)), (mo, .inl (cI, 5, .inl Of)), (mv, .inl (cI, 4, .inl V)), (mn, .inl (cI, 5, .inl Nf)), (my, .inl (cI, 1024, .inl Yf)), (ml, .inl (cI, 32, .inl Lf))] (nI (zvd x y f su)) := by
  refine zr_ent (maxL := 6) (by decide) rfl (Nat.le_of_ble_eq_true rfl) (fun X C E => ?_)
  have C : zC X l D cI { frames := 1, cells := 0, slots := 0, locals := 22 } 6 false cX6_verdictOf RX6 wsX6_verdictOf := C
  refine zg_cv (lv' := [(0, .ref m0), (1, .int (nI x)), (2, .int (nI y))]) rfl rfl rfl ?_
  have q0 := zpw hln
  have q1 := (zld_some hf).1
  have q2 : x ^^^ f < 2 ^ ln := Nat.xor_lt_two_pow hx q1
  refine zg_aload_n C 0 dX6_verdictOf_0 rfl ?_
  refine zg_iload_n C 1 dX6_verdictOf_1 rfl ?_
  refine zg_iload_n C 2 dX6_verdictOf_2 rfl ?_
  refine zg_callr (As := [.int (nI x), .int (nI y)]) (st := []) C [0, 1, 2, 3, 4, 5, 6] 0 2 (c_X6_flipsOf l D cI m0 mp mo mv mn my ml pg Of V Nf Yf Lf pn rc ln rk su rd sd bs bp sr y1 y2 y3 dz hh R x y f hrc hln hY hL hf hx hy) gX6_verdictOf_X6_flipsOf (by decide +kernel) rfl ⟨rfl, rfl⟩ ⟨Nat.le_of_ble_eq_true rfl, Nat.le_of_ble_eq_true rfl⟩ rfl (ci := 6) rfl rfl rfl rfl (Nat.le_of_ble_eq_true rfl) ⟨Nat.le_of_ble_eq_true rfl, Nat.le_of_ble_eq_true rfl⟩ dX6_verdictOf_3 ?_
  refine zg_istore_n C [1, 2, 3, 0] (lv' := [(0, .ref m0), (1, .int (nI x)), (2, .int (nI y)), (3, .int (nI f))]) dX6_verdictOf_6 (by decide) rfl ?_
  refine zg_iload_n C 1 dX6_verdictOf_7 rfl ?_
  refine zg_iload_n C 3 dX6_verdictOf_8 rfl ?_
  refine zg_ixor C dX6_verdictOf_9 (nI (x ^^^ f)) (zi_xor _ _) ?_
  refine zg_iload_n C 2 dX6_verdictOf_10 rfl ?_
  refine zn_icmp_ne C 18 (by omega) (by omega) dX6_verdictOf_11 (by decide) (fun c_11 => ?_) (fun c_11 => ?_)
  · skip
    refine zg_iconst (v := nI 0) C dX6_verdictOf_18 (by decide) ?_
    refine zg_istore C [1, 2, 3, 4, 0] (lv' := [(0, .ref m0), (1, .int (nI x)), (2, .int (nI y)), (3, .int (nI f)), (4, .int (nI 0))]) dX6_verdictOf_19 (by decide) rfl ?_
    refine zg_iload_n C 3 dX6_verdictOf_21 rfl ?_
    refine zg_calls (As := [.int (nI f)]) (st := []) C [] 1 (c_X6_ones l D cI f (by omega)) gX6_verdictOf_X6_ones (by decide +kernel) rfl ⟨rfl, rfl⟩ ⟨Nat.le_of_ble_eq_true rfl, Nat.le_of_ble_eq_true rfl⟩ rfl rfl rfl (Nat.le_of_ble_eq_true rfl) ⟨Nat.le_of_ble_eq_true rfl, Nat.le_of_ble_eq_true rfl⟩ dX6_verdictOf_22 ?_
    refine zg_aload_n C 0 dX6_verdictOf_25 rfl ?_
    refine zg_get C 0 (ci := 6) (f := 18) rfl rfl uX6_verdictOf_6 (by decide) fX6_verdictOf_6_18 dX6_verdictOf_26 rfl ?_
    have q3 := zpc_le f
    refine zn_icmp_gt C 36 (by omega) (by omega) dX6_verdictOf_29 (by decide) (fun c_29 => ?_) (fun c_29 => ?_)
    · skip
      refine zg_iconst (v := nI 0) C dX6_verdictOf_36 (by decide) ?_
      refine zg_istore C [1, 2, 3, 4, 5, 0] (lv' := [(0, .ref m0), (1, .int (nI x)), (2, .int (nI y)), (3, .int (nI f)), (4, .int (nI 0)), (5, .int (nI 0))]) dX6_verdictOf_37 (by decide) rfl ?_
      refine zg_iload C 4 dX6_verdictOf_39 rfl ?_
      refine zn_if_eq C 57 (by omega) dX6_verdictOf_41 (by decide) (fun c_41 => ?_) (fun c_41 => by omega)
      refine zg_iload C 5 dX6_verdictOf_57 rfl ?_
      refine zn_if_eq C 66 (by omega) dX6_verdictOf_59 (by decide) (fun c_59 => ?_) (fun c_59 => by omega)
      refine zg_iconst (v := nI 2) C dX6_verdictOf_66 (by decide) ?_
      exact zg_iret C E dX6_verdictOf_67 (by rw [zvd, if_neg c_11, if_neg (by omega)])
    · skip
      refine zg_iconst (v := nI 1) C dX6_verdictOf_32 (by decide) ?_
      refine zg_goto C 37 dX6_verdictOf_33 (by decide) ?_
      refine zg_istore C [1, 2, 3, 4, 5, 0] (lv' := [(0, .ref m0), (1, .int (nI x)), (2, .int (nI y)), (3, .int (nI f)), (4, .int (nI 0)), (5, .int (nI 1))]) dX6_verdictOf_37 (by decide) rfl ?_
      refine zg_iload C 4 dX6_verdictOf_39 rfl ?_
      refine zn_if_eq C 57 (by omega) dX6_verdictOf_41 (by decide) (fun c_41 => ?_) (fun c_41 => by omega)
      refine zg_iload C 5 dX6_verdictOf_57 rfl ?_
      refine zn_if_eq C 66 (by omega) dX6_verdictOf_59 (by decide) (fun c_59 => by omega) (fun c_59 => ?_)
      refine zg_iconst (v := nI 3) C dX6_verdictOf_62 (by decide) ?_
      refine zg_goto C 67 dX6_verdictOf_63 (by decide) ?_
      exact zg_iret C E dX6_verdictOf_67 (by rw [zvd, if_neg c_11, if_pos (by omega)])
  · skip
    refine zg_iconst (v := nI 1) C dX6_verdictOf_14 (by decide) ?_
    refine zg_goto C 19 dX6_verdictOf_15 (by decide) ?_
    refine zg_istore C [1, 2, 3, 4, 0] (lv' := [(0, .ref m0), (1, .int (nI x)), (2, .int (nI y)), (3, .int (nI f)), (4, .int (nI 1))]) dX6_verdictOf_19 (by decide) rfl ?_
    refine zg_iload_n C 3 dX6_verdictOf_21 rfl ?_
    refine zg_calls (As := [.int (nI f)]) (st := []) C [] 1 (c_X6_ones l D cI f (by omega)) gX6_verdictOf_X6_ones (by decide +kernel) rfl ⟨rfl, rfl⟩ ⟨Nat.le_of_ble_eq_true rfl, Nat.le_of_ble_eq_true rfl⟩ rfl rfl rfl (Nat.le_of_ble_eq_true rfl) ⟨Nat.le_of_ble_eq_true rfl, Nat.le_of_ble_eq_true rfl⟩ dX6_verdictOf_22 ?_
    refine zg_aload_n C 0 dX6_verdictOf_25 rfl ?_
    refine zg_get C 0 (ci := 6) (f := 18) rfl rfl uX6_verdictOf_6 (by decide) fX6_verdictOf_6_18 dX6_verdictOf_26 rfl ?_
    have q3 := zpc_le f
    refine zn_icmp_gt C 36 (by omega) (by omega) dX6_verdictOf_29 (by decide) (fun c_29 => ?_) (fun c_29 => ?_)
    · skip
      refine zg_iconst (v := nI 0) C dX6_verdictOf_36 (by decide) ?_
      refine zg_istore C [1, 2, 3, 4, 5, 0] (lv' := [(0, .ref m0), (1, .int (nI x)), (2, .int (nI y)), (3, .int (nI f)), (4, .int (nI 1)), (5, .int (nI 0))]) dX6_verdictOf_37 (by decide) rfl ?_
      refine zg_iload C 4 dX6_verdictOf_39 rfl ?_
      refine zn_if_eq C 57 (by omega) dX6_verdictOf_41 (by decide) (fun c_41 => by omega) (fun c_41 => ?_)
      refine zg_iload C 5 dX6_verdictOf_44 rfl ?_
      refine zn_if_eq C 53 (by omega) dX6_verdictOf_46 (by decide) (fun c_46 => ?_) (fun c_46 => by omega)
      refine zg_iconst (v := nI 1) C dX6_verdictOf_53 (by decide) ?_
      refine zg_goto C 67 dX6_verdictOf_54 (by decide) ?_
      exact zg_iret C E dX6_verdictOf_67 (by rw [zvd, if_pos c_11, if_neg (by omega)])
    · skip
      refine zg_iconst (v := nI 1) C dX6_verdictOf_32 (by decide) ?_
      refine zg_goto C 37 dX6_verdictOf_33 (by decide) ?_
      refine zg_istore C [1, 2, 3, 4, 5, 0] (lv' := [(0, .ref m0), (1, .int (nI x)), (2, .int (nI y)), (3, .int (nI f)), (4, .int (nI 1)), (5, .int (nI 1))]) dX6_verdictOf_37 (by decide) rfl ?_
      refine zg_iload C 4 dX6_verdictOf_39 rfl ?_
      refine zn_if_eq C 57 (by omega) dX6_verdictOf_41 (by decide) (fun c_41 => by omega) (fun c_41 => ?_)
      refine zg_iload C 5 dX6_verdictOf_44 rfl ?_
      refine zn_if_eq C 53 (by omega) dX6_verdictOf_46 (by decide) (fun c_46 => by omega) (fun c_46 => ?_)
      refine zg_iconst (v := nI 0) C dX6_verdictOf_49 (by decide) ?_
      refine zg_goto C 67 dX6_verdictOf_50 (by decide) ?_
      exact zg_iret C E dX6_verdictOf_67 (by rw [zvd, if_pos c_11, if_pos (by omega)])
theorem uX6_sendNow_6 : ∀ w ∈ u_ws RX6 TX6 21, w ∈ wsX6_sendNow := fun w h => List.mem_cons_of_mem _ (List.mem_append_right _ h)
theorem fX6_sendNow_6_6 : Cond.fieldLink RX6 20 (TX6 6).1 (TX6 6).2.1 (TX6 6).2.2.1 ∈ wsX6_sendNow := by decide +kernel
theorem fX6_sendNow_6_7 : Cond.fieldLink RX6 131 (TX6 7).1 (TX6 7).2.1 (TX6 7).2.2.1 ∈ wsX6_sendNow := by decide +kernel
theorem fX6_sendNow_6_3 : Cond.fieldLink RX6 59 (TX6 3).1 (TX6 3).2.1 (TX6 3).2.2.1 ∈ wsX6_sendNow := by decide +kernel
theorem fX6_sendNow_6_16 : Cond.fieldLink RX6 78 (TX6 16).1 (TX6 16).2.1 (TX6 16).2.2.1 ∈ wsX6_sendNow := by decide +kernel
theorem fX6_sendNow_6_8 : Cond.fieldLink RX6 134 (TX6 8).1 (TX6 8).2.1 (TX6 8).2.2.1 ∈ wsX6_sendNow := by decide +kernel
set_option maxHeartbeats 1000000 in
set_option maxRecDepth 100000 in
theorem c_X6_sendNow (l : Launch) (D : va_G) (cI : ClassId) (m0 mp mo mv mn my ml : Nat) (pg Of V Nf Yf Lf : Nat → Int32) (pn rc ln rk su rd : Nat) (sd bs bp sr y1 y2 y3 dz : Int32) (hh : Int64) (R : Nat → Nat) (x y : Nat) (hM : zMm R Of Yf Lf rc ln rk dz su rd) (hln : ln ≤ 10) (hrc : rc ≤ 5) (h0l : 0 < ln) (hx : x < 2 ^ ln) (hy : y < 2 ^ ln) : zMw l D cI yX6_sendNow wsX6_sendNow { frames := 2, cells := 0, slots := 0, locals := 47 } [.ref m0, .int (nI x), .int (nI y)] [(m0, .inr (6, [.int (nI pn), .ref mp, .int (nI rc), .int (nI ln), .ref mo, .int sd, .ref mv, .int bs, .int bp, .int sr, .int y1, .int y2, .int y3, .ref mn, .ref my, .ref ml, .int (nI rk), .int dz, .int (nI su), .int (nI rd), .long hh])), (mp, .inl (cI, 56, .inl pg)), (mo, .inl (cI, 5, .inl Of)), (mv, .inl (cI, 4, .inl V)), (mn, .inl (cI, 5, .inl Nf)), (my, .inl (cI, 1024, .inl Yf)), (ml, .inl (cI, 32, .inl Lf))] (fun v9 w9 => v9 = some (.int (nI (zvr R rc ln x y))) ∧ w9 = [(m0, .inr (6, [.int (nI pn), .ref mp, .int (nI rc), .int (nI ln), .ref mo, .int sd, .ref mv, .int (bs + nI (ln + zrk R rc ln)), .int (bp + nI (2 * ln)), .int sr, .int y1, .int y2, .int y3, .ref mn, .ref my, .ref ml, .int (nI rk), .int dz, .int (nI su), .int (nI rd), .long hh])), (mp, .inl (cI, 56, .inl pg)), (mo, .inl (cI, 5, .inl Of)), (mv, .inl (cI, 4, .inl (upd V (zvr R rc ln x y) (V (zvr R rc ln x y) + nI 1)))), (mn, .inl (cI, 5, .inl Nf)), (my, .inl (cI, 1024, .inl Yf)), (ml, .inl (cI, 32, .inl Lf))]) 0 0 := by
  refine zw_ent (maxL := 4) (by decide) rfl (Nat.le_of_ble_eq_true rfl) (fun X C E hin9 => ?_)
  have C : zC X l D cI { frames := 2, cells := 0, slots := 0, locals := 47 } 4 true cX6_sendNow RX6 wsX6_sendNow := C
  refine zg_cv (lv' := [(0, .ref m0), (1, .int (nI x)), (2, .int (nI y))]) rfl rfl rfl ?_
  obtain ⟨m1, m3, hO, hRb, hY, hL, e1, e2, e3, e4⟩ := hM h0l
  have q0 := zpw hln
  have q1 := zpw0 ln
  have q5 := zpw5 hrc
  have q9 := zdm_le R rc ln (2 ^ ln)
  have q10 := zsu_le (ln := ln) (d := zdm R rc ln (2 ^ ln)) hln q9
  have q11 := zvr_lt R rc ln x y
  have hf := zfl_some R rc hx hy
  have e5 : zvd x y (zfl R rc ln x y) su = zvr R rc ln x y := by rw [e3]; rfl
  refine zg_aload_n C 0 dX6_sendNow_0 rfl ?_
  refine zg_iload_n C 1 dX6_sendNow_1 rfl ?_
  refine zg_iload_n C 2 dX6_sendNow_2 rfl ?_
  refine zg_callr (As := [.int (nI x), .int (nI y)]) (st := []) C [0, 1, 2, 3, 4, 5, 6] 0 2 (c_X6_verdictOf l D cI m0 mp mo mv mn my ml pg Of V Nf Yf Lf pn rc ln rk su rd sd bs bp sr y1 y2 y3 dz hh R x y (zfl R rc ln x y) hrc hln hY hL (hf) hx hy (by omega)) gX6_sendNow_X6_verdictOf (by decide +kernel) rfl ⟨rfl, rfl⟩ ⟨Nat.le_of_ble_eq_true rfl, Nat.le_of_ble_eq_true rfl⟩ rfl (ci := 6) rfl rfl rfl rfl (Nat.le_of_ble_eq_true rfl) ⟨Nat.le_of_ble_eq_true rfl, Nat.le_of_ble_eq_true rfl⟩ dX6_sendNow_3 ?_
  refine zg_cv (st' := [.int (nI (zvr R rc ln x y))]) rfl (by rw [e5]) rfl ?_
  refine zg_istore_n C [1, 2, 3, 0] (lv' := [(0, .ref m0), (1, .int (nI x)), (2, .int (nI y)), (3, .int (nI (zvr R rc ln x y)))]) dX6_sendNow_6 (by decide) rfl ?_
  refine zg_aload_n C 0 dX6_sendNow_7 rfl ?_
  refine zg_get C 0 (ci := 6) (f := 6) rfl rfl uX6_sendNow_6 (by decide) fX6_sendNow_6_6 dX6_sendNow_8 rfl ?_
  refine zg_iload_n C 3 dX6_sendNow_11 rfl ?_
  refine zg_dup2 C dX6_sendNow_12 rfl rfl ?_
  refine zg_iald C 3 rfl (by omega) (by decide) dX6_sendNow_13 (V (zvr R rc ln x y)) (rfl) ?_
  refine zg_iconst (v := nI 1) C dX6_sendNow_14 (by decide) ?_
  refine zg_iadd C dX6_sendNow_15 ((V (zvr R rc ln x y)) + (nI 1)) (rfl) ?_
  refine zg_iast C 3 (ws' := [(m0, .inr (6, [.int (nI pn), .ref mp, .int (nI rc), .int (nI ln), .ref mo, .int sd, .ref mv, .int bs, .int bp, .int sr, .int y1, .int y2, .int y3, .ref mn, .ref my, .ref ml, .int (nI rk), .int dz, .int (nI su), .int (nI rd), .long hh])), (mp, .inl (cI, 56, .inl pg)), (mo, .inl (cI, 5, .inl Of)), (mv, .inl (cI, 4, .inl (upd V (zvr R rc ln x y) ((V (zvr R rc ln x y)) + (nI 1))))), (mn, .inl (cI, 5, .inl Nf)), (my, .inl (cI, 1024, .inl Yf)), (ml, .inl (cI, 32, .inl Lf))]) rfl (by omega) (by decide) dX6_sendNow_16 rfl ?_
  refine zg_aload_n C 0 dX6_sendNow_17 rfl ?_
  refine zg_dup C dX6_sendNow_18 rfl ?_
  refine zg_get C 0 (ci := 6) (f := 7) rfl rfl uX6_sendNow_6 (by decide) fX6_sendNow_6_7 dX6_sendNow_19 rfl ?_
  refine zg_aload_n C 0 dX6_sendNow_22 rfl ?_
  refine zg_get C 0 (ci := 6) (f := 3) rfl rfl uX6_sendNow_6 (by decide) fX6_sendNow_6_3 dX6_sendNow_23 rfl ?_
  refine zg_aload_n C 0 dX6_sendNow_26 rfl ?_
  refine zg_get C 0 (ci := 6) (f := 16) rfl rfl uX6_sendNow_6 (by decide) fX6_sendNow_6_16 dX6_sendNow_27 rfl ?_
  refine zg_iadd C dX6_sendNow_30 (nI (ln + zrk R rc ln)) ((nI_add _ _).trans (by rw [e1])) ?_
  refine zg_iadd C dX6_sendNow_31 (bs + (nI (ln + zrk R rc ln))) (rfl) ?_
  refine zg_put C 0 (ci := 6) (f := 7) (ws' := [(m0, .inr (6, [.int (nI pn), .ref mp, .int (nI rc), .int (nI ln), .ref mo, .int sd, .ref mv, .int (bs + (nI (ln + zrk R rc ln))), .int bp, .int sr, .int y1, .int y2, .int y3, .ref mn, .ref my, .ref ml, .int (nI rk), .int dz, .int (nI su), .int (nI rd), .long hh])), (mp, .inl (cI, 56, .inl pg)), (mo, .inl (cI, 5, .inl Of)), (mv, .inl (cI, 4, .inl (upd V (zvr R rc ln x y) ((V (zvr R rc ln x y)) + (nI 1))))), (mn, .inl (cI, 5, .inl Nf)), (my, .inl (cI, 1024, .inl Yf)), (ml, .inl (cI, 32, .inl Lf))]) rfl rfl uX6_sendNow_6 tyX6_ok nmX6 (by decide) fX6_sendNow_6_7 rfl rfl rfl rfl (Nat.le_of_ble_eq_true rfl) dX6_sendNow_32 rfl ?_
  refine zg_aload_n C 0 dX6_sendNow_35 rfl ?_
  refine zg_dup C dX6_sendNow_36 rfl ?_
  refine zg_get C 0 (ci := 6) (f := 8) rfl rfl uX6_sendNow_6 (by decide) fX6_sendNow_6_8 dX6_sendNow_37 rfl ?_
  refine zg_iconst (v := nI 2) C dX6_sendNow_40 (by decide) ?_
  refine zg_aload_n C 0 dX6_sendNow_41 rfl ?_
  refine zg_get C 0 (ci := 6) (f := 3) rfl rfl uX6_sendNow_6 (by decide) fX6_sendNow_6_3 dX6_sendNow_42 rfl ?_
  refine zg_imul C dX6_sendNow_45 (nI (2 * ln)) (pk_mul _ _) ?_
  refine zg_iadd C dX6_sendNow_46 (bp + (nI (2 * ln))) (rfl) ?_
  refine zg_put C 0 (ci := 6) (f := 8) (ws' := [(m0, .inr (6, [.int (nI pn), .ref mp, .int (nI rc), .int (nI ln), .ref mo, .int sd, .ref mv, .int (bs + (nI (ln + zrk R rc ln))), .int (bp + (nI (2 * ln))), .int sr, .int y1, .int y2, .int y3, .ref mn, .ref my, .ref ml, .int (nI rk), .int dz, .int (nI su), .int (nI rd), .long hh])), (mp, .inl (cI, 56, .inl pg)), (mo, .inl (cI, 5, .inl Of)), (mv, .inl (cI, 4, .inl (upd V (zvr R rc ln x y) ((V (zvr R rc ln x y)) + (nI 1))))), (mn, .inl (cI, 5, .inl Nf)), (my, .inl (cI, 1024, .inl Yf)), (ml, .inl (cI, 32, .inl Lf))]) rfl rfl uX6_sendNow_6 tyX6_ok nmX6 (by decide) fX6_sendNow_6_8 rfl rfl rfl rfl (Nat.le_of_ble_eq_true rfl) dX6_sendNow_47 rfl ?_
  refine zg_iload_n C 3 dX6_sendNow_50 rfl ?_
  exact zg_wiret C E dX6_sendNow_51 (⟨rfl, rfl⟩)
set_option maxHeartbeats 1000000 in
set_option maxRecDepth 100000 in
theorem c_X6_send (l : Launch) (D : va_G) (cI : ClassId) (m0 mp mo mv mn my ml : Nat) (pg Of V Nf Yf Lf : Nat → Int32) (pn rc ln rk su rd : Nat) (sd bs bp sr y1 y2 y3 dz : Int32) (hh : Int64) (R : Nat → Nat) (x y : Nat) (hM : zMm R Of Yf Lf rc ln rk dz su rd) (hln : ln ≤ 10) (hrc : rc ≤ 5) (hrl : 0 < rc ↔ 0 < ln) (h0l : 0 < ln) (hx : x < 2 ^ ln) (hy : y < 2 ^ ln) : zMw l D cI yX6_send wsX6_send { frames := 3, cells := 0, slots := 0, locals := 70 } [.ref m0, .int (nI x), .int (nI y)] [(m0, .inr (6, [.int (nI pn), .ref mp, .int (nI rc), .int (nI ln), .ref mo, .int sd, .ref mv, .int bs, .int bp, .int sr, .int y1, .int y2, .int y3, .ref mn, .ref my, .ref ml, .int (nI rk), .int dz, .int (nI su), .int (nI rd), .long hh])), (mp, .inl (cI, 56, .inl pg)), (mo, .inl (cI, 5, .inl Of)), (mv, .inl (cI, 4, .inl V)), (mn, .inl (cI, 5, .inl Nf)), (my, .inl (cI, 1024, .inl Yf)), (ml, .inl (cI, 32, .inl Lf))] (fun v9 w9 => v9 = some (.int (nI (zvr R rc ln x y))) ∧ w9 = [(m0, .inr (6, [.int (nI pn), .ref mp, .int (nI rc), .int (nI ln), .ref mo, .int sd, .ref mv, .int (bs + nI (ln + zrk R rc ln)), .int (bp + nI (2 * ln)), .int sr, .int y1, .int y2, .int y3, .ref mn, .ref my, .ref ml, .int (nI rk), .int dz, .int (nI su), .int (nI rd), .long hh])), (mp, .inl (cI, 56, .inl pg)), (mo, .inl (cI, 5, .inl Of)), (mv, .inl (cI, 4, .inl (upd V (zvr R rc ln x y) (V (zvr R rc ln x y) + nI 1)))), (mn, .inl (cI, 5, .inl Nf)), (my, .inl (cI, 1024, .inl Yf)), (ml, .inl (cI, 32, .inl Lf))]) 0 0 := by
  refine zw_ent (maxL := 3) (by decide) rfl (Nat.le_of_ble_eq_true rfl) (fun X C E hin9 => ?_)
  have C : zC X l D cI { frames := 3, cells := 0, slots := 0, locals := 70 } 3 true cX6_send RX6 wsX6_send := C
  refine zg_cv (lv' := [(0, .ref m0), (1, .int (nI x)), (2, .int (nI y))]) rfl rfl rfl ?_
  have q0 := zpw hln
  refine zg_aload_n C 0 dX6_send_0 rfl ?_
  refine zg_callr (As := []) (st := []) C [0, 1, 2, 3, 4, 5, 6] 0 0 (c_X6_isThere l D cI m0 mp mo mv mn my ml pg Of V Nf Yf Lf pn rc ln rk su rd sd bs bp sr y1 y2 y3 dz hh hrc) gX6_send_X6_isThere (by decide +kernel) rfl ⟨rfl, rfl⟩ ⟨Nat.le_of_ble_eq_true rfl, Nat.le_of_ble_eq_true rfl⟩ rfl (ci := 6) rfl rfl rfl rfl (Nat.le_of_ble_eq_true rfl) ⟨Nat.le_of_ble_eq_true rfl, Nat.le_of_ble_eq_true rfl⟩ dX6_send_1 ?_
  refine zp_if_ne C 11 dX6_send_4 (by decide) (fun c_4 => ?_) (fun c_4 => by exact absurd (hrl.mpr h0l) c_4)
  refine zg_aload_n C 0 dX6_send_11 rfl ?_
  refine zg_iload_n C 1 dX6_send_12 rfl ?_
  refine zg_callr (As := [.int (nI x)]) (st := []) C [0, 1, 2, 3, 4, 5, 6] 0 1 (c_X6_isWord l D cI m0 mp mo mv mn my ml pg Of V Nf Yf Lf pn rc ln rk su rd sd bs bp sr y1 y2 y3 dz hh (nI x) hln) gX6_send_X6_isWord (by decide +kernel) rfl ⟨rfl, rfl⟩ ⟨Nat.le_of_ble_eq_true rfl, Nat.le_of_ble_eq_true rfl⟩ rfl (ci := 6) rfl rfl rfl rfl (Nat.le_of_ble_eq_true rfl) ⟨Nat.le_of_ble_eq_true rfl, Nat.le_of_ble_eq_true rfl⟩ dX6_send_13 ?_
  refine zp_if_eq C 36 dX6_send_16 (by decide) (fun c_16 => by exact absurd (zin_nI hx (by omega)) c_16) (fun c_16 => ?_)
  refine zg_aload_n C 0 dX6_send_19 rfl ?_
  refine zg_iload_n C 2 dX6_send_20 rfl ?_
  refine zg_callr (As := [.int (nI y)]) (st := []) C [0, 1, 2, 3, 4, 5, 6] 0 1 (c_X6_isWord l D cI m0 mp mo mv mn my ml pg Of V Nf Yf Lf pn rc ln rk su rd sd bs bp sr y1 y2 y3 dz hh (nI y) hln) gX6_send_X6_isWord (by decide +kernel) rfl ⟨rfl, rfl⟩ ⟨Nat.le_of_ble_eq_true rfl, Nat.le_of_ble_eq_true rfl⟩ rfl (ci := 6) rfl rfl rfl rfl (Nat.le_of_ble_eq_true rfl) ⟨Nat.le_of_ble_eq_true rfl, Nat.le_of_ble_eq_true rfl⟩ dX6_send_21 ?_
  refine zp_if_eq C 36 dX6_send_24 (by decide) (fun c_24 => by exact absurd (zin_nI hy (by omega)) c_24) (fun c_24 => ?_)
  refine zg_aload_n C 0 dX6_send_27 rfl ?_
  refine zg_iload_n C 1 dX6_send_28 rfl ?_
  refine zg_iload_n C 2 dX6_send_29 rfl ?_
  refine zg_callw (As := [.int (nI x), .int (nI y)]) (st := []) (wo := []) C [0, 1, 2, 3, 4, 5, 6] [] 0 2 (c_X6_sendNow l D cI m0 mp mo mv mn my ml pg Of V Nf Yf Lf pn rc ln rk su rd sd bs bp sr y1 y2 y3 dz hh R x y hM hln hrc h0l hx hy) gX6_send_X6_sendNow (by decide +kernel) rfl ⟨rfl, rfl⟩ ⟨Nat.le_of_ble_eq_true rfl, Nat.le_of_ble_eq_true rfl⟩ rfl rfl rfl rfl (by decide) (ci := 6) rfl rfl rfl rfl (Nat.le_of_ble_eq_true rfl) ⟨Nat.le_of_ble_eq_true rfl, Nat.le_of_ble_eq_true rfl⟩ dX6_send_30 (fun v9 w9 hw9 => ?_)
  obtain ⟨rfl, rfl⟩ := hw9
  refine zg_cv (k' := 0) (n' := 0) (st' := [.int (nI (zvr R rc ln x y))]) (ws' := [(m0, .inr (6, [.int (nI pn), .ref mp, .int (nI rc), .int (nI ln), .ref mo, .int sd, .ref mv, .int (bs + nI (ln + zrk R rc ln)), .int (bp + nI (2 * ln)), .int sr, .int y1, .int y2, .int y3, .ref mn, .ref my, .ref ml, .int (nI rk), .int dz, .int (nI su), .int (nI rd), .long hh])), (mp, .inl (cI, 56, .inl pg)), (mo, .inl (cI, 5, .inl Of)), (mv, .inl (cI, 4, .inl (upd V (zvr R rc ln x y) (V (zvr R rc ln x y) + nI 1)))), (mn, .inl (cI, 5, .inl Nf)), (my, .inl (cI, 1024, .inl Yf)), (ml, .inl (cI, 32, .inl Lf))]) rfl rfl rfl ?_
  refine zg_goto C 39 dX6_send_33 (by decide) ?_
  exact zg_wiret C E dX6_send_39 (⟨rfl, rfl⟩)
set_option maxHeartbeats 1000000 in
set_option maxRecDepth 100000 in
theorem c_X6_send_no (l : Launch) (D : va_G) (cI : ClassId) (m0 mp mo mv mn my ml : Nat) (pg Of V Nf Yf Lf : Nat → Int32) (pn rc ln rk su rd : Nat) (sd bs bp sr y1 y2 y3 dz : Int32) (hh : Int64) (R : Nat → Nat) (x y : Int32) (hM : zMm R Of Yf Lf rc ln rk dz su rd) (hln : ln ≤ 10) (hrc : rc ≤ 5) (hrl : 0 < rc ↔ 0 < ln) (hno : ¬ (0 < ln ∧ zin x (2 ^ ln) ∧ zin y (2 ^ ln))) : zMr l D cI yX6_send wsX6_send { frames := 2, cells := 0, slots := 0, locals := 43 } [.ref m0, .int x, .int y] [(m0, .inr (6, [.int (nI pn), .ref mp, .int (nI rc), .int (nI ln), .ref mo, .int sd, .ref mv, .int bs, .int bp, .int sr, .int y1, .int y2, .int y3, .ref mn, .ref my, .ref ml, .int (nI rk), .int dz, .int (nI su), .int (nI rd), .long hh])), (mp, .inl (cI, 56, .inl pg)), (mo, .inl (cI, 5, .inl Of)), (mv, .inl (cI, 4, .inl V)), (mn, .inl (cI, 5, .inl Nf)), (my, .inl (cI, 1024, .inl Yf)), (ml, .inl (cI, 32, .inl Lf))] (if 0 < ln then -1002 else -1003) := by
  refine zr_ent (maxL := 3) (by decide) rfl (Nat.le_of_ble_eq_true rfl) (fun X C E => ?_)
  have C : zC X l D cI { frames := 2, cells := 0, slots := 0, locals := 43 } 3 false cX6_send RX6 wsX6_send := C
  refine zg_cv (lv' := [(0, .ref m0), (1, .int x), (2, .int y)]) rfl rfl rfl ?_
  refine zg_aload_n C 0 dX6_send_0 rfl ?_
  refine zg_callr (As := []) (st := []) C [0, 1, 2, 3, 4, 5, 6] 0 0 (c_X6_isThere l D cI m0 mp mo mv mn my ml pg Of V Nf Yf Lf pn rc ln rk su rd sd bs bp sr y1 y2 y3 dz hh hrc) gX6_send_X6_isThere (by decide +kernel) rfl ⟨rfl, rfl⟩ ⟨Nat.le_of_ble_eq_true rfl, Nat.le_of_ble_eq_true rfl⟩ rfl (ci := 6) rfl rfl rfl rfl (Nat.le_of_ble_eq_true rfl) ⟨Nat.le_of_ble_eq_true rfl, Nat.le_of_ble_eq_true rfl⟩ dX6_send_1 ?_
  refine zp_if_ne C 11 dX6_send_4 (by decide) (fun c_4 => ?_) (fun c_4 => ?_)
  · skip
    refine zg_aload_n C 0 dX6_send_11 rfl ?_
    refine zg_iload_n C 1 dX6_send_12 rfl ?_
    refine zg_callr (As := [.int x]) (st := []) C [0, 1, 2, 3, 4, 5, 6] 0 1 (c_X6_isWord l D cI m0 mp mo mv mn my ml pg Of V Nf Yf Lf pn rc ln rk su rd sd bs bp sr y1 y2 y3 dz hh x hln) gX6_send_X6_isWord (by decide +kernel) rfl ⟨rfl, rfl⟩ ⟨Nat.le_of_ble_eq_true rfl, Nat.le_of_ble_eq_true rfl⟩ rfl (ci := 6) rfl rfl rfl rfl (Nat.le_of_ble_eq_true rfl) ⟨Nat.le_of_ble_eq_true rfl, Nat.le_of_ble_eq_true rfl⟩ dX6_send_13 ?_
    refine zp_if_eq C 36 dX6_send_16 (by decide) (fun c_16 => ?_) (fun c_16 => ?_)
    · skip
      refine zg_sipush (v := (-1002)) C dX6_send_36 (by decide) ?_
      exact zg_iret C E dX6_send_39 ((if_pos (hrl.mp c_4)).symm)
    · skip
      refine zg_aload_n C 0 dX6_send_19 rfl ?_
      refine zg_iload_n C 2 dX6_send_20 rfl ?_
      refine zg_callr (As := [.int y]) (st := []) C [0, 1, 2, 3, 4, 5, 6] 0 1 (c_X6_isWord l D cI m0 mp mo mv mn my ml pg Of V Nf Yf Lf pn rc ln rk su rd sd bs bp sr y1 y2 y3 dz hh y hln) gX6_send_X6_isWord (by decide +kernel) rfl ⟨rfl, rfl⟩ ⟨Nat.le_of_ble_eq_true rfl, Nat.le_of_ble_eq_true rfl⟩ rfl (ci := 6) rfl rfl rfl rfl (Nat.le_of_ble_eq_true rfl) ⟨Nat.le_of_ble_eq_true rfl, Nat.le_of_ble_eq_true rfl⟩ dX6_send_21 ?_
      refine zp_if_eq C 36 dX6_send_24 (by decide) (fun c_24 => ?_) (fun c_24 => by exact (hno ⟨hrl.mp c_4, c_16, c_24⟩).elim)
      refine zg_sipush (v := (-1002)) C dX6_send_36 (by decide) ?_
      exact zg_iret C E dX6_send_39 ((if_pos (hrl.mp c_4)).symm)
  · skip
    refine zg_sipush (v := (-1003)) C dX6_send_7 (by decide) ?_
    exact zg_iret C E dX6_send_10 ((if_neg (fun q => c_4 (hrl.mpr q))).symm)
set_option maxHeartbeats 1000000 in
set_option maxRecDepth 100000 in
theorem c_X6_plain (l : Launch) (D : va_G) (cI : ClassId) (m0 mp mo mv mn my ml : Nat) (pg Of V Nf Yf Lf : Nat → Int32) (pn rc ln rk su rd : Nat) (sd bs bp sr y1 y2 y3 dz : Int32) (hh : Int64) (R : Nat → Nat) (x y z : Int32) (hM : zMm R Of Yf Lf rc ln rk dz su rd) (hln : ln ≤ 10) (hrc : rc ≤ 5) (hrl : 0 < rc ↔ 0 < ln) : zMr l D cI yX6_plain wsX6_plain { frames := 2, cells := 0, slots := 0, locals := 47 } [.ref m0, .int x, .int y, .int z] [(m0, .inr (6, [.int (nI pn), .ref mp, .int (nI rc), .int (nI ln), .ref mo, .int sd, .ref mv, .int bs, .int bp, .int sr, .int y1, .int y2, .int y3, .ref mn, .ref my, .ref ml, .int (nI rk), .int dz, .int (nI su), .int (nI rd), .long hh])), (mp, .inl (cI, 56, .inl pg)), (mo, .inl (cI, 5, .inl Of)), (mv, .inl (cI, 4, .inl V)), (mn, .inl (cI, 5, .inl Nf)), (my, .inl (cI, 1024, .inl Yf)), (ml, .inl (cI, 32, .inl Lf))] (zA ln (zin x (2 ^ ln) ∧ zin y (2 ^ ln) ∧ zin z 3) (zplain R rc ln (zn x) (zn y) z)) := by
  refine zr_ent (maxL := 4) (by decide) rfl (Nat.le_of_ble_eq_true rfl) (fun X C E => ?_)
  have C : zC X l D cI { frames := 2, cells := 0, slots := 0, locals := 47 } 4 false cX6_plain RX6 wsX6_plain := C
  refine zg_cv (lv' := [(0, .ref m0), (1, .int x), (2, .int y), (3, .int z)]) rfl rfl rfl ?_
  refine zg_aload_n C 0 dX6_plain_0 rfl ?_
  refine zg_callr (As := []) (st := []) C [0, 1, 2, 3, 4, 5, 6] 0 0 (c_X6_isThere l D cI m0 mp mo mv mn my ml pg Of V Nf Yf Lf pn rc ln rk su rd sd bs bp sr y1 y2 y3 dz hh hrc) gX6_plain_X6_isThere (by decide +kernel) rfl ⟨rfl, rfl⟩ ⟨Nat.le_of_ble_eq_true rfl, Nat.le_of_ble_eq_true rfl⟩ rfl (ci := 6) rfl rfl rfl rfl (Nat.le_of_ble_eq_true rfl) ⟨Nat.le_of_ble_eq_true rfl, Nat.le_of_ble_eq_true rfl⟩ dX6_plain_1 ?_
  refine zp_if_ne C 11 dX6_plain_4 (by decide) (fun c_4 => ?_) (fun c_4 => ?_)
  · skip
    have hl0 := hrl.mp c_4
    obtain ⟨m1, m3, hO, hRb, hY, hL, e1, e2, e3, e4⟩ := hM hl0
    have q0 := zpw hln
    have q1 := zpw0 ln
    have q5 := zpw5 hrc
    refine zg_aload_n C 0 dX6_plain_11 rfl ?_
    refine zg_iload_n C 1 dX6_plain_12 rfl ?_
    refine zg_callr (As := [.int x]) (st := []) C [0, 1, 2, 3, 4, 5, 6] 0 1 (c_X6_isWord l D cI m0 mp mo mv mn my ml pg Of V Nf Yf Lf pn rc ln rk su rd sd bs bp sr y1 y2 y3 dz hh x hln) gX6_plain_X6_isWord (by decide +kernel) rfl ⟨rfl, rfl⟩ ⟨Nat.le_of_ble_eq_true rfl, Nat.le_of_ble_eq_true rfl⟩ rfl (ci := 6) rfl rfl rfl rfl (Nat.le_of_ble_eq_true rfl) ⟨Nat.le_of_ble_eq_true rfl, Nat.le_of_ble_eq_true rfl⟩ dX6_plain_13 ?_
    refine zp_if_eq C 36 dX6_plain_16 (by decide) (fun c_16 => ?_) (fun c_16 => ?_)
    · skip
      refine zg_sipush (v := (-1002)) C dX6_plain_36 (by decide) ?_
      exact zg_iret C E dX6_plain_39 ((zA_o hl0 (fun q => c_16 q.1)).symm)
    · skip
      refine zg_aload_n C 0 dX6_plain_19 rfl ?_
      refine zg_iload_n C 2 dX6_plain_20 rfl ?_
      refine zg_callr (As := [.int y]) (st := []) C [0, 1, 2, 3, 4, 5, 6] 0 1 (c_X6_isWord l D cI m0 mp mo mv mn my ml pg Of V Nf Yf Lf pn rc ln rk su rd sd bs bp sr y1 y2 y3 dz hh y hln) gX6_plain_X6_isWord (by decide +kernel) rfl ⟨rfl, rfl⟩ ⟨Nat.le_of_ble_eq_true rfl, Nat.le_of_ble_eq_true rfl⟩ rfl (ci := 6) rfl rfl rfl rfl (Nat.le_of_ble_eq_true rfl) ⟨Nat.le_of_ble_eq_true rfl, Nat.le_of_ble_eq_true rfl⟩ dX6_plain_21 ?_
      refine zp_if_eq C 36 dX6_plain_24 (by decide) (fun c_24 => ?_) (fun c_24 => ?_)
      · skip
        refine zg_sipush (v := (-1002)) C dX6_plain_36 (by decide) ?_
        exact zg_iret C E dX6_plain_39 ((zA_o hl0 (fun q => c_24 q.2.1)).symm)
      · skip
        refine zg_iload_n C 3 dX6_plain_27 rfl ?_
        refine zg_iconst (v := nI 0) C dX6_plain_28 (by decide) ?_
        refine zg_iconst (v := nI 2) C dX6_plain_29 (by decide) ?_
        refine zg_calls (As := [.int z, .int (nI 0), .int (nI 2)]) (st := []) C [] 3 (c_X6_within l D cI z (nI 0) (nI 2) ) gX6_plain_X6_within (by decide +kernel) rfl ⟨rfl, rfl⟩ ⟨Nat.le_of_ble_eq_true rfl, Nat.le_of_ble_eq_true rfl⟩ rfl rfl rfl (Nat.le_of_ble_eq_true rfl) ⟨Nat.le_of_ble_eq_true rfl, Nat.le_of_ble_eq_true rfl⟩ dX6_plain_30 ?_
        refine zp_if_ne C 40 dX6_plain_33 (by decide) (fun c_33 => ?_) (fun c_33 => ?_)
        · skip
          have hz : zin z 3 := (zin_le (N := 3) (by decide) (by decide)).mp c_33
          obtain ⟨i, hi, rfl⟩ := zin_of c_16 (by omega)
          obtain ⟨w, hw, rfl⟩ := zin_of c_24 (by omega)
          obtain ⟨j, hj, rfl⟩ := zin_of hz (by decide)
          have hf := zfl_some R rc hi hw
          have q9 := zdm_le R rc ln (2 ^ ln)
          have q10 := zsu_le (ln := ln) (d := zdm R rc ln (2 ^ ln)) hln q9
          have e5 : zvd i w (zfl R rc ln i w) su = zvr R rc ln i w := by rw [e3]; rfl
          refine zg_iload_n C 3 dX6_plain_40 rfl ?_
          refine zn_if_ne C 53 (by omega) dX6_plain_41 (by decide) (fun c_41 => ?_) (fun c_41 => ?_)
          · skip
            refine zg_iload_n C 3 dX6_plain_53 rfl ?_
            refine zg_iconst (v := nI 1) C dX6_plain_54 (by decide) ?_
            refine zn_icmp_ne C 67 (by omega) (by omega) dX6_plain_55 (by decide) (fun c_55 => ?_) (fun c_55 => ?_)
            · skip
              refine zg_iload_n C 1 dX6_plain_67 rfl ?_
              refine zg_aload_n C 0 dX6_plain_68 rfl ?_
              refine zg_iload_n C 1 dX6_plain_69 rfl ?_
              refine zg_iload_n C 2 dX6_plain_70 rfl ?_
              refine zg_callr (As := [.int (nI i), .int (nI w)]) (st := [.int (nI i)]) C [0, 1, 2, 3, 4, 5, 6] 0 2 (c_X6_flipsOf l D cI m0 mp mo mv mn my ml pg Of V Nf Yf Lf pn rc ln rk su rd sd bs bp sr y1 y2 y3 dz hh R i w (zfl R rc ln i w) hrc hln hY (by omega) (hf) (by omega) (by omega)) gX6_plain_X6_flipsOf (by decide +kernel) rfl ⟨rfl, rfl⟩ ⟨Nat.le_of_ble_eq_true rfl, Nat.le_of_ble_eq_true rfl⟩ rfl (ci := 6) rfl rfl rfl rfl (Nat.le_of_ble_eq_true rfl) ⟨Nat.le_of_ble_eq_true rfl, Nat.le_of_ble_eq_true rfl⟩ dX6_plain_71 ?_
              refine zg_ixor C dX6_plain_74 (nI (i ^^^ (zfl R rc ln i w))) (zi_xor _ _) ?_
              exact zg_iret C E dX6_plain_75 (by rw [zA_y hl0 ⟨c_16, c_24, hz⟩, zn_nI (by omega), zn_nI (by omega), zplain, if_neg (fun q => by have := (nI_eq (a := j) (b := 0) (by omega) (by decide)).mp q; omega), if_neg (fun q => by have := (nI_eq (a := j) (b := 1) (by omega) (by decide)).mp q; omega)])
            · skip
              refine zg_aload_n C 0 dX6_plain_58 rfl ?_
              refine zg_iload_n C 1 dX6_plain_59 rfl ?_
              refine zg_iload_n C 2 dX6_plain_60 rfl ?_
              refine zg_callr (As := [.int (nI i), .int (nI w)]) (st := []) C [0, 1, 2, 3, 4, 5, 6] 0 2 (c_X6_flipsOf l D cI m0 mp mo mv mn my ml pg Of V Nf Yf Lf pn rc ln rk su rd sd bs bp sr y1 y2 y3 dz hh R i w (zfl R rc ln i w) hrc hln hY (by omega) (hf) (by omega) (by omega)) gX6_plain_X6_flipsOf (by decide +kernel) rfl ⟨rfl, rfl⟩ ⟨Nat.le_of_ble_eq_true rfl, Nat.le_of_ble_eq_true rfl⟩ rfl (ci := 6) rfl rfl rfl rfl (Nat.le_of_ble_eq_true rfl) ⟨Nat.le_of_ble_eq_true rfl, Nat.le_of_ble_eq_true rfl⟩ dX6_plain_61 ?_
              refine zg_goto C 75 dX6_plain_64 (by decide) ?_
              exact zg_iret C E dX6_plain_75 (by rw [zA_y hl0 ⟨c_16, c_24, hz⟩, zn_nI (by omega), zn_nI (by omega), zplain, if_neg (fun q => by have := (nI_eq (a := j) (b := 0) (by omega) (by decide)).mp q; omega), if_pos (congrArg nI c_55)])
          · skip
            refine zg_aload_n C 0 dX6_plain_44 rfl ?_
            refine zg_iload_n C 1 dX6_plain_45 rfl ?_
            refine zg_iload_n C 2 dX6_plain_46 rfl ?_
            refine zg_callr (As := [.int (nI i), .int (nI w)]) (st := []) C [0, 1, 2, 3, 4, 5, 6] 0 2 (c_X6_verdictOf l D cI m0 mp mo mv mn my ml pg Of V Nf Yf Lf pn rc ln rk su rd sd bs bp sr y1 y2 y3 dz hh R i w (zfl R rc ln i w) hrc hln hY (by omega) (hf) (by omega) (by omega) (by omega)) gX6_plain_X6_verdictOf (by decide +kernel) rfl ⟨rfl, rfl⟩ ⟨Nat.le_of_ble_eq_true rfl, Nat.le_of_ble_eq_true rfl⟩ rfl (ci := 6) rfl rfl rfl rfl (Nat.le_of_ble_eq_true rfl) ⟨Nat.le_of_ble_eq_true rfl, Nat.le_of_ble_eq_true rfl⟩ dX6_plain_47 ?_
            refine zg_cv (st' := [.int (nI (zvr R rc ln i w))]) rfl (by rw [e5]) rfl ?_
            refine zg_goto C 75 dX6_plain_50 (by decide) ?_
            exact zg_iret C E dX6_plain_75 (by rw [zA_y hl0 ⟨c_16, c_24, hz⟩, zn_nI (by omega), zn_nI (by omega), zplain, if_pos (congrArg nI c_41)])
        · skip
          refine zg_sipush (v := (-1002)) C dX6_plain_36 (by decide) ?_
          exact zg_iret C E dX6_plain_39 ((zA_o hl0 (fun q => c_33 ((zin_le (N := 3) (by decide) (by decide)).mpr q.2.2))).symm)
  · skip
    refine zg_sipush (v := (-1003)) C dX6_plain_7 (by decide) ?_
    exact zg_iret C E dX6_plain_10 ((zA_n (fun q => c_4 (hrl.mpr q))).symm)
theorem uX6_isEnough_6 : ∀ w ∈ u_ws RX6 TX6 21, w ∈ wsX6_isEnough := fun w h => List.mem_cons_of_mem _ (List.mem_append_right _ h)
theorem fX6_isEnough_6_14 : Cond.fieldLink RX6 26 (TX6 14).1 (TX6 14).2.1 (TX6 14).2.2.1 ∈ wsX6_isEnough := by decide +kernel
set_option maxHeartbeats 1000000 in
set_option maxRecDepth 100000 in
theorem c_X6_isEnough (l : Launch) (D : va_G) (cI : ClassId) (m0 mp mo mv mn my ml : Nat) (pg Of V Nf Yf Lf : Nat → Int32) (pn rc ln rk su rd : Nat) (sd bs bp sr y1 y2 y3 dz : Int32) (hh : Int64) (R : Nat → Nat) (kn : Nat) (hrc : rc ≤ 5) (hln : ln ≤ 10) (hY : ∀ w, w < 2 ^ ln → Yf w = nI (zsk R w rc)) (hkn : kn < 2 ^ ln) : zMr l D cI yX6_isEnough wsX6_isEnough { frames := 1, cells := 0, slots := 0, locals := 20 } [.ref m0, .int (nI kn)] [(m0, .inr (6, [.int (nI pn), .ref mp, .int (nI rc), .int (nI ln), .ref mo, .int sd, .ref mv, .int bs, .int bp, .int sr, .int y1, .int y2, .int y3, .ref mn, .ref my, .ref ml, .int (nI rk), .int dz, .int (nI su), .int (nI rd), .long hh])), (mp, .inl (cI, 56, .inl pg)), (mo, .inl (cI, 5, .inl Of)), (mv, .inl (cI, 4, .inl V)), (mn, .inl (cI, 5, .inl Nf)), (my, .inl (cI, 1024, .inl Yf)), (ml, .inl (cI, 32, .inl Lf))] (zb (zen R rc kn (2 ^ ln))) := by
  refine zr_ent (maxL := 4) (by decide) rfl (Nat.le_of_ble_eq_true rfl) (fun X C E => ?_)
  have C : zC X l D cI { frames := 1, cells := 0, slots := 0, locals := 20 } 4 false cX6_isEnough RX6 wsX6_isEnough := C
  refine zg_cv (lv' := [(0, .ref m0), (1, .int (nI kn))]) rfl rfl rfl ?_
  have q0 := zpw hln
  have q1 := zpw0 ln
  have q5 := zpw5 hrc
  refine zg_iconst (v := nI 1) C dX6_isEnough_0 (by decide) ?_
  refine zg_istore_n C [1, 2, 0] (lv' := [(0, .ref m0), (1, .int (nI kn)), (2, .int (nI 1))]) dX6_isEnough_1 (by decide) rfl ?_
  refine zg_cv (lv' := [(0, .ref m0), (1, .int (nI kn)), (2, .int (zb (zen R rc kn 1)))]) (congrArg (fun q9 => ([(0, .ref m0), (1, .int (nI kn)), (2, .int q9)] : List (Nat × Value))) (zbT (zen_1 _ _ _))) rfl rfl ?_
  refine zg_iconst (v := nI 1) C dX6_isEnough_2 (by decide) ?_
  refine zg_istore_n C [1, 2, 3, 0] (lv' := [(0, .ref m0), (1, .int (nI kn)), (2, .int (zb (zen R rc kn 1))), (3, .int (nI 1))]) dX6_isEnough_3 (by decide) rfl ?_
  have L_4 : ∀ i, i ≤ 2 ^ ln - 1 → zG X 0 0 [(0, .ref m0), (1, .int (nI kn)), (2, .int (zb (zen R rc kn (i + 1)))), (3, .int (nI (i + 1)))] [] [(m0, .inr (6, [.int (nI pn), .ref mp, .int (nI rc), .int (nI ln), .ref mo, .int sd, .ref mv, .int bs, .int bp, .int sr, .int y1, .int y2, .int y3, .ref mn, .ref my, .ref ml, .int (nI rk), .int dz, .int (nI su), .int (nI rd), .long hh])), (mp, .inl (cI, 56, .inl pg)), (mo, .inl (cI, 5, .inl Of)), (mv, .inl (cI, 4, .inl V)), (mn, .inl (cI, 5, .inl Nf)), (my, .inl (cI, 1024, .inl Yf)), (ml, .inl (cI, 32, .inl Lf))] 4 := by
    refine zg_dn (fun i hi ih_4  => ?_)
    refine zg_iload_n C 3 dX6_isEnough_4 rfl ?_
    refine zg_aload_n C 0 dX6_isEnough_5 rfl ?_
    refine zg_callr (As := []) (st := [.int (nI (i + 1))]) C [0, 1, 2, 3, 4, 5, 6] 0 0 (c_X6_words l D cI m0 mp mo mv mn my ml pg Of V Nf Yf Lf pn rc ln rk su rd sd bs bp sr y1 y2 y3 dz hh hln) gX6_isEnough_X6_words (by decide +kernel) rfl ⟨rfl, rfl⟩ ⟨Nat.le_of_ble_eq_true rfl, Nat.le_of_ble_eq_true rfl⟩ rfl (ci := 6) rfl rfl rfl rfl (Nat.le_of_ble_eq_true rfl) ⟨Nat.le_of_ble_eq_true rfl, Nat.le_of_ble_eq_true rfl⟩ dX6_isEnough_6 ?_
    refine zn_icmp_ge C 43 (by omega) (by omega) dX6_isEnough_9 (by decide) (fun c_9 => ?_) (fun c_9 => ?_)
    · skip
      refine zg_iload_n C 2 dX6_isEnough_43 rfl ?_
      exact zg_zret C E dX6_isEnough_44 (by rw [show i + 1 = 2 ^ ln by omega])
    · skip
      refine zg_iload_n C 2 dX6_isEnough_12 rfl ?_
      refine zb_if_eq C 35 dX6_isEnough_13 (by decide) (fun c_13 => ?_) (fun c_13 => ?_)
      · skip
        refine zg_iconst (v := nI 0) C dX6_isEnough_35 (by decide) ?_
        refine zg_cv (st' := [.int (zb (zen R rc kn (i + 1 + 1)))]) rfl (congrArg (fun q9 => ([.int q9] : List Value)) (zbF (zen_mono (show i + 1 ≤ i + 1 + 1 by omega) c_13))) rfl ?_
        refine zg_istore_n C [1, 2, 0, 3] (lv' := [(0, .ref m0), (1, .int (nI kn)), (2, .int (zb (zen R rc kn (i + 1 + 1)))), (3, .int (nI (i + 1)))]) dX6_isEnough_36 (by decide) rfl ?_
        refine zg_iinc C 3 [1, 2, 3, 0] (lv' := [(0, .ref m0), (1, .int (nI kn)), (2, .int (zb (zen R rc kn (i + 1 + 1)))), (3, .int (nI (i + 1 + 1)))]) (nI (i + 1 + 1)) dX6_isEnough_37 rfl (zi_inc _) (by decide) rfl ?_
        refine zg_goto C 4 dX6_isEnough_40 (by decide) ?_
        exact zg_cv (lv' := [(0, .ref m0), (1, .int (nI kn)), (2, .int (zb (zen R rc kn ((i + 1) + 1)))), (3, .int (nI ((i + 1) + 1)))]) (rfl) rfl (rfl) (ih_4 (by omega) )
      · skip
        refine zg_aload_n C 0 dX6_isEnough_16 rfl ?_
        refine zg_get C 0 (ci := 6) (f := 14) rfl rfl uX6_isEnough_6 (by decide) fX6_isEnough_6_14 dX6_isEnough_17 rfl ?_
        refine zg_iload_n C 3 dX6_isEnough_20 rfl ?_
        refine zg_iald C 5 rfl (by omega) (by decide) dX6_isEnough_21 (nI (zsk R (i + 1) rc)) (hY _ (by omega)) ?_
        have q4 := zsk_lt R (i + 1) rc
        refine zn_if_ne C 31 (by omega) dX6_isEnough_22 (by decide) (fun c_22 => ?_) (fun c_22 => ?_)
        · skip
          refine zg_iconst (v := nI 1) C dX6_isEnough_31 (by decide) ?_
          refine zg_goto C 36 dX6_isEnough_32 (by decide) ?_
          refine zg_cv (st' := [.int (zb (zen R rc kn (i + 1 + 1)))]) rfl (congrArg (fun q9 => ([.int q9] : List Value)) (zbT (zen_good c_13 (fun q => by omega)))) rfl ?_
          refine zg_istore_n C [1, 2, 0, 3] (lv' := [(0, .ref m0), (1, .int (nI kn)), (2, .int (zb (zen R rc kn (i + 1 + 1)))), (3, .int (nI (i + 1)))]) dX6_isEnough_36 (by decide) rfl ?_
          refine zg_iinc C 3 [1, 2, 3, 0] (lv' := [(0, .ref m0), (1, .int (nI kn)), (2, .int (zb (zen R rc kn (i + 1 + 1)))), (3, .int (nI (i + 1 + 1)))]) (nI (i + 1 + 1)) dX6_isEnough_37 rfl (zi_inc _) (by decide) rfl ?_
          refine zg_goto C 4 dX6_isEnough_40 (by decide) ?_
          exact zg_cv (lv' := [(0, .ref m0), (1, .int (nI kn)), (2, .int (zb (zen R rc kn ((i + 1) + 1)))), (3, .int (nI ((i + 1) + 1)))]) (rfl) rfl (rfl) (ih_4 (by omega) )
        · skip
          refine zg_iload_n C 3 dX6_isEnough_25 rfl ?_
          refine zg_iload_n C 1 dX6_isEnough_26 rfl ?_
          refine zg_iand C dX6_isEnough_27 (nI ((i + 1) &&& kn)) (zi_and _ _) ?_
          have q3 : (i + 1) &&& kn ≤ kn := Nat.and_le_right
          refine zn_if_eq C 35 (by omega) dX6_isEnough_28 (by decide) (fun c_28 => ?_) (fun c_28 => ?_)
          · skip
            refine zg_iconst (v := nI 0) C dX6_isEnough_35 (by decide) ?_
            refine zg_cv (st' := [.int (zb (zen R rc kn (i + 1 + 1)))]) rfl (congrArg (fun q9 => ([.int q9] : List Value)) (zbF (zen_bad c_28 c_22 (by omega)))) rfl ?_
            refine zg_istore_n C [1, 2, 0, 3] (lv' := [(0, .ref m0), (1, .int (nI kn)), (2, .int (zb (zen R rc kn (i + 1 + 1)))), (3, .int (nI (i + 1)))]) dX6_isEnough_36 (by decide) rfl ?_
            refine zg_iinc C 3 [1, 2, 3, 0] (lv' := [(0, .ref m0), (1, .int (nI kn)), (2, .int (zb (zen R rc kn (i + 1 + 1)))), (3, .int (nI (i + 1 + 1)))]) (nI (i + 1 + 1)) dX6_isEnough_37 rfl (zi_inc _) (by decide) rfl ?_
            refine zg_goto C 4 dX6_isEnough_40 (by decide) ?_
            exact zg_cv (lv' := [(0, .ref m0), (1, .int (nI kn)), (2, .int (zb (zen R rc kn ((i + 1) + 1)))), (3, .int (nI ((i + 1) + 1)))]) (rfl) rfl (rfl) (ih_4 (by omega) )
          · skip
            refine zg_iconst (v := nI 1) C dX6_isEnough_31 (by decide) ?_
            refine zg_goto C 36 dX6_isEnough_32 (by decide) ?_
            refine zg_cv (st' := [.int (zb (zen R rc kn (i + 1 + 1)))]) rfl (congrArg (fun q9 => ([.int q9] : List Value)) (zbT (zen_good c_13 (fun q => by omega)))) rfl ?_
            refine zg_istore_n C [1, 2, 0, 3] (lv' := [(0, .ref m0), (1, .int (nI kn)), (2, .int (zb (zen R rc kn (i + 1 + 1)))), (3, .int (nI (i + 1)))]) dX6_isEnough_36 (by decide) rfl ?_
            refine zg_iinc C 3 [1, 2, 3, 0] (lv' := [(0, .ref m0), (1, .int (nI kn)), (2, .int (zb (zen R rc kn (i + 1 + 1)))), (3, .int (nI (i + 1 + 1)))]) (nI (i + 1 + 1)) dX6_isEnough_37 rfl (zi_inc _) (by decide) rfl ?_
            refine zg_goto C 4 dX6_isEnough_40 (by decide) ?_
            exact zg_cv (lv' := [(0, .ref m0), (1, .int (nI kn)), (2, .int (zb (zen R rc kn ((i + 1) + 1)))), (3, .int (nI ((i + 1) + 1)))]) (rfl) rfl (rfl) (ih_4 (by omega) )
  exact zg_cv (lv' := [(0, .ref m0), (1, .int (nI kn)), (2, .int (zb (zen R rc kn (0 + 1)))), (3, .int (nI (0 + 1)))]) (rfl) rfl (rfl) (L_4 0 (Nat.zero_le _) )
set_option maxHeartbeats 1000000 in
set_option maxRecDepth 100000 in
theorem c_X6_areSets (l : Launch) (D : va_G) (cI : ClassId) (m0 mp mo mv mn my ml : Nat) (pg Of V Nf Yf Lf : Nat → Int32) (pn rc ln rk su rd : Nat) (sd bs bp sr y1 y2 y3 dz : Int32) (hh : Int64) (x y : Int32) (hln : ln ≤ 10) : zMr l D cI yX6_areSets wsX6_areSets { frames := 2, cells := 0, slots := 0, locals := 43 } [.ref m0, .int x, .int y] [(m0, .inr (6, [.int (nI pn), .ref mp, .int (nI rc), .int (nI ln), .ref mo, .int sd, .ref mv, .int bs, .int bp, .int sr, .int y1, .int y2, .int y3, .ref mn, .ref my, .ref ml, .int (nI rk), .int dz, .int (nI su), .int (nI rd), .long hh])), (mp, .inl (cI, 56, .inl pg)), (mo, .inl (cI, 5, .inl Of)), (mv, .inl (cI, 4, .inl V)), (mn, .inl (cI, 5, .inl Nf)), (my, .inl (cI, 1024, .inl Yf)), (ml, .inl (cI, 32, .inl Lf))] (zb (decide (zin x (2 ^ ln) ∧ zin y (2 ^ ln) ∧ x &&& y = 0))) := by
  refine zr_ent (maxL := 3) (by decide) rfl (Nat.le_of_ble_eq_true rfl) (fun X C E => ?_)
  have C : zC X l D cI { frames := 2, cells := 0, slots := 0, locals := 43 } 3 false cX6_areSets RX6 wsX6_areSets := C
  refine zg_cv (lv' := [(0, .ref m0), (1, .int x), (2, .int y)]) rfl rfl rfl ?_
  refine zg_aload_n C 0 dX6_areSets_0 rfl ?_
  refine zg_iload_n C 1 dX6_areSets_1 rfl ?_
  refine zg_callr (As := [.int x]) (st := []) C [0, 1, 2, 3, 4, 5, 6] 0 1 (c_X6_isWord l D cI m0 mp mo mv mn my ml pg Of V Nf Yf Lf pn rc ln rk su rd sd bs bp sr y1 y2 y3 dz hh x hln) gX6_areSets_X6_isWord (by decide +kernel) rfl ⟨rfl, rfl⟩ ⟨Nat.le_of_ble_eq_true rfl, Nat.le_of_ble_eq_true rfl⟩ rfl (ci := 6) rfl rfl rfl rfl (Nat.le_of_ble_eq_true rfl) ⟨Nat.le_of_ble_eq_true rfl, Nat.le_of_ble_eq_true rfl⟩ dX6_areSets_2 ?_
  refine zp_if_eq C 26 dX6_areSets_5 (by decide) (fun c_5 => ?_) (fun c_5 => ?_)
  · skip
    refine zg_iconst (v := nI 0) C dX6_areSets_26 (by decide) ?_
    exact zg_zret C E dX6_areSets_27 (zbf (fun q => c_5 q.1))
  · skip
    refine zg_aload_n C 0 dX6_areSets_8 rfl ?_
    refine zg_iload_n C 2 dX6_areSets_9 rfl ?_
    refine zg_callr (As := [.int y]) (st := []) C [0, 1, 2, 3, 4, 5, 6] 0 1 (c_X6_isWord l D cI m0 mp mo mv mn my ml pg Of V Nf Yf Lf pn rc ln rk su rd sd bs bp sr y1 y2 y3 dz hh y hln) gX6_areSets_X6_isWord (by decide +kernel) rfl ⟨rfl, rfl⟩ ⟨Nat.le_of_ble_eq_true rfl, Nat.le_of_ble_eq_true rfl⟩ rfl (ci := 6) rfl rfl rfl rfl (Nat.le_of_ble_eq_true rfl) ⟨Nat.le_of_ble_eq_true rfl, Nat.le_of_ble_eq_true rfl⟩ dX6_areSets_10 ?_
    refine zp_if_eq C 26 dX6_areSets_13 (by decide) (fun c_13 => ?_) (fun c_13 => ?_)
    · skip
      refine zg_iconst (v := nI 0) C dX6_areSets_26 (by decide) ?_
      exact zg_zret C E dX6_areSets_27 (zbf (fun q => c_13 q.2.1))
    · skip
      refine zg_iload_n C 1 dX6_areSets_16 rfl ?_
      refine zg_iload_n C 2 dX6_areSets_17 rfl ?_
      refine zg_iand C dX6_areSets_18 (x &&& y) (rfl) ?_
      refine zg_if_ne C 26 dX6_areSets_19 (by decide) (fun c_19 => ?_) (fun c_19 => ?_)
      · skip
        refine zg_iconst (v := nI 0) C dX6_areSets_26 (by decide) ?_
        exact zg_zret C E dX6_areSets_27 (zbf (fun q => c_19 q.2.2))
      · skip
        refine zg_iconst (v := nI 1) C dX6_areSets_22 (by decide) ?_
        refine zg_goto C 27 dX6_areSets_23 (by decide) ?_
        exact zg_zret C E dX6_areSets_27 (zbt ⟨c_5, c_13, c_19⟩)
theorem uX6_share_6 : ∀ w ∈ u_ws RX6 TX6 21, w ∈ wsX6_share := fun w h => List.mem_cons_of_mem _ (List.mem_append_right _ h)
theorem fX6_share_6_16 : Cond.fieldLink RX6 78 (TX6 16).1 (TX6 16).2.1 (TX6 16).2.2.1 ∈ wsX6_share := by decide +kernel
set_option maxHeartbeats 1000000 in
set_option maxRecDepth 100000 in
theorem c_X6_share (l : Launch) (D : va_G) (cI : ClassId) (m0 mp mo mv mn my ml : Nat) (pg Of V Nf Yf Lf : Nat → Int32) (pn rc ln rk su rd : Nat) (sd bs bp sr y1 y2 y3 dz : Int32) (hh : Int64) (R : Nat → Nat) (x y z : Int32) (hM : zMm R Of Yf Lf rc ln rk dz su rd) (hln : ln ≤ 10) (hrc : rc ≤ 5) (hrl : 0 < rc ↔ 0 < ln) : zMr l D cI yX6_share wsX6_share { frames := 3, cells := 0, slots := 0, locals := 65 } [.ref m0, .int x, .int y, .int z] [(m0, .inr (6, [.int (nI pn), .ref mp, .int (nI rc), .int (nI ln), .ref mo, .int sd, .ref mv, .int bs, .int bp, .int sr, .int y1, .int y2, .int y3, .ref mn, .ref my, .ref ml, .int (nI rk), .int dz, .int (nI su), .int (nI rd), .long hh])), (mp, .inl (cI, 56, .inl pg)), (mo, .inl (cI, 5, .inl Of)), (mv, .inl (cI, 4, .inl V)), (mn, .inl (cI, 5, .inl Nf)), (my, .inl (cI, 1024, .inl Yf)), (ml, .inl (cI, 32, .inl Lf))] (zA ln ((zin x (2 ^ ln) ∧ zin y (2 ^ ln) ∧ x &&& y = 0) ∧ zin z 2) (zshare R rc ln (zn x) (zn y) z)) := by
  refine zr_ent (maxL := 4) (by decide) rfl (Nat.le_of_ble_eq_true rfl) (fun X C E => ?_)
  have C : zC X l D cI { frames := 3, cells := 0, slots := 0, locals := 65 } 4 false cX6_share RX6 wsX6_share := C
  refine zg_cv (lv' := [(0, .ref m0), (1, .int x), (2, .int y), (3, .int z)]) rfl rfl rfl ?_
  refine zg_aload_n C 0 dX6_share_0 rfl ?_
  refine zg_callr (As := []) (st := []) C [0, 1, 2, 3, 4, 5, 6] 0 0 (c_X6_isThere l D cI m0 mp mo mv mn my ml pg Of V Nf Yf Lf pn rc ln rk su rd sd bs bp sr y1 y2 y3 dz hh hrc) gX6_share_X6_isThere (by decide +kernel) rfl ⟨rfl, rfl⟩ ⟨Nat.le_of_ble_eq_true rfl, Nat.le_of_ble_eq_true rfl⟩ rfl (ci := 6) rfl rfl rfl rfl (Nat.le_of_ble_eq_true rfl) ⟨Nat.le_of_ble_eq_true rfl, Nat.le_of_ble_eq_true rfl⟩ dX6_share_1 ?_
  refine zp_if_ne C 11 dX6_share_4 (by decide) (fun c_4 => ?_) (fun c_4 => ?_)
  · skip
    have hl0 := hrl.mp c_4
    obtain ⟨m1, m3, hO, hRb, hY, hL, e1, e2, e3, e4⟩ := hM hl0
    have q0 := zpw hln
    have q1 := zpw0 ln
    have q5 := zpw5 hrc
    refine zg_aload_n C 0 dX6_share_11 rfl ?_
    refine zg_iload_n C 1 dX6_share_12 rfl ?_
    refine zg_iload_n C 2 dX6_share_13 rfl ?_
    refine zg_callr (As := [.int x, .int y]) (st := []) C [0, 1, 2, 3, 4, 5, 6] 0 2 (c_X6_areSets l D cI m0 mp mo mv mn my ml pg Of V Nf Yf Lf pn rc ln rk su rd sd bs bp sr y1 y2 y3 dz hh x y hln) gX6_share_X6_areSets (by decide +kernel) rfl ⟨rfl, rfl⟩ ⟨Nat.le_of_ble_eq_true rfl, Nat.le_of_ble_eq_true rfl⟩ rfl (ci := 6) rfl rfl rfl rfl (Nat.le_of_ble_eq_true rfl) ⟨Nat.le_of_ble_eq_true rfl, Nat.le_of_ble_eq_true rfl⟩ dX6_share_14 ?_
    refine zp_if_eq C 29 dX6_share_17 (by decide) (fun c_17 => ?_) (fun c_17 => ?_)
    · skip
      refine zg_sipush (v := (-1002)) C dX6_share_29 (by decide) ?_
      exact zg_iret C E dX6_share_32 ((zA_o hl0 (fun q => c_17 q.1)).symm)
    · skip
      refine zg_iload_n C 3 dX6_share_20 rfl ?_
      refine zg_iconst (v := nI 0) C dX6_share_21 (by decide) ?_
      refine zg_iconst (v := nI 1) C dX6_share_22 (by decide) ?_
      refine zg_calls (As := [.int z, .int (nI 0), .int (nI 1)]) (st := []) C [] 3 (c_X6_within l D cI z (nI 0) (nI 1) ) gX6_share_X6_within (by decide +kernel) rfl ⟨rfl, rfl⟩ ⟨Nat.le_of_ble_eq_true rfl, Nat.le_of_ble_eq_true rfl⟩ rfl rfl rfl (Nat.le_of_ble_eq_true rfl) ⟨Nat.le_of_ble_eq_true rfl, Nat.le_of_ble_eq_true rfl⟩ dX6_share_23 ?_
      refine zp_if_ne C 33 dX6_share_26 (by decide) (fun c_26 => ?_) (fun c_26 => ?_)
      · skip
        have hz : zin z 2 := (zin_le (N := 2) (by decide) (by decide)).mp c_26
        obtain ⟨i, hi, rfl⟩ := zin_of c_17.1 (by omega)
        obtain ⟨w, hw, rfl⟩ := zin_of c_17.2.1 (by omega)
        obtain ⟨j, hj, rfl⟩ := zin_of hz (by decide)
        have q6 : i ||| w < 2 ^ ln := Nat.or_lt_two_pow hi hw
        refine zg_iload_n C 3 dX6_share_33 rfl ?_
        refine zg_iconst (v := nI 1) C dX6_share_34 (by decide) ?_
        refine zn_icmp_ne C 54 (by omega) (by omega) dX6_share_35 (by decide) (fun c_35 => ?_) (fun c_35 => ?_)
        · skip
          refine zg_aload_n C 0 dX6_share_54 rfl ?_
          refine zg_iload_n C 1 dX6_share_55 rfl ?_
          refine zg_iload_n C 2 dX6_share_56 rfl ?_
          refine zg_ior C dX6_share_57 (nI (i ||| w)) (zi_or _ _) ?_
          refine zg_callr (As := [.int (nI (i ||| w))]) (st := []) C [0, 1, 2, 3, 4, 5, 6] 0 1 (c_X6_isEnough l D cI m0 mp mo mv mn my ml pg Of V Nf Yf Lf pn rc ln rk su rd sd bs bp sr y1 y2 y3 dz hh R (i ||| w) hrc hln hY (q6)) gX6_share_X6_isEnough (by decide +kernel) rfl ⟨rfl, rfl⟩ ⟨Nat.le_of_ble_eq_true rfl, Nat.le_of_ble_eq_true rfl⟩ rfl (ci := 6) rfl rfl rfl rfl (Nat.le_of_ble_eq_true rfl) ⟨Nat.le_of_ble_eq_true rfl, Nat.le_of_ble_eq_true rfl⟩ dX6_share_58 ?_
          refine zb_if_eq C 68 dX6_share_61 (by decide) (fun c_61 => ?_) (fun c_61 => ?_)
          · skip
            refine zg_iconst (v := nI 0) C dX6_share_68 (by decide) ?_
            exact zg_iret C E dX6_share_69 (by rw [zA_y hl0 ⟨c_17, hz⟩, zn_nI (by omega), zn_nI (by omega), zshare, if_pos (congrArg nI (show j = 0 by omega)), c_61]; rfl)
          · skip
            refine zg_iconst (v := nI 1) C dX6_share_64 (by decide) ?_
            refine zg_goto C 69 dX6_share_65 (by decide) ?_
            exact zg_iret C E dX6_share_69 (by rw [zA_y hl0 ⟨c_17, hz⟩, zn_nI (by omega), zn_nI (by omega), zshare, if_pos (congrArg nI (show j = 0 by omega)), c_61]; rfl)
        · skip
          refine zg_iconst (v := nI 2) C dX6_share_38 (by decide) ?_
          refine zg_aload_n C 0 dX6_share_39 rfl ?_
          refine zg_get C 0 (ci := 6) (f := 16) rfl rfl uX6_share_6 (by decide) fX6_share_6_16 dX6_share_40 rfl ?_
          refine zg_imul C dX6_share_43 (nI (2 * zrk R rc ln)) ((pk_mul _ _).trans (by rw [e1])) ?_
          refine zg_iload_n C 1 dX6_share_44 rfl ?_
          refine zg_iload_n C 2 dX6_share_45 rfl ?_
          refine zg_ior C dX6_share_46 (nI (i ||| w)) (zi_or _ _) ?_
          refine zg_calls (As := [.int (nI (i ||| w))]) (st := [.int (nI (2 * zrk R rc ln))]) C [] 1 (c_X6_ones l D cI (i ||| w) (by omega)) gX6_share_X6_ones (by decide +kernel) rfl ⟨rfl, rfl⟩ ⟨Nat.le_of_ble_eq_true rfl, Nat.le_of_ble_eq_true rfl⟩ rfl rfl rfl (Nat.le_of_ble_eq_true rfl) ⟨Nat.le_of_ble_eq_true rfl, Nat.le_of_ble_eq_true rfl⟩ dX6_share_47 ?_
          refine zg_iadd C dX6_share_50 (nI ((2 * zrk R rc ln) + (zpc (i ||| w)))) (nI_add _ _) ?_
          refine zg_goto C 69 dX6_share_51 (by decide) ?_
          exact zg_iret C E dX6_share_69 (by rw [zA_y hl0 ⟨c_17, hz⟩, zn_nI (by omega), zn_nI (by omega), zshare, if_neg (fun q => by have := (nI_eq (a := j) (b := 0) (by omega) (by decide)).mp q; omega)])
      · skip
        refine zg_sipush (v := (-1002)) C dX6_share_29 (by decide) ?_
        exact zg_iret C E dX6_share_32 ((zA_o hl0 (fun q => c_26 ((zin_le (N := 2) (by decide) (by decide)).mpr q.2))).symm)
  · skip
    refine zg_sipush (v := (-1003)) C dX6_share_7 (by decide) ?_
    exact zg_iret C E dX6_share_10 ((zA_n (fun q => c_4 (hrl.mpr q))).symm)
theorem uX6_sharedNow_6 : ∀ w ∈ u_ws RX6 TX6 21, w ∈ wsX6_sharedNow := fun w h => List.mem_cons_of_mem _ (List.mem_append_right _ h)
theorem fX6_sharedNow_6_14 : Cond.fieldLink RX6 26 (TX6 14).1 (TX6 14).2.1 (TX6 14).2.2.1 ∈ wsX6_sharedNow := by decide +kernel
set_option maxHeartbeats 1000000 in
set_option maxRecDepth 100000 in
theorem c_X6_sharedNow (l : Launch) (D : va_G) (cI : ClassId) (m0 mp mo mv mn my ml : Nat) (pg Of V Nf Yf Lf : Nat → Int32) (pn rc ln rk su rd : Nat) (sd bs bp sr y1 y2 y3 dz : Int32) (hh : Int64) (R : Nat → Nat) (one other x y : Nat) (z : Int32) (hrc : rc ≤ 5) (hln : ln ≤ 10) (hY : ∀ w, w < 2 ^ ln → Yf w = nI (zsk R w rc)) (hL : ∀ y, y < 32 → Lf y = zo (zld R rc (2 ^ ln) y)) (hx : x < 2 ^ ln) (hy : y < 2 ^ ln) (h1 : one < 2 ^ ln) (h2 : other < 2 ^ ln) : zMr l D cI yX6_sharedNow wsX6_sharedNow { frames := 2, cells := 0, slots := 0, locals := 43 } [.ref m0, .int (nI one), .int (nI other), .int (nI x), .int (nI y), .int z] [(m0, .inr (6, [.int (nI pn), .ref mp, .int (nI rc), .int (nI ln), .ref mo, .int sd, .ref mv, .int bs, .int bp, .int sr, .int y1, .int y2, .int y3, .ref mn, .ref my, .ref ml, .int (nI rk), .int dz, .int (nI su), .int (nI rd), .long hh])), (mp, .inl (cI, 56, .inl pg)), (mo, .inl (cI, 5, .inl Of)), (mv, .inl (cI, 4, .inl V)), (mn, .inl (cI, 5, .inl Nf)), (my, .inl (cI, 1024, .inl Yf)), (ml, .inl (cI, 32, .inl Lf))] (zshrd R rc ln one other x y z) := by
  refine zr_ent (maxL := 10) (by decide) rfl (Nat.le_of_ble_eq_true rfl) (fun X C E => ?_)
  have C : zC X l D cI { frames := 2, cells := 0, slots := 0, locals := 43 } 10 false cX6_sharedNow RX6 wsX6_sharedNow := C
  refine zg_cv (lv' := [(0, .ref m0), (1, .int (nI one)), (2, .int (nI other)), (3, .int (nI x)), (4, .int (nI y)), (5, .int z)]) rfl rfl rfl ?_
  have q0 := zpw hln
  have q1 := zpw0 ln
  have q5 := zpw5 hrc
  have hf := zfl_some R rc hx hy
  have q2 := zfl_lt R rc hx hy
  have q3 : one ||| other < 2 ^ ln := Nat.or_lt_two_pow h1 h2
  have q4 : (x &&& one ||| (y ^^^ zfl R rc ln x y) &&& other) < 2 ^ ln := Nat.or_lt_two_pow (Nat.and_lt_two_pow _ h1) (Nat.and_lt_two_pow _ h2)
  have q6 := zsk_lt R x rc
  refine zg_aload_n C 0 dX6_sharedNow_0 rfl ?_
  refine zg_iload_n C 1 dX6_sharedNow_1 rfl ?_
  refine zg_iload_n C 2 dX6_sharedNow_2 rfl ?_
  refine zg_ior C dX6_sharedNow_3 (nI (one ||| other)) (zi_or _ _) ?_
  refine zg_callr (As := [.int (nI (one ||| other))]) (st := []) C [0, 1, 2, 3, 4, 5, 6] 0 1 (c_X6_isEnough l D cI m0 mp mo mv mn my ml pg Of V Nf Yf Lf pn rc ln rk su rd sd bs bp sr y1 y2 y3 dz hh R (one ||| other) hrc hln hY (q3)) gX6_sharedNow_X6_isEnough (by decide +kernel) rfl ⟨rfl, rfl⟩ ⟨Nat.le_of_ble_eq_true rfl, Nat.le_of_ble_eq_true rfl⟩ rfl (ci := 6) rfl rfl rfl rfl (Nat.le_of_ble_eq_true rfl) ⟨Nat.le_of_ble_eq_true rfl, Nat.le_of_ble_eq_true rfl⟩ dX6_sharedNow_4 ?_
  refine zb_if_ne C 14 dX6_sharedNow_7 (by decide) (fun c_7 => ?_) (fun c_7 => ?_)
  · skip
    refine zg_aload_n C 0 dX6_sharedNow_14 rfl ?_
    refine zg_iload_n C 3 dX6_sharedNow_15 rfl ?_
    refine zg_iload C 4 dX6_sharedNow_16 rfl ?_
    refine zg_callr (As := [.int (nI x), .int (nI y)]) (st := []) C [0, 1, 2, 3, 4, 5, 6] 0 2 (c_X6_flipsOf l D cI m0 mp mo mv mn my ml pg Of V Nf Yf Lf pn rc ln rk su rd sd bs bp sr y1 y2 y3 dz hh R x y (zfl R rc ln x y) hrc hln hY hL (hf) hx hy) gX6_sharedNow_X6_flipsOf (by decide +kernel) rfl ⟨rfl, rfl⟩ ⟨Nat.le_of_ble_eq_true rfl, Nat.le_of_ble_eq_true rfl⟩ rfl (ci := 6) rfl rfl rfl rfl (Nat.le_of_ble_eq_true rfl) ⟨Nat.le_of_ble_eq_true rfl, Nat.le_of_ble_eq_true rfl⟩ dX6_sharedNow_18 ?_
    refine zg_istore C [1, 2, 3, 4, 5, 6, 0] (lv' := [(0, .ref m0), (1, .int (nI one)), (2, .int (nI other)), (3, .int (nI x)), (4, .int (nI y)), (5, .int z), (6, .int (nI (zfl R rc ln x y)))]) dX6_sharedNow_21 (by decide) rfl ?_
    refine zg_iload_n C 3 dX6_sharedNow_23 rfl ?_
    refine zg_iload_n C 1 dX6_sharedNow_24 rfl ?_
    refine zg_iand C dX6_sharedNow_25 (nI (x &&& one)) (zi_and _ _) ?_
    refine zg_iload C 4 dX6_sharedNow_26 rfl ?_
    refine zg_iload C 6 dX6_sharedNow_28 rfl ?_
    refine zg_ixor C dX6_sharedNow_30 (nI (y ^^^ (zfl R rc ln x y))) (zi_xor _ _) ?_
    refine zg_iload_n C 2 dX6_sharedNow_31 rfl ?_
    refine zg_iand C dX6_sharedNow_32 (nI ((y ^^^ (zfl R rc ln x y)) &&& other)) (zi_and _ _) ?_
    refine zg_ior C dX6_sharedNow_33 (nI ((x &&& one) ||| ((y ^^^ (zfl R rc ln x y)) &&& other))) (zi_or _ _) ?_
    refine zg_istore C [1, 2, 3, 4, 5, 6, 7, 0] (lv' := [(0, .ref m0), (1, .int (nI one)), (2, .int (nI other)), (3, .int (nI x)), (4, .int (nI y)), (5, .int z), (6, .int (nI (zfl R rc ln x y))), (7, .int (nI ((x &&& one) ||| ((y ^^^ (zfl R rc ln x y)) &&& other))))]) dX6_sharedNow_34 (by decide) rfl ?_
    refine zg_sipush (v := (-1001)) C dX6_sharedNow_36 (by decide) ?_
    refine zg_istore C [1, 2, 3, 4, 5, 6, 7, 8, 0] (lv' := [(0, .ref m0), (1, .int (nI one)), (2, .int (nI other)), (3, .int (nI x)), (4, .int (nI y)), (5, .int z), (6, .int (nI (zfl R rc ln x y))), (7, .int (nI ((x &&& one) ||| ((y ^^^ (zfl R rc ln x y)) &&& other)))), (8, .int (-1001))]) dX6_sharedNow_39 (by decide) rfl ?_
    refine zg_iconst (v := nI 0) C dX6_sharedNow_41 (by decide) ?_
    refine zg_istore C [1, 2, 3, 4, 5, 6, 7, 8, 9, 0] (lv' := [(0, .ref m0), (1, .int (nI one)), (2, .int (nI other)), (3, .int (nI x)), (4, .int (nI y)), (5, .int z), (6, .int (nI (zfl R rc ln x y))), (7, .int (nI ((x &&& one) ||| ((y ^^^ (zfl R rc ln x y)) &&& other)))), (8, .int (-1001)), (9, .int (nI 0))]) dX6_sharedNow_42 (by decide) rfl ?_
    have L_44 : ∀ i, i ≤ 2 ^ ln → zG X 0 0 [(0, .ref m0), (1, .int (nI one)), (2, .int (nI other)), (3, .int (nI x)), (4, .int (nI y)), (5, .int z), (6, .int (nI (zfl R rc ln x y))), (7, .int (nI ((x &&& one) ||| ((y ^^^ (zfl R rc ln x y)) &&& other)))), (8, .int (zo (zls (zsp R rc one other x y (zfl R rc ln x y)) i))), (9, .int (nI i))] [] [(m0, .inr (6, [.int (nI pn), .ref mp, .int (nI rc), .int (nI ln), .ref mo, .int sd, .ref mv, .int bs, .int bp, .int sr, .int y1, .int y2, .int y3, .ref mn, .ref my, .ref ml, .int (nI rk), .int dz, .int (nI su), .int (nI rd), .long hh])), (mp, .inl (cI, 56, .inl pg)), (mo, .inl (cI, 5, .inl Of)), (mv, .inl (cI, 4, .inl V)), (mn, .inl (cI, 5, .inl Nf)), (my, .inl (cI, 1024, .inl Yf)), (ml, .inl (cI, 32, .inl Lf))] 44 := by
      refine zg_dn (fun i hi ih_44  => ?_)
      refine zg_iload C 9 dX6_sharedNow_44 rfl ?_
      refine zg_aload_n C 0 dX6_sharedNow_46 rfl ?_
      refine zg_callr (As := []) (st := [.int (nI i)]) C [0, 1, 2, 3, 4, 5, 6] 0 0 (c_X6_words l D cI m0 mp mo mv mn my ml pg Of V Nf Yf Lf pn rc ln rk su rd sd bs bp sr y1 y2 y3 dz hh hln) gX6_sharedNow_X6_words (by decide +kernel) rfl ⟨rfl, rfl⟩ ⟨Nat.le_of_ble_eq_true rfl, Nat.le_of_ble_eq_true rfl⟩ rfl (ci := 6) rfl rfl rfl rfl (Nat.le_of_ble_eq_true rfl) ⟨Nat.le_of_ble_eq_true rfl, Nat.le_of_ble_eq_true rfl⟩ dX6_sharedNow_47 ?_
      refine zn_icmp_ge C 95 (by omega) (by omega) dX6_sharedNow_50 (by decide) (fun c_50 => ?_) (fun c_50 => ?_)
      · skip
        have e9_95 : 2 ^ ln = i := by omega
        subst e9_95
        refine zg_cv (lv' := [(0, .ref m0), (1, .int (nI one)), (2, .int (nI other)), (3, .int (nI x)), (4, .int (nI y)), (5, .int z), (6, .int (nI (zfl R rc ln x y))), (7, .int (nI ((x &&& one) ||| ((y ^^^ (zfl R rc ln x y)) &&& other)))), (8, .int (zsh R rc ln one other x y (zfl R rc ln x y))), (9, .int (nI (2 ^ ln)))]) (congrArg (fun q9 => ([(0, .ref m0), (1, .int (nI one)), (2, .int (nI other)), (3, .int (nI x)), (4, .int (nI y)), (5, .int z), (6, .int (nI (zfl R rc ln x y))), (7, .int (nI ((x &&& one) ||| ((y ^^^ (zfl R rc ln x y)) &&& other)))), (8, .int q9), (9, .int (nI (2 ^ ln)))] : List (Nat × Value))) (zsh_last c_7)) rfl rfl ?_
        refine zg_iload C 8 dX6_sharedNow_95 rfl ?_
        refine zg_sipush (v := (-1001)) C dX6_sharedNow_97 (by decide) ?_
        refine zg_icmp_eq C 108 dX6_sharedNow_100 (by decide) (fun c_100 => ?_) (fun c_100 => ?_)
        · skip
          refine zg_iload C 8 dX6_sharedNow_108 rfl ?_
          refine zg_goto C 118 dX6_sharedNow_110 (by decide) ?_
          exact zg_iret C E dX6_sharedNow_118 (by rw [zshrd, if_pos (Or.inl c_100)])
        · skip
          refine zg_iload C 5 dX6_sharedNow_103 rfl ?_
          refine zg_if_ne C 113 dX6_sharedNow_105 (by decide) (fun c_105 => ?_) (fun c_105 => ?_)
          · skip
            refine zg_iload C 8 dX6_sharedNow_113 rfl ?_
            refine zg_iload C 6 dX6_sharedNow_115 rfl ?_
            refine zg_ixor C dX6_sharedNow_117 ((zsh R rc ln one other x y (zfl R rc ln x y)) ^^^ (nI (zfl R rc ln x y))) (rfl) ?_
            exact zg_iret C E dX6_sharedNow_118 (by rw [zshrd, if_neg (fun q => q.elim c_100 c_105)])
          · skip
            refine zg_iload C 8 dX6_sharedNow_108 rfl ?_
            refine zg_goto C 118 dX6_sharedNow_110 (by decide) ?_
            exact zg_iret C E dX6_sharedNow_118 (by rw [zshrd, if_pos (Or.inr c_105)])
      · skip
        refine zg_aload_n C 0 dX6_sharedNow_53 rfl ?_
        refine zg_get C 0 (ci := 6) (f := 14) rfl rfl uX6_sharedNow_6 (by decide) fX6_sharedNow_6_14 dX6_sharedNow_54 rfl ?_
        refine zg_iload C 9 dX6_sharedNow_57 rfl ?_
        refine zg_iald C 5 rfl (by omega) (by decide) dX6_sharedNow_59 (nI (zsk R i rc)) (hY i (by omega)) ?_
        refine zg_aload_n C 0 dX6_sharedNow_60 rfl ?_
        refine zg_get C 0 (ci := 6) (f := 14) rfl rfl uX6_sharedNow_6 (by decide) fX6_sharedNow_6_14 dX6_sharedNow_61 rfl ?_
        refine zg_iload_n C 3 dX6_sharedNow_64 rfl ?_
        refine zg_iald C 5 rfl (by omega) (by decide) dX6_sharedNow_65 (nI (zsk R x rc)) (hY x hx) ?_
        have q8 := zsk_lt R i rc
        refine zn_icmp_ne C 85 (by omega) (by omega) dX6_sharedNow_66 (by decide) (fun c_66 => ?_) (fun c_66 => ?_)
        · skip
          refine zg_iload C 8 dX6_sharedNow_85 rfl ?_
          refine zg_istore C [1, 2, 3, 4, 5, 6, 7, 8, 0, 9] (lv' := [(0, .ref m0), (1, .int (nI one)), (2, .int (nI other)), (3, .int (nI x)), (4, .int (nI y)), (5, .int z), (6, .int (nI (zfl R rc ln x y))), (7, .int (nI ((x &&& one) ||| ((y ^^^ (zfl R rc ln x y)) &&& other)))), (8, .int (zo (zls (zsp R rc one other x y (zfl R rc ln x y)) i))), (9, .int (nI i))]) dX6_sharedNow_87 (by decide) rfl ?_
          refine zg_iinc C 9 [1, 2, 3, 4, 5, 6, 7, 8, 9, 0] (lv' := [(0, .ref m0), (1, .int (nI one)), (2, .int (nI other)), (3, .int (nI x)), (4, .int (nI y)), (5, .int z), (6, .int (nI (zfl R rc ln x y))), (7, .int (nI ((x &&& one) ||| ((y ^^^ (zfl R rc ln x y)) &&& other)))), (8, .int (zo (zls (zsp R rc one other x y (zfl R rc ln x y)) i))), (9, .int (nI (i + 1)))]) (nI (i + 1)) dX6_sharedNow_89 rfl (zi_inc _) (by decide) rfl ?_
          refine zg_goto C 44 dX6_sharedNow_92 (by decide) ?_
          exact zg_cv (lv' := [(0, .ref m0), (1, .int (nI one)), (2, .int (nI other)), (3, .int (nI x)), (4, .int (nI y)), (5, .int z), (6, .int (nI (zfl R rc ln x y))), (7, .int (nI ((x &&& one) ||| ((y ^^^ (zfl R rc ln x y)) &&& other)))), (8, .int (zo (zls (zsp R rc one other x y (zfl R rc ln x y)) (i + 1)))), (9, .int (nI (i + 1)))]) (by rw [zls_miss (fun q => c_66 (of_decide_eq_true q).2)]) rfl (rfl) (ih_44 (by omega) )
        · skip
          refine zg_iload C 9 dX6_sharedNow_69 rfl ?_
          refine zg_iload_n C 1 dX6_sharedNow_71 rfl ?_
          refine zg_iload_n C 2 dX6_sharedNow_72 rfl ?_
          refine zg_ior C dX6_sharedNow_73 (nI (one ||| other)) (zi_or _ _) ?_
          refine zg_iand C dX6_sharedNow_74 (nI (i &&& (one ||| other))) (zi_and _ _) ?_
          refine zg_iload C 7 dX6_sharedNow_75 rfl ?_
          have q7 : i &&& (one ||| other) ≤ one ||| other := Nat.and_le_right
          refine zn_icmp_ne C 85 (by omega) (by omega) dX6_sharedNow_77 (by decide) (fun c_77 => ?_) (fun c_77 => ?_)
          · skip
            refine zg_iload C 8 dX6_sharedNow_85 rfl ?_
            refine zg_istore C [1, 2, 3, 4, 5, 6, 7, 8, 0, 9] (lv' := [(0, .ref m0), (1, .int (nI one)), (2, .int (nI other)), (3, .int (nI x)), (4, .int (nI y)), (5, .int z), (6, .int (nI (zfl R rc ln x y))), (7, .int (nI ((x &&& one) ||| ((y ^^^ (zfl R rc ln x y)) &&& other)))), (8, .int (zo (zls (zsp R rc one other x y (zfl R rc ln x y)) i))), (9, .int (nI i))]) dX6_sharedNow_87 (by decide) rfl ?_
            refine zg_iinc C 9 [1, 2, 3, 4, 5, 6, 7, 8, 9, 0] (lv' := [(0, .ref m0), (1, .int (nI one)), (2, .int (nI other)), (3, .int (nI x)), (4, .int (nI y)), (5, .int z), (6, .int (nI (zfl R rc ln x y))), (7, .int (nI ((x &&& one) ||| ((y ^^^ (zfl R rc ln x y)) &&& other)))), (8, .int (zo (zls (zsp R rc one other x y (zfl R rc ln x y)) i))), (9, .int (nI (i + 1)))]) (nI (i + 1)) dX6_sharedNow_89 rfl (zi_inc _) (by decide) rfl ?_
            refine zg_goto C 44 dX6_sharedNow_92 (by decide) ?_
            exact zg_cv (lv' := [(0, .ref m0), (1, .int (nI one)), (2, .int (nI other)), (3, .int (nI x)), (4, .int (nI y)), (5, .int z), (6, .int (nI (zfl R rc ln x y))), (7, .int (nI ((x &&& one) ||| ((y ^^^ (zfl R rc ln x y)) &&& other)))), (8, .int (zo (zls (zsp R rc one other x y (zfl R rc ln x y)) (i + 1)))), (9, .int (nI (i + 1)))]) (by rw [zls_miss (fun q => c_77 (of_decide_eq_true q).1)]) rfl (rfl) (ih_44 (by omega) )
          · skip
            refine zg_iload C 9 dX6_sharedNow_80 rfl ?_
            refine zg_goto C 87 dX6_sharedNow_82 (by decide) ?_
            refine zg_istore C [1, 2, 3, 4, 5, 6, 7, 8, 0, 9] (lv' := [(0, .ref m0), (1, .int (nI one)), (2, .int (nI other)), (3, .int (nI x)), (4, .int (nI y)), (5, .int z), (6, .int (nI (zfl R rc ln x y))), (7, .int (nI ((x &&& one) ||| ((y ^^^ (zfl R rc ln x y)) &&& other)))), (8, .int (nI i)), (9, .int (nI i))]) dX6_sharedNow_87 (by decide) rfl ?_
            refine zg_iinc C 9 [1, 2, 3, 4, 5, 6, 7, 8, 9, 0] (lv' := [(0, .ref m0), (1, .int (nI one)), (2, .int (nI other)), (3, .int (nI x)), (4, .int (nI y)), (5, .int z), (6, .int (nI (zfl R rc ln x y))), (7, .int (nI ((x &&& one) ||| ((y ^^^ (zfl R rc ln x y)) &&& other)))), (8, .int (nI i)), (9, .int (nI (i + 1)))]) (nI (i + 1)) dX6_sharedNow_89 rfl (zi_inc _) (by decide) rfl ?_
            refine zg_goto C 44 dX6_sharedNow_92 (by decide) ?_
            exact zg_cv (lv' := [(0, .ref m0), (1, .int (nI one)), (2, .int (nI other)), (3, .int (nI x)), (4, .int (nI y)), (5, .int z), (6, .int (nI (zfl R rc ln x y))), (7, .int (nI ((x &&& one) ||| ((y ^^^ (zfl R rc ln x y)) &&& other)))), (8, .int (zo (zls (zsp R rc one other x y (zfl R rc ln x y)) (i + 1)))), (9, .int (nI (i + 1)))]) (by rw [zls_hit (p := (zsp R rc one other x y (zfl R rc ln x y))) (decide_eq_true ⟨c_77, c_66⟩)]; rfl) rfl (rfl) (ih_44 (by omega) )
    exact zg_cv (lv' := [(0, .ref m0), (1, .int (nI one)), (2, .int (nI other)), (3, .int (nI x)), (4, .int (nI y)), (5, .int z), (6, .int (nI (zfl R rc ln x y))), (7, .int (nI ((x &&& one) ||| ((y ^^^ (zfl R rc ln x y)) &&& other)))), (8, .int (zo (zls (zsp R rc one other x y (zfl R rc ln x y)) 0))), (9, .int (nI 0))]) (rfl) rfl (rfl) (L_44 0 (Nat.zero_le _) )
  · skip
    refine zg_sipush (v := (-1001)) C dX6_sharedNow_10 (by decide) ?_
    have e13 : zsh R rc ln one other x y (zfl R rc ln x y) = -1001 := if_neg (by rw [c_7]; decide)
    exact zg_iret C E dX6_sharedNow_13 (by rw [zshrd, if_pos (Or.inl e13), e13])
set_option maxHeartbeats 1000000 in
set_option maxRecDepth 100000 in
theorem c_X6_shared (l : Launch) (D : va_G) (cI : ClassId) (m0 mp mo mv mn my ml : Nat) (pg Of V Nf Yf Lf : Nat → Int32) (pn rc ln rk su rd : Nat) (sd bs bp sr y1 y2 y3 dz : Int32) (hh : Int64) (R : Nat → Nat) (u v x y z : Int32) (hM : zMm R Of Yf Lf rc ln rk dz su rd) (hln : ln ≤ 10) (hrc : rc ≤ 5) (hrl : 0 < rc ↔ 0 < ln) : zMr l D cI yX6_shared wsX6_shared { frames := 3, cells := 0, slots := 0, locals := 72 } [.ref m0, .int u, .int v, .int x, .int y, .int z] [(m0, .inr (6, [.int (nI pn), .ref mp, .int (nI rc), .int (nI ln), .ref mo, .int sd, .ref mv, .int bs, .int bp, .int sr, .int y1, .int y2, .int y3, .ref mn, .ref my, .ref ml, .int (nI rk), .int dz, .int (nI su), .int (nI rd), .long hh])), (mp, .inl (cI, 56, .inl pg)), (mo, .inl (cI, 5, .inl Of)), (mv, .inl (cI, 4, .inl V)), (mn, .inl (cI, 5, .inl Nf)), (my, .inl (cI, 1024, .inl Yf)), (ml, .inl (cI, 32, .inl Lf))] (zA ln ((zin u (2 ^ ln) ∧ zin v (2 ^ ln) ∧ u &&& v = 0) ∧ zin x (2 ^ ln) ∧ zin y (2 ^ ln)) (zshrd R rc ln (zn u) (zn v) (zn x) (zn y) z)) := by
  refine zr_ent (maxL := 6) (by decide) rfl (Nat.le_of_ble_eq_true rfl) (fun X C E => ?_)
  have C : zC X l D cI { frames := 3, cells := 0, slots := 0, locals := 72 } 6 false cX6_shared RX6 wsX6_shared := C
  refine zg_cv (lv' := [(0, .ref m0), (1, .int u), (2, .int v), (3, .int x), (4, .int y), (5, .int z)]) rfl rfl rfl ?_
  refine zg_aload_n C 0 dX6_shared_0 rfl ?_
  refine zg_callr (As := []) (st := []) C [0, 1, 2, 3, 4, 5, 6] 0 0 (c_X6_isThere l D cI m0 mp mo mv mn my ml pg Of V Nf Yf Lf pn rc ln rk su rd sd bs bp sr y1 y2 y3 dz hh hrc) gX6_shared_X6_isThere (by decide +kernel) rfl ⟨rfl, rfl⟩ ⟨Nat.le_of_ble_eq_true rfl, Nat.le_of_ble_eq_true rfl⟩ rfl (ci := 6) rfl rfl rfl rfl (Nat.le_of_ble_eq_true rfl) ⟨Nat.le_of_ble_eq_true rfl, Nat.le_of_ble_eq_true rfl⟩ dX6_shared_1 ?_
  refine zp_if_ne C 11 dX6_shared_4 (by decide) (fun c_4 => ?_) (fun c_4 => ?_)
  · skip
    have hl0 := hrl.mp c_4
    obtain ⟨m1, m3, hO, hRb, hY, hL, e1, e2, e3, e4⟩ := hM hl0
    have q0 := zpw hln
    have q1 := zpw0 ln
    have q5 := zpw5 hrc
    refine zg_aload_n C 0 dX6_shared_11 rfl ?_
    refine zg_iload_n C 1 dX6_shared_12 rfl ?_
    refine zg_iload_n C 2 dX6_shared_13 rfl ?_
    refine zg_callr (As := [.int u, .int v]) (st := []) C [0, 1, 2, 3, 4, 5, 6] 0 2 (c_X6_areSets l D cI m0 mp mo mv mn my ml pg Of V Nf Yf Lf pn rc ln rk su rd sd bs bp sr y1 y2 y3 dz hh u v hln) gX6_shared_X6_areSets (by decide +kernel) rfl ⟨rfl, rfl⟩ ⟨Nat.le_of_ble_eq_true rfl, Nat.le_of_ble_eq_true rfl⟩ rfl (ci := 6) rfl rfl rfl rfl (Nat.le_of_ble_eq_true rfl) ⟨Nat.le_of_ble_eq_true rfl, Nat.le_of_ble_eq_true rfl⟩ dX6_shared_14 ?_
    refine zp_if_eq C 51 dX6_shared_17 (by decide) (fun c_17 => ?_) (fun c_17 => ?_)
    · skip
      refine zg_sipush (v := (-1002)) C dX6_shared_51 (by decide) ?_
      exact zg_iret C E dX6_shared_54 ((zA_o hl0 (fun q => c_17 q.1)).symm)
    · skip
      refine zg_aload_n C 0 dX6_shared_20 rfl ?_
      refine zg_iload_n C 3 dX6_shared_21 rfl ?_
      refine zg_callr (As := [.int x]) (st := []) C [0, 1, 2, 3, 4, 5, 6] 0 1 (c_X6_isWord l D cI m0 mp mo mv mn my ml pg Of V Nf Yf Lf pn rc ln rk su rd sd bs bp sr y1 y2 y3 dz hh x hln) gX6_shared_X6_isWord (by decide +kernel) rfl ⟨rfl, rfl⟩ ⟨Nat.le_of_ble_eq_true rfl, Nat.le_of_ble_eq_true rfl⟩ rfl (ci := 6) rfl rfl rfl rfl (Nat.le_of_ble_eq_true rfl) ⟨Nat.le_of_ble_eq_true rfl, Nat.le_of_ble_eq_true rfl⟩ dX6_shared_22 ?_
      refine zp_if_eq C 51 dX6_shared_25 (by decide) (fun c_25 => ?_) (fun c_25 => ?_)
      · skip
        refine zg_sipush (v := (-1002)) C dX6_shared_51 (by decide) ?_
        exact zg_iret C E dX6_shared_54 ((zA_o hl0 (fun q => c_25 q.2.1)).symm)
      · skip
        refine zg_aload_n C 0 dX6_shared_28 rfl ?_
        refine zg_iload C 4 dX6_shared_29 rfl ?_
        refine zg_callr (As := [.int y]) (st := []) C [0, 1, 2, 3, 4, 5, 6] 0 1 (c_X6_isWord l D cI m0 mp mo mv mn my ml pg Of V Nf Yf Lf pn rc ln rk su rd sd bs bp sr y1 y2 y3 dz hh y hln) gX6_shared_X6_isWord (by decide +kernel) rfl ⟨rfl, rfl⟩ ⟨Nat.le_of_ble_eq_true rfl, Nat.le_of_ble_eq_true rfl⟩ rfl (ci := 6) rfl rfl rfl rfl (Nat.le_of_ble_eq_true rfl) ⟨Nat.le_of_ble_eq_true rfl, Nat.le_of_ble_eq_true rfl⟩ dX6_shared_31 ?_
        refine zp_if_eq C 51 dX6_shared_34 (by decide) (fun c_34 => ?_) (fun c_34 => ?_)
        · skip
          refine zg_sipush (v := (-1002)) C dX6_shared_51 (by decide) ?_
          exact zg_iret C E dX6_shared_54 ((zA_o hl0 (fun q => c_34 q.2.2)).symm)
        · skip
          obtain ⟨i, hi, rfl⟩ := zin_of c_17.1 (by omega)
          obtain ⟨w, hw, rfl⟩ := zin_of c_17.2.1 (by omega)
          obtain ⟨k, hk, rfl⟩ := zin_of c_25 (by omega)
          obtain ⟨j, hj, rfl⟩ := zin_of c_34 (by omega)
          refine zg_aload_n C 0 dX6_shared_37 rfl ?_
          refine zg_iload_n C 1 dX6_shared_38 rfl ?_
          refine zg_iload_n C 2 dX6_shared_39 rfl ?_
          refine zg_iload_n C 3 dX6_shared_40 rfl ?_
          refine zg_iload C 4 dX6_shared_41 rfl ?_
          refine zg_iload C 5 dX6_shared_43 rfl ?_
          refine zg_callr (As := [.int (nI i), .int (nI w), .int (nI k), .int (nI j), .int z]) (st := []) C [0, 1, 2, 3, 4, 5, 6] 0 5 (c_X6_sharedNow l D cI m0 mp mo mv mn my ml pg Of V Nf Yf Lf pn rc ln rk su rd sd bs bp sr y1 y2 y3 dz hh R i w k j z hrc hln hY (by omega) (hk) (hj) (hi) (hw)) gX6_shared_X6_sharedNow (by decide +kernel) rfl ⟨rfl, rfl⟩ ⟨Nat.le_of_ble_eq_true rfl, Nat.le_of_ble_eq_true rfl⟩ rfl (ci := 6) rfl rfl rfl rfl (Nat.le_of_ble_eq_true rfl) ⟨Nat.le_of_ble_eq_true rfl, Nat.le_of_ble_eq_true rfl⟩ dX6_shared_45 ?_
          refine zg_goto C 54 dX6_shared_48 (by decide) ?_
          exact zg_iret C E dX6_shared_54 (by rw [zA_y hl0 ⟨c_17, c_25, c_34⟩, zn_nI (by omega), zn_nI (by omega), zn_nI (by omega), zn_nI (by omega)])
  · skip
    refine zg_sipush (v := (-1003)) C dX6_shared_7 (by decide) ?_
    exact zg_iret C E dX6_shared_10 ((zA_n (fun q => c_4 (hrl.mpr q))).symm)
theorem wX6_draw_0 : Cond.constantLong RX6 151 (1103515245) ∈ wsX6_draw := by decide +kernel
theorem uX6_draw_6 : ∀ w ∈ u_ws RX6 TX6 21, w ∈ wsX6_draw := fun w h => List.mem_cons_of_mem _ (List.mem_append_right _ h)
theorem fX6_draw_6_5 : Cond.fieldLink RX6 16 (TX6 5).1 (TX6 5).2.1 (TX6 5).2.2.1 ∈ wsX6_draw := by decide +kernel
theorem wX6_draw_1 : Cond.constantLong RX6 153 (12345) ∈ wsX6_draw := by decide +kernel
theorem wX6_draw_2 : Cond.constantLong RX6 155 (2147483648) ∈ wsX6_draw := by decide +kernel
theorem wX6_draw_3 : Cond.constantLong RX6 157 (65536) ∈ wsX6_draw := by decide +kernel
set_option maxHeartbeats 1000000 in
set_option maxRecDepth 100000 in
theorem c_X6_draw (l : Launch) (D : va_G) (cI : ClassId) (m0 mp mo mv mn my ml : Nat) (pg Of V Nf Yf Lf : Nat → Int32) (pn rc ln rk su rd : Nat) (bs bp sr y1 y2 y3 dz : Int32) (hh : Int64) (s : Nat) (b : Nat) (hs : s < 2 ^ 31) (hb0 : 0 < b) (hb : b ≤ 1024) : zMw l D cI yX6_draw wsX6_draw { frames := 0, cells := 0, slots := 0, locals := 0 } [.ref m0, .int (nI b)] [(m0, .inr (6, [.int (nI pn), .ref mp, .int (nI rc), .int (nI ln), .ref mo, .int (nI s), .ref mv, .int bs, .int bp, .int sr, .int y1, .int y2, .int y3, .ref mn, .ref my, .ref ml, .int (nI rk), .int dz, .int (nI su), .int (nI rd), .long hh])), (mp, .inl (cI, 56, .inl pg)), (mo, .inl (cI, 5, .inl Of)), (mv, .inl (cI, 4, .inl V)), (mn, .inl (cI, 5, .inl Nf)), (my, .inl (cI, 1024, .inl Yf)), (ml, .inl (cI, 32, .inl Lf))] (fun v9 w9 => v9 = some (.int (nI (zdr s b))) ∧ w9 = [(m0, .inr (6, [.int (nI pn), .ref mp, .int (nI rc), .int (nI ln), .ref mo, .int (nI (znx s)), .ref mv, .int bs, .int bp, .int sr, .int y1, .int y2, .int y3, .ref mn, .ref my, .ref ml, .int (nI rk), .int dz, .int (nI su), .int (nI rd), .long hh])), (mp, .inl (cI, 56, .inl pg)), (mo, .inl (cI, 5, .inl Of)), (mv, .inl (cI, 4, .inl V)), (mn, .inl (cI, 5, .inl Nf)), (my, .inl (cI, 1024, .inl Yf)), (ml, .inl (cI, 32, .inl Lf))]) 0 0 := by
  refine zw_ent (maxL := 4) (by decide) rfl (Nat.le_of_ble_eq_true rfl) (fun X C E hin9 => ?_)
  have C : zC X l D cI { frames := 0, cells := 0, slots := 0, locals := 0 } 4 true cX6_draw RX6 wsX6_draw := C
  refine zg_cv (lv' := [(0, .ref m0), (1, .int (nI b))]) rfl rfl rfl ?_
  have q0 := znx_lt s
  refine zg_ldc2 C dX6_draw_0 wX6_draw_0 ?_
  refine zg_aload_n C 0 dX6_draw_3 rfl ?_
  refine zg_get C 0 (ci := 6) (f := 5) rfl rfl uX6_draw_6 (by decide) fX6_draw_6_5 dX6_draw_4 rfl ?_
  refine zg_i2l C dX6_draw_7 (lN s) (zi_l hs) ?_
  refine zg_lmul C dX6_draw_8 (lN (1103515245 * s)) (by rw [zl_a, lN_mul]) ?_
  refine zg_ldc2 C dX6_draw_9 wX6_draw_1 ?_
  refine zg_ladd C dX6_draw_12 (lN (1103515245 * s + 12345)) (by rw [zl_b, lN_add]) ?_
  refine zg_ldc2 C dX6_draw_13 wX6_draw_2 ?_
  refine zg_lrem C dX6_draw_16 (zl_ne1) (lN (znx s)) (zl_rem hs) ?_
  refine zg_lstore_n C [1, 2, 0] (lv' := [(0, .ref m0), (1, .int (nI b)), (2, .long (lN (znx s)))]) dX6_draw_17 (by decide) rfl ?_
  refine zg_aload_n C 0 dX6_draw_18 rfl ?_
  refine zg_lload_n C 2 dX6_draw_19 rfl ?_
  refine zg_l2i C dX6_draw_20 (nI (znx s)) (lN_i _) ?_
  refine zg_put C 0 (ci := 6) (f := 5) (ws' := [(m0, .inr (6, [.int (nI pn), .ref mp, .int (nI rc), .int (nI ln), .ref mo, .int (nI (znx s)), .ref mv, .int bs, .int bp, .int sr, .int y1, .int y2, .int y3, .ref mn, .ref my, .ref ml, .int (nI rk), .int dz, .int (nI su), .int (nI rd), .long hh])), (mp, .inl (cI, 56, .inl pg)), (mo, .inl (cI, 5, .inl Of)), (mv, .inl (cI, 4, .inl V)), (mn, .inl (cI, 5, .inl Nf)), (my, .inl (cI, 1024, .inl Yf)), (ml, .inl (cI, 32, .inl Lf))]) rfl rfl uX6_draw_6 tyX6_ok nmX6 (by decide) fX6_draw_6_5 rfl rfl rfl rfl (Nat.le_of_ble_eq_true rfl) dX6_draw_21 rfl ?_
  refine zg_lload_n C 2 dX6_draw_24 rfl ?_
  refine zg_ldc2 C dX6_draw_25 wX6_draw_3 ?_
  refine zg_ldiv C dX6_draw_28 (zl_ne2) (lN (znx s / 2 ^ 16)) (zl_div _) ?_
  refine zg_iload_n C 1 dX6_draw_29 rfl ?_
  refine zg_i2l C dX6_draw_30 (lN b) (zi_l (by omega)) ?_
  refine zg_lrem C dX6_draw_31 (zl_ne0 hb0 hb) (lN (zdr s b)) (zl_rm2 s hb0 hb) ?_
  refine zg_l2i C dX6_draw_32 (nI (zdr s b)) (lN_i _) ?_
  exact zg_wiret C E dX6_draw_33 (⟨rfl, rfl⟩)
theorem uX6_runNow_6 : ∀ w ∈ u_ws RX6 TX6 21, w ∈ wsX6_runNow := fun w h => List.mem_cons_of_mem _ (List.mem_append_right _ h)
theorem fX6_runNow_6_5 : Cond.fieldLink RX6 16 (TX6 5).1 (TX6 5).2.1 (TX6 5).2.2.1 ∈ wsX6_runNow := by decide +kernel
theorem fX6_runNow_6_3 : Cond.fieldLink RX6 59 (TX6 3).1 (TX6 3).2.1 (TX6 3).2.2.1 ∈ wsX6_runNow := by decide +kernel
set_option maxHeartbeats 1000000 in
set_option maxRecDepth 100000 in
theorem c_X6_runNow (l : Launch) (D : va_G) (cI : ClassId) (m0 mp mo mv mn my ml : Nat) (pg Of V Nf Yf Lf : Nat → Int32) (pn rc ln rk su rd : Nat) (sd bs bp sr y1 y2 y3 dz : Int32) (hh : Int64) (R : Nat → Nat) (s m : Nat) (z : Int32) (hM : zMm R Of Yf Lf rc ln rk dz su rd) (hln : ln ≤ 10) (hrc : rc ≤ 5) (h0l : 0 < ln) (hs : s < 2 ^ 31) (hm : m ≤ 50) : zMw l D cI yX6_runNow wsX6_runNow { frames := 3, cells := 0, slots := 0, locals := 70 } [.ref m0, .int (nI s), .int (nI m), .int z] [(m0, .inr (6, [.int (nI pn), .ref mp, .int (nI rc), .int (nI ln), .ref mo, .int sd, .ref mv, .int bs, .int bp, .int sr, .int y1, .int y2, .int y3, .ref mn, .ref my, .ref ml, .int (nI rk), .int dz, .int (nI su), .int (nI rd), .long hh])), (mp, .inl (cI, 56, .inl pg)), (mo, .inl (cI, 5, .inl Of)), (mv, .inl (cI, 4, .inl V)), (mn, .inl (cI, 5, .inl Nf)), (my, .inl (cI, 1024, .inl Yf)), (ml, .inl (cI, 32, .inl Lf))] (fun v9 w9 => v9 = some (.int (nI ((zrn R rc ln z s V bs bp m).2.2.2.2))) ∧ w9 = [(m0, .inr (6, [.int (nI pn), .ref mp, .int (nI rc), .int (nI ln), .ref mo, .int (nI ((zrn R rc ln z s V bs bp m).1)), .ref mv, .int ((zrn R rc ln z s V bs bp m).2.2.1), .int ((zrn R rc ln z s V bs bp m).2.2.2.1), .int sr, .int y1, .int y2, .int y3, .ref mn, .ref my, .ref ml, .int (nI rk), .int dz, .int (nI su), .int (nI rd), .long hh])), (mp, .inl (cI, 56, .inl pg)), (mo, .inl (cI, 5, .inl Of)), (mv, .inl (cI, 4, .inl ((zrn R rc ln z s V bs bp m).2.1))), (mn, .inl (cI, 5, .inl Nf)), (my, .inl (cI, 1024, .inl Yf)), (ml, .inl (cI, 32, .inl Lf))]) 0 0 := by
  refine zw_ent (maxL := 9) (by decide) rfl (Nat.le_of_ble_eq_true rfl) (fun X C E hin9 => ?_)
  have C : zC X l D cI { frames := 3, cells := 0, slots := 0, locals := 70 } 9 true cX6_runNow RX6 wsX6_runNow := C
  refine zg_cv (lv' := [(0, .ref m0), (1, .int (nI s)), (2, .int (nI m)), (3, .int z)]) rfl rfl rfl ?_
  have q0 := zpw hln
  have q1 := zpw0 ln
  refine zg_iconst (v := nI 0) C dX6_runNow_0 (by decide) ?_
  refine zg_istore C [1, 2, 3, 4, 0] (lv' := [(0, .ref m0), (1, .int (nI s)), (2, .int (nI m)), (3, .int z), (4, .int (nI 0))]) dX6_runNow_1 (by decide) rfl ?_
  refine zg_aload_n C 0 dX6_runNow_3 rfl ?_
  refine zg_iload_n C 1 dX6_runNow_4 rfl ?_
  refine zg_put C 0 (ci := 6) (f := 5) (ws' := [(m0, .inr (6, [.int (nI pn), .ref mp, .int (nI rc), .int (nI ln), .ref mo, .int (nI s), .ref mv, .int bs, .int bp, .int sr, .int y1, .int y2, .int y3, .ref mn, .ref my, .ref ml, .int (nI rk), .int dz, .int (nI su), .int (nI rd), .long hh])), (mp, .inl (cI, 56, .inl pg)), (mo, .inl (cI, 5, .inl Of)), (mv, .inl (cI, 4, .inl V)), (mn, .inl (cI, 5, .inl Nf)), (my, .inl (cI, 1024, .inl Yf)), (ml, .inl (cI, 32, .inl Lf))]) rfl rfl uX6_runNow_6 tyX6_ok nmX6 (by decide) fX6_runNow_6_5 rfl rfl rfl rfl (Nat.le_of_ble_eq_true rfl) dX6_runNow_5 rfl ?_
  refine zg_iconst (v := nI 0) C dX6_runNow_8 (by decide) ?_
  refine zg_istore C [1, 2, 3, 4, 5, 0] (lv' := [(0, .ref m0), (1, .int (nI s)), (2, .int (nI m)), (3, .int z), (4, .int (nI 0)), (5, .int (nI 0))]) dX6_runNow_9 (by decide) rfl ?_
  have L_11 : ∀ i, i ≤ m → zG X 0 0 [(0, .ref m0), (1, .int (nI s)), (2, .int (nI m)), (3, .int z), (4, .int (nI ((zrn R rc ln z s V bs bp i).2.2.2.2))), (5, .int (nI i))] [] [(m0, .inr (6, [.int (nI pn), .ref mp, .int (nI rc), .int (nI ln), .ref mo, .int (nI ((zrn R rc ln z s V bs bp i).1)), .ref mv, .int ((zrn R rc ln z s V bs bp i).2.2.1), .int ((zrn R rc ln z s V bs bp i).2.2.2.1), .int sr, .int y1, .int y2, .int y3, .ref mn, .ref my, .ref ml, .int (nI rk), .int dz, .int (nI su), .int (nI rd), .long hh])), (mp, .inl (cI, 56, .inl pg)), (mo, .inl (cI, 5, .inl Of)), (mv, .inl (cI, 4, .inl ((zrn R rc ln z s V bs bp i).2.1))), (mn, .inl (cI, 5, .inl Nf)), (my, .inl (cI, 1024, .inl Yf)), (ml, .inl (cI, 32, .inl Lf))] 11 := by
    refine zg_dn (fun i hi ih_11  => ?_)
    refine zg_iload C 5 dX6_runNow_11 rfl ?_
    refine zg_iload_n C 2 dX6_runNow_13 rfl ?_
    have q2 := zrn_s R rc ln z V bs bp hs i
    have q3 := znx_lt (zrn R rc ln z s V bs bp i).1
    have q4 := zul_lt z (znx (zrn R rc ln z s V bs bp i).1) ln
    have q6 : (zdr (zrn R rc ln z s V bs bp i).1 (2 ^ ln)) < 2 ^ ln := Nat.mod_lt _ q1
    have q7 : ((zdr (zrn R rc ln z s V bs bp i).1 (2 ^ ln)) ^^^ (zul z (znx (zrn R rc ln z s V bs bp i).1) ln).2) < 2 ^ ln := Nat.xor_lt_two_pow q6 q4
    have q8 := zvr_lt R rc ln (zdr (zrn R rc ln z s V bs bp i).1 (2 ^ ln)) ((zdr (zrn R rc ln z s V bs bp i).1 (2 ^ ln)) ^^^ (zul z (znx (zrn R rc ln z s V bs bp i).1) ln).2)
    refine zn_icmp_ge C 100 (by omega) (by omega) dX6_runNow_14 (by decide) (fun c_14 => ?_) (fun c_14 => ?_)
    · skip
      have e9_100 : m = i := by omega
      subst e9_100
      refine zg_iload C 4 dX6_runNow_100 rfl ?_
      exact zg_wiret C E dX6_runNow_102 (⟨rfl, rfl⟩)
    · skip
      refine zg_aload_n C 0 dX6_runNow_17 rfl ?_
      refine zg_aload_n C 0 dX6_runNow_18 rfl ?_
      refine zg_callr (As := []) (st := [.ref m0]) C [0, 1, 2, 3, 4, 5, 6] 0 0 (c_X6_words l D cI m0 mp mo mv mn my ml pg Of ((zrn R rc ln z s V bs bp i).2.1) Nf Yf Lf pn rc ln rk su rd (nI ((zrn R rc ln z s V bs bp i).1)) ((zrn R rc ln z s V bs bp i).2.2.1) ((zrn R rc ln z s V bs bp i).2.2.2.1) sr y1 y2 y3 dz hh hln) gX6_runNow_X6_words (by decide +kernel) rfl ⟨rfl, rfl⟩ ⟨Nat.le_of_ble_eq_true rfl, Nat.le_of_ble_eq_true rfl⟩ rfl (ci := 6) rfl rfl rfl rfl (Nat.le_of_ble_eq_true rfl) ⟨Nat.le_of_ble_eq_true rfl, Nat.le_of_ble_eq_true rfl⟩ dX6_runNow_19 ?_
      refine zg_callw (As := [.int (nI (2 ^ ln))]) (st := []) (wo := []) C [0, 1, 2, 3, 4, 5, 6] [] 0 1 (c_X6_draw l D cI m0 mp mo mv mn my ml pg Of ((zrn R rc ln z s V bs bp i).2.1) Nf Yf Lf pn rc ln rk su rd ((zrn R rc ln z s V bs bp i).2.2.1) ((zrn R rc ln z s V bs bp i).2.2.2.1) sr y1 y2 y3 dz hh ((zrn R rc ln z s V bs bp i).1) (2 ^ ln) (q2.1) (by omega) (by omega)) gX6_runNow_X6_draw (by decide +kernel) rfl ⟨rfl, rfl⟩ ⟨Nat.le_of_ble_eq_true rfl, Nat.le_of_ble_eq_true rfl⟩ rfl rfl rfl rfl (by decide) (ci := 6) rfl rfl rfl rfl (Nat.le_of_ble_eq_true rfl) ⟨Nat.le_of_ble_eq_true rfl, Nat.le_of_ble_eq_true rfl⟩ dX6_runNow_22 (fun v9 w9 hw9 => ?_)
      obtain ⟨rfl, rfl⟩ := hw9
      refine zg_cv (k' := 0) (n' := 0) (st' := [.int (nI (zdr ((zrn R rc ln z s V bs bp i).1) (2 ^ ln)))]) (ws' := [(m0, .inr (6, [.int (nI pn), .ref mp, .int (nI rc), .int (nI ln), .ref mo, .int (nI (znx ((zrn R rc ln z s V bs bp i).1))), .ref mv, .int ((zrn R rc ln z s V bs bp i).2.2.1), .int ((zrn R rc ln z s V bs bp i).2.2.2.1), .int sr, .int y1, .int y2, .int y3, .ref mn, .ref my, .ref ml, .int (nI rk), .int dz, .int (nI su), .int (nI rd), .long hh])), (mp, .inl (cI, 56, .inl pg)), (mo, .inl (cI, 5, .inl Of)), (mv, .inl (cI, 4, .inl ((zrn R rc ln z s V bs bp i).2.1))), (mn, .inl (cI, 5, .inl Nf)), (my, .inl (cI, 1024, .inl Yf)), (ml, .inl (cI, 32, .inl Lf))]) rfl rfl rfl ?_
      refine zg_istore C [1, 2, 3, 4, 5, 6, 0] (lv' := [(0, .ref m0), (1, .int (nI s)), (2, .int (nI m)), (3, .int z), (4, .int (nI ((zrn R rc ln z s V bs bp i).2.2.2.2))), (5, .int (nI i)), (6, .int (nI (zdr ((zrn R rc ln z s V bs bp i).1) (2 ^ ln))))]) dX6_runNow_25 (by decide) rfl ?_
      refine zg_iload C 6 dX6_runNow_27 rfl ?_
      refine zg_istore C [1, 2, 3, 4, 5, 6, 7, 0] (lv' := [(0, .ref m0), (1, .int (nI s)), (2, .int (nI m)), (3, .int z), (4, .int (nI ((zrn R rc ln z s V bs bp i).2.2.2.2))), (5, .int (nI i)), (6, .int (nI (zdr ((zrn R rc ln z s V bs bp i).1) (2 ^ ln)))), (7, .int (nI (zdr ((zrn R rc ln z s V bs bp i).1) (2 ^ ln))))]) dX6_runNow_29 (by decide) rfl ?_
      refine zg_iconst (v := nI 0) C dX6_runNow_31 (by decide) ?_
      refine zg_istore C [1, 2, 3, 4, 5, 6, 7, 8, 0] (lv' := [(0, .ref m0), (1, .int (nI s)), (2, .int (nI m)), (3, .int z), (4, .int (nI ((zrn R rc ln z s V bs bp i).2.2.2.2))), (5, .int (nI i)), (6, .int (nI (zdr ((zrn R rc ln z s V bs bp i).1) (2 ^ ln)))), (7, .int (nI (zdr ((zrn R rc ln z s V bs bp i).1) (2 ^ ln)))), (8, .int (nI 0))]) dX6_runNow_32 (by decide) rfl ?_
      have L_34 : ∀ k, k ≤ ln → zG X 0 0 [(0, .ref m0), (1, .int (nI s)), (2, .int (nI m)), (3, .int z), (4, .int (nI ((zrn R rc ln z s V bs bp i).2.2.2.2))), (5, .int (nI i)), (6, .int (nI (zdr ((zrn R rc ln z s V bs bp i).1) (2 ^ ln)))), (7, .int (nI ((zdr (zrn R rc ln z s V bs bp i).1 (2 ^ ln)) ^^^ (zul z (znx (zrn R rc ln z s V bs bp i).1) k).2))), (8, .int (nI k))] [] [(m0, .inr (6, [.int (nI pn), .ref mp, .int (nI rc), .int (nI ln), .ref mo, .int (nI ((zul z (znx (zrn R rc ln z s V bs bp i).1) k).1)), .ref mv, .int ((zrn R rc ln z s V bs bp i).2.2.1), .int ((zrn R rc ln z s V bs bp i).2.2.2.1), .int sr, .int y1, .int y2, .int y3, .ref mn, .ref my, .ref ml, .int (nI rk), .int dz, .int (nI su), .int (nI rd), .long hh])), (mp, .inl (cI, 56, .inl pg)), (mo, .inl (cI, 5, .inl Of)), (mv, .inl (cI, 4, .inl ((zrn R rc ln z s V bs bp i).2.1))), (mn, .inl (cI, 5, .inl Nf)), (my, .inl (cI, 1024, .inl Yf)), (ml, .inl (cI, 32, .inl Lf))] 34 := by
        refine zg_dn (fun k hk ih_34  => ?_)
        refine zg_iload C 8 dX6_runNow_34 rfl ?_
        refine zg_aload_n C 0 dX6_runNow_36 rfl ?_
        refine zg_get C 0 (ci := 6) (f := 3) rfl rfl uX6_runNow_6 (by decide) fX6_runNow_6_3 dX6_runNow_37 rfl ?_
        have q12 := zul_s z q3 k
        refine zn_icmp_ge C 72 (by omega) (by omega) dX6_runNow_40 (by decide) (fun c_40 => ?_) (fun c_40 => ?_)
        · skip
          have e9_72 : ln = k := by omega
          subst e9_72
          refine zg_iload C 4 dX6_runNow_72 rfl ?_
          refine zg_aload_n C 0 dX6_runNow_74 rfl ?_
          refine zg_iload C 6 dX6_runNow_75 rfl ?_
          refine zg_iload C 7 dX6_runNow_77 rfl ?_
          refine zg_callw (As := [.int (nI (zdr ((zrn R rc ln z s V bs bp i).1) (2 ^ ln))), .int (nI ((zdr (zrn R rc ln z s V bs bp i).1 (2 ^ ln)) ^^^ (zul z (znx (zrn R rc ln z s V bs bp i).1) ln).2))]) (st := [.int (nI ((zrn R rc ln z s V bs bp i).2.2.2.2))]) (wo := []) C [0, 1, 2, 3, 4, 5, 6] [] 0 2 (c_X6_sendNow l D cI m0 mp mo mv mn my ml pg Of ((zrn R rc ln z s V bs bp i).2.1) Nf Yf Lf pn rc ln rk su rd (nI ((zul z (znx (zrn R rc ln z s V bs bp i).1) ln).1)) ((zrn R rc ln z s V bs bp i).2.2.1) ((zrn R rc ln z s V bs bp i).2.2.2.1) sr y1 y2 y3 dz hh R (zdr ((zrn R rc ln z s V bs bp i).1) (2 ^ ln)) ((zdr (zrn R rc ln z s V bs bp i).1 (2 ^ ln)) ^^^ (zul z (znx (zrn R rc ln z s V bs bp i).1) ln).2) hM hln hrc h0l (q6) (q7)) gX6_runNow_X6_sendNow (by decide +kernel) rfl ⟨rfl, rfl⟩ ⟨Nat.le_of_ble_eq_true rfl, Nat.le_of_ble_eq_true rfl⟩ rfl rfl rfl rfl (by decide) (ci := 6) rfl rfl rfl rfl (Nat.le_of_ble_eq_true rfl) ⟨Nat.le_of_ble_eq_true rfl, Nat.le_of_ble_eq_true rfl⟩ dX6_runNow_79 (fun v9 w9 hw9 => ?_)
          obtain ⟨rfl, rfl⟩ := hw9
          refine zg_cv (k' := 0) (n' := 0) (st' := [.int (nI (zvr R rc ln (zdr ((zrn R rc ln z s V bs bp i).1) (2 ^ ln)) ((zdr (zrn R rc ln z s V bs bp i).1 (2 ^ ln)) ^^^ (zul z (znx (zrn R rc ln z s V bs bp i).1) ln).2))), .int (nI ((zrn R rc ln z s V bs bp i).2.2.2.2))]) (ws' := [(m0, .inr (6, [.int (nI pn), .ref mp, .int (nI rc), .int (nI ln), .ref mo, .int (nI ((zul z (znx (zrn R rc ln z s V bs bp i).1) ln).1)), .ref mv, .int (((zrn R rc ln z s V bs bp i).2.2.1) + nI (ln + zrk R rc ln)), .int (((zrn R rc ln z s V bs bp i).2.2.2.1) + nI (2 * ln)), .int sr, .int y1, .int y2, .int y3, .ref mn, .ref my, .ref ml, .int (nI rk), .int dz, .int (nI su), .int (nI rd), .long hh])), (mp, .inl (cI, 56, .inl pg)), (mo, .inl (cI, 5, .inl Of)), (mv, .inl (cI, 4, .inl (upd ((zrn R rc ln z s V bs bp i).2.1) (zvr R rc ln (zdr ((zrn R rc ln z s V bs bp i).1) (2 ^ ln)) ((zdr (zrn R rc ln z s V bs bp i).1 (2 ^ ln)) ^^^ (zul z (znx (zrn R rc ln z s V bs bp i).1) ln).2)) (((zrn R rc ln z s V bs bp i).2.1) (zvr R rc ln (zdr ((zrn R rc ln z s V bs bp i).1) (2 ^ ln)) ((zdr (zrn R rc ln z s V bs bp i).1 (2 ^ ln)) ^^^ (zul z (znx (zrn R rc ln z s V bs bp i).1) ln).2)) + nI 1)))), (mn, .inl (cI, 5, .inl Nf)), (my, .inl (cI, 1024, .inl Yf)), (ml, .inl (cI, 32, .inl Lf))]) rfl rfl rfl ?_
          refine zg_iconst (v := nI 3) C dX6_runNow_82 (by decide) ?_
          refine zn_icmp_ne C 90 (by omega) (by omega) dX6_runNow_83 (by decide) (fun c_83 => ?_) (fun c_83 => ?_)
          · skip
            refine zg_iconst (v := nI 0) C dX6_runNow_90 (by decide) ?_
            refine zg_iadd C dX6_runNow_91 (nI (((zrn R rc ln z s V bs bp i).2.2.2.2) + 0)) (nI_add _ _) ?_
            have e92 : (zrn R rc ln z s V bs bp (i + 1)).2.2.2.2 = (zrn R rc ln z s V bs bp i).2.2.2.2 + (if zvr R rc ln (zdr (zrn R rc ln z s V bs bp i).1 (2 ^ ln)) ((zdr (zrn R rc ln z s V bs bp i).1 (2 ^ ln)) ^^^ (zul z (znx (zrn R rc ln z s V bs bp i).1) ln).2) = 3 then 1 else 0) := rfl
            rw [if_neg c_83] at e92
            refine zg_cv (st' := [.int (nI ((zrn R rc ln z s V bs bp (i + 1)).2.2.2.2))]) rfl (congrArg (fun q9 => ([.int (nI q9)] : List Value)) (e92.symm)) rfl ?_
            refine zg_istore C [1, 2, 3, 4, 0, 5, 6, 7, 8] (lv' := [(0, .ref m0), (1, .int (nI s)), (2, .int (nI m)), (3, .int z), (4, .int (nI ((zrn R rc ln z s V bs bp (i + 1)).2.2.2.2))), (5, .int (nI i)), (6, .int (nI (zdr ((zrn R rc ln z s V bs bp i).1) (2 ^ ln)))), (7, .int (nI ((zdr (zrn R rc ln z s V bs bp i).1 (2 ^ ln)) ^^^ (zul z (znx (zrn R rc ln z s V bs bp i).1) ln).2))), (8, .int (nI ln))]) dX6_runNow_92 (by decide) rfl ?_
            refine zg_iinc C 5 [1, 2, 3, 4, 5, 0, 6, 7, 8] (lv' := [(0, .ref m0), (1, .int (nI s)), (2, .int (nI m)), (3, .int z), (4, .int (nI ((zrn R rc ln z s V bs bp (i + 1)).2.2.2.2))), (5, .int (nI (i + 1))), (6, .int (nI (zdr ((zrn R rc ln z s V bs bp i).1) (2 ^ ln)))), (7, .int (nI ((zdr (zrn R rc ln z s V bs bp i).1 (2 ^ ln)) ^^^ (zul z (znx (zrn R rc ln z s V bs bp i).1) ln).2))), (8, .int (nI ln))]) (nI (i + 1)) dX6_runNow_94 rfl (zi_inc _) (by decide) rfl ?_
            refine zg_goto C 11 dX6_runNow_97 (by decide) ?_
            refine zg_lv [0, 1, 2, 3, 4, 5] (lv' := [(0, .ref m0), (1, .int (nI s)), (2, .int (nI m)), (3, .int z), (4, .int (nI ((zrn R rc ln z s V bs bp (i + 1)).2.2.2.2))), (5, .int (nI (i + 1)))]) rfl ?_
            exact zg_cv (lv' := [(0, .ref m0), (1, .int (nI s)), (2, .int (nI m)), (3, .int z), (4, .int (nI ((zrn R rc ln z s V bs bp (i + 1)).2.2.2.2))), (5, .int (nI (i + 1)))]) (rfl) rfl (rfl) (ih_11 (by omega) )
          · skip
            refine zg_iconst (v := nI 1) C dX6_runNow_86 (by decide) ?_
            refine zg_goto C 91 dX6_runNow_87 (by decide) ?_
            refine zg_iadd C dX6_runNow_91 (nI (((zrn R rc ln z s V bs bp i).2.2.2.2) + 1)) (nI_add _ _) ?_
            have e92 : (zrn R rc ln z s V bs bp (i + 1)).2.2.2.2 = (zrn R rc ln z s V bs bp i).2.2.2.2 + (if zvr R rc ln (zdr (zrn R rc ln z s V bs bp i).1 (2 ^ ln)) ((zdr (zrn R rc ln z s V bs bp i).1 (2 ^ ln)) ^^^ (zul z (znx (zrn R rc ln z s V bs bp i).1) ln).2) = 3 then 1 else 0) := rfl
            rw [if_pos c_83] at e92
            refine zg_cv (st' := [.int (nI ((zrn R rc ln z s V bs bp (i + 1)).2.2.2.2))]) rfl (congrArg (fun q9 => ([.int (nI q9)] : List Value)) (e92.symm)) rfl ?_
            refine zg_istore C [1, 2, 3, 4, 0, 5, 6, 7, 8] (lv' := [(0, .ref m0), (1, .int (nI s)), (2, .int (nI m)), (3, .int z), (4, .int (nI ((zrn R rc ln z s V bs bp (i + 1)).2.2.2.2))), (5, .int (nI i)), (6, .int (nI (zdr ((zrn R rc ln z s V bs bp i).1) (2 ^ ln)))), (7, .int (nI ((zdr (zrn R rc ln z s V bs bp i).1 (2 ^ ln)) ^^^ (zul z (znx (zrn R rc ln z s V bs bp i).1) ln).2))), (8, .int (nI ln))]) dX6_runNow_92 (by decide) rfl ?_
            refine zg_iinc C 5 [1, 2, 3, 4, 5, 0, 6, 7, 8] (lv' := [(0, .ref m0), (1, .int (nI s)), (2, .int (nI m)), (3, .int z), (4, .int (nI ((zrn R rc ln z s V bs bp (i + 1)).2.2.2.2))), (5, .int (nI (i + 1))), (6, .int (nI (zdr ((zrn R rc ln z s V bs bp i).1) (2 ^ ln)))), (7, .int (nI ((zdr (zrn R rc ln z s V bs bp i).1 (2 ^ ln)) ^^^ (zul z (znx (zrn R rc ln z s V bs bp i).1) ln).2))), (8, .int (nI ln))]) (nI (i + 1)) dX6_runNow_94 rfl (zi_inc _) (by decide) rfl ?_
            refine zg_goto C 11 dX6_runNow_97 (by decide) ?_
            refine zg_lv [0, 1, 2, 3, 4, 5] (lv' := [(0, .ref m0), (1, .int (nI s)), (2, .int (nI m)), (3, .int z), (4, .int (nI ((zrn R rc ln z s V bs bp (i + 1)).2.2.2.2))), (5, .int (nI (i + 1)))]) rfl ?_
            exact zg_cv (lv' := [(0, .ref m0), (1, .int (nI s)), (2, .int (nI m)), (3, .int z), (4, .int (nI ((zrn R rc ln z s V bs bp (i + 1)).2.2.2.2))), (5, .int (nI (i + 1)))]) (rfl) rfl (rfl) (ih_11 (by omega) )
        · skip
          refine zg_iload C 7 dX6_runNow_43 rfl ?_
          refine zg_aload_n C 0 dX6_runNow_45 rfl ?_
          refine zg_bipush (v := nI 16) C dX6_runNow_46 (by decide) ?_
          refine zg_callw (As := [.int (nI 16)]) (st := [.int (nI ((zdr (zrn R rc ln z s V bs bp i).1 (2 ^ ln)) ^^^ (zul z (znx (zrn R rc ln z s V bs bp i).1) k).2))]) (wo := []) C [0, 1, 2, 3, 4, 5, 6] [] 0 1 (c_X6_draw l D cI m0 mp mo mv mn my ml pg Of ((zrn R rc ln z s V bs bp i).2.1) Nf Yf Lf pn rc ln rk su rd ((zrn R rc ln z s V bs bp i).2.2.1) ((zrn R rc ln z s V bs bp i).2.2.2.1) sr y1 y2 y3 dz hh ((zul z (znx (zrn R rc ln z s V bs bp i).1) k).1) 16 (q12) (by omega) (by omega)) gX6_runNow_X6_draw (by decide +kernel) rfl ⟨rfl, rfl⟩ ⟨Nat.le_of_ble_eq_true rfl, Nat.le_of_ble_eq_true rfl⟩ rfl rfl rfl rfl (by decide) (ci := 6) rfl rfl rfl rfl (Nat.le_of_ble_eq_true rfl) ⟨Nat.le_of_ble_eq_true rfl, Nat.le_of_ble_eq_true rfl⟩ dX6_runNow_48 (fun v9 w9 hw9 => ?_)
          obtain ⟨rfl, rfl⟩ := hw9
          refine zg_cv (k' := 0) (n' := 0) (st' := [.int (nI (zdr ((zul z (znx (zrn R rc ln z s V bs bp i).1) k).1) 16)), .int (nI ((zdr (zrn R rc ln z s V bs bp i).1 (2 ^ ln)) ^^^ (zul z (znx (zrn R rc ln z s V bs bp i).1) k).2))]) (ws' := [(m0, .inr (6, [.int (nI pn), .ref mp, .int (nI rc), .int (nI ln), .ref mo, .int (nI (znx ((zul z (znx (zrn R rc ln z s V bs bp i).1) k).1))), .ref mv, .int ((zrn R rc ln z s V bs bp i).2.2.1), .int ((zrn R rc ln z s V bs bp i).2.2.2.1), .int sr, .int y1, .int y2, .int y3, .ref mn, .ref my, .ref ml, .int (nI rk), .int dz, .int (nI su), .int (nI rd), .long hh])), (mp, .inl (cI, 56, .inl pg)), (mo, .inl (cI, 5, .inl Of)), (mv, .inl (cI, 4, .inl ((zrn R rc ln z s V bs bp i).2.1))), (mn, .inl (cI, 5, .inl Nf)), (my, .inl (cI, 1024, .inl Yf)), (ml, .inl (cI, 32, .inl Lf))]) rfl rfl rfl ?_
          refine zg_iload_n C 3 dX6_runNow_51 rfl ?_
          refine zg_icmp_ge C 62 dX6_runNow_52 (by decide) (fun c_52 => ?_) (fun c_52 => ?_)
          · skip
            refine zg_iconst (v := nI 0) C dX6_runNow_62 (by decide) ?_
            refine zg_ixor C dX6_runNow_63 (nI ((zdr (zrn R rc ln z s V bs bp i).1 (2 ^ ln)) ^^^ (zul z (znx (zrn R rc ln z s V bs bp i).1) (k + 1)).2)) ((zi_xor _ _).trans (congrArg nI (by rw [Nat.xor_zero, show (zul z (znx (zrn R rc ln z s V bs bp i).1) (k + 1)).2 = (zul z (znx (zrn R rc ln z s V bs bp i).1) k).2 + (if nI (zdr (zul z (znx (zrn R rc ln z s V bs bp i).1) k).1 16) < z then 2 ^ k else 0) from rfl, if_neg (zlt_not.mpr c_52)]; rfl))) ?_
            refine zg_istore C [1, 2, 3, 4, 5, 6, 7, 0, 8] (lv' := [(0, .ref m0), (1, .int (nI s)), (2, .int (nI m)), (3, .int z), (4, .int (nI ((zrn R rc ln z s V bs bp i).2.2.2.2))), (5, .int (nI i)), (6, .int (nI (zdr ((zrn R rc ln z s V bs bp i).1) (2 ^ ln)))), (7, .int (nI ((zdr (zrn R rc ln z s V bs bp i).1 (2 ^ ln)) ^^^ (zul z (znx (zrn R rc ln z s V bs bp i).1) (k + 1)).2))), (8, .int (nI k))]) dX6_runNow_64 (by decide) rfl ?_
            refine zg_iinc C 8 [1, 2, 3, 4, 5, 6, 7, 8, 0] (lv' := [(0, .ref m0), (1, .int (nI s)), (2, .int (nI m)), (3, .int z), (4, .int (nI ((zrn R rc ln z s V bs bp i).2.2.2.2))), (5, .int (nI i)), (6, .int (nI (zdr ((zrn R rc ln z s V bs bp i).1) (2 ^ ln)))), (7, .int (nI ((zdr (zrn R rc ln z s V bs bp i).1 (2 ^ ln)) ^^^ (zul z (znx (zrn R rc ln z s V bs bp i).1) (k + 1)).2))), (8, .int (nI (k + 1)))]) (nI (k + 1)) dX6_runNow_66 rfl (zi_inc _) (by decide) rfl ?_
            refine zg_goto C 34 dX6_runNow_69 (by decide) ?_
            exact zg_cv (lv' := [(0, .ref m0), (1, .int (nI s)), (2, .int (nI m)), (3, .int z), (4, .int (nI ((zrn R rc ln z s V bs bp i).2.2.2.2))), (5, .int (nI i)), (6, .int (nI (zdr ((zrn R rc ln z s V bs bp i).1) (2 ^ ln)))), (7, .int (nI ((zdr (zrn R rc ln z s V bs bp i).1 (2 ^ ln)) ^^^ (zul z (znx (zrn R rc ln z s V bs bp i).1) (k + 1)).2))), (8, .int (nI (k + 1)))]) (rfl) rfl (rfl) (ih_34 (by omega) )
          · skip
            refine zg_iconst (v := nI 1) C dX6_runNow_55 (by decide) ?_
            refine zg_iload C 8 dX6_runNow_56 rfl ?_
            refine zg_ishl C dX6_runNow_58 (nI (2 ^ k)) (zi_shl1 (by omega)) ?_
            refine zg_goto C 63 dX6_runNow_59 (by decide) ?_
            refine zg_ixor C dX6_runNow_63 (nI ((zdr (zrn R rc ln z s V bs bp i).1 (2 ^ ln)) ^^^ (zul z (znx (zrn R rc ln z s V bs bp i).1) (k + 1)).2)) ((zi_xor _ _).trans (congrArg nI ((zxor_add (zul_lt z (znx (zrn R rc ln z s V bs bp i).1) k)).trans (by rw [show (zul z (znx (zrn R rc ln z s V bs bp i).1) (k + 1)).2 = (zul z (znx (zrn R rc ln z s V bs bp i).1) k).2 + (if nI (zdr (zul z (znx (zrn R rc ln z s V bs bp i).1) k).1 16) < z then 2 ^ k else 0) from rfl, if_pos (zle_not.mp c_52)])))) ?_
            refine zg_istore C [1, 2, 3, 4, 5, 6, 7, 0, 8] (lv' := [(0, .ref m0), (1, .int (nI s)), (2, .int (nI m)), (3, .int z), (4, .int (nI ((zrn R rc ln z s V bs bp i).2.2.2.2))), (5, .int (nI i)), (6, .int (nI (zdr ((zrn R rc ln z s V bs bp i).1) (2 ^ ln)))), (7, .int (nI ((zdr (zrn R rc ln z s V bs bp i).1 (2 ^ ln)) ^^^ (zul z (znx (zrn R rc ln z s V bs bp i).1) (k + 1)).2))), (8, .int (nI k))]) dX6_runNow_64 (by decide) rfl ?_
            refine zg_iinc C 8 [1, 2, 3, 4, 5, 6, 7, 8, 0] (lv' := [(0, .ref m0), (1, .int (nI s)), (2, .int (nI m)), (3, .int z), (4, .int (nI ((zrn R rc ln z s V bs bp i).2.2.2.2))), (5, .int (nI i)), (6, .int (nI (zdr ((zrn R rc ln z s V bs bp i).1) (2 ^ ln)))), (7, .int (nI ((zdr (zrn R rc ln z s V bs bp i).1 (2 ^ ln)) ^^^ (zul z (znx (zrn R rc ln z s V bs bp i).1) (k + 1)).2))), (8, .int (nI (k + 1)))]) (nI (k + 1)) dX6_runNow_66 rfl (zi_inc _) (by decide) rfl ?_
            refine zg_goto C 34 dX6_runNow_69 (by decide) ?_
            exact zg_cv (lv' := [(0, .ref m0), (1, .int (nI s)), (2, .int (nI m)), (3, .int z), (4, .int (nI ((zrn R rc ln z s V bs bp i).2.2.2.2))), (5, .int (nI i)), (6, .int (nI (zdr ((zrn R rc ln z s V bs bp i).1) (2 ^ ln)))), (7, .int (nI ((zdr (zrn R rc ln z s V bs bp i).1 (2 ^ ln)) ^^^ (zul z (znx (zrn R rc ln z s V bs bp i).1) (k + 1)).2))), (8, .int (nI (k + 1)))]) (rfl) rfl (rfl) (ih_34 (by omega) )
      exact zg_cv (lv' := [(0, .ref m0), (1, .int (nI s)), (2, .int (nI m)), (3, .int z), (4, .int (nI ((zrn R rc ln z s V bs bp i).2.2.2.2))), (5, .int (nI i)), (6, .int (nI (zdr ((zrn R rc ln z s V bs bp i).1) (2 ^ ln)))), (7, .int (nI ((zdr (zrn R rc ln z s V bs bp i).1 (2 ^ ln)) ^^^ (zul z (znx (zrn R rc ln z s V bs bp i).1) 0).2))), (8, .int (nI 0))]) (by rw [show (zdr (zrn R rc ln z s V bs bp i).1 (2 ^ ln)) ^^^ (zul z (znx (zrn R rc ln z s V bs bp i).1) 0).2 = (zdr (zrn R rc ln z s V bs bp i).1 (2 ^ ln)) from Nat.xor_zero _]) rfl (rfl) (L_34 0 (Nat.zero_le _) )
  exact zg_cv (lv' := [(0, .ref m0), (1, .int (nI s)), (2, .int (nI m)), (3, .int z), (4, .int (nI ((zrn R rc ln z s V bs bp 0).2.2.2.2))), (5, .int (nI 0))]) (rfl) rfl (rfl) (L_11 0 (Nat.zero_le _) )
set_option maxHeartbeats 1000000 in
set_option maxRecDepth 100000 in
theorem c_X6_run (l : Launch) (D : va_G) (cI : ClassId) (m0 mp mo mv mn my ml : Nat) (pg Of V Nf Yf Lf : Nat → Int32) (pn rc ln rk su rd : Nat) (sd bs bp sr y1 y2 y3 dz : Int32) (hh : Int64) (R : Nat → Nat) (s m : Nat) (z : Int32) (hM : zMm R Of Yf Lf rc ln rk dz su rd) (hln : ln ≤ 10) (hrc : rc ≤ 5) (hrl : 0 < rc ↔ 0 < ln) (h0l : 0 < ln) (hs : s < 2 ^ 31) (hm1 : 1 ≤ m) (hm2 : m ≤ 50) (hz1 : ¬ z < 0) (hz2 : z ≤ nI 16) : zMw l D cI yX6_run wsX6_run { frames := 4, cells := 0, slots := 0, locals := 98 } [.ref m0, .int (nI s), .int (nI m), .int z] [(m0, .inr (6, [.int (nI pn), .ref mp, .int (nI rc), .int (nI ln), .ref mo, .int sd, .ref mv, .int bs, .int bp, .int sr, .int y1, .int y2, .int y3, .ref mn, .ref my, .ref ml, .int (nI rk), .int dz, .int (nI su), .int (nI rd), .long hh])), (mp, .inl (cI, 56, .inl pg)), (mo, .inl (cI, 5, .inl Of)), (mv, .inl (cI, 4, .inl V)), (mn, .inl (cI, 5, .inl Nf)), (my, .inl (cI, 1024, .inl Yf)), (ml, .inl (cI, 32, .inl Lf))] (fun v9 w9 => v9 = some (.int (nI ((zrn R rc ln z s V bs bp m).2.2.2.2))) ∧ w9 = [(m0, .inr (6, [.int (nI pn), .ref mp, .int (nI rc), .int (nI ln), .ref mo, .int (nI ((zrn R rc ln z s V bs bp m).1)), .ref mv, .int ((zrn R rc ln z s V bs bp m).2.2.1), .int ((zrn R rc ln z s V bs bp m).2.2.2.1), .int sr, .int y1, .int y2, .int y3, .ref mn, .ref my, .ref ml, .int (nI rk), .int dz, .int (nI su), .int (nI rd), .long hh])), (mp, .inl (cI, 56, .inl pg)), (mo, .inl (cI, 5, .inl Of)), (mv, .inl (cI, 4, .inl ((zrn R rc ln z s V bs bp m).2.1))), (mn, .inl (cI, 5, .inl Nf)), (my, .inl (cI, 1024, .inl Yf)), (ml, .inl (cI, 32, .inl Lf))]) 0 0 := by
  refine zw_ent (maxL := 4) (by decide) rfl (Nat.le_of_ble_eq_true rfl) (fun X C E hin9 => ?_)
  have C : zC X l D cI { frames := 4, cells := 0, slots := 0, locals := 98 } 4 true cX6_run RX6 wsX6_run := C
  refine zg_cv (lv' := [(0, .ref m0), (1, .int (nI s)), (2, .int (nI m)), (3, .int z)]) rfl rfl rfl ?_
  refine zg_aload_n C 0 dX6_run_0 rfl ?_
  refine zg_callr (As := []) (st := []) C [0, 1, 2, 3, 4, 5, 6] 0 0 (c_X6_isThere l D cI m0 mp mo mv mn my ml pg Of V Nf Yf Lf pn rc ln rk su rd sd bs bp sr y1 y2 y3 dz hh hrc) gX6_run_X6_isThere (by decide +kernel) rfl ⟨rfl, rfl⟩ ⟨Nat.le_of_ble_eq_true rfl, Nat.le_of_ble_eq_true rfl⟩ rfl (ci := 6) rfl rfl rfl rfl (Nat.le_of_ble_eq_true rfl) ⟨Nat.le_of_ble_eq_true rfl, Nat.le_of_ble_eq_true rfl⟩ dX6_run_1 ?_
  refine zp_if_ne C 11 dX6_run_4 (by decide) (fun c_4 => ?_) (fun c_4 => by exact absurd (hrl.mpr h0l) c_4)
  refine zg_iload_n C 1 dX6_run_11 rfl ?_
  refine zn_if_lt C 45 (by omega) dX6_run_12 (by decide) ?_
  refine zg_iload_n C 2 dX6_run_15 rfl ?_
  refine zg_iconst (v := nI 1) C dX6_run_16 (by decide) ?_
  refine zg_bipush (v := nI 50) C dX6_run_17 (by decide) ?_
  refine zg_calls (As := [.int (nI m), .int (nI 1), .int (nI 50)]) (st := []) C [] 3 (c_X6_within l D cI (nI m) (nI 1) (nI 50) ) gX6_run_X6_within (by decide +kernel) rfl ⟨rfl, rfl⟩ ⟨Nat.le_of_ble_eq_true rfl, Nat.le_of_ble_eq_true rfl⟩ rfl rfl rfl (Nat.le_of_ble_eq_true rfl) ⟨Nat.le_of_ble_eq_true rfl, Nat.le_of_ble_eq_true rfl⟩ dX6_run_19 ?_
  refine zp_if_eq C 45 dX6_run_22 (by decide) (fun c_22 => by exact c_22 ⟨nI_le hm1 (by omega), nI_le hm2 (by decide)⟩ |>.elim) (fun c_22 => ?_)
  refine zg_iload_n C 3 dX6_run_25 rfl ?_
  refine zg_iconst (v := nI 0) C dX6_run_26 (by decide) ?_
  refine zg_bipush (v := nI 16) C dX6_run_27 (by decide) ?_
  refine zg_calls (As := [.int z, .int (nI 0), .int (nI 16)]) (st := []) C [] 3 (c_X6_within l D cI z (nI 0) (nI 16) ) gX6_run_X6_within (by decide +kernel) rfl ⟨rfl, rfl⟩ ⟨Nat.le_of_ble_eq_true rfl, Nat.le_of_ble_eq_true rfl⟩ rfl rfl rfl (Nat.le_of_ble_eq_true rfl) ⟨Nat.le_of_ble_eq_true rfl, Nat.le_of_ble_eq_true rfl⟩ dX6_run_29 ?_
  refine zp_if_eq C 45 dX6_run_32 (by decide) (fun c_32 => by exact c_32 ⟨zlt_not.mp hz1, hz2⟩ |>.elim) (fun c_32 => ?_)
  refine zg_aload_n C 0 dX6_run_35 rfl ?_
  refine zg_iload_n C 1 dX6_run_36 rfl ?_
  refine zg_iload_n C 2 dX6_run_37 rfl ?_
  refine zg_iload_n C 3 dX6_run_38 rfl ?_
  refine zg_callw (As := [.int (nI s), .int (nI m), .int z]) (st := []) (wo := []) C [0, 1, 2, 3, 4, 5, 6] [] 0 3 (c_X6_runNow l D cI m0 mp mo mv mn my ml pg Of V Nf Yf Lf pn rc ln rk su rd sd bs bp sr y1 y2 y3 dz hh R s m z hM hln hrc h0l hs hm2) gX6_run_X6_runNow (by decide +kernel) rfl ⟨rfl, rfl⟩ ⟨Nat.le_of_ble_eq_true rfl, Nat.le_of_ble_eq_true rfl⟩ rfl rfl rfl rfl (by decide) (ci := 6) rfl rfl rfl rfl (Nat.le_of_ble_eq_true rfl) ⟨Nat.le_of_ble_eq_true rfl, Nat.le_of_ble_eq_true rfl⟩ dX6_run_39 (fun v9 w9 hw9 => ?_)
  obtain ⟨rfl, rfl⟩ := hw9
  refine zg_cv (k' := 0) (n' := 0) (st' := [.int (nI ((zrn R rc ln z s V bs bp m).2.2.2.2))]) (ws' := [(m0, .inr (6, [.int (nI pn), .ref mp, .int (nI rc), .int (nI ln), .ref mo, .int (nI ((zrn R rc ln z s V bs bp m).1)), .ref mv, .int ((zrn R rc ln z s V bs bp m).2.2.1), .int ((zrn R rc ln z s V bs bp m).2.2.2.1), .int sr, .int y1, .int y2, .int y3, .ref mn, .ref my, .ref ml, .int (nI rk), .int dz, .int (nI su), .int (nI rd), .long hh])), (mp, .inl (cI, 56, .inl pg)), (mo, .inl (cI, 5, .inl Of)), (mv, .inl (cI, 4, .inl ((zrn R rc ln z s V bs bp m).2.1))), (mn, .inl (cI, 5, .inl Nf)), (my, .inl (cI, 1024, .inl Yf)), (ml, .inl (cI, 32, .inl Lf))]) rfl rfl rfl ?_
  refine zg_goto C 48 dX6_run_42 (by decide) ?_
  exact zg_wiret C E dX6_run_48 (⟨rfl, rfl⟩)
set_option maxHeartbeats 1000000 in
set_option maxRecDepth 100000 in
theorem c_X6_run_no (l : Launch) (D : va_G) (cI : ClassId) (m0 mp mo mv mn my ml : Nat) (pg Of V Nf Yf Lf : Nat → Int32) (pn rc ln rk su rd : Nat) (sd bs bp sr y1 y2 y3 dz : Int32) (hh : Int64) (R : Nat → Nat) (x y z : Int32) (hM : zMm R Of Yf Lf rc ln rk dz su rd) (hln : ln ≤ 10) (hrc : rc ≤ 5) (hrl : 0 < rc ↔ 0 < ln) (hno : ¬ (0 < ln ∧ ¬ x < 0 ∧ ¬ y < nI 1 ∧ ¬ nI 50 < y ∧ ¬ z < 0 ∧ z ≤ nI 16)) : zMr l D cI yX6_run wsX6_run { frames := 1, cells := 0, slots := 0, locals := 22 } [.ref m0, .int x, .int y, .int z] [(m0, .inr (6, [.int (nI pn), .ref mp, .int (nI rc), .int (nI ln), .ref mo, .int sd, .ref mv, .int bs, .int bp, .int sr, .int y1, .int y2, .int y3, .ref mn, .ref my, .ref ml, .int (nI rk), .int dz, .int (nI su), .int (nI rd), .long hh])), (mp, .inl (cI, 56, .inl pg)), (mo, .inl (cI, 5, .inl Of)), (mv, .inl (cI, 4, .inl V)), (mn, .inl (cI, 5, .inl Nf)), (my, .inl (cI, 1024, .inl Yf)), (ml, .inl (cI, 32, .inl Lf))] (if 0 < ln then -1002 else -1003) := by
  refine zr_ent (maxL := 4) (by decide) rfl (Nat.le_of_ble_eq_true rfl) (fun X C E => ?_)
  have C : zC X l D cI { frames := 1, cells := 0, slots := 0, locals := 22 } 4 false cX6_run RX6 wsX6_run := C
  refine zg_cv (lv' := [(0, .ref m0), (1, .int x), (2, .int y), (3, .int z)]) rfl rfl rfl ?_
  refine zg_aload_n C 0 dX6_run_0 rfl ?_
  refine zg_callr (As := []) (st := []) C [0, 1, 2, 3, 4, 5, 6] 0 0 (c_X6_isThere l D cI m0 mp mo mv mn my ml pg Of V Nf Yf Lf pn rc ln rk su rd sd bs bp sr y1 y2 y3 dz hh hrc) gX6_run_X6_isThere (by decide +kernel) rfl ⟨rfl, rfl⟩ ⟨Nat.le_of_ble_eq_true rfl, Nat.le_of_ble_eq_true rfl⟩ rfl (ci := 6) rfl rfl rfl rfl (Nat.le_of_ble_eq_true rfl) ⟨Nat.le_of_ble_eq_true rfl, Nat.le_of_ble_eq_true rfl⟩ dX6_run_1 ?_
  refine zp_if_ne C 11 dX6_run_4 (by decide) (fun c_4 => ?_) (fun c_4 => ?_)
  · skip
    refine zg_iload_n C 1 dX6_run_11 rfl ?_
    refine zg_if_lt C 45 dX6_run_12 (by decide) (fun c_12 => ?_) (fun c_12 => ?_)
    · skip
      refine zg_sipush (v := (-1002)) C dX6_run_45 (by decide) ?_
      exact zg_iret C E dX6_run_48 ((if_pos (hrl.mp c_4)).symm)
    · skip
      refine zg_iload_n C 2 dX6_run_15 rfl ?_
      refine zg_iconst (v := nI 1) C dX6_run_16 (by decide) ?_
      refine zg_bipush (v := nI 50) C dX6_run_17 (by decide) ?_
      refine zg_calls (As := [.int y, .int (nI 1), .int (nI 50)]) (st := []) C [] 3 (c_X6_within l D cI y (nI 1) (nI 50) ) gX6_run_X6_within (by decide +kernel) rfl ⟨rfl, rfl⟩ ⟨Nat.le_of_ble_eq_true rfl, Nat.le_of_ble_eq_true rfl⟩ rfl rfl rfl (Nat.le_of_ble_eq_true rfl) ⟨Nat.le_of_ble_eq_true rfl, Nat.le_of_ble_eq_true rfl⟩ dX6_run_19 ?_
      refine zp_if_eq C 45 dX6_run_22 (by decide) (fun c_22 => ?_) (fun c_22 => ?_)
      · skip
        refine zg_sipush (v := (-1002)) C dX6_run_45 (by decide) ?_
        exact zg_iret C E dX6_run_48 ((if_pos (hrl.mp c_4)).symm)
      · skip
        refine zg_iload_n C 3 dX6_run_25 rfl ?_
        refine zg_iconst (v := nI 0) C dX6_run_26 (by decide) ?_
        refine zg_bipush (v := nI 16) C dX6_run_27 (by decide) ?_
        refine zg_calls (As := [.int z, .int (nI 0), .int (nI 16)]) (st := []) C [] 3 (c_X6_within l D cI z (nI 0) (nI 16) ) gX6_run_X6_within (by decide +kernel) rfl ⟨rfl, rfl⟩ ⟨Nat.le_of_ble_eq_true rfl, Nat.le_of_ble_eq_true rfl⟩ rfl rfl rfl (Nat.le_of_ble_eq_true rfl) ⟨Nat.le_of_ble_eq_true rfl, Nat.le_of_ble_eq_true rfl⟩ dX6_run_29 ?_
        refine zp_if_eq C 45 dX6_run_32 (by decide) (fun c_32 => ?_) (fun c_32 => by exact (hno ⟨hrl.mp c_4, c_12, zlt_not.mpr c_22.1, zlt_not.mpr c_22.2, zlt_not.mpr c_32.1, c_32.2⟩).elim)
        refine zg_sipush (v := (-1002)) C dX6_run_45 (by decide) ?_
        exact zg_iret C E dX6_run_48 ((if_pos (hrl.mp c_4)).symm)
  · skip
    refine zg_sipush (v := (-1003)) C dX6_run_7 (by decide) ?_
    exact zg_iret C E dX6_run_10 ((if_neg (fun q => c_4 (hrl.mpr q))).symm)
theorem uX6_seed_6 : ∀ w ∈ u_ws RX6 TX6 21, w ∈ wsX6_seed := fun w h => List.mem_cons_of_mem _ (List.mem_append_right _ h)
theorem fX6_seed_6_5 : Cond.fieldLink RX6 16 (TX6 5).1 (TX6 5).2.1 (TX6 5).2.2.1 ∈ wsX6_seed := by decide +kernel
set_option maxHeartbeats 1000000 in
set_option maxRecDepth 100000 in
theorem c_X6_seed (l : Launch) (D : va_G) (cI : ClassId) (m0 mp mo mv mn my ml : Nat) (pg Of V Nf Yf Lf : Nat → Int32) (pn rc ln rk su rd : Nat) (sd bs bp sr y1 y2 y3 dz : Int32) (hh : Int64) : zMr l D cI yX6_seed wsX6_seed { frames := 0, cells := 0, slots := 0, locals := 0 } [.ref m0] [(m0, .inr (6, [.int (nI pn), .ref mp, .int (nI rc), .int (nI ln), .ref mo, .int sd, .ref mv, .int bs, .int bp, .int sr, .int y1, .int y2, .int y3, .ref mn, .ref my, .ref ml, .int (nI rk), .int dz, .int (nI su), .int (nI rd), .long hh])), (mp, .inl (cI, 56, .inl pg)), (mo, .inl (cI, 5, .inl Of)), (mv, .inl (cI, 4, .inl V)), (mn, .inl (cI, 5, .inl Nf)), (my, .inl (cI, 1024, .inl Yf)), (ml, .inl (cI, 32, .inl Lf))] (sd) := by
  refine zr_ent (maxL := 1) (by decide) rfl (Nat.le_of_ble_eq_true rfl) (fun X C E => ?_)
  have C : zC X l D cI { frames := 0, cells := 0, slots := 0, locals := 0 } 1 false cX6_seed RX6 wsX6_seed := C
  refine zg_cv (lv' := [(0, .ref m0)]) rfl rfl rfl ?_
  refine zg_aload_n C 0 dX6_seed_0 rfl ?_
  refine zg_get C 0 (ci := 6) (f := 5) rfl rfl uX6_seed_6 (by decide) fX6_seed_6_5 dX6_seed_1 rfl ?_
  exact zg_iret C E dX6_seed_4 (rfl)
theorem uX6_howMany_6 : ∀ w ∈ u_ws RX6 TX6 21, w ∈ wsX6_howMany := fun w h => List.mem_cons_of_mem _ (List.mem_append_right _ h)
theorem fX6_howMany_6_0 : Cond.fieldLink RX6 36 (TX6 0).1 (TX6 0).2.1 (TX6 0).2.2.1 ∈ wsX6_howMany := by decide +kernel
theorem fX6_howMany_6_6 : Cond.fieldLink RX6 20 (TX6 6).1 (TX6 6).2.1 (TX6 6).2.2.1 ∈ wsX6_howMany := by decide +kernel
theorem fX6_howMany_6_7 : Cond.fieldLink RX6 131 (TX6 7).1 (TX6 7).2.1 (TX6 7).2.2.1 ∈ wsX6_howMany := by decide +kernel
theorem fX6_howMany_6_8 : Cond.fieldLink RX6 134 (TX6 8).1 (TX6 8).2.1 (TX6 8).2.2.1 ∈ wsX6_howMany := by decide +kernel
theorem fX6_howMany_6_9 : Cond.fieldLink RX6 62 (TX6 9).1 (TX6 9).2.1 (TX6 9).2.2.1 ∈ wsX6_howMany := by decide +kernel
set_option maxHeartbeats 1000000 in
set_option maxRecDepth 100000 in
theorem c_X6_howMany (l : Launch) (D : va_G) (cI : ClassId) (m0 mp mo mv mn my ml : Nat) (pg Of V Nf Yf Lf : Nat → Int32) (pn rc ln rk su rd : Nat) (sd bs bp sr y1 y2 y3 dz : Int32) (hh : Int64) (x : Int32) : zMr l D cI yX6_howMany wsX6_howMany { frames := 0, cells := 0, slots := 0, locals := 0 } [.ref m0, .int x] [(m0, .inr (6, [.int (nI pn), .ref mp, .int (nI rc), .int (nI ln), .ref mo, .int sd, .ref mv, .int bs, .int bp, .int sr, .int y1, .int y2, .int y3, .ref mn, .ref my, .ref ml, .int (nI rk), .int dz, .int (nI su), .int (nI rd), .long hh])), (mp, .inl (cI, 56, .inl pg)), (mo, .inl (cI, 5, .inl Of)), (mv, .inl (cI, 4, .inl V)), (mn, .inl (cI, 5, .inl Nf)), (my, .inl (cI, 1024, .inl Yf)), (ml, .inl (cI, 32, .inl Lf))] (zAcnt pn V bs bp sr x) := by
  refine zr_ent (maxL := 2) (by decide) rfl (Nat.le_of_ble_eq_true rfl) (fun X C E => ?_)
  have C : zC X l D cI { frames := 0, cells := 0, slots := 0, locals := 0 } 2 false cX6_howMany RX6 wsX6_howMany := C
  refine zg_cv (lv' := [(0, .ref m0), (1, .int x)]) rfl rfl rfl ?_
  refine zg_iload_n C 1 dX6_howMany_0 rfl ?_
  rcases zhm x with rfl | rfl | rfl | rfl | rfl | rfl | rfl | rfl | ⟨hx, h9⟩
  · skip
    refine zg_tabIn (off := 47) C 48 dX6_howMany_1 (by rw [show (nI 0).toInt = 0 from by decide]; decide) (by rw [show (nI 0).toInt = 0 from by decide]; decide) (by rw [show (nI 0).toInt = 0 from by decide]; rfl) (by decide) ?_
    refine zg_aload_n C 0 dX6_howMany_48 rfl ?_
    refine zg_get C 0 (ci := 6) (f := 0) rfl rfl uX6_howMany_6 (by decide) fX6_howMany_6_0 dX6_howMany_49 rfl ?_
    exact zg_iret C E dX6_howMany_52 (by rw [zAcnt, if_pos (by decide), zn_nI (by decide)]; rfl)
  · skip
    refine zg_tabIn (off := 52) C 53 dX6_howMany_1 (by rw [show (nI 1).toInt = 1 from by decide]; decide) (by rw [show (nI 1).toInt = 1 from by decide]; decide) (by rw [show (nI 1).toInt = 1 from by decide]; rfl) (by decide) ?_
    refine zg_aload_n C 0 dX6_howMany_53 rfl ?_
    refine zg_get C 0 (ci := 6) (f := 6) rfl rfl uX6_howMany_6 (by decide) fX6_howMany_6_6 dX6_howMany_54 rfl ?_
    refine zg_iload_n C 1 dX6_howMany_57 rfl ?_
    refine zg_iconst (v := nI 1) C dX6_howMany_58 (by decide) ?_
    refine zg_isub C dX6_howMany_59 (nI (1 - 1)) (pk_sub (by omega)) ?_
    refine zg_iald C 3 rfl (by omega) (by decide) dX6_howMany_60 (V (1 - 1)) (rfl) ?_
    exact zg_iret C E dX6_howMany_61 (by rw [zAcnt, if_pos (by decide), zn_nI (by decide)]; rfl)
  · skip
    refine zg_tabIn (off := 52) C 53 dX6_howMany_1 (by rw [show (nI 2).toInt = 2 from by decide]; decide) (by rw [show (nI 2).toInt = 2 from by decide]; decide) (by rw [show (nI 2).toInt = 2 from by decide]; rfl) (by decide) ?_
    refine zg_aload_n C 0 dX6_howMany_53 rfl ?_
    refine zg_get C 0 (ci := 6) (f := 6) rfl rfl uX6_howMany_6 (by decide) fX6_howMany_6_6 dX6_howMany_54 rfl ?_
    refine zg_iload_n C 1 dX6_howMany_57 rfl ?_
    refine zg_iconst (v := nI 1) C dX6_howMany_58 (by decide) ?_
    refine zg_isub C dX6_howMany_59 (nI (2 - 1)) (pk_sub (by omega)) ?_
    refine zg_iald C 3 rfl (by omega) (by decide) dX6_howMany_60 (V (2 - 1)) (rfl) ?_
    exact zg_iret C E dX6_howMany_61 (by rw [zAcnt, if_pos (by decide), zn_nI (by decide)]; rfl)
  · skip
    refine zg_tabIn (off := 52) C 53 dX6_howMany_1 (by rw [show (nI 3).toInt = 3 from by decide]; decide) (by rw [show (nI 3).toInt = 3 from by decide]; decide) (by rw [show (nI 3).toInt = 3 from by decide]; rfl) (by decide) ?_
    refine zg_aload_n C 0 dX6_howMany_53 rfl ?_
    refine zg_get C 0 (ci := 6) (f := 6) rfl rfl uX6_howMany_6 (by decide) fX6_howMany_6_6 dX6_howMany_54 rfl ?_
    refine zg_iload_n C 1 dX6_howMany_57 rfl ?_
    refine zg_iconst (v := nI 1) C dX6_howMany_58 (by decide) ?_
    refine zg_isub C dX6_howMany_59 (nI (3 - 1)) (pk_sub (by omega)) ?_
    refine zg_iald C 3 rfl (by omega) (by decide) dX6_howMany_60 (V (3 - 1)) (rfl) ?_
    exact zg_iret C E dX6_howMany_61 (by rw [zAcnt, if_pos (by decide), zn_nI (by decide)]; rfl)
  · skip
    refine zg_tabIn (off := 52) C 53 dX6_howMany_1 (by rw [show (nI 4).toInt = 4 from by decide]; decide) (by rw [show (nI 4).toInt = 4 from by decide]; decide) (by rw [show (nI 4).toInt = 4 from by decide]; rfl) (by decide) ?_
    refine zg_aload_n C 0 dX6_howMany_53 rfl ?_
    refine zg_get C 0 (ci := 6) (f := 6) rfl rfl uX6_howMany_6 (by decide) fX6_howMany_6_6 dX6_howMany_54 rfl ?_
    refine zg_iload_n C 1 dX6_howMany_57 rfl ?_
    refine zg_iconst (v := nI 1) C dX6_howMany_58 (by decide) ?_
    refine zg_isub C dX6_howMany_59 (nI (4 - 1)) (pk_sub (by omega)) ?_
    refine zg_iald C 3 rfl (by omega) (by decide) dX6_howMany_60 (V (4 - 1)) (rfl) ?_
    exact zg_iret C E dX6_howMany_61 (by rw [zAcnt, if_pos (by decide), zn_nI (by decide)]; rfl)
  · skip
    refine zg_tabIn (off := 61) C 62 dX6_howMany_1 (by rw [show (nI 5).toInt = 5 from by decide]; decide) (by rw [show (nI 5).toInt = 5 from by decide]; decide) (by rw [show (nI 5).toInt = 5 from by decide]; rfl) (by decide) ?_
    refine zg_aload_n C 0 dX6_howMany_62 rfl ?_
    refine zg_get C 0 (ci := 6) (f := 7) rfl rfl uX6_howMany_6 (by decide) fX6_howMany_6_7 dX6_howMany_63 rfl ?_
    exact zg_iret C E dX6_howMany_66 (by rw [zAcnt, if_pos (by decide), zn_nI (by decide)]; rfl)
  · skip
    refine zg_tabIn (off := 66) C 67 dX6_howMany_1 (by rw [show (nI 6).toInt = 6 from by decide]; decide) (by rw [show (nI 6).toInt = 6 from by decide]; decide) (by rw [show (nI 6).toInt = 6 from by decide]; rfl) (by decide) ?_
    refine zg_aload_n C 0 dX6_howMany_67 rfl ?_
    refine zg_get C 0 (ci := 6) (f := 8) rfl rfl uX6_howMany_6 (by decide) fX6_howMany_6_8 dX6_howMany_68 rfl ?_
    exact zg_iret C E dX6_howMany_71 (by rw [zAcnt, if_pos (by decide), zn_nI (by decide)]; rfl)
  · skip
    refine zg_tabIn (off := 71) C 72 dX6_howMany_1 (by rw [show (nI 7).toInt = 7 from by decide]; decide) (by rw [show (nI 7).toInt = 7 from by decide]; decide) (by rw [show (nI 7).toInt = 7 from by decide]; rfl) (by decide) ?_
    refine zg_aload_n C 0 dX6_howMany_72 rfl ?_
    refine zg_get C 0 (ci := 6) (f := 9) rfl rfl uX6_howMany_6 (by decide) fX6_howMany_6_9 dX6_howMany_73 rfl ?_
    exact zg_iret C E dX6_howMany_76 (by rw [zAcnt, if_pos (by decide), zn_nI (by decide)]; rfl)
  · skip
    refine zg_tabOut C 77 dX6_howMany_1 (h9) (by decide) ?_
    refine zg_sipush (v := (-1002)) C dX6_howMany_77 (by decide) ?_
    exact zg_iret C E dX6_howMany_80 (by rw [zAcnt, if_neg hx])
set_option maxHeartbeats 1000000 in
set_option maxRecDepth 100000 in
theorem c_X6_count (l : Launch) (D : va_G) (cI : ClassId) (m0 mp mo mv mn my ml : Nat) (pg Of V Nf Yf Lf : Nat → Int32) (pn rc ln rk su rd : Nat) (sd bs bp sr y1 y2 y3 dz : Int32) (hh : Int64) (x : Int32) : zMr l D cI yX6_count wsX6_count { frames := 1, cells := 0, slots := 0, locals := 21 } [.ref m0, .int x] [(m0, .inr (6, [.int (nI pn), .ref mp, .int (nI rc), .int (nI ln), .ref mo, .int sd, .ref mv, .int bs, .int bp, .int sr, .int y1, .int y2, .int y3, .ref mn, .ref my, .ref ml, .int (nI rk), .int dz, .int (nI su), .int (nI rd), .long hh])), (mp, .inl (cI, 56, .inl pg)), (mo, .inl (cI, 5, .inl Of)), (mv, .inl (cI, 4, .inl V)), (mn, .inl (cI, 5, .inl Nf)), (my, .inl (cI, 1024, .inl Yf)), (ml, .inl (cI, 32, .inl Lf))] (zAcnt pn V bs bp sr x) := by
  refine zr_ent (maxL := 2) (by decide) rfl (Nat.le_of_ble_eq_true rfl) (fun X C E => ?_)
  have C : zC X l D cI { frames := 1, cells := 0, slots := 0, locals := 21 } 2 false cX6_count RX6 wsX6_count := C
  refine zg_cv (lv' := [(0, .ref m0), (1, .int x)]) rfl rfl rfl ?_
  refine zg_aload_n C 0 dX6_count_0 rfl ?_
  refine zg_iload_n C 1 dX6_count_1 rfl ?_
  refine zg_callr (As := [.int x]) (st := []) C [0, 1, 2, 3, 4, 5, 6] 0 1 (c_X6_howMany l D cI m0 mp mo mv mn my ml pg Of V Nf Yf Lf pn rc ln rk su rd sd bs bp sr y1 y2 y3 dz hh x ) gX6_count_X6_howMany (by decide +kernel) rfl ⟨rfl, rfl⟩ ⟨Nat.le_of_ble_eq_true rfl, Nat.le_of_ble_eq_true rfl⟩ rfl (ci := 6) rfl rfl rfl rfl (Nat.le_of_ble_eq_true rfl) ⟨Nat.le_of_ble_eq_true rfl, Nat.le_of_ble_eq_true rfl⟩ dX6_count_2 ?_
  exact zg_iret C E dX6_count_5 (rfl)
theorem wX6_mix_0 : Cond.constantLong RX6 169 (31) ∈ wsX6_mix := by decide +kernel
theorem uX6_mix_6 : ∀ w ∈ u_ws RX6 TX6 21, w ∈ wsX6_mix := fun w h => List.mem_cons_of_mem _ (List.mem_append_right _ h)
theorem fX6_mix_6_20 : Cond.fieldLink RX6 171 (TX6 20).1 (TX6 20).2.1 (TX6 20).2.2.1 ∈ wsX6_mix := by decide +kernel
set_option maxHeartbeats 1000000 in
set_option maxRecDepth 100000 in
theorem c_X6_mix (l : Launch) (D : va_G) (cI : ClassId) (m0 mp mo mv mn my ml : Nat) (pg Of V Nf Yf Lf : Nat → Int32) (pn rc ln rk su rd : Nat) (sd bs bp sr y1 y2 y3 dz : Int32) (hh : Int64) (v : Int64) : zMw l D cI yX6_mix wsX6_mix { frames := 0, cells := 0, slots := 0, locals := 0 } [.ref m0, .long v] [(m0, .inr (6, [.int (nI pn), .ref mp, .int (nI rc), .int (nI ln), .ref mo, .int sd, .ref mv, .int bs, .int bp, .int sr, .int y1, .int y2, .int y3, .ref mn, .ref my, .ref ml, .int (nI rk), .int dz, .int (nI su), .int (nI rd), .long hh])), (mp, .inl (cI, 56, .inl pg)), (mo, .inl (cI, 5, .inl Of)), (mv, .inl (cI, 4, .inl V)), (mn, .inl (cI, 5, .inl Nf)), (my, .inl (cI, 1024, .inl Yf)), (ml, .inl (cI, 32, .inl Lf))] (fun v9 w9 => v9 = none ∧ w9 = [(m0, .inr (6, [.int (nI pn), .ref mp, .int (nI rc), .int (nI ln), .ref mo, .int sd, .ref mv, .int bs, .int bp, .int sr, .int y1, .int y2, .int y3, .ref mn, .ref my, .ref ml, .int (nI rk), .int dz, .int (nI su), .int (nI rd), .long (31 * hh + v)])), (mp, .inl (cI, 56, .inl pg)), (mo, .inl (cI, 5, .inl Of)), (mv, .inl (cI, 4, .inl V)), (mn, .inl (cI, 5, .inl Nf)), (my, .inl (cI, 1024, .inl Yf)), (ml, .inl (cI, 32, .inl Lf))]) 0 0 := by
  refine zw_ent (maxL := 3) (by decide) rfl (Nat.le_of_ble_eq_true rfl) (fun X C E hin9 => ?_)
  have C : zC X l D cI { frames := 0, cells := 0, slots := 0, locals := 0 } 3 true cX6_mix RX6 wsX6_mix := C
  refine zg_cv (lv' := [(0, .ref m0), (1, .long v)]) rfl rfl rfl ?_
  refine zg_aload_n C 0 dX6_mix_0 rfl ?_
  refine zg_ldc2 C dX6_mix_1 wX6_mix_0 ?_
  refine zg_aload_n C 0 dX6_mix_4 rfl ?_
  refine zg_get C 0 (ci := 6) (f := 20) rfl rfl uX6_mix_6 (by decide) fX6_mix_6_20 dX6_mix_5 rfl ?_
  refine zg_lmul C dX6_mix_8 (31 * hh) (rfl) ?_
  refine zg_lload_n C 1 dX6_mix_9 rfl ?_
  refine zg_ladd C dX6_mix_10 (31 * hh + v) (rfl) ?_
  refine zg_put C 0 (ci := 6) (f := 20) (ws' := [(m0, .inr (6, [.int (nI pn), .ref mp, .int (nI rc), .int (nI ln), .ref mo, .int sd, .ref mv, .int bs, .int bp, .int sr, .int y1, .int y2, .int y3, .ref mn, .ref my, .ref ml, .int (nI rk), .int dz, .int (nI su), .int (nI rd), .long (31 * hh + v)])), (mp, .inl (cI, 56, .inl pg)), (mo, .inl (cI, 5, .inl Of)), (mv, .inl (cI, 4, .inl V)), (mn, .inl (cI, 5, .inl Nf)), (my, .inl (cI, 1024, .inl Yf)), (ml, .inl (cI, 32, .inl Lf))]) rfl rfl uX6_mix_6 tyX6_ok nmX6 (by decide) fX6_mix_6_20 rfl rfl rfl rfl (Nat.le_of_ble_eq_true rfl) dX6_mix_11 rfl ?_
  exact zg_wvret C E dX6_mix_14 (⟨rfl, rfl⟩)
theorem uX6_mixSums_6 : ∀ w ∈ u_ws RX6 TX6 21, w ∈ wsX6_mixSums := fun w h => List.mem_cons_of_mem _ (List.mem_append_right _ h)
theorem fX6_mixSums_6_2 : Cond.fieldLink RX6 56 (TX6 2).1 (TX6 2).2.1 (TX6 2).2.2.1 ∈ wsX6_mixSums := by decide +kernel
theorem fX6_mixSums_6_3 : Cond.fieldLink RX6 59 (TX6 3).1 (TX6 3).2.1 (TX6 3).2.2.1 ∈ wsX6_mixSums := by decide +kernel
theorem fX6_mixSums_6_15 : Cond.fieldLink RX6 29 (TX6 15).1 (TX6 15).2.1 (TX6 15).2.2.1 ∈ wsX6_mixSums := by decide +kernel
theorem fX6_mixSums_6_4 : Cond.fieldLink RX6 13 (TX6 4).1 (TX6 4).2.1 (TX6 4).2.2.1 ∈ wsX6_mixSums := by decide +kernel
set_option maxHeartbeats 1000000 in
set_option maxRecDepth 100000 in
theorem c_X6_mixSums (l : Launch) (D : va_G) (cI : ClassId) (m0 mp mo mv mn my ml : Nat) (pg Of V Nf Yf Lf : Nat → Int32) (pn rc ln rk su rd : Nat) (sd bs bp sr y1 y2 y3 dz : Int32) (hh : Int64) (R : Nat → Nat) (hM : zMm R Of Yf Lf rc ln rk dz su rd) (hln : ln ≤ 10) (hrc : rc ≤ 5) (h0l : 0 < ln) : zMw l D cI yX6_mixSums wsX6_mixSums { frames := 2, cells := 0, slots := 0, locals := 45 } [.ref m0] [(m0, .inr (6, [.int (nI pn), .ref mp, .int (nI rc), .int (nI ln), .ref mo, .int sd, .ref mv, .int bs, .int bp, .int sr, .int y1, .int y2, .int y3, .ref mn, .ref my, .ref ml, .int (nI rk), .int dz, .int (nI su), .int (nI rd), .long hh])), (mp, .inl (cI, 56, .inl pg)), (mo, .inl (cI, 5, .inl Of)), (mv, .inl (cI, 4, .inl V)), (mn, .inl (cI, 5, .inl Nf)), (my, .inl (cI, 1024, .inl Yf)), (ml, .inl (cI, 32, .inl Lf))] (fun v9 w9 => v9 = none ∧ w9 = [(m0, .inr (6, [.int (nI pn), .ref mp, .int (nI rc), .int (nI ln), .ref mo, .int sd, .ref mv, .int bs, .int bp, .int sr, .int y1, .int y2, .int y3, .ref mn, .ref my, .ref ml, .int (nI rk), .int dz, .int (nI su), .int (nI rd), .long (zdgS R rc ln hh)])), (mp, .inl (cI, 56, .inl pg)), (mo, .inl (cI, 5, .inl Of)), (mv, .inl (cI, 4, .inl V)), (mn, .inl (cI, 5, .inl Nf)), (my, .inl (cI, 1024, .inl Yf)), (ml, .inl (cI, 32, .inl Lf))]) 0 0 := by
  refine zw_ent (maxL := 2) (by decide) rfl (Nat.le_of_ble_eq_true rfl) (fun X C E hin9 => ?_)
  have C : zC X l D cI { frames := 2, cells := 0, slots := 0, locals := 45 } 2 true cX6_mixSums RX6 wsX6_mixSums := C
  refine zg_cv (lv' := [(0, .ref m0)]) rfl rfl rfl ?_
  obtain ⟨m1, m3, hO, hRb, hY, hL, e1, e2, e3, e4⟩ := hM h0l
  have q0 := zpw hln
  have q1 := zpw0 ln
  have q5 := zpw5 hrc
  refine zg_iconst (v := nI 0) C dX6_mixSums_0 (by decide) ?_
  refine zg_istore_n C [1, 0] (lv' := [(0, .ref m0), (1, .int (nI 0))]) dX6_mixSums_1 (by decide) rfl ?_
  have L_2 : ∀ i, i ≤ 7 → zG X 0 0 [(0, .ref m0), (1, .int (nI i))] [] [(m0, .inr (6, [.int (nI pn), .ref mp, .int (nI rc), .int (nI ln), .ref mo, .int sd, .ref mv, .int bs, .int bp, .int sr, .int y1, .int y2, .int y3, .ref mn, .ref my, .ref ml, .int (nI rk), .int dz, .int (nI su), .int (nI rd), .long (zmix (zcode R rc ln) hh i)])), (mp, .inl (cI, 56, .inl pg)), (mo, .inl (cI, 5, .inl Of)), (mv, .inl (cI, 4, .inl V)), (mn, .inl (cI, 5, .inl Nf)), (my, .inl (cI, 1024, .inl Yf)), (ml, .inl (cI, 32, .inl Lf))] 2 := by
    refine zg_dn (fun i hi ih_2  => ?_)
    refine zg_iload_n C 1 dX6_mixSums_2 rfl ?_
    refine zg_bipush (v := nI 7) C dX6_mixSums_3 (by decide) ?_
    refine zn_icmp_ge C 24 (by omega) (by omega) dX6_mixSums_5 (by decide) (fun c_5 => ?_) (fun c_5 => ?_)
    · skip
      have e9_24 : 7 = i := by omega
      subst e9_24
      refine zg_iconst (v := nI 0) C dX6_mixSums_24 (by decide) ?_
      refine zg_istore_n C [1, 0] (lv' := [(0, .ref m0), (1, .int (nI 0))]) dX6_mixSums_25 (by decide) rfl ?_
      have L_26 : ∀ i, i ≤ rc → zG X 0 0 [(0, .ref m0), (1, .int (nI i))] [] [(m0, .inr (6, [.int (nI pn), .ref mp, .int (nI rc), .int (nI ln), .ref mo, .int sd, .ref mv, .int bs, .int bp, .int sr, .int y1, .int y2, .int y3, .ref mn, .ref my, .ref ml, .int (nI rk), .int dz, .int (nI su), .int (nI rd), .long (zmix (fun j => nI (R j)) (zmix (zcode R rc ln) hh 7) i)])), (mp, .inl (cI, 56, .inl pg)), (mo, .inl (cI, 5, .inl Of)), (mv, .inl (cI, 4, .inl V)), (mn, .inl (cI, 5, .inl Nf)), (my, .inl (cI, 1024, .inl Yf)), (ml, .inl (cI, 32, .inl Lf))] 26 := by
        refine zg_dn (fun i hi ih_26  => ?_)
        refine zg_iload_n C 1 dX6_mixSums_26 rfl ?_
        refine zg_aload_n C 0 dX6_mixSums_27 rfl ?_
        refine zg_get C 0 (ci := 6) (f := 2) rfl rfl uX6_mixSums_6 (by decide) fX6_mixSums_6_2 dX6_mixSums_28 rfl ?_
        refine zn_icmp_ge C 51 (by omega) (by omega) dX6_mixSums_31 (by decide) (fun c_31 => ?_) (fun c_31 => ?_)
        · skip
          have e9_51 : rc = i := by omega
          subst e9_51
          refine zg_iconst (v := nI 0) C dX6_mixSums_51 (by decide) ?_
          refine zg_istore_n C [1, 0] (lv' := [(0, .ref m0), (1, .int (nI 0))]) dX6_mixSums_52 (by decide) rfl ?_
          have L_53 : ∀ i, i ≤ 2 ^ rc → zG X 0 0 [(0, .ref m0), (1, .int (nI i))] [] [(m0, .inr (6, [.int (nI pn), .ref mp, .int (nI rc), .int (nI ln), .ref mo, .int sd, .ref mv, .int bs, .int bp, .int sr, .int y1, .int y2, .int y3, .ref mn, .ref my, .ref ml, .int (nI rk), .int dz, .int (nI su), .int (nI rd), .long (zmix (fun y => zo (zld R rc (2 ^ ln) y)) (zmix (fun j => nI (R j)) (zmix (zcode R rc ln) hh 7) rc) i)])), (mp, .inl (cI, 56, .inl pg)), (mo, .inl (cI, 5, .inl Of)), (mv, .inl (cI, 4, .inl V)), (mn, .inl (cI, 5, .inl Nf)), (my, .inl (cI, 1024, .inl Yf)), (ml, .inl (cI, 32, .inl Lf))] 53 := by
            refine zg_dn (fun i hi ih_53  => ?_)
            refine zg_iload_n C 1 dX6_mixSums_53 rfl ?_
            refine zg_iconst (v := nI 1) C dX6_mixSums_54 (by decide) ?_
            refine zg_aload_n C 0 dX6_mixSums_55 rfl ?_
            refine zg_get C 0 (ci := 6) (f := 2) rfl rfl uX6_mixSums_6 (by decide) fX6_mixSums_6_2 dX6_mixSums_56 rfl ?_
            refine zg_ishl C dX6_mixSums_59 (nI (2 ^ rc)) (zi_shl1 (by omega)) ?_
            refine zn_icmp_ge C 80 (by omega) (by omega) dX6_mixSums_60 (by decide) (fun c_60 => ?_) (fun c_60 => ?_)
            · skip
              have e9_80 : 2 ^ rc = i := by omega
              subst e9_80
              refine zg_iconst (v := nI 0) C dX6_mixSums_80 (by decide) ?_
              refine zg_istore_n C [1, 0] (lv' := [(0, .ref m0), (1, .int (nI 0))]) dX6_mixSums_81 (by decide) rfl ?_
              have L_82 : ∀ i, i ≤ ln + 1 → zG X 0 0 [(0, .ref m0), (1, .int (nI i))] [] [(m0, .inr (6, [.int (nI pn), .ref mp, .int (nI rc), .int (nI ln), .ref mo, .int sd, .ref mv, .int bs, .int bp, .int sr, .int y1, .int y2, .int y3, .ref mn, .ref my, .ref ml, .int (nI rk), .int dz, .int (nI su), .int (nI rd), .long (zmix (fun j => nI (zct (zhw (zld R rc (2 ^ ln)) j) 32)) (zmix (fun y => zo (zld R rc (2 ^ ln) y)) (zmix (fun j => nI (R j)) (zmix (zcode R rc ln) hh 7) rc) (2 ^ rc)) i)])), (mp, .inl (cI, 56, .inl pg)), (mo, .inl (cI, 5, .inl Of)), (mv, .inl (cI, 4, .inl V)), (mn, .inl (cI, 5, .inl Nf)), (my, .inl (cI, 1024, .inl Yf)), (ml, .inl (cI, 32, .inl Lf))] 82 := by
                refine zg_dn (fun i hi ih_82  => ?_)
                refine zg_iload_n C 1 dX6_mixSums_82 rfl ?_
                refine zg_aload_n C 0 dX6_mixSums_83 rfl ?_
                refine zg_get C 0 (ci := 6) (f := 3) rfl rfl uX6_mixSums_6 (by decide) fX6_mixSums_6_3 dX6_mixSums_84 rfl ?_
                refine zn_icmp_gt C 106 (by omega) (by omega) dX6_mixSums_87 (by decide) (fun c_87 => ?_) (fun c_87 => ?_)
                · skip
                  have e9_106 : ln + 1 = i := by omega
                  subst e9_106
                  exact zg_wvret C E dX6_mixSums_106 (⟨rfl, rfl⟩)
                · skip
                  refine zg_aload_n C 0 dX6_mixSums_90 rfl ?_
                  refine zg_aload_n C 0 dX6_mixSums_91 rfl ?_
                  refine zg_iload_n C 1 dX6_mixSums_92 rfl ?_
                  refine zg_callr (As := [.int (nI i)]) (st := [.ref m0]) C [0, 1, 2, 3, 4, 5, 6] 0 1 (c_X6_leadersNow l D cI m0 mp mo mv mn my ml pg Of V Nf Yf Lf pn rc ln rk su rd sd bs bp sr y1 y2 y3 dz (zmix (fun j => nI (zct (zhw (zld R rc (2 ^ ln)) j) 32)) (zmix (fun y => zo (zld R rc (2 ^ ln) y)) (zmix (fun j => nI (R j)) (zmix (zcode R rc ln) hh 7) rc) (2 ^ rc)) i) (zld R rc (2 ^ ln)) i (hL) (fun y v h => by have := (zld_some h).1; omega) (by omega)) gX6_mixSums_X6_leadersNow (by decide +kernel) rfl ⟨rfl, rfl⟩ ⟨Nat.le_of_ble_eq_true rfl, Nat.le_of_ble_eq_true rfl⟩ rfl (ci := 6) rfl rfl rfl rfl (Nat.le_of_ble_eq_true rfl) ⟨Nat.le_of_ble_eq_true rfl, Nat.le_of_ble_eq_true rfl⟩ dX6_mixSums_93 ?_
                  refine zg_i2l C dX6_mixSums_96 ((nI (zct (zhw (zld R rc (2 ^ ln)) i) 32)).toInt64) (rfl) ?_
                  refine zg_callw (As := [.long ((nI (zct (zhw (zld R rc (2 ^ ln)) i) 32)).toInt64)]) (st := []) (wo := []) C [0, 1, 2, 3, 4, 5, 6] [] 0 1 (c_X6_mix l D cI m0 mp mo mv mn my ml pg Of V Nf Yf Lf pn rc ln rk su rd sd bs bp sr y1 y2 y3 dz (zmix (fun j => nI (zct (zhw (zld R rc (2 ^ ln)) j) 32)) (zmix (fun y => zo (zld R rc (2 ^ ln) y)) (zmix (fun j => nI (R j)) (zmix (zcode R rc ln) hh 7) rc) (2 ^ rc)) i) ((nI (zct (zhw (zld R rc (2 ^ ln)) i) 32)).toInt64) ) gX6_mixSums_X6_mix (by decide +kernel) rfl ⟨rfl, rfl⟩ ⟨Nat.le_of_ble_eq_true rfl, Nat.le_of_ble_eq_true rfl⟩ rfl rfl rfl rfl (by decide) (ci := 6) rfl rfl rfl rfl (Nat.le_of_ble_eq_true rfl) ⟨Nat.le_of_ble_eq_true rfl, Nat.le_of_ble_eq_true rfl⟩ dX6_mixSums_97 (fun v9 w9 hw9 => ?_)
                  obtain ⟨rfl, rfl⟩ := hw9
                  refine zg_cv (k' := 0) (n' := 0) (st' := []) (ws' := [(m0, .inr (6, [.int (nI pn), .ref mp, .int (nI rc), .int (nI ln), .ref mo, .int sd, .ref mv, .int bs, .int bp, .int sr, .int y1, .int y2, .int y3, .ref mn, .ref my, .ref ml, .int (nI rk), .int dz, .int (nI su), .int (nI rd), .long (31 * (zmix (fun j => nI (zct (zhw (zld R rc (2 ^ ln)) j) 32)) (zmix (fun y => zo (zld R rc (2 ^ ln) y)) (zmix (fun j => nI (R j)) (zmix (zcode R rc ln) hh 7) rc) (2 ^ rc)) i) + ((nI (zct (zhw (zld R rc (2 ^ ln)) i) 32)).toInt64))])), (mp, .inl (cI, 56, .inl pg)), (mo, .inl (cI, 5, .inl Of)), (mv, .inl (cI, 4, .inl V)), (mn, .inl (cI, 5, .inl Nf)), (my, .inl (cI, 1024, .inl Yf)), (ml, .inl (cI, 32, .inl Lf))]) rfl rfl rfl ?_
                  refine zg_iinc C 1 [1, 0] (lv' := [(0, .ref m0), (1, .int (nI (i + 1)))]) (nI (i + 1)) dX6_mixSums_100 rfl (zi_inc _) (by decide) rfl ?_
                  refine zg_goto C 82 dX6_mixSums_103 (by decide) ?_
                  exact zg_cv (lv' := [(0, .ref m0), (1, .int (nI (i + 1)))]) (rfl) rfl (rfl) (ih_82 (by omega) )
              exact zg_cv (lv' := [(0, .ref m0), (1, .int (nI 0))]) (rfl) rfl (rfl) (L_82 0 (Nat.zero_le _) )
            · skip
              refine zg_aload_n C 0 dX6_mixSums_63 rfl ?_
              refine zg_aload_n C 0 dX6_mixSums_64 rfl ?_
              refine zg_get C 0 (ci := 6) (f := 15) rfl rfl uX6_mixSums_6 (by decide) fX6_mixSums_6_15 dX6_mixSums_65 rfl ?_
              refine zg_iload_n C 1 dX6_mixSums_68 rfl ?_
              refine zg_iald C 6 rfl (by omega) (by decide) dX6_mixSums_69 (zo (zld R rc (2 ^ ln) i)) (hL i (by omega)) ?_
              refine zg_i2l C dX6_mixSums_70 ((zo (zld R rc (2 ^ ln) i)).toInt64) (rfl) ?_
              refine zg_callw (As := [.long ((zo (zld R rc (2 ^ ln) i)).toInt64)]) (st := []) (wo := []) C [0, 1, 2, 3, 4, 5, 6] [] 0 1 (c_X6_mix l D cI m0 mp mo mv mn my ml pg Of V Nf Yf Lf pn rc ln rk su rd sd bs bp sr y1 y2 y3 dz (zmix (fun y => zo (zld R rc (2 ^ ln) y)) (zmix (fun j => nI (R j)) (zmix (zcode R rc ln) hh 7) rc) i) ((zo (zld R rc (2 ^ ln) i)).toInt64) ) gX6_mixSums_X6_mix (by decide +kernel) rfl ⟨rfl, rfl⟩ ⟨Nat.le_of_ble_eq_true rfl, Nat.le_of_ble_eq_true rfl⟩ rfl rfl rfl rfl (by decide) (ci := 6) rfl rfl rfl rfl (Nat.le_of_ble_eq_true rfl) ⟨Nat.le_of_ble_eq_true rfl, Nat.le_of_ble_eq_true rfl⟩ dX6_mixSums_71 (fun v9 w9 hw9 => ?_)
              obtain ⟨rfl, rfl⟩ := hw9
              refine zg_cv (k' := 0) (n' := 0) (st' := []) (ws' := [(m0, .inr (6, [.int (nI pn), .ref mp, .int (nI rc), .int (nI ln), .ref mo, .int sd, .ref mv, .int bs, .int bp, .int sr, .int y1, .int y2, .int y3, .ref mn, .ref my, .ref ml, .int (nI rk), .int dz, .int (nI su), .int (nI rd), .long (31 * (zmix (fun y => zo (zld R rc (2 ^ ln) y)) (zmix (fun j => nI (R j)) (zmix (zcode R rc ln) hh 7) rc) i) + ((zo (zld R rc (2 ^ ln) i)).toInt64))])), (mp, .inl (cI, 56, .inl pg)), (mo, .inl (cI, 5, .inl Of)), (mv, .inl (cI, 4, .inl V)), (mn, .inl (cI, 5, .inl Nf)), (my, .inl (cI, 1024, .inl Yf)), (ml, .inl (cI, 32, .inl Lf))]) rfl rfl rfl ?_
              refine zg_iinc C 1 [1, 0] (lv' := [(0, .ref m0), (1, .int (nI (i + 1)))]) (nI (i + 1)) dX6_mixSums_74 rfl (zi_inc _) (by decide) rfl ?_
              refine zg_goto C 53 dX6_mixSums_77 (by decide) ?_
              exact zg_cv (lv' := [(0, .ref m0), (1, .int (nI (i + 1)))]) (rfl) rfl (rfl) (ih_53 (by omega) )
          exact zg_cv (lv' := [(0, .ref m0), (1, .int (nI 0))]) (rfl) rfl (rfl) (L_53 0 (Nat.zero_le _) )
        · skip
          refine zg_aload_n C 0 dX6_mixSums_34 rfl ?_
          refine zg_aload_n C 0 dX6_mixSums_35 rfl ?_
          refine zg_get C 0 (ci := 6) (f := 4) rfl rfl uX6_mixSums_6 (by decide) fX6_mixSums_6_4 dX6_mixSums_36 rfl ?_
          refine zg_iload_n C 1 dX6_mixSums_39 rfl ?_
          refine zg_iald C 2 rfl (by omega) (by decide) dX6_mixSums_40 (nI (R i)) (hO i (by omega)) ?_
          refine zg_i2l C dX6_mixSums_41 ((nI (R i)).toInt64) (rfl) ?_
          refine zg_callw (As := [.long ((nI (R i)).toInt64)]) (st := []) (wo := []) C [0, 1, 2, 3, 4, 5, 6] [] 0 1 (c_X6_mix l D cI m0 mp mo mv mn my ml pg Of V Nf Yf Lf pn rc ln rk su rd sd bs bp sr y1 y2 y3 dz (zmix (fun j => nI (R j)) (zmix (zcode R rc ln) hh 7) i) ((nI (R i)).toInt64) ) gX6_mixSums_X6_mix (by decide +kernel) rfl ⟨rfl, rfl⟩ ⟨Nat.le_of_ble_eq_true rfl, Nat.le_of_ble_eq_true rfl⟩ rfl rfl rfl rfl (by decide) (ci := 6) rfl rfl rfl rfl (Nat.le_of_ble_eq_true rfl) ⟨Nat.le_of_ble_eq_true rfl, Nat.le_of_ble_eq_true rfl⟩ dX6_mixSums_42 (fun v9 w9 hw9 => ?_)
          obtain ⟨rfl, rfl⟩ := hw9
          refine zg_cv (k' := 0) (n' := 0) (st' := []) (ws' := [(m0, .inr (6, [.int (nI pn), .ref mp, .int (nI rc), .int (nI ln), .ref mo, .int sd, .ref mv, .int bs, .int bp, .int sr, .int y1, .int y2, .int y3, .ref mn, .ref my, .ref ml, .int (nI rk), .int dz, .int (nI su), .int (nI rd), .long (31 * (zmix (fun j => nI (R j)) (zmix (zcode R rc ln) hh 7) i) + ((nI (R i)).toInt64))])), (mp, .inl (cI, 56, .inl pg)), (mo, .inl (cI, 5, .inl Of)), (mv, .inl (cI, 4, .inl V)), (mn, .inl (cI, 5, .inl Nf)), (my, .inl (cI, 1024, .inl Yf)), (ml, .inl (cI, 32, .inl Lf))]) rfl rfl rfl ?_
          refine zg_iinc C 1 [1, 0] (lv' := [(0, .ref m0), (1, .int (nI (i + 1)))]) (nI (i + 1)) dX6_mixSums_45 rfl (zi_inc _) (by decide) rfl ?_
          refine zg_goto C 26 dX6_mixSums_48 (by decide) ?_
          exact zg_cv (lv' := [(0, .ref m0), (1, .int (nI (i + 1)))]) (rfl) rfl (rfl) (ih_26 (by omega) )
      exact zg_cv (lv' := [(0, .ref m0), (1, .int (nI 0))]) (rfl) rfl (rfl) (L_26 0 (Nat.zero_le _) )
    · skip
      refine zg_aload_n C 0 dX6_mixSums_8 rfl ?_
      refine zg_aload_n C 0 dX6_mixSums_9 rfl ?_
      refine zg_iload_n C 1 dX6_mixSums_10 rfl ?_
      refine zg_callr (As := [.int (nI i)]) (st := [.ref m0]) C [0, 1, 2, 3, 4, 5, 6] 0 1 (c_X6_codeNow l D cI m0 mp mo mv mn my ml pg Of V Nf Yf Lf pn rc ln rk su rd sd bs bp sr y1 y2 y3 dz (zmix (zcode R rc ln) hh i) R i hM hln hrc h0l (by omega)) gX6_mixSums_X6_codeNow (by decide +kernel) rfl ⟨rfl, rfl⟩ ⟨Nat.le_of_ble_eq_true rfl, Nat.le_of_ble_eq_true rfl⟩ rfl (ci := 6) rfl rfl rfl rfl (Nat.le_of_ble_eq_true rfl) ⟨Nat.le_of_ble_eq_true rfl, Nat.le_of_ble_eq_true rfl⟩ dX6_mixSums_11 ?_
      refine zg_i2l C dX6_mixSums_14 ((zcode R rc ln i).toInt64) (rfl) ?_
      refine zg_callw (As := [.long ((zcode R rc ln i).toInt64)]) (st := []) (wo := []) C [0, 1, 2, 3, 4, 5, 6] [] 0 1 (c_X6_mix l D cI m0 mp mo mv mn my ml pg Of V Nf Yf Lf pn rc ln rk su rd sd bs bp sr y1 y2 y3 dz (zmix (zcode R rc ln) hh i) ((zcode R rc ln i).toInt64) ) gX6_mixSums_X6_mix (by decide +kernel) rfl ⟨rfl, rfl⟩ ⟨Nat.le_of_ble_eq_true rfl, Nat.le_of_ble_eq_true rfl⟩ rfl rfl rfl rfl (by decide) (ci := 6) rfl rfl rfl rfl (Nat.le_of_ble_eq_true rfl) ⟨Nat.le_of_ble_eq_true rfl, Nat.le_of_ble_eq_true rfl⟩ dX6_mixSums_15 (fun v9 w9 hw9 => ?_)
      obtain ⟨rfl, rfl⟩ := hw9
      refine zg_cv (k' := 0) (n' := 0) (st' := []) (ws' := [(m0, .inr (6, [.int (nI pn), .ref mp, .int (nI rc), .int (nI ln), .ref mo, .int sd, .ref mv, .int bs, .int bp, .int sr, .int y1, .int y2, .int y3, .ref mn, .ref my, .ref ml, .int (nI rk), .int dz, .int (nI su), .int (nI rd), .long (31 * (zmix (zcode R rc ln) hh i) + ((zcode R rc ln i).toInt64))])), (mp, .inl (cI, 56, .inl pg)), (mo, .inl (cI, 5, .inl Of)), (mv, .inl (cI, 4, .inl V)), (mn, .inl (cI, 5, .inl Nf)), (my, .inl (cI, 1024, .inl Yf)), (ml, .inl (cI, 32, .inl Lf))]) rfl rfl rfl ?_
      refine zg_iinc C 1 [1, 0] (lv' := [(0, .ref m0), (1, .int (nI (i + 1)))]) (nI (i + 1)) dX6_mixSums_18 rfl (zi_inc _) (by decide) rfl ?_
      refine zg_goto C 2 dX6_mixSums_21 (by decide) ?_
      exact zg_cv (lv' := [(0, .ref m0), (1, .int (nI (i + 1)))]) (rfl) rfl (rfl) (ih_2 (by omega) )
  exact zg_cv (lv' := [(0, .ref m0), (1, .int (nI 0))]) (rfl) rfl (rfl) (L_2 0 (Nat.zero_le _) )
theorem wX6_digest_0 : Cond.constantLong RX6 179 (1667) ∈ wsX6_digest := by decide +kernel
theorem uX6_digest_6 : ∀ w ∈ u_ws RX6 TX6 21, w ∈ wsX6_digest := fun w h => List.mem_cons_of_mem _ (List.mem_append_right _ h)
theorem fX6_digest_6_20 : Cond.fieldLink RX6 171 (TX6 20).1 (TX6 20).2.1 (TX6 20).2.2.1 ∈ wsX6_digest := by decide +kernel
theorem fX6_digest_6_5 : Cond.fieldLink RX6 16 (TX6 5).1 (TX6 5).2.1 (TX6 5).2.2.1 ∈ wsX6_digest := by decide +kernel
theorem fX6_digest_6_0 : Cond.fieldLink RX6 36 (TX6 0).1 (TX6 0).2.1 (TX6 0).2.2.1 ∈ wsX6_digest := by decide +kernel
theorem fX6_digest_6_1 : Cond.fieldLink RX6 7 (TX6 1).1 (TX6 1).2.1 (TX6 1).2.2.1 ∈ wsX6_digest := by decide +kernel
set_option maxHeartbeats 1000000 in
set_option maxRecDepth 100000 in
theorem c_X6_digest (l : Launch) (D : va_G) (cI : ClassId) (m0 mp mo mv mn my ml : Nat) (pg Of V Nf Yf Lf : Nat → Int32) (pn rc ln rk su rd : Nat) (sd bs bp sr y1 y2 y3 dz : Int32) (hh : Int64) (R : Nat → Nat) (hM : zMm R Of Yf Lf rc ln rk dz su rd) (hln : ln ≤ 10) (hrc : rc ≤ 5) (hrl : 0 < rc ↔ 0 < ln) (hpn : pn ≤ 56) : zMw l D cI yX6_digest wsX6_digest { frames := 3, cells := 0, slots := 0, locals := 66 } [.ref m0] [(m0, .inr (6, [.int (nI pn), .ref mp, .int (nI rc), .int (nI ln), .ref mo, .int sd, .ref mv, .int bs, .int bp, .int sr, .int y1, .int y2, .int y3, .ref mn, .ref my, .ref ml, .int (nI rk), .int dz, .int (nI su), .int (nI rd), .long hh])), (mp, .inl (cI, 56, .inl pg)), (mo, .inl (cI, 5, .inl Of)), (mv, .inl (cI, 4, .inl V)), (mn, .inl (cI, 5, .inl Nf)), (my, .inl (cI, 1024, .inl Yf)), (ml, .inl (cI, 32, .inl Lf))] (fun v9 w9 => v9 = some (.long (zdig R rc ln sd pg pn V bs bp sr)) ∧ w9 = [(m0, .inr (6, [.int (nI pn), .ref mp, .int (nI rc), .int (nI ln), .ref mo, .int sd, .ref mv, .int bs, .int bp, .int sr, .int y1, .int y2, .int y3, .ref mn, .ref my, .ref ml, .int (nI rk), .int dz, .int (nI su), .int (nI rd), .long (zdig R rc ln sd pg pn V bs bp sr)])), (mp, .inl (cI, 56, .inl pg)), (mo, .inl (cI, 5, .inl Of)), (mv, .inl (cI, 4, .inl V)), (mn, .inl (cI, 5, .inl Nf)), (my, .inl (cI, 1024, .inl Yf)), (ml, .inl (cI, 32, .inl Lf))]) 0 0 := by
  refine zw_ent (maxL := 2) (by decide) rfl (Nat.le_of_ble_eq_true rfl) (fun X C E hin9 => ?_)
  have C : zC X l D cI { frames := 3, cells := 0, slots := 0, locals := 66 } 2 true cX6_digest RX6 wsX6_digest := C
  refine zg_cv (lv' := [(0, .ref m0)]) rfl rfl rfl ?_
  refine zg_aload_n C 0 dX6_digest_0 rfl ?_
  refine zg_ldc2 C dX6_digest_1 wX6_digest_0 ?_
  refine zg_put C 0 (ci := 6) (f := 20) (ws' := [(m0, .inr (6, [.int (nI pn), .ref mp, .int (nI rc), .int (nI ln), .ref mo, .int sd, .ref mv, .int bs, .int bp, .int sr, .int y1, .int y2, .int y3, .ref mn, .ref my, .ref ml, .int (nI rk), .int dz, .int (nI su), .int (nI rd), .long (1667)])), (mp, .inl (cI, 56, .inl pg)), (mo, .inl (cI, 5, .inl Of)), (mv, .inl (cI, 4, .inl V)), (mn, .inl (cI, 5, .inl Nf)), (my, .inl (cI, 1024, .inl Yf)), (ml, .inl (cI, 32, .inl Lf))]) rfl rfl uX6_digest_6 tyX6_ok nmX6 (by decide) fX6_digest_6_20 rfl rfl rfl rfl (Nat.le_of_ble_eq_true rfl) dX6_digest_4 rfl ?_
  refine zg_aload_n C 0 dX6_digest_7 rfl ?_
  refine zg_callr (As := []) (st := []) C [0, 1, 2, 3, 4, 5, 6] 0 0 (c_X6_isThere l D cI m0 mp mo mv mn my ml pg Of V Nf Yf Lf pn rc ln rk su rd sd bs bp sr y1 y2 y3 dz (1667) hrc) gX6_digest_X6_isThere (by decide +kernel) rfl ⟨rfl, rfl⟩ ⟨Nat.le_of_ble_eq_true rfl, Nat.le_of_ble_eq_true rfl⟩ rfl (ci := 6) rfl rfl rfl rfl (Nat.le_of_ble_eq_true rfl) ⟨Nat.le_of_ble_eq_true rfl, Nat.le_of_ble_eq_true rfl⟩ dX6_digest_8 ?_
  refine zp_if_eq C 18 dX6_digest_11 (by decide) (fun c_11 => ?_) (fun c_11 => ?_)
  · skip
    refine zg_cv (ws' := [(m0, .inr (6, [.int (nI pn), .ref mp, .int (nI rc), .int (nI ln), .ref mo, .int sd, .ref mv, .int bs, .int bp, .int sr, .int y1, .int y2, .int y3, .ref mn, .ref my, .ref ml, .int (nI rk), .int dz, .int (nI su), .int (nI rd), .long (if 0 < ln then zdgS R rc ln 1667 else 1667)])), (mp, .inl (cI, 56, .inl pg)), (mo, .inl (cI, 5, .inl Of)), (mv, .inl (cI, 4, .inl V)), (mn, .inl (cI, 5, .inl Nf)), (my, .inl (cI, 1024, .inl Yf)), (ml, .inl (cI, 32, .inl Lf))]) rfl rfl (congrArg (fun q9 => ([(m0, .inr (6, [.int (nI pn), .ref mp, .int (nI rc), .int (nI ln), .ref mo, .int sd, .ref mv, .int bs, .int bp, .int sr, .int y1, .int y2, .int y3, .ref mn, .ref my, .ref ml, .int (nI rk), .int dz, .int (nI su), .int (nI rd), .long q9])), (mp, .inl (cI, 56, .inl pg)), (mo, .inl (cI, 5, .inl Of)), (mv, .inl (cI, 4, .inl V)), (mn, .inl (cI, 5, .inl Nf)), (my, .inl (cI, 1024, .inl Yf)), (ml, .inl (cI, 32, .inl Lf))] : va_W)) ((if_neg (fun q => c_11 (hrl.mpr q))).symm)) ?_
    refine zg_aload_n C 0 dX6_digest_18 rfl ?_
    refine zg_aload_n C 0 dX6_digest_19 rfl ?_
    refine zg_get C 0 (ci := 6) (f := 5) rfl rfl uX6_digest_6 (by decide) fX6_digest_6_5 dX6_digest_20 rfl ?_
    refine zg_i2l C dX6_digest_23 (sd.toInt64) (rfl) ?_
    refine zg_callw (As := [.long sd.toInt64]) (st := []) (wo := []) C [0, 1, 2, 3, 4, 5, 6] [] 0 1 (c_X6_mix l D cI m0 mp mo mv mn my ml pg Of V Nf Yf Lf pn rc ln rk su rd sd bs bp sr y1 y2 y3 dz (if 0 < ln then zdgS R rc ln 1667 else 1667) sd.toInt64 ) gX6_digest_X6_mix (by decide +kernel) rfl ⟨rfl, rfl⟩ ⟨Nat.le_of_ble_eq_true rfl, Nat.le_of_ble_eq_true rfl⟩ rfl rfl rfl rfl (by decide) (ci := 6) rfl rfl rfl rfl (Nat.le_of_ble_eq_true rfl) ⟨Nat.le_of_ble_eq_true rfl, Nat.le_of_ble_eq_true rfl⟩ dX6_digest_24 (fun v9 w9 hw9 => ?_)
    obtain ⟨rfl, rfl⟩ := hw9
    refine zg_cv (k' := 0) (n' := 0) (st' := []) (ws' := [(m0, .inr (6, [.int (nI pn), .ref mp, .int (nI rc), .int (nI ln), .ref mo, .int sd, .ref mv, .int bs, .int bp, .int sr, .int y1, .int y2, .int y3, .ref mn, .ref my, .ref ml, .int (nI rk), .int dz, .int (nI su), .int (nI rd), .long (31 * (if 0 < ln then zdgS R rc ln 1667 else 1667) + sd.toInt64)])), (mp, .inl (cI, 56, .inl pg)), (mo, .inl (cI, 5, .inl Of)), (mv, .inl (cI, 4, .inl V)), (mn, .inl (cI, 5, .inl Nf)), (my, .inl (cI, 1024, .inl Yf)), (ml, .inl (cI, 32, .inl Lf))]) rfl rfl rfl ?_
    refine zg_iconst (v := nI 0) C dX6_digest_27 (by decide) ?_
    refine zg_istore_n C [1, 0] (lv' := [(0, .ref m0), (1, .int (nI 0))]) dX6_digest_28 (by decide) rfl ?_
    have L_29 : ∀ i, i ≤ pn → zG X 0 0 [(0, .ref m0), (1, .int (nI i))] [] [(m0, .inr (6, [.int (nI pn), .ref mp, .int (nI rc), .int (nI ln), .ref mo, .int sd, .ref mv, .int bs, .int bp, .int sr, .int y1, .int y2, .int y3, .ref mn, .ref my, .ref ml, .int (nI rk), .int dz, .int (nI su), .int (nI rd), .long (zmix pg (31 * (if 0 < ln then zdgS R rc ln 1667 else 1667) + sd.toInt64) i)])), (mp, .inl (cI, 56, .inl pg)), (mo, .inl (cI, 5, .inl Of)), (mv, .inl (cI, 4, .inl V)), (mn, .inl (cI, 5, .inl Nf)), (my, .inl (cI, 1024, .inl Yf)), (ml, .inl (cI, 32, .inl Lf))] 29 := by
      refine zg_dn (fun i hi ih_29  => ?_)
      refine zg_iload_n C 1 dX6_digest_29 rfl ?_
      refine zg_aload_n C 0 dX6_digest_30 rfl ?_
      refine zg_get C 0 (ci := 6) (f := 0) rfl rfl uX6_digest_6 (by decide) fX6_digest_6_0 dX6_digest_31 rfl ?_
      refine zn_icmp_ge C 54 (by omega) (by omega) dX6_digest_34 (by decide) (fun c_34 => ?_) (fun c_34 => ?_)
      · skip
        have e9_54 : pn = i := by omega
        subst e9_54
        refine zg_iconst (v := nI 0) C dX6_digest_54 (by decide) ?_
        refine zg_istore_n C [1, 0] (lv' := [(0, .ref m0), (1, .int (nI 0))]) dX6_digest_55 (by decide) rfl ?_
        have L_56 : ∀ i, i ≤ 8 → zG X 0 0 [(0, .ref m0), (1, .int (nI i))] [] [(m0, .inr (6, [.int (nI pn), .ref mp, .int (nI rc), .int (nI ln), .ref mo, .int sd, .ref mv, .int bs, .int bp, .int sr, .int y1, .int y2, .int y3, .ref mn, .ref my, .ref ml, .int (nI rk), .int dz, .int (nI su), .int (nI rd), .long (zmix (zcnt pn V bs bp sr) (zmix pg (31 * (if 0 < ln then zdgS R rc ln 1667 else 1667) + sd.toInt64) pn) i)])), (mp, .inl (cI, 56, .inl pg)), (mo, .inl (cI, 5, .inl Of)), (mv, .inl (cI, 4, .inl V)), (mn, .inl (cI, 5, .inl Nf)), (my, .inl (cI, 1024, .inl Yf)), (ml, .inl (cI, 32, .inl Lf))] 56 := by
          refine zg_dn (fun i hi ih_56  => ?_)
          refine zg_iload_n C 1 dX6_digest_56 rfl ?_
          refine zg_bipush (v := nI 8) C dX6_digest_57 (by decide) ?_
          refine zn_icmp_ge C 78 (by omega) (by omega) dX6_digest_59 (by decide) (fun c_59 => ?_) (fun c_59 => ?_)
          · skip
            have e9_78 : 8 = i := by omega
            subst e9_78
            refine zg_aload_n C 0 dX6_digest_78 rfl ?_
            refine zg_get C 0 (ci := 6) (f := 20) rfl rfl uX6_digest_6 (by decide) fX6_digest_6_20 dX6_digest_79 rfl ?_
            exact zg_wlret C E dX6_digest_82 (⟨rfl, rfl⟩)
          · skip
            refine zg_aload_n C 0 dX6_digest_62 rfl ?_
            refine zg_aload_n C 0 dX6_digest_63 rfl ?_
            refine zg_iload_n C 1 dX6_digest_64 rfl ?_
            refine zg_callr (As := [.int (nI i)]) (st := [.ref m0]) C [0, 1, 2, 3, 4, 5, 6] 0 1 (c_X6_howMany l D cI m0 mp mo mv mn my ml pg Of V Nf Yf Lf pn rc ln rk su rd sd bs bp sr y1 y2 y3 dz (zmix (zcnt pn V bs bp sr) (zmix pg (31 * (if 0 < ln then zdgS R rc ln 1667 else 1667) + sd.toInt64) pn) i) (nI i) ) gX6_digest_X6_howMany (by decide +kernel) rfl ⟨rfl, rfl⟩ ⟨Nat.le_of_ble_eq_true rfl, Nat.le_of_ble_eq_true rfl⟩ rfl (ci := 6) rfl rfl rfl rfl (Nat.le_of_ble_eq_true rfl) ⟨Nat.le_of_ble_eq_true rfl, Nat.le_of_ble_eq_true rfl⟩ dX6_digest_65 ?_
            refine zg_cv (st' := [.int (zcnt pn V bs bp sr i), .ref m0]) rfl (by rw [show zAcnt pn V bs bp sr (nI i) = zcnt pn V bs bp sr i from (by rw [zAcnt, if_pos (zin_nI (show i < 8 by omega) (by decide)), zn_nI (by omega)])]) rfl ?_
            refine zg_i2l C dX6_digest_68 ((zcnt pn V bs bp sr i).toInt64) (rfl) ?_
            refine zg_callw (As := [.long ((zcnt pn V bs bp sr i).toInt64)]) (st := []) (wo := []) C [0, 1, 2, 3, 4, 5, 6] [] 0 1 (c_X6_mix l D cI m0 mp mo mv mn my ml pg Of V Nf Yf Lf pn rc ln rk su rd sd bs bp sr y1 y2 y3 dz (zmix (zcnt pn V bs bp sr) (zmix pg (31 * (if 0 < ln then zdgS R rc ln 1667 else 1667) + sd.toInt64) pn) i) ((zcnt pn V bs bp sr i).toInt64) ) gX6_digest_X6_mix (by decide +kernel) rfl ⟨rfl, rfl⟩ ⟨Nat.le_of_ble_eq_true rfl, Nat.le_of_ble_eq_true rfl⟩ rfl rfl rfl rfl (by decide) (ci := 6) rfl rfl rfl rfl (Nat.le_of_ble_eq_true rfl) ⟨Nat.le_of_ble_eq_true rfl, Nat.le_of_ble_eq_true rfl⟩ dX6_digest_69 (fun v9 w9 hw9 => ?_)
            obtain ⟨rfl, rfl⟩ := hw9
            refine zg_cv (k' := 0) (n' := 0) (st' := []) (ws' := [(m0, .inr (6, [.int (nI pn), .ref mp, .int (nI rc), .int (nI ln), .ref mo, .int sd, .ref mv, .int bs, .int bp, .int sr, .int y1, .int y2, .int y3, .ref mn, .ref my, .ref ml, .int (nI rk), .int dz, .int (nI su), .int (nI rd), .long (31 * (zmix (zcnt pn V bs bp sr) (zmix pg (31 * (if 0 < ln then zdgS R rc ln 1667 else 1667) + sd.toInt64) pn) i) + ((zcnt pn V bs bp sr i).toInt64))])), (mp, .inl (cI, 56, .inl pg)), (mo, .inl (cI, 5, .inl Of)), (mv, .inl (cI, 4, .inl V)), (mn, .inl (cI, 5, .inl Nf)), (my, .inl (cI, 1024, .inl Yf)), (ml, .inl (cI, 32, .inl Lf))]) rfl rfl rfl ?_
            refine zg_iinc C 1 [1, 0] (lv' := [(0, .ref m0), (1, .int (nI (i + 1)))]) (nI (i + 1)) dX6_digest_72 rfl (zi_inc _) (by decide) rfl ?_
            refine zg_goto C 56 dX6_digest_75 (by decide) ?_
            exact zg_cv (lv' := [(0, .ref m0), (1, .int (nI (i + 1)))]) (rfl) rfl (rfl) (ih_56 (by omega) )
        exact zg_cv (lv' := [(0, .ref m0), (1, .int (nI 0))]) (rfl) rfl (rfl) (L_56 0 (Nat.zero_le _) )
      · skip
        refine zg_aload_n C 0 dX6_digest_37 rfl ?_
        refine zg_aload_n C 0 dX6_digest_38 rfl ?_
        refine zg_get C 0 (ci := 6) (f := 1) rfl rfl uX6_digest_6 (by decide) fX6_digest_6_1 dX6_digest_39 rfl ?_
        refine zg_iload_n C 1 dX6_digest_42 rfl ?_
        refine zg_iald C 1 rfl (by omega) (by decide) dX6_digest_43 (pg i) (rfl) ?_
        refine zg_i2l C dX6_digest_44 ((pg i).toInt64) (rfl) ?_
        refine zg_callw (As := [.long ((pg i).toInt64)]) (st := []) (wo := []) C [0, 1, 2, 3, 4, 5, 6] [] 0 1 (c_X6_mix l D cI m0 mp mo mv mn my ml pg Of V Nf Yf Lf pn rc ln rk su rd sd bs bp sr y1 y2 y3 dz (zmix pg (31 * (if 0 < ln then zdgS R rc ln 1667 else 1667) + sd.toInt64) i) ((pg i).toInt64) ) gX6_digest_X6_mix (by decide +kernel) rfl ⟨rfl, rfl⟩ ⟨Nat.le_of_ble_eq_true rfl, Nat.le_of_ble_eq_true rfl⟩ rfl rfl rfl rfl (by decide) (ci := 6) rfl rfl rfl rfl (Nat.le_of_ble_eq_true rfl) ⟨Nat.le_of_ble_eq_true rfl, Nat.le_of_ble_eq_true rfl⟩ dX6_digest_45 (fun v9 w9 hw9 => ?_)
        obtain ⟨rfl, rfl⟩ := hw9
        refine zg_cv (k' := 0) (n' := 0) (st' := []) (ws' := [(m0, .inr (6, [.int (nI pn), .ref mp, .int (nI rc), .int (nI ln), .ref mo, .int sd, .ref mv, .int bs, .int bp, .int sr, .int y1, .int y2, .int y3, .ref mn, .ref my, .ref ml, .int (nI rk), .int dz, .int (nI su), .int (nI rd), .long (31 * (zmix pg (31 * (if 0 < ln then zdgS R rc ln 1667 else 1667) + sd.toInt64) i) + ((pg i).toInt64))])), (mp, .inl (cI, 56, .inl pg)), (mo, .inl (cI, 5, .inl Of)), (mv, .inl (cI, 4, .inl V)), (mn, .inl (cI, 5, .inl Nf)), (my, .inl (cI, 1024, .inl Yf)), (ml, .inl (cI, 32, .inl Lf))]) rfl rfl rfl ?_
        refine zg_iinc C 1 [1, 0] (lv' := [(0, .ref m0), (1, .int (nI (i + 1)))]) (nI (i + 1)) dX6_digest_48 rfl (zi_inc _) (by decide) rfl ?_
        refine zg_goto C 29 dX6_digest_51 (by decide) ?_
        exact zg_cv (lv' := [(0, .ref m0), (1, .int (nI (i + 1)))]) (rfl) rfl (rfl) (ih_29 (by omega) )
    exact zg_cv (lv' := [(0, .ref m0), (1, .int (nI 0))]) (rfl) rfl (rfl) (L_29 0 (Nat.zero_le _) )
  · skip
    refine zg_aload_n C 0 dX6_digest_14 rfl ?_
    refine zg_callw (As := []) (st := []) (wo := []) C [0, 1, 2, 3, 4, 5, 6] [] 0 0 (c_X6_mixSums l D cI m0 mp mo mv mn my ml pg Of V Nf Yf Lf pn rc ln rk su rd sd bs bp sr y1 y2 y3 dz (1667) R hM hln hrc (hrl.mp c_11)) gX6_digest_X6_mixSums (by decide +kernel) rfl ⟨rfl, rfl⟩ ⟨Nat.le_of_ble_eq_true rfl, Nat.le_of_ble_eq_true rfl⟩ rfl rfl rfl rfl (by decide) (ci := 6) rfl rfl rfl rfl (Nat.le_of_ble_eq_true rfl) ⟨Nat.le_of_ble_eq_true rfl, Nat.le_of_ble_eq_true rfl⟩ dX6_digest_15 (fun v9 w9 hw9 => ?_)
    obtain ⟨rfl, rfl⟩ := hw9
    refine zg_cv (k' := 0) (n' := 0) (st' := []) (ws' := [(m0, .inr (6, [.int (nI pn), .ref mp, .int (nI rc), .int (nI ln), .ref mo, .int sd, .ref mv, .int bs, .int bp, .int sr, .int y1, .int y2, .int y3, .ref mn, .ref my, .ref ml, .int (nI rk), .int dz, .int (nI su), .int (nI rd), .long (zdgS R rc ln (1667))])), (mp, .inl (cI, 56, .inl pg)), (mo, .inl (cI, 5, .inl Of)), (mv, .inl (cI, 4, .inl V)), (mn, .inl (cI, 5, .inl Nf)), (my, .inl (cI, 1024, .inl Yf)), (ml, .inl (cI, 32, .inl Lf))]) rfl rfl rfl ?_
    refine zg_cv (ws' := [(m0, .inr (6, [.int (nI pn), .ref mp, .int (nI rc), .int (nI ln), .ref mo, .int sd, .ref mv, .int bs, .int bp, .int sr, .int y1, .int y2, .int y3, .ref mn, .ref my, .ref ml, .int (nI rk), .int dz, .int (nI su), .int (nI rd), .long (if 0 < ln then zdgS R rc ln 1667 else 1667)])), (mp, .inl (cI, 56, .inl pg)), (mo, .inl (cI, 5, .inl Of)), (mv, .inl (cI, 4, .inl V)), (mn, .inl (cI, 5, .inl Nf)), (my, .inl (cI, 1024, .inl Yf)), (ml, .inl (cI, 32, .inl Lf))]) rfl rfl (congrArg (fun q9 => ([(m0, .inr (6, [.int (nI pn), .ref mp, .int (nI rc), .int (nI ln), .ref mo, .int sd, .ref mv, .int bs, .int bp, .int sr, .int y1, .int y2, .int y3, .ref mn, .ref my, .ref ml, .int (nI rk), .int dz, .int (nI su), .int (nI rd), .long q9])), (mp, .inl (cI, 56, .inl pg)), (mo, .inl (cI, 5, .inl Of)), (mv, .inl (cI, 4, .inl V)), (mn, .inl (cI, 5, .inl Nf)), (my, .inl (cI, 1024, .inl Yf)), (ml, .inl (cI, 32, .inl Lf))] : va_W)) ((if_pos (hrl.mp c_11)).symm)) ?_
    refine zg_aload_n C 0 dX6_digest_18 rfl ?_
    refine zg_aload_n C 0 dX6_digest_19 rfl ?_
    refine zg_get C 0 (ci := 6) (f := 5) rfl rfl uX6_digest_6 (by decide) fX6_digest_6_5 dX6_digest_20 rfl ?_
    refine zg_i2l C dX6_digest_23 (sd.toInt64) (rfl) ?_
    refine zg_callw (As := [.long sd.toInt64]) (st := []) (wo := []) C [0, 1, 2, 3, 4, 5, 6] [] 0 1 (c_X6_mix l D cI m0 mp mo mv mn my ml pg Of V Nf Yf Lf pn rc ln rk su rd sd bs bp sr y1 y2 y3 dz (if 0 < ln then zdgS R rc ln 1667 else 1667) sd.toInt64 ) gX6_digest_X6_mix (by decide +kernel) rfl ⟨rfl, rfl⟩ ⟨Nat.le_of_ble_eq_true rfl, Nat.le_of_ble_eq_true rfl⟩ rfl rfl rfl rfl (by decide) (ci := 6) rfl rfl rfl rfl (Nat.le_of_ble_eq_true rfl) ⟨Nat.le_of_ble_eq_true rfl, Nat.le_of_ble_eq_true rfl⟩ dX6_digest_24 (fun v9 w9 hw9 => ?_)
    obtain ⟨rfl, rfl⟩ := hw9
    refine zg_cv (k' := 0) (n' := 0) (st' := []) (ws' := [(m0, .inr (6, [.int (nI pn), .ref mp, .int (nI rc), .int (nI ln), .ref mo, .int sd, .ref mv, .int bs, .int bp, .int sr, .int y1, .int y2, .int y3, .ref mn, .ref my, .ref ml, .int (nI rk), .int dz, .int (nI su), .int (nI rd), .long (31 * (if 0 < ln then zdgS R rc ln 1667 else 1667) + sd.toInt64)])), (mp, .inl (cI, 56, .inl pg)), (mo, .inl (cI, 5, .inl Of)), (mv, .inl (cI, 4, .inl V)), (mn, .inl (cI, 5, .inl Nf)), (my, .inl (cI, 1024, .inl Yf)), (ml, .inl (cI, 32, .inl Lf))]) rfl rfl rfl ?_
    refine zg_iconst (v := nI 0) C dX6_digest_27 (by decide) ?_
    refine zg_istore_n C [1, 0] (lv' := [(0, .ref m0), (1, .int (nI 0))]) dX6_digest_28 (by decide) rfl ?_
    have L_29 : ∀ i, i ≤ pn → zG X 0 0 [(0, .ref m0), (1, .int (nI i))] [] [(m0, .inr (6, [.int (nI pn), .ref mp, .int (nI rc), .int (nI ln), .ref mo, .int sd, .ref mv, .int bs, .int bp, .int sr, .int y1, .int y2, .int y3, .ref mn, .ref my, .ref ml, .int (nI rk), .int dz, .int (nI su), .int (nI rd), .long (zmix pg (31 * (if 0 < ln then zdgS R rc ln 1667 else 1667) + sd.toInt64) i)])), (mp, .inl (cI, 56, .inl pg)), (mo, .inl (cI, 5, .inl Of)), (mv, .inl (cI, 4, .inl V)), (mn, .inl (cI, 5, .inl Nf)), (my, .inl (cI, 1024, .inl Yf)), (ml, .inl (cI, 32, .inl Lf))] 29 := by
      refine zg_dn (fun i hi ih_29  => ?_)
      refine zg_iload_n C 1 dX6_digest_29 rfl ?_
      refine zg_aload_n C 0 dX6_digest_30 rfl ?_
      refine zg_get C 0 (ci := 6) (f := 0) rfl rfl uX6_digest_6 (by decide) fX6_digest_6_0 dX6_digest_31 rfl ?_
      refine zn_icmp_ge C 54 (by omega) (by omega) dX6_digest_34 (by decide) (fun c_34 => ?_) (fun c_34 => ?_)
      · skip
        have e9_54 : pn = i := by omega
        subst e9_54
        refine zg_iconst (v := nI 0) C dX6_digest_54 (by decide) ?_
        refine zg_istore_n C [1, 0] (lv' := [(0, .ref m0), (1, .int (nI 0))]) dX6_digest_55 (by decide) rfl ?_
        have L_56 : ∀ i, i ≤ 8 → zG X 0 0 [(0, .ref m0), (1, .int (nI i))] [] [(m0, .inr (6, [.int (nI pn), .ref mp, .int (nI rc), .int (nI ln), .ref mo, .int sd, .ref mv, .int bs, .int bp, .int sr, .int y1, .int y2, .int y3, .ref mn, .ref my, .ref ml, .int (nI rk), .int dz, .int (nI su), .int (nI rd), .long (zmix (zcnt pn V bs bp sr) (zmix pg (31 * (if 0 < ln then zdgS R rc ln 1667 else 1667) + sd.toInt64) pn) i)])), (mp, .inl (cI, 56, .inl pg)), (mo, .inl (cI, 5, .inl Of)), (mv, .inl (cI, 4, .inl V)), (mn, .inl (cI, 5, .inl Nf)), (my, .inl (cI, 1024, .inl Yf)), (ml, .inl (cI, 32, .inl Lf))] 56 := by
          refine zg_dn (fun i hi ih_56  => ?_)
          refine zg_iload_n C 1 dX6_digest_56 rfl ?_
          refine zg_bipush (v := nI 8) C dX6_digest_57 (by decide) ?_
          refine zn_icmp_ge C 78 (by omega) (by omega) dX6_digest_59 (by decide) (fun c_59 => ?_) (fun c_59 => ?_)
          · skip
            have e9_78 : 8 = i := by omega
            subst e9_78
            refine zg_aload_n C 0 dX6_digest_78 rfl ?_
            refine zg_get C 0 (ci := 6) (f := 20) rfl rfl uX6_digest_6 (by decide) fX6_digest_6_20 dX6_digest_79 rfl ?_
            exact zg_wlret C E dX6_digest_82 (⟨rfl, rfl⟩)
          · skip
            refine zg_aload_n C 0 dX6_digest_62 rfl ?_
            refine zg_aload_n C 0 dX6_digest_63 rfl ?_
            refine zg_iload_n C 1 dX6_digest_64 rfl ?_
            refine zg_callr (As := [.int (nI i)]) (st := [.ref m0]) C [0, 1, 2, 3, 4, 5, 6] 0 1 (c_X6_howMany l D cI m0 mp mo mv mn my ml pg Of V Nf Yf Lf pn rc ln rk su rd sd bs bp sr y1 y2 y3 dz (zmix (zcnt pn V bs bp sr) (zmix pg (31 * (if 0 < ln then zdgS R rc ln 1667 else 1667) + sd.toInt64) pn) i) (nI i) ) gX6_digest_X6_howMany (by decide +kernel) rfl ⟨rfl, rfl⟩ ⟨Nat.le_of_ble_eq_true rfl, Nat.le_of_ble_eq_true rfl⟩ rfl (ci := 6) rfl rfl rfl rfl (Nat.le_of_ble_eq_true rfl) ⟨Nat.le_of_ble_eq_true rfl, Nat.le_of_ble_eq_true rfl⟩ dX6_digest_65 ?_
            refine zg_cv (st' := [.int (zcnt pn V bs bp sr i), .ref m0]) rfl (by rw [show zAcnt pn V bs bp sr (nI i) = zcnt pn V bs bp sr i from (by rw [zAcnt, if_pos (zin_nI (show i < 8 by omega) (by decide)), zn_nI (by omega)])]) rfl ?_
            refine zg_i2l C dX6_digest_68 ((zcnt pn V bs bp sr i).toInt64) (rfl) ?_
            refine zg_callw (As := [.long ((zcnt pn V bs bp sr i).toInt64)]) (st := []) (wo := []) C [0, 1, 2, 3, 4, 5, 6] [] 0 1 (c_X6_mix l D cI m0 mp mo mv mn my ml pg Of V Nf Yf Lf pn rc ln rk su rd sd bs bp sr y1 y2 y3 dz (zmix (zcnt pn V bs bp sr) (zmix pg (31 * (if 0 < ln then zdgS R rc ln 1667 else 1667) + sd.toInt64) pn) i) ((zcnt pn V bs bp sr i).toInt64) ) gX6_digest_X6_mix (by decide +kernel) rfl ⟨rfl, rfl⟩ ⟨Nat.le_of_ble_eq_true rfl, Nat.le_of_ble_eq_true rfl⟩ rfl rfl rfl rfl (by decide) (ci := 6) rfl rfl rfl rfl (Nat.le_of_ble_eq_true rfl) ⟨Nat.le_of_ble_eq_true rfl, Nat.le_of_ble_eq_true rfl⟩ dX6_digest_69 (fun v9 w9 hw9 => ?_)
            obtain ⟨rfl, rfl⟩ := hw9
            refine zg_cv (k' := 0) (n' := 0) (st' := []) (ws' := [(m0, .inr (6, [.int (nI pn), .ref mp, .int (nI rc), .int (nI ln), .ref mo, .int sd, .ref mv, .int bs, .int bp, .int sr, .int y1, .int y2, .int y3, .ref mn, .ref my, .ref ml, .int (nI rk), .int dz, .int (nI su), .int (nI rd), .long (31 * (zmix (zcnt pn V bs bp sr) (zmix pg (31 * (if 0 < ln then zdgS R rc ln 1667 else 1667) + sd.toInt64) pn) i) + ((zcnt pn V bs bp sr i).toInt64))])), (mp, .inl (cI, 56, .inl pg)), (mo, .inl (cI, 5, .inl Of)), (mv, .inl (cI, 4, .inl V)), (mn, .inl (cI, 5, .inl Nf)), (my, .inl (cI, 1024, .inl Yf)), (ml, .inl (cI, 32, .inl Lf))]) rfl rfl rfl ?_
            refine zg_iinc C 1 [1, 0] (lv' := [(0, .ref m0), (1, .int (nI (i + 1)))]) (nI (i + 1)) dX6_digest_72 rfl (zi_inc _) (by decide) rfl ?_
            refine zg_goto C 56 dX6_digest_75 (by decide) ?_
            exact zg_cv (lv' := [(0, .ref m0), (1, .int (nI (i + 1)))]) (rfl) rfl (rfl) (ih_56 (by omega) )
        exact zg_cv (lv' := [(0, .ref m0), (1, .int (nI 0))]) (rfl) rfl (rfl) (L_56 0 (Nat.zero_le _) )
      · skip
        refine zg_aload_n C 0 dX6_digest_37 rfl ?_
        refine zg_aload_n C 0 dX6_digest_38 rfl ?_
        refine zg_get C 0 (ci := 6) (f := 1) rfl rfl uX6_digest_6 (by decide) fX6_digest_6_1 dX6_digest_39 rfl ?_
        refine zg_iload_n C 1 dX6_digest_42 rfl ?_
        refine zg_iald C 1 rfl (by omega) (by decide) dX6_digest_43 (pg i) (rfl) ?_
        refine zg_i2l C dX6_digest_44 ((pg i).toInt64) (rfl) ?_
        refine zg_callw (As := [.long ((pg i).toInt64)]) (st := []) (wo := []) C [0, 1, 2, 3, 4, 5, 6] [] 0 1 (c_X6_mix l D cI m0 mp mo mv mn my ml pg Of V Nf Yf Lf pn rc ln rk su rd sd bs bp sr y1 y2 y3 dz (zmix pg (31 * (if 0 < ln then zdgS R rc ln 1667 else 1667) + sd.toInt64) i) ((pg i).toInt64) ) gX6_digest_X6_mix (by decide +kernel) rfl ⟨rfl, rfl⟩ ⟨Nat.le_of_ble_eq_true rfl, Nat.le_of_ble_eq_true rfl⟩ rfl rfl rfl rfl (by decide) (ci := 6) rfl rfl rfl rfl (Nat.le_of_ble_eq_true rfl) ⟨Nat.le_of_ble_eq_true rfl, Nat.le_of_ble_eq_true rfl⟩ dX6_digest_45 (fun v9 w9 hw9 => ?_)
        obtain ⟨rfl, rfl⟩ := hw9
        refine zg_cv (k' := 0) (n' := 0) (st' := []) (ws' := [(m0, .inr (6, [.int (nI pn), .ref mp, .int (nI rc), .int (nI ln), .ref mo, .int sd, .ref mv, .int bs, .int bp, .int sr, .int y1, .int y2, .int y3, .ref mn, .ref my, .ref ml, .int (nI rk), .int dz, .int (nI su), .int (nI rd), .long (31 * (zmix pg (31 * (if 0 < ln then zdgS R rc ln 1667 else 1667) + sd.toInt64) i) + ((pg i).toInt64))])), (mp, .inl (cI, 56, .inl pg)), (mo, .inl (cI, 5, .inl Of)), (mv, .inl (cI, 4, .inl V)), (mn, .inl (cI, 5, .inl Nf)), (my, .inl (cI, 1024, .inl Yf)), (ml, .inl (cI, 32, .inl Lf))]) rfl rfl rfl ?_
        refine zg_iinc C 1 [1, 0] (lv' := [(0, .ref m0), (1, .int (nI (i + 1)))]) (nI (i + 1)) dX6_digest_48 rfl (zi_inc _) (by decide) rfl ?_
        refine zg_goto C 29 dX6_digest_51 (by decide) ?_
        exact zg_cv (lv' := [(0, .ref m0), (1, .int (nI (i + 1)))]) (rfl) rfl (rfl) (ih_29 (by omega) )
    exact zg_cv (lv' := [(0, .ref m0), (1, .int (nI 0))]) (rfl) rfl (rfl) (L_29 0 (Nat.zero_le _) )
theorem wX6_init_0 : Cond.methodLink RX6 1 objectInit ∈ wsX6_init := by decide +kernel
theorem wX6_init_1 : Cond.instanceMethod objectInit ∈ wsX6_init := by decide +kernel
theorem wX6_init_2 : Cond.code objectInit ⟨#[0xb1]⟩ 1 none ∈ wsX6_init := by decide +kernel
theorem wX6_init_3 : Cond.arrayClass .int ∈ wsX6_init := by decide +kernel
theorem uX6_init_6 : ∀ w ∈ u_ws RX6 TX6 21, w ∈ wsX6_init := fun w h => List.mem_cons_of_mem _ (List.mem_append_right _ h)
theorem fX6_init_6_1 : Cond.fieldLink RX6 7 (TX6 1).1 (TX6 1).2.1 (TX6 1).2.2.1 ∈ wsX6_init := by decide +kernel
theorem fX6_init_6_4 : Cond.fieldLink RX6 13 (TX6 4).1 (TX6 4).2.1 (TX6 4).2.2.1 ∈ wsX6_init := by decide +kernel
theorem fX6_init_6_5 : Cond.fieldLink RX6 16 (TX6 5).1 (TX6 5).2.1 (TX6 5).2.2.1 ∈ wsX6_init := by decide +kernel
theorem fX6_init_6_6 : Cond.fieldLink RX6 20 (TX6 6).1 (TX6 6).2.1 (TX6 6).2.2.1 ∈ wsX6_init := by decide +kernel
theorem fX6_init_6_13 : Cond.fieldLink RX6 23 (TX6 13).1 (TX6 13).2.1 (TX6 13).2.2.1 ∈ wsX6_init := by decide +kernel
theorem fX6_init_6_14 : Cond.fieldLink RX6 26 (TX6 14).1 (TX6 14).2.1 (TX6 14).2.2.1 ∈ wsX6_init := by decide +kernel
theorem fX6_init_6_15 : Cond.fieldLink RX6 29 (TX6 15).1 (TX6 15).2.1 (TX6 15).2.2.1 ∈ wsX6_init := by decide +kernel
set_option maxHeartbeats 1000000 in
set_option maxRecDepth 100000 in
theorem c_X6_init (l : Launch) (D : va_G) (cI : ClassId) (m0 : Nat) : zMw l D cI yX6_init wsX6_init { frames := 1, cells := 6, slots := 1126, locals := 12 } [.ref m0] [(m0, .inr (6, [.int (nI 0), .null, .int (nI 0), .int (nI 0), .null, .int (nI 0), .null, .int (nI 0), .int (nI 0), .int (nI 0), .int (nI 0), .int (nI 0), .int (nI 0), .null, .null, .null, .int (nI 0), .int (nI 0), .int (nI 0), .int (nI 0), .long 0]))] (fun v9 w9 => ∃ (mp mo mv mn my ml : Nat), v9 = none ∧ w9 = [(m0, .inr (6, [.int (nI 0), .ref mp, .int (nI 0), .int (nI 0), .ref mo, .int (-1), .ref mv, .int (nI 0), .int (nI 0), .int (nI 0), .int (nI 0), .int (nI 0), .int (nI 0), .ref mn, .ref my, .ref ml, .int (nI 0), .int (nI 0), .int (nI 0), .int (nI 0), .long 0])), (mp, .inl (cI, 56, .inl (fun _ => 0))), (mo, .inl (cI, 5, .inl (fun _ => 0))), (mv, .inl (cI, 4, .inl (fun _ => 0))), (mn, .inl (cI, 5, .inl (fun _ => 0))), (my, .inl (cI, 1024, .inl (fun _ => 0))), (ml, .inl (cI, 32, .inl (fun _ => 0)))]) 6 1126 := by
  refine zw_ent (maxL := 1) (by decide) rfl (Nat.le_of_ble_eq_true rfl) (fun X C E hin9 => ?_)
  have C : zC X l D cI { frames := 1, cells := 6, slots := 1126, locals := 12 } 1 true cX6_init RX6 wsX6_init := C
  refine zg_cv (lv' := [(0, .ref m0)]) rfl rfl rfl ?_
  refine zg_aload_n C 0 dX6_init_0 rfl ?_
  refine zg_objInit C wX6_init_0 wX6_init_1 wX6_init_2 dX6_init_1 (Nat.le_of_ble_eq_true rfl) (Nat.le_of_ble_eq_true rfl) ?_
  refine zg_aload_n C 0 dX6_init_4 rfl ?_
  refine zg_bipush (v := nI 56) C dX6_init_5 (by decide) ?_
  refine zg_newarr C (by decide) wX6_init_3 (Nat.le_of_ble_eq_true rfl) (Nat.le_of_ble_eq_true rfl) dX6_init_7 (fun q7 => ?_)
  refine zg_cv (k' := 1) (n' := 56) (ws' := [(m0, .inr (6, [.int (nI 0), .null, .int (nI 0), .int (nI 0), .null, .int (nI 0), .null, .int (nI 0), .int (nI 0), .int (nI 0), .int (nI 0), .int (nI 0), .int (nI 0), .null, .null, .null, .int (nI 0), .int (nI 0), .int (nI 0), .int (nI 0), .long 0])), (q7, .inl (cI, 56, .inl (fun _ => 0)))]) rfl rfl rfl ?_
  refine zg_putF C hin9 0 (ci := 6) (f := 1) (ws' := [(m0, .inr (6, [.int (nI 0), .ref q7, .int (nI 0), .int (nI 0), .null, .int (nI 0), .null, .int (nI 0), .int (nI 0), .int (nI 0), .int (nI 0), .int (nI 0), .int (nI 0), .null, .null, .null, .int (nI 0), .int (nI 0), .int (nI 0), .int (nI 0), .long 0])), (q7, .inl (cI, 56, .inl (fun _ => 0)))]) rfl rfl uX6_init_6 tyX6_ok nmX6 (by decide) fX6_init_6_1 rfl rfl rfl rfl rfl (Nat.le_of_ble_eq_true rfl) dX6_init_9 rfl ?_
  refine zg_aload_n C 0 dX6_init_12 rfl ?_
  refine zg_iconst (v := nI 5) C dX6_init_13 (by decide) ?_
  refine zg_newarr C (by decide) wX6_init_3 (Nat.le_of_ble_eq_true rfl) (Nat.le_of_ble_eq_true rfl) dX6_init_14 (fun q14 => ?_)
  refine zg_cv (k' := 2) (n' := 61) (ws' := [(m0, .inr (6, [.int (nI 0), .ref q7, .int (nI 0), .int (nI 0), .null, .int (nI 0), .null, .int (nI 0), .int (nI 0), .int (nI 0), .int (nI 0), .int (nI 0), .int (nI 0), .null, .null, .null, .int (nI 0), .int (nI 0), .int (nI 0), .int (nI 0), .long 0])), (q7, .inl (cI, 56, .inl (fun _ => 0))), (q14, .inl (cI, 5, .inl (fun _ => 0)))]) rfl rfl rfl ?_
  refine zg_putF C hin9 0 (ci := 6) (f := 4) (ws' := [(m0, .inr (6, [.int (nI 0), .ref q7, .int (nI 0), .int (nI 0), .ref q14, .int (nI 0), .null, .int (nI 0), .int (nI 0), .int (nI 0), .int (nI 0), .int (nI 0), .int (nI 0), .null, .null, .null, .int (nI 0), .int (nI 0), .int (nI 0), .int (nI 0), .long 0])), (q7, .inl (cI, 56, .inl (fun _ => 0))), (q14, .inl (cI, 5, .inl (fun _ => 0)))]) rfl rfl uX6_init_6 tyX6_ok nmX6 (by decide) fX6_init_6_4 rfl rfl rfl rfl rfl (Nat.le_of_ble_eq_true rfl) dX6_init_16 rfl ?_
  refine zg_aload_n C 0 dX6_init_19 rfl ?_
  refine zg_iconst (v := (-1)) C dX6_init_20 (by decide) ?_
  refine zg_put C 0 (ci := 6) (f := 5) (ws' := [(m0, .inr (6, [.int (nI 0), .ref q7, .int (nI 0), .int (nI 0), .ref q14, .int (-1), .null, .int (nI 0), .int (nI 0), .int (nI 0), .int (nI 0), .int (nI 0), .int (nI 0), .null, .null, .null, .int (nI 0), .int (nI 0), .int (nI 0), .int (nI 0), .long 0])), (q7, .inl (cI, 56, .inl (fun _ => 0))), (q14, .inl (cI, 5, .inl (fun _ => 0)))]) rfl rfl uX6_init_6 tyX6_ok nmX6 (by decide) fX6_init_6_5 rfl rfl rfl rfl (Nat.le_of_ble_eq_true rfl) dX6_init_21 rfl ?_
  refine zg_aload_n C 0 dX6_init_24 rfl ?_
  refine zg_iconst (v := nI 4) C dX6_init_25 (by decide) ?_
  refine zg_newarr C (by decide) wX6_init_3 (Nat.le_of_ble_eq_true rfl) (Nat.le_of_ble_eq_true rfl) dX6_init_26 (fun q26 => ?_)
  refine zg_cv (k' := 3) (n' := 65) (ws' := [(m0, .inr (6, [.int (nI 0), .ref q7, .int (nI 0), .int (nI 0), .ref q14, .int (-1), .null, .int (nI 0), .int (nI 0), .int (nI 0), .int (nI 0), .int (nI 0), .int (nI 0), .null, .null, .null, .int (nI 0), .int (nI 0), .int (nI 0), .int (nI 0), .long 0])), (q7, .inl (cI, 56, .inl (fun _ => 0))), (q14, .inl (cI, 5, .inl (fun _ => 0))), (q26, .inl (cI, 4, .inl (fun _ => 0)))]) rfl rfl rfl ?_
  refine zg_putF C hin9 0 (ci := 6) (f := 6) (ws' := [(m0, .inr (6, [.int (nI 0), .ref q7, .int (nI 0), .int (nI 0), .ref q14, .int (-1), .ref q26, .int (nI 0), .int (nI 0), .int (nI 0), .int (nI 0), .int (nI 0), .int (nI 0), .null, .null, .null, .int (nI 0), .int (nI 0), .int (nI 0), .int (nI 0), .long 0])), (q7, .inl (cI, 56, .inl (fun _ => 0))), (q14, .inl (cI, 5, .inl (fun _ => 0))), (q26, .inl (cI, 4, .inl (fun _ => 0)))]) rfl rfl uX6_init_6 tyX6_ok nmX6 (by decide) fX6_init_6_6 rfl rfl rfl rfl rfl (Nat.le_of_ble_eq_true rfl) dX6_init_28 rfl ?_
  refine zg_aload_n C 0 dX6_init_31 rfl ?_
  refine zg_iconst (v := nI 5) C dX6_init_32 (by decide) ?_
  refine zg_newarr C (by decide) wX6_init_3 (Nat.le_of_ble_eq_true rfl) (Nat.le_of_ble_eq_true rfl) dX6_init_33 (fun q33 => ?_)
  refine zg_cv (k' := 4) (n' := 70) (ws' := [(m0, .inr (6, [.int (nI 0), .ref q7, .int (nI 0), .int (nI 0), .ref q14, .int (-1), .ref q26, .int (nI 0), .int (nI 0), .int (nI 0), .int (nI 0), .int (nI 0), .int (nI 0), .null, .null, .null, .int (nI 0), .int (nI 0), .int (nI 0), .int (nI 0), .long 0])), (q7, .inl (cI, 56, .inl (fun _ => 0))), (q14, .inl (cI, 5, .inl (fun _ => 0))), (q26, .inl (cI, 4, .inl (fun _ => 0))), (q33, .inl (cI, 5, .inl (fun _ => 0)))]) rfl rfl rfl ?_
  refine zg_putF C hin9 0 (ci := 6) (f := 13) (ws' := [(m0, .inr (6, [.int (nI 0), .ref q7, .int (nI 0), .int (nI 0), .ref q14, .int (-1), .ref q26, .int (nI 0), .int (nI 0), .int (nI 0), .int (nI 0), .int (nI 0), .int (nI 0), .ref q33, .null, .null, .int (nI 0), .int (nI 0), .int (nI 0), .int (nI 0), .long 0])), (q7, .inl (cI, 56, .inl (fun _ => 0))), (q14, .inl (cI, 5, .inl (fun _ => 0))), (q26, .inl (cI, 4, .inl (fun _ => 0))), (q33, .inl (cI, 5, .inl (fun _ => 0)))]) rfl rfl uX6_init_6 tyX6_ok nmX6 (by decide) fX6_init_6_13 rfl rfl rfl rfl rfl (Nat.le_of_ble_eq_true rfl) dX6_init_35 rfl ?_
  refine zg_aload_n C 0 dX6_init_38 rfl ?_
  refine zg_sipush (v := nI 1024) C dX6_init_39 (by decide) ?_
  refine zg_newarr C (by decide) wX6_init_3 (Nat.le_of_ble_eq_true rfl) (Nat.le_of_ble_eq_true rfl) dX6_init_42 (fun q42 => ?_)
  refine zg_cv (k' := 5) (n' := 1094) (ws' := [(m0, .inr (6, [.int (nI 0), .ref q7, .int (nI 0), .int (nI 0), .ref q14, .int (-1), .ref q26, .int (nI 0), .int (nI 0), .int (nI 0), .int (nI 0), .int (nI 0), .int (nI 0), .ref q33, .null, .null, .int (nI 0), .int (nI 0), .int (nI 0), .int (nI 0), .long 0])), (q7, .inl (cI, 56, .inl (fun _ => 0))), (q14, .inl (cI, 5, .inl (fun _ => 0))), (q26, .inl (cI, 4, .inl (fun _ => 0))), (q33, .inl (cI, 5, .inl (fun _ => 0))), (q42, .inl (cI, 1024, .inl (fun _ => 0)))]) rfl rfl rfl ?_
  refine zg_putF C hin9 0 (ci := 6) (f := 14) (ws' := [(m0, .inr (6, [.int (nI 0), .ref q7, .int (nI 0), .int (nI 0), .ref q14, .int (-1), .ref q26, .int (nI 0), .int (nI 0), .int (nI 0), .int (nI 0), .int (nI 0), .int (nI 0), .ref q33, .ref q42, .null, .int (nI 0), .int (nI 0), .int (nI 0), .int (nI 0), .long 0])), (q7, .inl (cI, 56, .inl (fun _ => 0))), (q14, .inl (cI, 5, .inl (fun _ => 0))), (q26, .inl (cI, 4, .inl (fun _ => 0))), (q33, .inl (cI, 5, .inl (fun _ => 0))), (q42, .inl (cI, 1024, .inl (fun _ => 0)))]) rfl rfl uX6_init_6 tyX6_ok nmX6 (by decide) fX6_init_6_14 rfl rfl rfl rfl rfl (Nat.le_of_ble_eq_true rfl) dX6_init_44 rfl ?_
  refine zg_aload_n C 0 dX6_init_47 rfl ?_
  refine zg_bipush (v := nI 32) C dX6_init_48 (by decide) ?_
  refine zg_newarr C (by decide) wX6_init_3 (Nat.le_of_ble_eq_true rfl) (Nat.le_of_ble_eq_true rfl) dX6_init_50 (fun q50 => ?_)
  refine zg_cv (k' := 6) (n' := 1126) (ws' := [(m0, .inr (6, [.int (nI 0), .ref q7, .int (nI 0), .int (nI 0), .ref q14, .int (-1), .ref q26, .int (nI 0), .int (nI 0), .int (nI 0), .int (nI 0), .int (nI 0), .int (nI 0), .ref q33, .ref q42, .null, .int (nI 0), .int (nI 0), .int (nI 0), .int (nI 0), .long 0])), (q7, .inl (cI, 56, .inl (fun _ => 0))), (q14, .inl (cI, 5, .inl (fun _ => 0))), (q26, .inl (cI, 4, .inl (fun _ => 0))), (q33, .inl (cI, 5, .inl (fun _ => 0))), (q42, .inl (cI, 1024, .inl (fun _ => 0))), (q50, .inl (cI, 32, .inl (fun _ => 0)))]) rfl rfl rfl ?_
  refine zg_putF C hin9 0 (ci := 6) (f := 15) (ws' := [(m0, .inr (6, [.int (nI 0), .ref q7, .int (nI 0), .int (nI 0), .ref q14, .int (-1), .ref q26, .int (nI 0), .int (nI 0), .int (nI 0), .int (nI 0), .int (nI 0), .int (nI 0), .ref q33, .ref q42, .ref q50, .int (nI 0), .int (nI 0), .int (nI 0), .int (nI 0), .long 0])), (q7, .inl (cI, 56, .inl (fun _ => 0))), (q14, .inl (cI, 5, .inl (fun _ => 0))), (q26, .inl (cI, 4, .inl (fun _ => 0))), (q33, .inl (cI, 5, .inl (fun _ => 0))), (q42, .inl (cI, 1024, .inl (fun _ => 0))), (q50, .inl (cI, 32, .inl (fun _ => 0)))]) rfl rfl uX6_init_6 tyX6_ok nmX6 (by decide) fX6_init_6_15 rfl rfl rfl rfl rfl (Nat.le_of_ble_eq_true rfl) dX6_init_52 rfl ?_
  exact zg_wvret C E dX6_init_55 (⟨_, _, _, _, _, _, rfl, rfl⟩)
