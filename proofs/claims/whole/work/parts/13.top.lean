/-! CosetGauges: what its users call -/
theorem uX5_letter_5 : ∀ w ∈ u_ws RX5 TX5 5, w ∈ wsX5_letter := fun w h => List.mem_cons_of_mem _ (List.mem_append_left _ (List.mem_append_right _ h))
theorem fX5_letter_5_0 : Cond.fieldLink RX5 10 (TX5 0).1 (TX5 0).2.1 (TX5 0).2.2.1 ∈ wsX5_letter := by decide +kernel
set_option maxHeartbeats 1000000 in
set_option maxRecDepth 100000 in
theorem c_X5_letter (l : Launch) (D : va_G) (cI : ClassId) (c0 p0 g0 r0 b0 h0 a0 a1 a2 t0 v0 d0 : Nat) (pg : Nat → Int32) (pn : Nat) (x1 x2 x3 : Int32) (Qf Rf Lf Wf : Nat → Int32) (rc ln rk ds su rd : Nat) (V : Nat → Int32) (bs bp sr sd : Int32) (R : Nat → Nat) (x : Int32) (hok : zokL pn x) : zMw l D cI yX5_letter wsX5_letter { frames := 1, cells := 0, slots := 0, locals := 21 } [.ref c0, .int x] [(c0, .inr (5, [.ref p0, .ref r0, .ref h0, .ref t0, .ref d0])), (p0, .inr (1, [.ref g0, .int (nI pn)])), (g0, .inl (cI, 56, .inl pg)), (r0, .inr (2, [.ref b0, .int x1, .int x2, .int x3])), (b0, .inl (cI, 5, .inl Qf)), (h0, .inr (3, [.ref a0, .ref a1, .ref a2, .int (nI rc), .int (nI ln), .int (nI rk), .int (nI ds), .int (nI su), .int (nI rd)])), (a0, .inl (cI, 5, .inl Rf)), (a1, .inl (cI, 32, .inl Lf)), (a2, .inl (cI, 11, .inl Wf)), (t0, .inr (4, [.ref v0, .int bs, .int bp, .int sr])), (v0, .inl (cI, 4, .inl V)), (d0, .inr (0, [.int sd]))] (fun v9 w9 => v9 = some (.int (nI (pn + 1))) ∧ w9 = [(c0, .inr (5, [.ref p0, .ref r0, .ref h0, .ref t0, .ref d0])), (p0, .inr (1, [.ref g0, .int (nI (pn + 1))])), (g0, .inl (cI, 56, .inl (upd pg pn x))), (r0, .inr (2, [.ref b0, .int x1, .int x2, .int x3])), (b0, .inl (cI, 5, .inl Qf)), (h0, .inr (3, [.ref a0, .ref a1, .ref a2, .int (nI rc), .int (nI ln), .int (nI rk), .int (nI ds), .int (nI su), .int (nI rd)])), (a0, .inl (cI, 5, .inl Rf)), (a1, .inl (cI, 32, .inl Lf)), (a2, .inl (cI, 11, .inl Wf)), (t0, .inr (4, [.ref v0, .int bs, .int bp, .int sr])), (v0, .inl (cI, 4, .inl V)), (d0, .inr (0, [.int sd]))]) 0 0 := by
  refine zw_ent (maxL := 2) (by decide) rfl (Nat.le_of_ble_eq_true rfl) (fun X C E hin9 => ?_)
  have C : zC X l D cI { frames := 1, cells := 0, slots := 0, locals := 21 } 2 true cX5_letter RX5 wsX5_letter := C
  refine zg_cv (lv' := [(0, .ref c0), (1, .int x)]) rfl rfl rfl ?_
  obtain ⟨o1, o2, o3⟩ := id hok
  refine zg_iload_n C 1 dX5_letter_0 rfl ?_
  refine zg_bipush (v := nI 32) C dX5_letter_1 (by decide) ?_
  refine zg_icmp_lt C 12 dX5_letter_3 (by decide) (fun c_3 => by exact absurd c_3 (zlt_not.mpr o1)) (fun c_3 => ?_)
  refine zg_iload_n C 1 dX5_letter_6 rfl ?_
  refine zg_bipush (v := nI 126) C dX5_letter_7 (by decide) ?_
  refine zg_icmp_le C 16 dX5_letter_9 (by decide) (fun c_9 => ?_) (fun c_9 => by exact absurd o2 c_9)
  refine zg_aload_n C 0 dX5_letter_16 rfl ?_
  refine zg_get C 0 (ci := 5) (f := 0) rfl rfl uX5_letter_5 (by decide) fX5_letter_5_0 dX5_letter_17 rfl ?_
  refine zg_iload_n C 1 dX5_letter_20 rfl ?_
  refine zg_callw (As := [.int x]) (st := []) (wo := [(c0, .inr (5, [.ref p0, .ref r0, .ref h0, .ref t0, .ref d0])), (r0, .inr (2, [.ref b0, .int x1, .int x2, .int x3])), (b0, .inl (cI, 5, .inl Qf)), (h0, .inr (3, [.ref a0, .ref a1, .ref a2, .int (nI rc), .int (nI ln), .int (nI rk), .int (nI ds), .int (nI su), .int (nI rd)])), (a0, .inl (cI, 5, .inl Rf)), (a1, .inl (cI, 32, .inl Lf)), (a2, .inl (cI, 11, .inl Wf)), (t0, .inr (4, [.ref v0, .int bs, .int bp, .int sr])), (v0, .inl (cI, 4, .inl V)), (d0, .inr (0, [.int sd]))]) C [1, 2] [0, 3, 4, 5, 6, 7, 8, 9, 10, 11] 1 1 (c_X1_append l D cI p0 g0 pg pn x (by omega)) gX5_letter_X1_append (by decide +kernel) rfl ⟨rfl, rfl⟩ ⟨Nat.le_of_ble_eq_true rfl, Nat.le_of_ble_eq_true rfl⟩ rfl rfl rfl rfl (by decide) (ci := 1) rfl rfl rfl rfl (Nat.le_of_ble_eq_true rfl) ⟨Nat.le_of_ble_eq_true rfl, Nat.le_of_ble_eq_true rfl⟩ dX5_letter_21 (fun v9 w9 hw9 => ?_)
  obtain ⟨rfl, rfl⟩ := hw9
  refine zg_cv (k' := 0) (n' := 0) (st' := [.int (zb (decide (pn < 56)))]) (ws' := [(c0, .inr (5, [.ref p0, .ref r0, .ref h0, .ref t0, .ref d0])), (r0, .inr (2, [.ref b0, .int x1, .int x2, .int x3])), (b0, .inl (cI, 5, .inl Qf)), (h0, .inr (3, [.ref a0, .ref a1, .ref a2, .int (nI rc), .int (nI ln), .int (nI rk), .int (nI ds), .int (nI su), .int (nI rd)])), (a0, .inl (cI, 5, .inl Rf)), (a1, .inl (cI, 32, .inl Lf)), (a2, .inl (cI, 11, .inl Wf)), (t0, .inr (4, [.ref v0, .int bs, .int bp, .int sr])), (v0, .inl (cI, 4, .inl V)), (d0, .inr (0, [.int sd])), (p0, .inr (1, [.ref g0, .int (nI (if pn < 56 then pn + 1 else pn))])), (g0, .inl (cI, 56, .inl (if pn < 56 then upd pg pn x else pg)))]) rfl rfl rfl ?_
  refine zg_perm [0, 10, 11, 1, 2, 3, 4, 5, 6, 7, 8, 9] (ws' := [(c0, .inr (5, [.ref p0, .ref r0, .ref h0, .ref t0, .ref d0])), (p0, .inr (1, [.ref g0, .int (nI (if pn < 56 then pn + 1 else pn))])), (g0, .inl (cI, 56, .inl (if pn < 56 then upd pg pn x else pg))), (r0, .inr (2, [.ref b0, .int x1, .int x2, .int x3])), (b0, .inl (cI, 5, .inl Qf)), (h0, .inr (3, [.ref a0, .ref a1, .ref a2, .int (nI rc), .int (nI ln), .int (nI rk), .int (nI ds), .int (nI su), .int (nI rd)])), (a0, .inl (cI, 5, .inl Rf)), (a1, .inl (cI, 32, .inl Lf)), (a2, .inl (cI, 11, .inl Wf)), (t0, .inr (4, [.ref v0, .int bs, .int bp, .int sr])), (v0, .inl (cI, 4, .inl V)), (d0, .inr (0, [.int sd]))]) rfl rfl ?_
  refine zp_if_eq C 37 dX5_letter_24 (by decide) (fun c_24 => by exact absurd o3 c_24) (fun c_24 => ?_)
  refine zg_cell 2 (ws' := [(c0, .inr (5, [.ref p0, .ref r0, .ref h0, .ref t0, .ref d0])), (p0, .inr (1, [.ref g0, .int (nI (if pn < 56 then pn + 1 else pn))])), (g0, .inl (cI, 56, .inl (upd pg pn x))), (r0, .inr (2, [.ref b0, .int x1, .int x2, .int x3])), (b0, .inl (cI, 5, .inl Qf)), (h0, .inr (3, [.ref a0, .ref a1, .ref a2, .int (nI rc), .int (nI ln), .int (nI rk), .int (nI ds), .int (nI su), .int (nI rd)])), (a0, .inl (cI, 5, .inl Rf)), (a1, .inl (cI, 32, .inl Lf)), (a2, .inl (cI, 11, .inl Wf)), (t0, .inr (4, [.ref v0, .int bs, .int bp, .int sr])), (v0, .inl (cI, 4, .inl V)), (d0, .inr (0, [.int sd]))]) (upd pg pn x) rfl (fun j _ => by rw [if_pos o3]) rfl ?_
  refine zg_cv (ws' := [(c0, .inr (5, [.ref p0, .ref r0, .ref h0, .ref t0, .ref d0])), (p0, .inr (1, [.ref g0, .int (nI (pn + 1))])), (g0, .inl (cI, 56, .inl (upd pg pn x))), (r0, .inr (2, [.ref b0, .int x1, .int x2, .int x3])), (b0, .inl (cI, 5, .inl Qf)), (h0, .inr (3, [.ref a0, .ref a1, .ref a2, .int (nI rc), .int (nI ln), .int (nI rk), .int (nI ds), .int (nI su), .int (nI rd)])), (a0, .inl (cI, 5, .inl Rf)), (a1, .inl (cI, 32, .inl Lf)), (a2, .inl (cI, 11, .inl Wf)), (t0, .inr (4, [.ref v0, .int bs, .int bp, .int sr])), (v0, .inl (cI, 4, .inl V)), (d0, .inr (0, [.int sd]))]) rfl rfl (by rw [if_pos o3]) ?_
  refine zg_aload_n C 0 dX5_letter_27 rfl ?_
  refine zg_get C 0 (ci := 5) (f := 0) rfl rfl uX5_letter_5 (by decide) fX5_letter_5_0 dX5_letter_28 rfl ?_
  refine zg_callr (As := []) (st := []) C [1, 2] 1 0 (c_X1_size l D cI p0 g0 (upd pg pn x) (pn + 1) ) gX5_letter_X1_size (by decide +kernel) rfl ⟨rfl, rfl⟩ ⟨Nat.le_of_ble_eq_true rfl, Nat.le_of_ble_eq_true rfl⟩ rfl (ci := 1) rfl rfl rfl rfl (Nat.le_of_ble_eq_true rfl) ⟨Nat.le_of_ble_eq_true rfl, Nat.le_of_ble_eq_true rfl⟩ dX5_letter_31 ?_
  refine zg_goto C 40 dX5_letter_34 (by decide) ?_
  exact zg_wiret C E dX5_letter_40 (⟨rfl, rfl⟩)
theorem uc_X5_letter_no_5 : ∀ w ∈ u_ws RX5 TX5 5, w ∈ wsX5_letter := fun w h => List.mem_cons_of_mem _ (List.mem_append_left _ (List.mem_append_right _ h))
theorem fc_X5_letter_no_5_0 : Cond.fieldLink RX5 10 (TX5 0).1 (TX5 0).2.1 (TX5 0).2.2.1 ∈ wsX5_letter := by decide +kernel
set_option maxHeartbeats 1000000 in
set_option maxRecDepth 100000 in
theorem c_X5_letter_no (l : Launch) (D : va_G) (cI : ClassId) (c0 p0 g0 r0 b0 h0 a0 a1 a2 t0 v0 d0 : Nat) (pg : Nat → Int32) (pn : Nat) (x1 x2 x3 : Int32) (Qf Rf Lf Wf : Nat → Int32) (rc ln rk ds su rd : Nat) (V : Nat → Int32) (bs bp sr sd : Int32) (R : Nat → Nat) (x : Int32) (hno : ¬ zokL pn x) (hpn : pn ≤ 56) : zMw l D cI yX5_letter wsX5_letter { frames := 1, cells := 0, slots := 0, locals := 21 } [.ref c0, .int x] [(c0, .inr (5, [.ref p0, .ref r0, .ref h0, .ref t0, .ref d0])), (p0, .inr (1, [.ref g0, .int (nI pn)])), (g0, .inl (cI, 56, .inl pg)), (r0, .inr (2, [.ref b0, .int x1, .int x2, .int x3])), (b0, .inl (cI, 5, .inl Qf)), (h0, .inr (3, [.ref a0, .ref a1, .ref a2, .int (nI rc), .int (nI ln), .int (nI rk), .int (nI ds), .int (nI su), .int (nI rd)])), (a0, .inl (cI, 5, .inl Rf)), (a1, .inl (cI, 32, .inl Lf)), (a2, .inl (cI, 11, .inl Wf)), (t0, .inr (4, [.ref v0, .int bs, .int bp, .int sr])), (v0, .inl (cI, 4, .inl V)), (d0, .inr (0, [.int sd]))] (fun v9 w9 => v9 = some (.int (zAlet pn x)) ∧ w9 = [(c0, .inr (5, [.ref p0, .ref r0, .ref h0, .ref t0, .ref d0])), (p0, .inr (1, [.ref g0, .int (nI pn)])), (g0, .inl (cI, 56, .inl pg)), (r0, .inr (2, [.ref b0, .int x1, .int x2, .int x3])), (b0, .inl (cI, 5, .inl Qf)), (h0, .inr (3, [.ref a0, .ref a1, .ref a2, .int (nI rc), .int (nI ln), .int (nI rk), .int (nI ds), .int (nI su), .int (nI rd)])), (a0, .inl (cI, 5, .inl Rf)), (a1, .inl (cI, 32, .inl Lf)), (a2, .inl (cI, 11, .inl Wf)), (t0, .inr (4, [.ref v0, .int bs, .int bp, .int sr])), (v0, .inl (cI, 4, .inl V)), (d0, .inr (0, [.int sd]))]) 0 0 := by
  refine zw_ent (maxL := 2) (by decide) rfl (Nat.le_of_ble_eq_true rfl) (fun X C E hin9 => ?_)
  have C : zC X l D cI { frames := 1, cells := 0, slots := 0, locals := 21 } 2 true cX5_letter RX5 wsX5_letter := C
  refine zg_cv (lv' := [(0, .ref c0), (1, .int x)]) rfl rfl rfl ?_
  refine zg_iload_n C 1 dX5_letter_0 rfl ?_
  refine zg_bipush (v := nI 32) C dX5_letter_1 (by decide) ?_
  refine zg_icmp_lt C 12 dX5_letter_3 (by decide) (fun c_3 => ?_) (fun c_3 => ?_)
  · skip
    refine zg_sipush (v := (-1002)) C dX5_letter_12 (by decide) ?_
    exact zg_wiret C E dX5_letter_15 (⟨by rw [zAlet, if_neg (fun q => absurd c_3 (zlt_not.mpr q.1))], rfl⟩)
  · skip
    refine zg_iload_n C 1 dX5_letter_6 rfl ?_
    refine zg_bipush (v := nI 126) C dX5_letter_7 (by decide) ?_
    refine zg_icmp_le C 16 dX5_letter_9 (by decide) (fun c_9 => ?_) (fun c_9 => ?_)
    · skip
      refine zg_aload_n C 0 dX5_letter_16 rfl ?_
      refine zg_get C 0 (ci := 5) (f := 0) rfl rfl uc_X5_letter_no_5 (by decide) fc_X5_letter_no_5_0 dX5_letter_17 rfl ?_
      refine zg_iload_n C 1 dX5_letter_20 rfl ?_
      refine zg_callw (As := [.int x]) (st := []) (wo := [(c0, .inr (5, [.ref p0, .ref r0, .ref h0, .ref t0, .ref d0])), (r0, .inr (2, [.ref b0, .int x1, .int x2, .int x3])), (b0, .inl (cI, 5, .inl Qf)), (h0, .inr (3, [.ref a0, .ref a1, .ref a2, .int (nI rc), .int (nI ln), .int (nI rk), .int (nI ds), .int (nI su), .int (nI rd)])), (a0, .inl (cI, 5, .inl Rf)), (a1, .inl (cI, 32, .inl Lf)), (a2, .inl (cI, 11, .inl Wf)), (t0, .inr (4, [.ref v0, .int bs, .int bp, .int sr])), (v0, .inl (cI, 4, .inl V)), (d0, .inr (0, [.int sd]))]) C [1, 2] [0, 3, 4, 5, 6, 7, 8, 9, 10, 11] 1 1 (c_X1_append l D cI p0 g0 pg pn x hpn) gX5_letter_X1_append (by decide +kernel) rfl ⟨rfl, rfl⟩ ⟨Nat.le_of_ble_eq_true rfl, Nat.le_of_ble_eq_true rfl⟩ rfl rfl rfl rfl (by decide) (ci := 1) rfl rfl rfl rfl (Nat.le_of_ble_eq_true rfl) ⟨Nat.le_of_ble_eq_true rfl, Nat.le_of_ble_eq_true rfl⟩ dX5_letter_21 (fun v9 w9 hw9 => ?_)
      obtain ⟨rfl, rfl⟩ := hw9
      refine zg_cv (k' := 0) (n' := 0) (st' := [.int (zb (decide (pn < 56)))]) (ws' := [(c0, .inr (5, [.ref p0, .ref r0, .ref h0, .ref t0, .ref d0])), (r0, .inr (2, [.ref b0, .int x1, .int x2, .int x3])), (b0, .inl (cI, 5, .inl Qf)), (h0, .inr (3, [.ref a0, .ref a1, .ref a2, .int (nI rc), .int (nI ln), .int (nI rk), .int (nI ds), .int (nI su), .int (nI rd)])), (a0, .inl (cI, 5, .inl Rf)), (a1, .inl (cI, 32, .inl Lf)), (a2, .inl (cI, 11, .inl Wf)), (t0, .inr (4, [.ref v0, .int bs, .int bp, .int sr])), (v0, .inl (cI, 4, .inl V)), (d0, .inr (0, [.int sd])), (p0, .inr (1, [.ref g0, .int (nI (if pn < 56 then pn + 1 else pn))])), (g0, .inl (cI, 56, .inl (if pn < 56 then upd pg pn x else pg)))]) rfl rfl rfl ?_
      refine zg_perm [0, 10, 11, 1, 2, 3, 4, 5, 6, 7, 8, 9] (ws' := [(c0, .inr (5, [.ref p0, .ref r0, .ref h0, .ref t0, .ref d0])), (p0, .inr (1, [.ref g0, .int (nI (if pn < 56 then pn + 1 else pn))])), (g0, .inl (cI, 56, .inl (if pn < 56 then upd pg pn x else pg))), (r0, .inr (2, [.ref b0, .int x1, .int x2, .int x3])), (b0, .inl (cI, 5, .inl Qf)), (h0, .inr (3, [.ref a0, .ref a1, .ref a2, .int (nI rc), .int (nI ln), .int (nI rk), .int (nI ds), .int (nI su), .int (nI rd)])), (a0, .inl (cI, 5, .inl Rf)), (a1, .inl (cI, 32, .inl Lf)), (a2, .inl (cI, 11, .inl Wf)), (t0, .inr (4, [.ref v0, .int bs, .int bp, .int sr])), (v0, .inl (cI, 4, .inl V)), (d0, .inr (0, [.int sd]))]) rfl rfl ?_
      refine zp_if_eq C 37 dX5_letter_24 (by decide) (fun c_24 => ?_) (fun c_24 => by exact (hno ⟨zlt_not.mp c_3, c_9, c_24⟩).elim)
      refine zg_cell 2 (ws' := [(c0, .inr (5, [.ref p0, .ref r0, .ref h0, .ref t0, .ref d0])), (p0, .inr (1, [.ref g0, .int (nI (if pn < 56 then pn + 1 else pn))])), (g0, .inl (cI, 56, .inl pg)), (r0, .inr (2, [.ref b0, .int x1, .int x2, .int x3])), (b0, .inl (cI, 5, .inl Qf)), (h0, .inr (3, [.ref a0, .ref a1, .ref a2, .int (nI rc), .int (nI ln), .int (nI rk), .int (nI ds), .int (nI su), .int (nI rd)])), (a0, .inl (cI, 5, .inl Rf)), (a1, .inl (cI, 32, .inl Lf)), (a2, .inl (cI, 11, .inl Wf)), (t0, .inr (4, [.ref v0, .int bs, .int bp, .int sr])), (v0, .inl (cI, 4, .inl V)), (d0, .inr (0, [.int sd]))]) pg rfl (fun j _ => by rw [if_neg c_24]) rfl ?_
      refine zg_cv (ws' := [(c0, .inr (5, [.ref p0, .ref r0, .ref h0, .ref t0, .ref d0])), (p0, .inr (1, [.ref g0, .int (nI pn)])), (g0, .inl (cI, 56, .inl pg)), (r0, .inr (2, [.ref b0, .int x1, .int x2, .int x3])), (b0, .inl (cI, 5, .inl Qf)), (h0, .inr (3, [.ref a0, .ref a1, .ref a2, .int (nI rc), .int (nI ln), .int (nI rk), .int (nI ds), .int (nI su), .int (nI rd)])), (a0, .inl (cI, 5, .inl Rf)), (a1, .inl (cI, 32, .inl Lf)), (a2, .inl (cI, 11, .inl Wf)), (t0, .inr (4, [.ref v0, .int bs, .int bp, .int sr])), (v0, .inl (cI, 4, .inl V)), (d0, .inr (0, [.int sd]))]) rfl rfl (by rw [if_neg c_24]) ?_
      refine zg_sipush (v := (-1004)) C dX5_letter_37 (by decide) ?_
      exact zg_wiret C E dX5_letter_40 (⟨by rw [zAlet, if_pos ⟨zlt_not.mp c_3, c_9⟩, if_neg c_24], rfl⟩)
    · skip
      refine zg_sipush (v := (-1002)) C dX5_letter_12 (by decide) ?_
      exact zg_wiret C E dX5_letter_15 (⟨by rw [zAlet, if_neg (fun q => c_9 q.2)], rfl⟩)
theorem uX5_blank_5 : ∀ w ∈ u_ws RX5 TX5 5, w ∈ wsX5_blank := fun w h => List.mem_cons_of_mem _ (List.mem_append_left _ (List.mem_append_right _ h))
theorem fX5_blank_5_0 : Cond.fieldLink RX5 10 (TX5 0).1 (TX5 0).2.1 (TX5 0).2.2.1 ∈ wsX5_blank := by decide +kernel
set_option maxHeartbeats 1000000 in
set_option maxRecDepth 100000 in
theorem c_X5_blank (l : Launch) (D : va_G) (cI : ClassId) (c0 p0 g0 r0 b0 h0 a0 a1 a2 t0 v0 d0 : Nat) (pg : Nat → Int32) (pn : Nat) (x1 x2 x3 : Int32) (Qf Rf Lf Wf : Nat → Int32) (rc ln rk ds su rd : Nat) (V : Nat → Int32) (bs bp sr sd : Int32) (R : Nat → Nat) : zMw l D cI yX5_blank wsX5_blank { frames := 1, cells := 0, slots := 0, locals := 20 } [.ref c0] [(c0, .inr (5, [.ref p0, .ref r0, .ref h0, .ref t0, .ref d0])), (p0, .inr (1, [.ref g0, .int (nI pn)])), (g0, .inl (cI, 56, .inl pg)), (r0, .inr (2, [.ref b0, .int x1, .int x2, .int x3])), (b0, .inl (cI, 5, .inl Qf)), (h0, .inr (3, [.ref a0, .ref a1, .ref a2, .int (nI rc), .int (nI ln), .int (nI rk), .int (nI ds), .int (nI su), .int (nI rd)])), (a0, .inl (cI, 5, .inl Rf)), (a1, .inl (cI, 32, .inl Lf)), (a2, .inl (cI, 11, .inl Wf)), (t0, .inr (4, [.ref v0, .int bs, .int bp, .int sr])), (v0, .inl (cI, 4, .inl V)), (d0, .inr (0, [.int sd]))] (fun v9 w9 => v9 = some (.int (nI pn)) ∧ w9 = [(c0, .inr (5, [.ref p0, .ref r0, .ref h0, .ref t0, .ref d0])), (p0, .inr (1, [.ref g0, .int (nI 0)])), (g0, .inl (cI, 56, .inl pg)), (r0, .inr (2, [.ref b0, .int x1, .int x2, .int x3])), (b0, .inl (cI, 5, .inl Qf)), (h0, .inr (3, [.ref a0, .ref a1, .ref a2, .int (nI rc), .int (nI ln), .int (nI rk), .int (nI ds), .int (nI su), .int (nI rd)])), (a0, .inl (cI, 5, .inl Rf)), (a1, .inl (cI, 32, .inl Lf)), (a2, .inl (cI, 11, .inl Wf)), (t0, .inr (4, [.ref v0, .int bs, .int bp, .int sr])), (v0, .inl (cI, 4, .inl V)), (d0, .inr (0, [.int sd]))]) 0 0 := by
  refine zw_ent (maxL := 2) (by decide) rfl (Nat.le_of_ble_eq_true rfl) (fun X C E hin9 => ?_)
  have C : zC X l D cI { frames := 1, cells := 0, slots := 0, locals := 20 } 2 true cX5_blank RX5 wsX5_blank := C
  refine zg_cv (lv' := [(0, .ref c0)]) rfl rfl rfl ?_
  refine zg_aload_n C 0 dX5_blank_0 rfl ?_
  refine zg_get C 0 (ci := 5) (f := 0) rfl rfl uX5_blank_5 (by decide) fX5_blank_5_0 dX5_blank_1 rfl ?_
  refine zg_callr (As := []) (st := []) C [1, 2] 1 0 (c_X1_size l D cI p0 g0 pg pn ) gX5_blank_X1_size (by decide +kernel) rfl ⟨rfl, rfl⟩ ⟨Nat.le_of_ble_eq_true rfl, Nat.le_of_ble_eq_true rfl⟩ rfl (ci := 1) rfl rfl rfl rfl (Nat.le_of_ble_eq_true rfl) ⟨Nat.le_of_ble_eq_true rfl, Nat.le_of_ble_eq_true rfl⟩ dX5_blank_4 ?_
  refine zg_istore_n C [1, 0] (lv' := [(0, .ref c0), (1, .int (nI pn))]) dX5_blank_7 (by decide) rfl ?_
  refine zg_aload_n C 0 dX5_blank_8 rfl ?_
  refine zg_get C 0 (ci := 5) (f := 0) rfl rfl uX5_blank_5 (by decide) fX5_blank_5_0 dX5_blank_9 rfl ?_
  refine zg_callw (As := []) (st := []) (wo := [(c0, .inr (5, [.ref p0, .ref r0, .ref h0, .ref t0, .ref d0])), (r0, .inr (2, [.ref b0, .int x1, .int x2, .int x3])), (b0, .inl (cI, 5, .inl Qf)), (h0, .inr (3, [.ref a0, .ref a1, .ref a2, .int (nI rc), .int (nI ln), .int (nI rk), .int (nI ds), .int (nI su), .int (nI rd)])), (a0, .inl (cI, 5, .inl Rf)), (a1, .inl (cI, 32, .inl Lf)), (a2, .inl (cI, 11, .inl Wf)), (t0, .inr (4, [.ref v0, .int bs, .int bp, .int sr])), (v0, .inl (cI, 4, .inl V)), (d0, .inr (0, [.int sd]))]) C [1, 2] [0, 3, 4, 5, 6, 7, 8, 9, 10, 11] 1 0 (c_X1_clear l D cI p0 g0 pg pn ) gX5_blank_X1_clear (by decide +kernel) rfl ⟨rfl, rfl⟩ ⟨Nat.le_of_ble_eq_true rfl, Nat.le_of_ble_eq_true rfl⟩ rfl rfl rfl rfl (by decide) (ci := 1) rfl rfl rfl rfl (Nat.le_of_ble_eq_true rfl) ⟨Nat.le_of_ble_eq_true rfl, Nat.le_of_ble_eq_true rfl⟩ dX5_blank_12 (fun v9 w9 hw9 => ?_)
  obtain ⟨rfl, rfl⟩ := hw9
  refine zg_cv (k' := 0) (n' := 0) (st' := []) (ws' := [(c0, .inr (5, [.ref p0, .ref r0, .ref h0, .ref t0, .ref d0])), (r0, .inr (2, [.ref b0, .int x1, .int x2, .int x3])), (b0, .inl (cI, 5, .inl Qf)), (h0, .inr (3, [.ref a0, .ref a1, .ref a2, .int (nI rc), .int (nI ln), .int (nI rk), .int (nI ds), .int (nI su), .int (nI rd)])), (a0, .inl (cI, 5, .inl Rf)), (a1, .inl (cI, 32, .inl Lf)), (a2, .inl (cI, 11, .inl Wf)), (t0, .inr (4, [.ref v0, .int bs, .int bp, .int sr])), (v0, .inl (cI, 4, .inl V)), (d0, .inr (0, [.int sd])), (p0, .inr (1, [.ref g0, .int (nI 0)])), (g0, .inl (cI, 56, .inl pg))]) rfl rfl rfl ?_
  refine zg_perm [0, 10, 11, 1, 2, 3, 4, 5, 6, 7, 8, 9] (ws' := [(c0, .inr (5, [.ref p0, .ref r0, .ref h0, .ref t0, .ref d0])), (p0, .inr (1, [.ref g0, .int (nI 0)])), (g0, .inl (cI, 56, .inl pg)), (r0, .inr (2, [.ref b0, .int x1, .int x2, .int x3])), (b0, .inl (cI, 5, .inl Qf)), (h0, .inr (3, [.ref a0, .ref a1, .ref a2, .int (nI rc), .int (nI ln), .int (nI rk), .int (nI ds), .int (nI su), .int (nI rd)])), (a0, .inl (cI, 5, .inl Rf)), (a1, .inl (cI, 32, .inl Lf)), (a2, .inl (cI, 11, .inl Wf)), (t0, .inr (4, [.ref v0, .int bs, .int bp, .int sr])), (v0, .inl (cI, 4, .inl V)), (d0, .inr (0, [.int sd]))]) rfl rfl ?_
  refine zg_iload_n C 1 dX5_blank_15 rfl ?_
  exact zg_wiret C E dX5_blank_16 (⟨rfl, rfl⟩)
theorem uX5_fault_5 : ∀ w ∈ u_ws RX5 TX5 5, w ∈ wsX5_fault := fun w h => List.mem_cons_of_mem _ (List.mem_append_left _ (List.mem_append_left _ (List.mem_append_right _ h)))
theorem fX5_fault_5_1 : Cond.fieldLink RX5 19 (TX5 1).1 (TX5 1).2.1 (TX5 1).2.2.1 ∈ wsX5_fault := by decide +kernel
theorem fX5_fault_5_0 : Cond.fieldLink RX5 10 (TX5 0).1 (TX5 0).2.1 (TX5 0).2.2.1 ∈ wsX5_fault := by decide +kernel
set_option maxHeartbeats 1000000 in
set_option maxRecDepth 100000 in
theorem c_X5_fault (l : Launch) (D : va_G) (cI : ClassId) (c0 p0 g0 r0 b0 h0 a0 a1 a2 t0 v0 d0 : Nat) (pg : Nat → Int32) (pn : Nat) (x1 x2 x3 : Int32) (Qf Rf Lf Wf : Nat → Int32) (rc ln rk ds su rd : Nat) (V : Nat → Int32) (bs bp sr sd : Int32) (R : Nat → Nat) (hpn : pn ≤ 56) : zMw l D cI yX5_fault wsX5_fault { frames := 4, cells := 0, slots := 0, locals := 83 } [.ref c0] [(c0, .inr (5, [.ref p0, .ref r0, .ref h0, .ref t0, .ref d0])), (p0, .inr (1, [.ref g0, .int (nI pn)])), (g0, .inl (cI, 56, .inl pg)), (r0, .inr (2, [.ref b0, .int x1, .int x2, .int x3])), (b0, .inl (cI, 5, .inl Qf)), (h0, .inr (3, [.ref a0, .ref a1, .ref a2, .int (nI rc), .int (nI ln), .int (nI rk), .int (nI ds), .int (nI su), .int (nI rd)])), (a0, .inl (cI, 5, .inl Rf)), (a1, .inl (cI, 32, .inl Lf)), (a2, .inl (cI, 11, .inl Wf)), (t0, .inr (4, [.ref v0, .int bs, .int bp, .int sr])), (v0, .inl (cI, 4, .inl V)), (d0, .inr (0, [.int sd]))] (fun v9 w9 => v9 = some (.int (nI ((zfa pg pn 0 zr0).1))) ∧ w9 = [(c0, .inr (5, [.ref p0, .ref r0, .ref h0, .ref t0, .ref d0])), (p0, .inr (1, [.ref g0, .int (nI pn)])), (g0, .inl (cI, 56, .inl pg)), (r0, .inr (2, [.ref b0, .int (nI ((zfa pg pn 0 zr0).2.1)), .int (nI ((zfa pg pn 0 zr0).2.2.1)), .int (nI ((zfa pg pn 0 zr0).2.2.2.1))])), (b0, .inl (cI, 5, .inl (fun j => nI ((zfa pg pn 0 zr0).2.2.2.2 j)))), (h0, .inr (3, [.ref a0, .ref a1, .ref a2, .int (nI rc), .int (nI ln), .int (nI rk), .int (nI ds), .int (nI su), .int (nI rd)])), (a0, .inl (cI, 5, .inl Rf)), (a1, .inl (cI, 32, .inl Lf)), (a2, .inl (cI, 11, .inl Wf)), (t0, .inr (4, [.ref v0, .int bs, .int bp, .int sr])), (v0, .inl (cI, 4, .inl V)), (d0, .inr (0, [.int sd]))]) 0 0 := by
  refine zw_ent (maxL := 1) (by decide) rfl (Nat.le_of_ble_eq_true rfl) (fun X C E hin9 => ?_)
  have C : zC X l D cI { frames := 4, cells := 0, slots := 0, locals := 83 } 1 true cX5_fault RX5 wsX5_fault := C
  refine zg_cv (lv' := [(0, .ref c0)]) rfl rfl rfl ?_
  refine zg_aload_n C 0 dX5_fault_0 rfl ?_
  refine zg_get C 0 (ci := 5) (f := 1) rfl rfl uX5_fault_5 (by decide) fX5_fault_5_1 dX5_fault_1 rfl ?_
  refine zg_aload_n C 0 dX5_fault_4 rfl ?_
  refine zg_get C 0 (ci := 5) (f := 0) rfl rfl uX5_fault_5 (by decide) fX5_fault_5_0 dX5_fault_5 rfl ?_
  refine zg_callw (As := [.ref p0]) (st := []) (wo := [(c0, .inr (5, [.ref p0, .ref r0, .ref h0, .ref t0, .ref d0])), (h0, .inr (3, [.ref a0, .ref a1, .ref a2, .int (nI rc), .int (nI ln), .int (nI rk), .int (nI ds), .int (nI su), .int (nI rd)])), (a0, .inl (cI, 5, .inl Rf)), (a1, .inl (cI, 32, .inl Lf)), (a2, .inl (cI, 11, .inl Wf)), (t0, .inr (4, [.ref v0, .int bs, .int bp, .int sr])), (v0, .inl (cI, 4, .inl V)), (d0, .inr (0, [.int sd]))]) C [3, 4, 1, 2] [0, 5, 6, 7, 8, 9, 10, 11] 3 1 (c_X2_readAsFarAsItGoes l D cI r0 b0 x1 x2 x3 Qf p0 g0 pg pn hpn) gX5_fault_X2_readAsFarAsItGoes (by decide +kernel) rfl ⟨rfl, rfl⟩ ⟨Nat.le_of_ble_eq_true rfl, Nat.le_of_ble_eq_true rfl⟩ rfl rfl rfl rfl (by decide) (ci := 2) rfl rfl rfl rfl (Nat.le_of_ble_eq_true rfl) ⟨Nat.le_of_ble_eq_true rfl, Nat.le_of_ble_eq_true rfl⟩ dX5_fault_8 (fun v9 w9 hw9 => ?_)
  obtain ⟨rfl, rfl⟩ := hw9
  refine zg_cv (k' := 0) (n' := 0) (st' := [.int (nI ((zfa pg pn 0 zr0).1))]) (ws' := [(c0, .inr (5, [.ref p0, .ref r0, .ref h0, .ref t0, .ref d0])), (h0, .inr (3, [.ref a0, .ref a1, .ref a2, .int (nI rc), .int (nI ln), .int (nI rk), .int (nI ds), .int (nI su), .int (nI rd)])), (a0, .inl (cI, 5, .inl Rf)), (a1, .inl (cI, 32, .inl Lf)), (a2, .inl (cI, 11, .inl Wf)), (t0, .inr (4, [.ref v0, .int bs, .int bp, .int sr])), (v0, .inl (cI, 4, .inl V)), (d0, .inr (0, [.int sd])), (r0, .inr (2, [.ref b0, .int (nI ((zfa pg pn 0 zr0).2.1)), .int (nI ((zfa pg pn 0 zr0).2.2.1)), .int (nI ((zfa pg pn 0 zr0).2.2.2.1))])), (b0, .inl (cI, 5, .inl (fun j => nI ((zfa pg pn 0 zr0).2.2.2.2 j)))), (p0, .inr (1, [.ref g0, .int (nI pn)])), (g0, .inl (cI, 56, .inl pg))]) rfl rfl rfl ?_
  refine zg_perm [0, 10, 11, 8, 9, 1, 2, 3, 4, 5, 6, 7] (ws' := [(c0, .inr (5, [.ref p0, .ref r0, .ref h0, .ref t0, .ref d0])), (p0, .inr (1, [.ref g0, .int (nI pn)])), (g0, .inl (cI, 56, .inl pg)), (r0, .inr (2, [.ref b0, .int (nI ((zfa pg pn 0 zr0).2.1)), .int (nI ((zfa pg pn 0 zr0).2.2.1)), .int (nI ((zfa pg pn 0 zr0).2.2.2.1))])), (b0, .inl (cI, 5, .inl (fun j => nI ((zfa pg pn 0 zr0).2.2.2.2 j)))), (h0, .inr (3, [.ref a0, .ref a1, .ref a2, .int (nI rc), .int (nI ln), .int (nI rk), .int (nI ds), .int (nI su), .int (nI rd)])), (a0, .inl (cI, 5, .inl Rf)), (a1, .inl (cI, 32, .inl Lf)), (a2, .inl (cI, 11, .inl Wf)), (t0, .inr (4, [.ref v0, .int bs, .int bp, .int sr])), (v0, .inl (cI, 4, .inl V)), (d0, .inr (0, [.int sd]))]) rfl rfl ?_
  exact zg_wiret C E dX5_fault_11 (⟨rfl, rfl⟩)
theorem uX5_sums_5 : ∀ w ∈ u_ws RX5 TX5 5, w ∈ wsX5_sums := fun w h => List.mem_cons_of_mem _ (List.mem_append_left _ (List.mem_append_left _ (List.mem_append_left _ (List.mem_append_left _ (List.mem_append_right _ h)))))
theorem fX5_sums_5_1 : Cond.fieldLink RX5 19 (TX5 1).1 (TX5 1).2.1 (TX5 1).2.2.1 ∈ wsX5_sums := by decide +kernel
theorem fX5_sums_5_0 : Cond.fieldLink RX5 10 (TX5 0).1 (TX5 0).2.1 (TX5 0).2.2.1 ∈ wsX5_sums := by decide +kernel
theorem fX5_sums_5_2 : Cond.fieldLink RX5 26 (TX5 2).1 (TX5 2).2.1 (TX5 2).2.2.1 ∈ wsX5_sums := by decide +kernel
theorem fX5_sums_5_3 : Cond.fieldLink RX5 33 (TX5 3).1 (TX5 3).2.1 (TX5 3).2.2.1 ∈ wsX5_sums := by decide +kernel
set_option maxHeartbeats 1000000 in
set_option maxRecDepth 100000 in
theorem c_X5_sums (l : Launch) (D : va_G) (cI : ClassId) (c0 p0 g0 r0 b0 h0 a0 a1 a2 t0 v0 d0 : Nat) (pg : Nat → Int32) (pn : Nat) (x1 x2 x3 : Int32) (Qf Rf Lf Wf : Nat → Int32) (rc ln rk ds su rd : Nat) (V : Nat → Int32) (bs bp sr sd : Int32) (R : Nat → Nat) (hok : zokS pg pn) (hpn : pn ≤ 56) : zMw l D cI yX5_sums wsX5_sums { frames := 5, cells := 0, slots := 0, locals := 107 } [.ref c0] [(c0, .inr (5, [.ref p0, .ref r0, .ref h0, .ref t0, .ref d0])), (p0, .inr (1, [.ref g0, .int (nI pn)])), (g0, .inl (cI, 56, .inl pg)), (r0, .inr (2, [.ref b0, .int x1, .int x2, .int x3])), (b0, .inl (cI, 5, .inl Qf)), (h0, .inr (3, [.ref a0, .ref a1, .ref a2, .int (nI rc), .int (nI ln), .int (nI rk), .int (nI ds), .int (nI su), .int (nI rd)])), (a0, .inl (cI, 5, .inl Rf)), (a1, .inl (cI, 32, .inl Lf)), (a2, .inl (cI, 11, .inl Wf)), (t0, .inr (4, [.ref v0, .int bs, .int bp, .int sr])), (v0, .inl (cI, 4, .inl V)), (d0, .inr (0, [.int sd]))] (fun v9 w9 => v9 = some (.int (nI ((zfa pg pn 0 zr0).2.2.1))) ∧ w9 = [(c0, .inr (5, [.ref p0, .ref r0, .ref h0, .ref t0, .ref d0])), (p0, .inr (1, [.ref g0, .int (nI 0)])), (g0, .inl (cI, 56, .inl pg)), (r0, .inr (2, [.ref b0, .int (nI ((zfa pg pn 0 zr0).2.1)), .int (nI ((zfa pg pn 0 zr0).2.2.1)), .int (nI ((zfa pg pn 0 zr0).2.2.2.1))])), (b0, .inl (cI, 5, .inl (fun j => nI ((zfa pg pn 0 zr0).2.2.2.2 j)))), (h0, .inr (3, [.ref a0, .ref a1, .ref a2, .int (nI (((zfa pg pn 0 zr0).2.1) + 1)), .int (nI ((zfa pg pn 0 zr0).2.2.1)), .int (nI (zrk ((zfa pg pn 0 zr0).2.2.2.2) (((zfa pg pn 0 zr0).2.1) + 1) ((zfa pg pn 0 zr0).2.2.1))), .int (nI (zdm ((zfa pg pn 0 zr0).2.2.2.2) (((zfa pg pn 0 zr0).2.1) + 1) ((zfa pg pn 0 zr0).2.2.1) (2 ^ ((zfa pg pn 0 zr0).2.2.1)))), .int (nI (zsu ((zfa pg pn 0 zr0).2.2.1) (zdm ((zfa pg pn 0 zr0).2.2.2.2) (((zfa pg pn 0 zr0).2.1) + 1) ((zfa pg pn 0 zr0).2.2.1) (2 ^ ((zfa pg pn 0 zr0).2.2.1))))), .int (nI (zrad (zld ((zfa pg pn 0 zr0).2.2.2.2) (((zfa pg pn 0 zr0).2.1) + 1) (2 ^ ((zfa pg pn 0 zr0).2.2.1))) 32))])), (a0, .inl (cI, 5, .inl (fun j => nI (((zfa pg pn 0 zr0).2.2.2.2) j)))), (a1, .inl (cI, 32, .inl (fun s => zo (zld ((zfa pg pn 0 zr0).2.2.2.2) (((zfa pg pn 0 zr0).2.1) + 1) (2 ^ ((zfa pg pn 0 zr0).2.2.1)) s)))), (a2, .inl (cI, 11, .inl (fun j => nI (zct (zhw (zld ((zfa pg pn 0 zr0).2.2.2.2) (((zfa pg pn 0 zr0).2.1) + 1) (2 ^ ((zfa pg pn 0 zr0).2.2.1))) j) 32)))), (t0, .inr (4, [.ref v0, .int bs, .int bp, .int (sr + nI 1)])), (v0, .inl (cI, 4, .inl V)), (d0, .inr (0, [.int sd]))]) 0 0 := by
  refine zw_ent (maxL := 1) (by decide) rfl (Nat.le_of_ble_eq_true rfl) (fun X C E hin9 => ?_)
  have C : zC X l D cI { frames := 5, cells := 0, slots := 0, locals := 107 } 1 true cX5_sums RX5 wsX5_sums := C
  refine zg_cv (lv' := [(0, .ref c0)]) rfl rfl rfl ?_
  obtain ⟨o1, o2⟩ := id hok
  have q7 := zfa_le (pg := pg) pn 0 zr0
  have q8 := zfa_ok (pg := pg) pn 0 zr0 zrok_0
  refine zg_aload_n C 0 dX5_sums_0 rfl ?_
  refine zg_get C 0 (ci := 5) (f := 1) rfl rfl uX5_sums_5 (by decide) fX5_sums_5_1 dX5_sums_1 rfl ?_
  refine zg_aload_n C 0 dX5_sums_4 rfl ?_
  refine zg_get C 0 (ci := 5) (f := 0) rfl rfl uX5_sums_5 (by decide) fX5_sums_5_0 dX5_sums_5 rfl ?_
  refine zg_callw (As := [.ref p0]) (st := []) (wo := [(c0, .inr (5, [.ref p0, .ref r0, .ref h0, .ref t0, .ref d0])), (h0, .inr (3, [.ref a0, .ref a1, .ref a2, .int (nI rc), .int (nI ln), .int (nI rk), .int (nI ds), .int (nI su), .int (nI rd)])), (a0, .inl (cI, 5, .inl Rf)), (a1, .inl (cI, 32, .inl Lf)), (a2, .inl (cI, 11, .inl Wf)), (t0, .inr (4, [.ref v0, .int bs, .int bp, .int sr])), (v0, .inl (cI, 4, .inl V)), (d0, .inr (0, [.int sd]))]) C [3, 4, 1, 2] [0, 5, 6, 7, 8, 9, 10, 11] 3 1 (c_X2_readAsFarAsItGoes l D cI r0 b0 x1 x2 x3 Qf p0 g0 pg pn hpn) gX5_sums_X2_readAsFarAsItGoes (by decide +kernel) rfl ⟨rfl, rfl⟩ ⟨Nat.le_of_ble_eq_true rfl, Nat.le_of_ble_eq_true rfl⟩ rfl rfl rfl rfl (by decide) (ci := 2) rfl rfl rfl rfl (Nat.le_of_ble_eq_true rfl) ⟨Nat.le_of_ble_eq_true rfl, Nat.le_of_ble_eq_true rfl⟩ dX5_sums_8 (fun v9 w9 hw9 => ?_)
  obtain ⟨rfl, rfl⟩ := hw9
  refine zg_cv (k' := 0) (n' := 0) (st' := [.int (nI ((zfa pg pn 0 zr0).1))]) (ws' := [(c0, .inr (5, [.ref p0, .ref r0, .ref h0, .ref t0, .ref d0])), (h0, .inr (3, [.ref a0, .ref a1, .ref a2, .int (nI rc), .int (nI ln), .int (nI rk), .int (nI ds), .int (nI su), .int (nI rd)])), (a0, .inl (cI, 5, .inl Rf)), (a1, .inl (cI, 32, .inl Lf)), (a2, .inl (cI, 11, .inl Wf)), (t0, .inr (4, [.ref v0, .int bs, .int bp, .int sr])), (v0, .inl (cI, 4, .inl V)), (d0, .inr (0, [.int sd])), (r0, .inr (2, [.ref b0, .int (nI ((zfa pg pn 0 zr0).2.1)), .int (nI ((zfa pg pn 0 zr0).2.2.1)), .int (nI ((zfa pg pn 0 zr0).2.2.2.1))])), (b0, .inl (cI, 5, .inl (fun j => nI ((zfa pg pn 0 zr0).2.2.2.2 j)))), (p0, .inr (1, [.ref g0, .int (nI pn)])), (g0, .inl (cI, 56, .inl pg))]) rfl rfl rfl ?_
  refine zg_perm [0, 10, 11, 8, 9, 1, 2, 3, 4, 5, 6, 7] (ws' := [(c0, .inr (5, [.ref p0, .ref r0, .ref h0, .ref t0, .ref d0])), (p0, .inr (1, [.ref g0, .int (nI pn)])), (g0, .inl (cI, 56, .inl pg)), (r0, .inr (2, [.ref b0, .int (nI ((zfa pg pn 0 zr0).2.1)), .int (nI ((zfa pg pn 0 zr0).2.2.1)), .int (nI ((zfa pg pn 0 zr0).2.2.2.1))])), (b0, .inl (cI, 5, .inl (fun j => nI ((zfa pg pn 0 zr0).2.2.2.2 j)))), (h0, .inr (3, [.ref a0, .ref a1, .ref a2, .int (nI rc), .int (nI ln), .int (nI rk), .int (nI ds), .int (nI su), .int (nI rd)])), (a0, .inl (cI, 5, .inl Rf)), (a1, .inl (cI, 32, .inl Lf)), (a2, .inl (cI, 11, .inl Wf)), (t0, .inr (4, [.ref v0, .int bs, .int bp, .int sr])), (v0, .inl (cI, 4, .inl V)), (d0, .inr (0, [.int sd]))]) rfl rfl ?_
  refine zg_aload_n C 0 dX5_sums_11 rfl ?_
  refine zg_get C 0 (ci := 5) (f := 0) rfl rfl uX5_sums_5 (by decide) fX5_sums_5_0 dX5_sums_12 rfl ?_
  refine zg_callr (As := []) (st := [.int (nI ((zfa pg pn 0 zr0).1))]) C [1, 2] 1 0 (c_X1_size l D cI p0 g0 pg pn ) gX5_sums_X1_size (by decide +kernel) rfl ⟨rfl, rfl⟩ ⟨Nat.le_of_ble_eq_true rfl, Nat.le_of_ble_eq_true rfl⟩ rfl (ci := 1) rfl rfl rfl rfl (Nat.le_of_ble_eq_true rfl) ⟨Nat.le_of_ble_eq_true rfl, Nat.le_of_ble_eq_true rfl⟩ dX5_sums_15 ?_
  refine zn_icmp_lt C 31 (by omega) (by omega) dX5_sums_18 (by decide) (fun c_18 => by omega) (fun c_18 => ?_)
  refine zg_aload_n C 0 dX5_sums_21 rfl ?_
  refine zg_get C 0 (ci := 5) (f := 1) rfl rfl uX5_sums_5 (by decide) fX5_sums_5_1 dX5_sums_22 rfl ?_
  refine zg_callr (As := []) (st := []) C [3, 4] 3 0 (c_X2_rowIsWhole l D cI r0 b0 ((zfa pg pn 0 zr0).2.1) ((zfa pg pn 0 zr0).2.2.1) ((zfa pg pn 0 zr0).2.2.2.1) ((zfa pg pn 0 zr0).2.2.2.2) (q8)) gX5_sums_X2_rowIsWhole (by decide +kernel) rfl ⟨rfl, rfl⟩ ⟨Nat.le_of_ble_eq_true rfl, Nat.le_of_ble_eq_true rfl⟩ rfl (ci := 2) rfl rfl rfl rfl (Nat.le_of_ble_eq_true rfl) ⟨Nat.le_of_ble_eq_true rfl, Nat.le_of_ble_eq_true rfl⟩ dX5_sums_25 ?_
  refine zb_if_ne C 35 dX5_sums_28 (by decide) (fun c_28 => ?_) (fun c_28 => by exact absurd o2 (by rw [c_28]; decide))
  refine zg_aload_n C 0 dX5_sums_35 rfl ?_
  refine zg_get C 0 (ci := 5) (f := 2) rfl rfl uX5_sums_5 (by decide) fX5_sums_5_2 dX5_sums_36 rfl ?_
  refine zg_aload_n C 0 dX5_sums_39 rfl ?_
  refine zg_get C 0 (ci := 5) (f := 1) rfl rfl uX5_sums_5 (by decide) fX5_sums_5_1 dX5_sums_40 rfl ?_
  refine zg_callw (As := [.ref r0]) (st := []) (wo := [(c0, .inr (5, [.ref p0, .ref r0, .ref h0, .ref t0, .ref d0])), (p0, .inr (1, [.ref g0, .int (nI pn)])), (g0, .inl (cI, 56, .inl pg)), (t0, .inr (4, [.ref v0, .int bs, .int bp, .int sr])), (v0, .inl (cI, 4, .inl V)), (d0, .inr (0, [.int sd]))]) C [5, 6, 7, 8, 3, 4] [0, 1, 2, 9, 10, 11] 5 1 (c_X3_become l D cI h0 a0 a1 a2 Rf Lf Wf rc ln rk ds su rd r0 b0 ((zfa pg pn 0 zr0).2.1) ((zfa pg pn 0 zr0).2.2.1) ((zfa pg pn 0 zr0).2.2.2.1) ((zfa pg pn 0 zr0).2.2.2.2) (q8) (o2)) gX5_sums_X3_become (by decide +kernel) rfl ⟨rfl, rfl⟩ ⟨Nat.le_of_ble_eq_true rfl, Nat.le_of_ble_eq_true rfl⟩ rfl rfl rfl rfl (by decide) (ci := 3) rfl rfl rfl rfl (Nat.le_of_ble_eq_true rfl) ⟨Nat.le_of_ble_eq_true rfl, Nat.le_of_ble_eq_true rfl⟩ dX5_sums_43 (fun v9 w9 hw9 => ?_)
  obtain ⟨rfl, rfl⟩ := hw9
  refine zg_cv (k' := 0) (n' := 0) (st' := []) (ws' := [(c0, .inr (5, [.ref p0, .ref r0, .ref h0, .ref t0, .ref d0])), (p0, .inr (1, [.ref g0, .int (nI pn)])), (g0, .inl (cI, 56, .inl pg)), (t0, .inr (4, [.ref v0, .int bs, .int bp, .int sr])), (v0, .inl (cI, 4, .inl V)), (d0, .inr (0, [.int sd])), (h0, .inr (3, [.ref a0, .ref a1, .ref a2, .int (nI (((zfa pg pn 0 zr0).2.1) + 1)), .int (nI ((zfa pg pn 0 zr0).2.2.1)), .int (nI (zrk ((zfa pg pn 0 zr0).2.2.2.2) (((zfa pg pn 0 zr0).2.1) + 1) ((zfa pg pn 0 zr0).2.2.1))), .int (nI (zdm ((zfa pg pn 0 zr0).2.2.2.2) (((zfa pg pn 0 zr0).2.1) + 1) ((zfa pg pn 0 zr0).2.2.1) (2 ^ ((zfa pg pn 0 zr0).2.2.1)))), .int (nI (zsu ((zfa pg pn 0 zr0).2.2.1) (zdm ((zfa pg pn 0 zr0).2.2.2.2) (((zfa pg pn 0 zr0).2.1) + 1) ((zfa pg pn 0 zr0).2.2.1) (2 ^ ((zfa pg pn 0 zr0).2.2.1))))), .int (nI (zrad (zld ((zfa pg pn 0 zr0).2.2.2.2) (((zfa pg pn 0 zr0).2.1) + 1) (2 ^ ((zfa pg pn 0 zr0).2.2.1))) 32))])), (a0, .inl (cI, 5, .inl (fun j => nI (((zfa pg pn 0 zr0).2.2.2.2) j)))), (a1, .inl (cI, 32, .inl (fun s => zo (zld ((zfa pg pn 0 zr0).2.2.2.2) (((zfa pg pn 0 zr0).2.1) + 1) (2 ^ ((zfa pg pn 0 zr0).2.2.1)) s)))), (a2, .inl (cI, 11, .inl (fun j => nI (zct (zhw (zld ((zfa pg pn 0 zr0).2.2.2.2) (((zfa pg pn 0 zr0).2.1) + 1) (2 ^ ((zfa pg pn 0 zr0).2.2.1))) j) 32)))), (r0, .inr (2, [.ref b0, .int (nI ((zfa pg pn 0 zr0).2.1)), .int (nI ((zfa pg pn 0 zr0).2.2.1)), .int (nI ((zfa pg pn 0 zr0).2.2.2.1))])), (b0, .inl (cI, 5, .inl (fun j => nI (((zfa pg pn 0 zr0).2.2.2.2) j))))]) rfl rfl rfl ?_
  refine zg_perm [0, 1, 2, 10, 11, 6, 7, 8, 9, 3, 4, 5] (ws' := [(c0, .inr (5, [.ref p0, .ref r0, .ref h0, .ref t0, .ref d0])), (p0, .inr (1, [.ref g0, .int (nI pn)])), (g0, .inl (cI, 56, .inl pg)), (r0, .inr (2, [.ref b0, .int (nI ((zfa pg pn 0 zr0).2.1)), .int (nI ((zfa pg pn 0 zr0).2.2.1)), .int (nI ((zfa pg pn 0 zr0).2.2.2.1))])), (b0, .inl (cI, 5, .inl (fun j => nI (((zfa pg pn 0 zr0).2.2.2.2) j)))), (h0, .inr (3, [.ref a0, .ref a1, .ref a2, .int (nI (((zfa pg pn 0 zr0).2.1) + 1)), .int (nI ((zfa pg pn 0 zr0).2.2.1)), .int (nI (zrk ((zfa pg pn 0 zr0).2.2.2.2) (((zfa pg pn 0 zr0).2.1) + 1) ((zfa pg pn 0 zr0).2.2.1))), .int (nI (zdm ((zfa pg pn 0 zr0).2.2.2.2) (((zfa pg pn 0 zr0).2.1) + 1) ((zfa pg pn 0 zr0).2.2.1) (2 ^ ((zfa pg pn 0 zr0).2.2.1)))), .int (nI (zsu ((zfa pg pn 0 zr0).2.2.1) (zdm ((zfa pg pn 0 zr0).2.2.2.2) (((zfa pg pn 0 zr0).2.1) + 1) ((zfa pg pn 0 zr0).2.2.1) (2 ^ ((zfa pg pn 0 zr0).2.2.1))))), .int (nI (zrad (zld ((zfa pg pn 0 zr0).2.2.2.2) (((zfa pg pn 0 zr0).2.1) + 1) (2 ^ ((zfa pg pn 0 zr0).2.2.1))) 32))])), (a0, .inl (cI, 5, .inl (fun j => nI (((zfa pg pn 0 zr0).2.2.2.2) j)))), (a1, .inl (cI, 32, .inl (fun s => zo (zld ((zfa pg pn 0 zr0).2.2.2.2) (((zfa pg pn 0 zr0).2.1) + 1) (2 ^ ((zfa pg pn 0 zr0).2.2.1)) s)))), (a2, .inl (cI, 11, .inl (fun j => nI (zct (zhw (zld ((zfa pg pn 0 zr0).2.2.2.2) (((zfa pg pn 0 zr0).2.1) + 1) (2 ^ ((zfa pg pn 0 zr0).2.2.1))) j) 32)))), (t0, .inr (4, [.ref v0, .int bs, .int bp, .int sr])), (v0, .inl (cI, 4, .inl V)), (d0, .inr (0, [.int sd]))]) rfl rfl ?_
  refine zg_aload_n C 0 dX5_sums_46 rfl ?_
  refine zg_get C 0 (ci := 5) (f := 3) rfl rfl uX5_sums_5 (by decide) fX5_sums_5_3 dX5_sums_47 rfl ?_
  refine zg_callw (As := []) (st := []) (wo := [(c0, .inr (5, [.ref p0, .ref r0, .ref h0, .ref t0, .ref d0])), (p0, .inr (1, [.ref g0, .int (nI pn)])), (g0, .inl (cI, 56, .inl pg)), (r0, .inr (2, [.ref b0, .int (nI ((zfa pg pn 0 zr0).2.1)), .int (nI ((zfa pg pn 0 zr0).2.2.1)), .int (nI ((zfa pg pn 0 zr0).2.2.2.1))])), (b0, .inl (cI, 5, .inl (fun j => nI (((zfa pg pn 0 zr0).2.2.2.2) j)))), (h0, .inr (3, [.ref a0, .ref a1, .ref a2, .int (nI (((zfa pg pn 0 zr0).2.1) + 1)), .int (nI ((zfa pg pn 0 zr0).2.2.1)), .int (nI (zrk ((zfa pg pn 0 zr0).2.2.2.2) (((zfa pg pn 0 zr0).2.1) + 1) ((zfa pg pn 0 zr0).2.2.1))), .int (nI (zdm ((zfa pg pn 0 zr0).2.2.2.2) (((zfa pg pn 0 zr0).2.1) + 1) ((zfa pg pn 0 zr0).2.2.1) (2 ^ ((zfa pg pn 0 zr0).2.2.1)))), .int (nI (zsu ((zfa pg pn 0 zr0).2.2.1) (zdm ((zfa pg pn 0 zr0).2.2.2.2) (((zfa pg pn 0 zr0).2.1) + 1) ((zfa pg pn 0 zr0).2.2.1) (2 ^ ((zfa pg pn 0 zr0).2.2.1))))), .int (nI (zrad (zld ((zfa pg pn 0 zr0).2.2.2.2) (((zfa pg pn 0 zr0).2.1) + 1) (2 ^ ((zfa pg pn 0 zr0).2.2.1))) 32))])), (a0, .inl (cI, 5, .inl (fun j => nI (((zfa pg pn 0 zr0).2.2.2.2) j)))), (a1, .inl (cI, 32, .inl (fun s => zo (zld ((zfa pg pn 0 zr0).2.2.2.2) (((zfa pg pn 0 zr0).2.1) + 1) (2 ^ ((zfa pg pn 0 zr0).2.2.1)) s)))), (a2, .inl (cI, 11, .inl (fun j => nI (zct (zhw (zld ((zfa pg pn 0 zr0).2.2.2.2) (((zfa pg pn 0 zr0).2.1) + 1) (2 ^ ((zfa pg pn 0 zr0).2.2.1))) j) 32)))), (d0, .inr (0, [.int sd]))]) C [9, 10] [0, 1, 2, 3, 4, 5, 6, 7, 8, 11] 9 0 (c_X4_sumsRead l D cI t0 v0 V bs bp sr ) gX5_sums_X4_sumsRead (by decide +kernel) rfl ⟨rfl, rfl⟩ ⟨Nat.le_of_ble_eq_true rfl, Nat.le_of_ble_eq_true rfl⟩ rfl rfl rfl rfl (by decide) (ci := 4) rfl rfl rfl rfl (Nat.le_of_ble_eq_true rfl) ⟨Nat.le_of_ble_eq_true rfl, Nat.le_of_ble_eq_true rfl⟩ dX5_sums_50 (fun v9 w9 hw9 => ?_)
  obtain ⟨rfl, rfl⟩ := hw9
  refine zg_cv (k' := 0) (n' := 0) (st' := []) (ws' := [(c0, .inr (5, [.ref p0, .ref r0, .ref h0, .ref t0, .ref d0])), (p0, .inr (1, [.ref g0, .int (nI pn)])), (g0, .inl (cI, 56, .inl pg)), (r0, .inr (2, [.ref b0, .int (nI ((zfa pg pn 0 zr0).2.1)), .int (nI ((zfa pg pn 0 zr0).2.2.1)), .int (nI ((zfa pg pn 0 zr0).2.2.2.1))])), (b0, .inl (cI, 5, .inl (fun j => nI (((zfa pg pn 0 zr0).2.2.2.2) j)))), (h0, .inr (3, [.ref a0, .ref a1, .ref a2, .int (nI (((zfa pg pn 0 zr0).2.1) + 1)), .int (nI ((zfa pg pn 0 zr0).2.2.1)), .int (nI (zrk ((zfa pg pn 0 zr0).2.2.2.2) (((zfa pg pn 0 zr0).2.1) + 1) ((zfa pg pn 0 zr0).2.2.1))), .int (nI (zdm ((zfa pg pn 0 zr0).2.2.2.2) (((zfa pg pn 0 zr0).2.1) + 1) ((zfa pg pn 0 zr0).2.2.1) (2 ^ ((zfa pg pn 0 zr0).2.2.1)))), .int (nI (zsu ((zfa pg pn 0 zr0).2.2.1) (zdm ((zfa pg pn 0 zr0).2.2.2.2) (((zfa pg pn 0 zr0).2.1) + 1) ((zfa pg pn 0 zr0).2.2.1) (2 ^ ((zfa pg pn 0 zr0).2.2.1))))), .int (nI (zrad (zld ((zfa pg pn 0 zr0).2.2.2.2) (((zfa pg pn 0 zr0).2.1) + 1) (2 ^ ((zfa pg pn 0 zr0).2.2.1))) 32))])), (a0, .inl (cI, 5, .inl (fun j => nI (((zfa pg pn 0 zr0).2.2.2.2) j)))), (a1, .inl (cI, 32, .inl (fun s => zo (zld ((zfa pg pn 0 zr0).2.2.2.2) (((zfa pg pn 0 zr0).2.1) + 1) (2 ^ ((zfa pg pn 0 zr0).2.2.1)) s)))), (a2, .inl (cI, 11, .inl (fun j => nI (zct (zhw (zld ((zfa pg pn 0 zr0).2.2.2.2) (((zfa pg pn 0 zr0).2.1) + 1) (2 ^ ((zfa pg pn 0 zr0).2.2.1))) j) 32)))), (d0, .inr (0, [.int sd])), (t0, .inr (4, [.ref v0, .int bs, .int bp, .int (sr + nI 1)])), (v0, .inl (cI, 4, .inl V))]) rfl rfl rfl ?_
  refine zg_perm [0, 1, 2, 3, 4, 5, 6, 7, 8, 10, 11, 9] (ws' := [(c0, .inr (5, [.ref p0, .ref r0, .ref h0, .ref t0, .ref d0])), (p0, .inr (1, [.ref g0, .int (nI pn)])), (g0, .inl (cI, 56, .inl pg)), (r0, .inr (2, [.ref b0, .int (nI ((zfa pg pn 0 zr0).2.1)), .int (nI ((zfa pg pn 0 zr0).2.2.1)), .int (nI ((zfa pg pn 0 zr0).2.2.2.1))])), (b0, .inl (cI, 5, .inl (fun j => nI (((zfa pg pn 0 zr0).2.2.2.2) j)))), (h0, .inr (3, [.ref a0, .ref a1, .ref a2, .int (nI (((zfa pg pn 0 zr0).2.1) + 1)), .int (nI ((zfa pg pn 0 zr0).2.2.1)), .int (nI (zrk ((zfa pg pn 0 zr0).2.2.2.2) (((zfa pg pn 0 zr0).2.1) + 1) ((zfa pg pn 0 zr0).2.2.1))), .int (nI (zdm ((zfa pg pn 0 zr0).2.2.2.2) (((zfa pg pn 0 zr0).2.1) + 1) ((zfa pg pn 0 zr0).2.2.1) (2 ^ ((zfa pg pn 0 zr0).2.2.1)))), .int (nI (zsu ((zfa pg pn 0 zr0).2.2.1) (zdm ((zfa pg pn 0 zr0).2.2.2.2) (((zfa pg pn 0 zr0).2.1) + 1) ((zfa pg pn 0 zr0).2.2.1) (2 ^ ((zfa pg pn 0 zr0).2.2.1))))), .int (nI (zrad (zld ((zfa pg pn 0 zr0).2.2.2.2) (((zfa pg pn 0 zr0).2.1) + 1) (2 ^ ((zfa pg pn 0 zr0).2.2.1))) 32))])), (a0, .inl (cI, 5, .inl (fun j => nI (((zfa pg pn 0 zr0).2.2.2.2) j)))), (a1, .inl (cI, 32, .inl (fun s => zo (zld ((zfa pg pn 0 zr0).2.2.2.2) (((zfa pg pn 0 zr0).2.1) + 1) (2 ^ ((zfa pg pn 0 zr0).2.2.1)) s)))), (a2, .inl (cI, 11, .inl (fun j => nI (zct (zhw (zld ((zfa pg pn 0 zr0).2.2.2.2) (((zfa pg pn 0 zr0).2.1) + 1) (2 ^ ((zfa pg pn 0 zr0).2.2.1))) j) 32)))), (t0, .inr (4, [.ref v0, .int bs, .int bp, .int (sr + nI 1)])), (v0, .inl (cI, 4, .inl V)), (d0, .inr (0, [.int sd]))]) rfl rfl ?_
  refine zg_aload_n C 0 dX5_sums_53 rfl ?_
  refine zg_get C 0 (ci := 5) (f := 0) rfl rfl uX5_sums_5 (by decide) fX5_sums_5_0 dX5_sums_54 rfl ?_
  refine zg_callw (As := []) (st := []) (wo := [(c0, .inr (5, [.ref p0, .ref r0, .ref h0, .ref t0, .ref d0])), (r0, .inr (2, [.ref b0, .int (nI ((zfa pg pn 0 zr0).2.1)), .int (nI ((zfa pg pn 0 zr0).2.2.1)), .int (nI ((zfa pg pn 0 zr0).2.2.2.1))])), (b0, .inl (cI, 5, .inl (fun j => nI (((zfa pg pn 0 zr0).2.2.2.2) j)))), (h0, .inr (3, [.ref a0, .ref a1, .ref a2, .int (nI (((zfa pg pn 0 zr0).2.1) + 1)), .int (nI ((zfa pg pn 0 zr0).2.2.1)), .int (nI (zrk ((zfa pg pn 0 zr0).2.2.2.2) (((zfa pg pn 0 zr0).2.1) + 1) ((zfa pg pn 0 zr0).2.2.1))), .int (nI (zdm ((zfa pg pn 0 zr0).2.2.2.2) (((zfa pg pn 0 zr0).2.1) + 1) ((zfa pg pn 0 zr0).2.2.1) (2 ^ ((zfa pg pn 0 zr0).2.2.1)))), .int (nI (zsu ((zfa pg pn 0 zr0).2.2.1) (zdm ((zfa pg pn 0 zr0).2.2.2.2) (((zfa pg pn 0 zr0).2.1) + 1) ((zfa pg pn 0 zr0).2.2.1) (2 ^ ((zfa pg pn 0 zr0).2.2.1))))), .int (nI (zrad (zld ((zfa pg pn 0 zr0).2.2.2.2) (((zfa pg pn 0 zr0).2.1) + 1) (2 ^ ((zfa pg pn 0 zr0).2.2.1))) 32))])), (a0, .inl (cI, 5, .inl (fun j => nI (((zfa pg pn 0 zr0).2.2.2.2) j)))), (a1, .inl (cI, 32, .inl (fun s => zo (zld ((zfa pg pn 0 zr0).2.2.2.2) (((zfa pg pn 0 zr0).2.1) + 1) (2 ^ ((zfa pg pn 0 zr0).2.2.1)) s)))), (a2, .inl (cI, 11, .inl (fun j => nI (zct (zhw (zld ((zfa pg pn 0 zr0).2.2.2.2) (((zfa pg pn 0 zr0).2.1) + 1) (2 ^ ((zfa pg pn 0 zr0).2.2.1))) j) 32)))), (t0, .inr (4, [.ref v0, .int bs, .int bp, .int (sr + nI 1)])), (v0, .inl (cI, 4, .inl V)), (d0, .inr (0, [.int sd]))]) C [1, 2] [0, 3, 4, 5, 6, 7, 8, 9, 10, 11] 1 0 (c_X1_clear l D cI p0 g0 pg pn ) gX5_sums_X1_clear (by decide +kernel) rfl ⟨rfl, rfl⟩ ⟨Nat.le_of_ble_eq_true rfl, Nat.le_of_ble_eq_true rfl⟩ rfl rfl rfl rfl (by decide) (ci := 1) rfl rfl rfl rfl (Nat.le_of_ble_eq_true rfl) ⟨Nat.le_of_ble_eq_true rfl, Nat.le_of_ble_eq_true rfl⟩ dX5_sums_57 (fun v9 w9 hw9 => ?_)
  obtain ⟨rfl, rfl⟩ := hw9
  refine zg_cv (k' := 0) (n' := 0) (st' := []) (ws' := [(c0, .inr (5, [.ref p0, .ref r0, .ref h0, .ref t0, .ref d0])), (r0, .inr (2, [.ref b0, .int (nI ((zfa pg pn 0 zr0).2.1)), .int (nI ((zfa pg pn 0 zr0).2.2.1)), .int (nI ((zfa pg pn 0 zr0).2.2.2.1))])), (b0, .inl (cI, 5, .inl (fun j => nI (((zfa pg pn 0 zr0).2.2.2.2) j)))), (h0, .inr (3, [.ref a0, .ref a1, .ref a2, .int (nI (((zfa pg pn 0 zr0).2.1) + 1)), .int (nI ((zfa pg pn 0 zr0).2.2.1)), .int (nI (zrk ((zfa pg pn 0 zr0).2.2.2.2) (((zfa pg pn 0 zr0).2.1) + 1) ((zfa pg pn 0 zr0).2.2.1))), .int (nI (zdm ((zfa pg pn 0 zr0).2.2.2.2) (((zfa pg pn 0 zr0).2.1) + 1) ((zfa pg pn 0 zr0).2.2.1) (2 ^ ((zfa pg pn 0 zr0).2.2.1)))), .int (nI (zsu ((zfa pg pn 0 zr0).2.2.1) (zdm ((zfa pg pn 0 zr0).2.2.2.2) (((zfa pg pn 0 zr0).2.1) + 1) ((zfa pg pn 0 zr0).2.2.1) (2 ^ ((zfa pg pn 0 zr0).2.2.1))))), .int (nI (zrad (zld ((zfa pg pn 0 zr0).2.2.2.2) (((zfa pg pn 0 zr0).2.1) + 1) (2 ^ ((zfa pg pn 0 zr0).2.2.1))) 32))])), (a0, .inl (cI, 5, .inl (fun j => nI (((zfa pg pn 0 zr0).2.2.2.2) j)))), (a1, .inl (cI, 32, .inl (fun s => zo (zld ((zfa pg pn 0 zr0).2.2.2.2) (((zfa pg pn 0 zr0).2.1) + 1) (2 ^ ((zfa pg pn 0 zr0).2.2.1)) s)))), (a2, .inl (cI, 11, .inl (fun j => nI (zct (zhw (zld ((zfa pg pn 0 zr0).2.2.2.2) (((zfa pg pn 0 zr0).2.1) + 1) (2 ^ ((zfa pg pn 0 zr0).2.2.1))) j) 32)))), (t0, .inr (4, [.ref v0, .int bs, .int bp, .int (sr + nI 1)])), (v0, .inl (cI, 4, .inl V)), (d0, .inr (0, [.int sd])), (p0, .inr (1, [.ref g0, .int (nI 0)])), (g0, .inl (cI, 56, .inl pg))]) rfl rfl rfl ?_
  refine zg_perm [0, 10, 11, 1, 2, 3, 4, 5, 6, 7, 8, 9] (ws' := [(c0, .inr (5, [.ref p0, .ref r0, .ref h0, .ref t0, .ref d0])), (p0, .inr (1, [.ref g0, .int (nI 0)])), (g0, .inl (cI, 56, .inl pg)), (r0, .inr (2, [.ref b0, .int (nI ((zfa pg pn 0 zr0).2.1)), .int (nI ((zfa pg pn 0 zr0).2.2.1)), .int (nI ((zfa pg pn 0 zr0).2.2.2.1))])), (b0, .inl (cI, 5, .inl (fun j => nI (((zfa pg pn 0 zr0).2.2.2.2) j)))), (h0, .inr (3, [.ref a0, .ref a1, .ref a2, .int (nI (((zfa pg pn 0 zr0).2.1) + 1)), .int (nI ((zfa pg pn 0 zr0).2.2.1)), .int (nI (zrk ((zfa pg pn 0 zr0).2.2.2.2) (((zfa pg pn 0 zr0).2.1) + 1) ((zfa pg pn 0 zr0).2.2.1))), .int (nI (zdm ((zfa pg pn 0 zr0).2.2.2.2) (((zfa pg pn 0 zr0).2.1) + 1) ((zfa pg pn 0 zr0).2.2.1) (2 ^ ((zfa pg pn 0 zr0).2.2.1)))), .int (nI (zsu ((zfa pg pn 0 zr0).2.2.1) (zdm ((zfa pg pn 0 zr0).2.2.2.2) (((zfa pg pn 0 zr0).2.1) + 1) ((zfa pg pn 0 zr0).2.2.1) (2 ^ ((zfa pg pn 0 zr0).2.2.1))))), .int (nI (zrad (zld ((zfa pg pn 0 zr0).2.2.2.2) (((zfa pg pn 0 zr0).2.1) + 1) (2 ^ ((zfa pg pn 0 zr0).2.2.1))) 32))])), (a0, .inl (cI, 5, .inl (fun j => nI (((zfa pg pn 0 zr0).2.2.2.2) j)))), (a1, .inl (cI, 32, .inl (fun s => zo (zld ((zfa pg pn 0 zr0).2.2.2.2) (((zfa pg pn 0 zr0).2.1) + 1) (2 ^ ((zfa pg pn 0 zr0).2.2.1)) s)))), (a2, .inl (cI, 11, .inl (fun j => nI (zct (zhw (zld ((zfa pg pn 0 zr0).2.2.2.2) (((zfa pg pn 0 zr0).2.1) + 1) (2 ^ ((zfa pg pn 0 zr0).2.2.1))) j) 32)))), (t0, .inr (4, [.ref v0, .int bs, .int bp, .int (sr + nI 1)])), (v0, .inl (cI, 4, .inl V)), (d0, .inr (0, [.int sd]))]) rfl rfl ?_
  refine zg_aload_n C 0 dX5_sums_60 rfl ?_
  refine zg_get C 0 (ci := 5) (f := 2) rfl rfl uX5_sums_5 (by decide) fX5_sums_5_2 dX5_sums_61 rfl ?_
  refine zg_callr (As := []) (st := []) C [5, 6, 7, 8] 5 0 (c_X3_length l D cI h0 a0 a1 a2 (fun j => nI (((zfa pg pn 0 zr0).2.2.2.2) j)) (fun s => zo (zld ((zfa pg pn 0 zr0).2.2.2.2) (((zfa pg pn 0 zr0).2.1) + 1) (2 ^ ((zfa pg pn 0 zr0).2.2.1)) s)) (fun j => nI (zct (zhw (zld ((zfa pg pn 0 zr0).2.2.2.2) (((zfa pg pn 0 zr0).2.1) + 1) (2 ^ ((zfa pg pn 0 zr0).2.2.1))) j) 32)) (((zfa pg pn 0 zr0).2.1) + 1) ((zfa pg pn 0 zr0).2.2.1) (zrk ((zfa pg pn 0 zr0).2.2.2.2) (((zfa pg pn 0 zr0).2.1) + 1) ((zfa pg pn 0 zr0).2.2.1)) (zdm ((zfa pg pn 0 zr0).2.2.2.2) (((zfa pg pn 0 zr0).2.1) + 1) ((zfa pg pn 0 zr0).2.2.1) (2 ^ ((zfa pg pn 0 zr0).2.2.1))) (zsu ((zfa pg pn 0 zr0).2.2.1) (zdm ((zfa pg pn 0 zr0).2.2.2.2) (((zfa pg pn 0 zr0).2.1) + 1) ((zfa pg pn 0 zr0).2.2.1) (2 ^ ((zfa pg pn 0 zr0).2.2.1)))) (zrad (zld ((zfa pg pn 0 zr0).2.2.2.2) (((zfa pg pn 0 zr0).2.1) + 1) (2 ^ ((zfa pg pn 0 zr0).2.2.1))) 32) ) gX5_sums_X3_length (by decide +kernel) rfl ⟨rfl, rfl⟩ ⟨Nat.le_of_ble_eq_true rfl, Nat.le_of_ble_eq_true rfl⟩ rfl (ci := 3) rfl rfl rfl rfl (Nat.le_of_ble_eq_true rfl) ⟨Nat.le_of_ble_eq_true rfl, Nat.le_of_ble_eq_true rfl⟩ dX5_sums_64 ?_
  exact zg_wiret C E dX5_sums_67 (⟨rfl, rfl⟩)
theorem uc_X5_sums_no_5 : ∀ w ∈ u_ws RX5 TX5 5, w ∈ wsX5_sums := fun w h => List.mem_cons_of_mem _ (List.mem_append_left _ (List.mem_append_left _ (List.mem_append_left _ (List.mem_append_left _ (List.mem_append_right _ h)))))
theorem fc_X5_sums_no_5_1 : Cond.fieldLink RX5 19 (TX5 1).1 (TX5 1).2.1 (TX5 1).2.2.1 ∈ wsX5_sums := by decide +kernel
theorem fc_X5_sums_no_5_0 : Cond.fieldLink RX5 10 (TX5 0).1 (TX5 0).2.1 (TX5 0).2.2.1 ∈ wsX5_sums := by decide +kernel
set_option maxHeartbeats 1000000 in
set_option maxRecDepth 100000 in
theorem c_X5_sums_no (l : Launch) (D : va_G) (cI : ClassId) (c0 p0 g0 r0 b0 h0 a0 a1 a2 t0 v0 d0 : Nat) (pg : Nat → Int32) (pn : Nat) (x1 x2 x3 : Int32) (Qf Rf Lf Wf : Nat → Int32) (rc ln rk ds su rd : Nat) (V : Nat → Int32) (bs bp sr sd : Int32) (R : Nat → Nat) (hno : ¬ zokS pg pn) (hpn : pn ≤ 56) : zMw l D cI yX5_sums wsX5_sums { frames := 4, cells := 0, slots := 0, locals := 83 } [.ref c0] [(c0, .inr (5, [.ref p0, .ref r0, .ref h0, .ref t0, .ref d0])), (p0, .inr (1, [.ref g0, .int (nI pn)])), (g0, .inl (cI, 56, .inl pg)), (r0, .inr (2, [.ref b0, .int x1, .int x2, .int x3])), (b0, .inl (cI, 5, .inl Qf)), (h0, .inr (3, [.ref a0, .ref a1, .ref a2, .int (nI rc), .int (nI ln), .int (nI rk), .int (nI ds), .int (nI su), .int (nI rd)])), (a0, .inl (cI, 5, .inl Rf)), (a1, .inl (cI, 32, .inl Lf)), (a2, .inl (cI, 11, .inl Wf)), (t0, .inr (4, [.ref v0, .int bs, .int bp, .int sr])), (v0, .inl (cI, 4, .inl V)), (d0, .inr (0, [.int sd]))] (fun v9 w9 => v9 = some (.int (-1003)) ∧ w9 = [(c0, .inr (5, [.ref p0, .ref r0, .ref h0, .ref t0, .ref d0])), (p0, .inr (1, [.ref g0, .int (nI pn)])), (g0, .inl (cI, 56, .inl pg)), (r0, .inr (2, [.ref b0, .int (nI ((zfa pg pn 0 zr0).2.1)), .int (nI ((zfa pg pn 0 zr0).2.2.1)), .int (nI ((zfa pg pn 0 zr0).2.2.2.1))])), (b0, .inl (cI, 5, .inl (fun j => nI ((zfa pg pn 0 zr0).2.2.2.2 j)))), (h0, .inr (3, [.ref a0, .ref a1, .ref a2, .int (nI rc), .int (nI ln), .int (nI rk), .int (nI ds), .int (nI su), .int (nI rd)])), (a0, .inl (cI, 5, .inl Rf)), (a1, .inl (cI, 32, .inl Lf)), (a2, .inl (cI, 11, .inl Wf)), (t0, .inr (4, [.ref v0, .int bs, .int bp, .int sr])), (v0, .inl (cI, 4, .inl V)), (d0, .inr (0, [.int sd]))]) 0 0 := by
  refine zw_ent (maxL := 1) (by decide) rfl (Nat.le_of_ble_eq_true rfl) (fun X C E hin9 => ?_)
  have C : zC X l D cI { frames := 4, cells := 0, slots := 0, locals := 83 } 1 true cX5_sums RX5 wsX5_sums := C
  refine zg_cv (lv' := [(0, .ref c0)]) rfl rfl rfl ?_
  have q7 := zfa_le (pg := pg) pn 0 zr0
  have q8 := zfa_ok (pg := pg) pn 0 zr0 zrok_0
  refine zg_aload_n C 0 dX5_sums_0 rfl ?_
  refine zg_get C 0 (ci := 5) (f := 1) rfl rfl uc_X5_sums_no_5 (by decide) fc_X5_sums_no_5_1 dX5_sums_1 rfl ?_
  refine zg_aload_n C 0 dX5_sums_4 rfl ?_
  refine zg_get C 0 (ci := 5) (f := 0) rfl rfl uc_X5_sums_no_5 (by decide) fc_X5_sums_no_5_0 dX5_sums_5 rfl ?_
  refine zg_callw (As := [.ref p0]) (st := []) (wo := [(c0, .inr (5, [.ref p0, .ref r0, .ref h0, .ref t0, .ref d0])), (h0, .inr (3, [.ref a0, .ref a1, .ref a2, .int (nI rc), .int (nI ln), .int (nI rk), .int (nI ds), .int (nI su), .int (nI rd)])), (a0, .inl (cI, 5, .inl Rf)), (a1, .inl (cI, 32, .inl Lf)), (a2, .inl (cI, 11, .inl Wf)), (t0, .inr (4, [.ref v0, .int bs, .int bp, .int sr])), (v0, .inl (cI, 4, .inl V)), (d0, .inr (0, [.int sd]))]) C [3, 4, 1, 2] [0, 5, 6, 7, 8, 9, 10, 11] 3 1 (c_X2_readAsFarAsItGoes l D cI r0 b0 x1 x2 x3 Qf p0 g0 pg pn hpn) gX5_sums_X2_readAsFarAsItGoes (by decide +kernel) rfl ⟨rfl, rfl⟩ ⟨Nat.le_of_ble_eq_true rfl, Nat.le_of_ble_eq_true rfl⟩ rfl rfl rfl rfl (by decide) (ci := 2) rfl rfl rfl rfl (Nat.le_of_ble_eq_true rfl) ⟨Nat.le_of_ble_eq_true rfl, Nat.le_of_ble_eq_true rfl⟩ dX5_sums_8 (fun v9 w9 hw9 => ?_)
  obtain ⟨rfl, rfl⟩ := hw9
  refine zg_cv (k' := 0) (n' := 0) (st' := [.int (nI ((zfa pg pn 0 zr0).1))]) (ws' := [(c0, .inr (5, [.ref p0, .ref r0, .ref h0, .ref t0, .ref d0])), (h0, .inr (3, [.ref a0, .ref a1, .ref a2, .int (nI rc), .int (nI ln), .int (nI rk), .int (nI ds), .int (nI su), .int (nI rd)])), (a0, .inl (cI, 5, .inl Rf)), (a1, .inl (cI, 32, .inl Lf)), (a2, .inl (cI, 11, .inl Wf)), (t0, .inr (4, [.ref v0, .int bs, .int bp, .int sr])), (v0, .inl (cI, 4, .inl V)), (d0, .inr (0, [.int sd])), (r0, .inr (2, [.ref b0, .int (nI ((zfa pg pn 0 zr0).2.1)), .int (nI ((zfa pg pn 0 zr0).2.2.1)), .int (nI ((zfa pg pn 0 zr0).2.2.2.1))])), (b0, .inl (cI, 5, .inl (fun j => nI ((zfa pg pn 0 zr0).2.2.2.2 j)))), (p0, .inr (1, [.ref g0, .int (nI pn)])), (g0, .inl (cI, 56, .inl pg))]) rfl rfl rfl ?_
  refine zg_perm [0, 10, 11, 8, 9, 1, 2, 3, 4, 5, 6, 7] (ws' := [(c0, .inr (5, [.ref p0, .ref r0, .ref h0, .ref t0, .ref d0])), (p0, .inr (1, [.ref g0, .int (nI pn)])), (g0, .inl (cI, 56, .inl pg)), (r0, .inr (2, [.ref b0, .int (nI ((zfa pg pn 0 zr0).2.1)), .int (nI ((zfa pg pn 0 zr0).2.2.1)), .int (nI ((zfa pg pn 0 zr0).2.2.2.1))])), (b0, .inl (cI, 5, .inl (fun j => nI ((zfa pg pn 0 zr0).2.2.2.2 j)))), (h0, .inr (3, [.ref a0, .ref a1, .ref a2, .int (nI rc), .int (nI ln), .int (nI rk), .int (nI ds), .int (nI su), .int (nI rd)])), (a0, .inl (cI, 5, .inl Rf)), (a1, .inl (cI, 32, .inl Lf)), (a2, .inl (cI, 11, .inl Wf)), (t0, .inr (4, [.ref v0, .int bs, .int bp, .int sr])), (v0, .inl (cI, 4, .inl V)), (d0, .inr (0, [.int sd]))]) rfl rfl ?_
  refine zg_aload_n C 0 dX5_sums_11 rfl ?_
  refine zg_get C 0 (ci := 5) (f := 0) rfl rfl uc_X5_sums_no_5 (by decide) fc_X5_sums_no_5_0 dX5_sums_12 rfl ?_
  refine zg_callr (As := []) (st := [.int (nI ((zfa pg pn 0 zr0).1))]) C [1, 2] 1 0 (c_X1_size l D cI p0 g0 pg pn ) gX5_sums_X1_size (by decide +kernel) rfl ⟨rfl, rfl⟩ ⟨Nat.le_of_ble_eq_true rfl, Nat.le_of_ble_eq_true rfl⟩ rfl (ci := 1) rfl rfl rfl rfl (Nat.le_of_ble_eq_true rfl) ⟨Nat.le_of_ble_eq_true rfl, Nat.le_of_ble_eq_true rfl⟩ dX5_sums_15 ?_
  refine zn_icmp_lt C 31 (by omega) (by omega) dX5_sums_18 (by decide) (fun c_18 => ?_) (fun c_18 => ?_)
  · skip
    refine zg_sipush (v := (-1003)) C dX5_sums_31 (by decide) ?_
    exact zg_wiret C E dX5_sums_34 (⟨rfl, rfl⟩)
  · skip
    refine zg_aload_n C 0 dX5_sums_21 rfl ?_
    refine zg_get C 0 (ci := 5) (f := 1) rfl rfl uc_X5_sums_no_5 (by decide) fc_X5_sums_no_5_1 dX5_sums_22 rfl ?_
    refine zg_callr (As := []) (st := []) C [3, 4] 3 0 (c_X2_rowIsWhole l D cI r0 b0 ((zfa pg pn 0 zr0).2.1) ((zfa pg pn 0 zr0).2.2.1) ((zfa pg pn 0 zr0).2.2.2.1) ((zfa pg pn 0 zr0).2.2.2.2) (q8)) gX5_sums_X2_rowIsWhole (by decide +kernel) rfl ⟨rfl, rfl⟩ ⟨Nat.le_of_ble_eq_true rfl, Nat.le_of_ble_eq_true rfl⟩ rfl (ci := 2) rfl rfl rfl rfl (Nat.le_of_ble_eq_true rfl) ⟨Nat.le_of_ble_eq_true rfl, Nat.le_of_ble_eq_true rfl⟩ dX5_sums_25 ?_
    refine zb_if_ne C 35 dX5_sums_28 (by decide) (fun c_28 => by exact (hno ⟨by omega, c_28⟩).elim) (fun c_28 => ?_)
    refine zg_sipush (v := (-1003)) C dX5_sums_31 (by decide) ?_
    exact zg_wiret C E dX5_sums_34 (⟨rfl, rfl⟩)
theorem zcode_0 (R : Nat → Nat) (rc ln : Nat) : zcode R rc ln 0 = nI ln := rfl
theorem zcode_1 (R : Nat → Nat) (rc ln : Nat) : zcode R rc ln 1 = nI rc := rfl
theorem zcode_2 (R : Nat → Nat) (rc ln : Nat) : zcode R rc ln 2 = nI (zrk R rc ln) := rfl
theorem zcode_3 (R : Nat → Nat) (rc ln : Nat) : zcode R rc ln 3 = zdn ln (zdm R rc ln (2 ^ ln)) := rfl
theorem zcode_4 (R : Nat → Nat) (rc ln : Nat) : zcode R rc ln 4 = nI (zsu ln (zdm R rc ln (2 ^ ln))) := rfl
theorem zcode_5 (R : Nat → Nat) (rc ln : Nat) : zcode R rc ln 5 = nI (zrad (zld R rc (2 ^ ln)) 32) := rfl
theorem zcode_6 (R : Nat → Nat) (rc ln : Nat) : zcode R rc ln 6 = if zrad (zld R rc (2 ^ ln)) 32 = zsu ln (zdm R rc ln (2 ^ ln)) then nI 1 else nI 0 := rfl
theorem zAcode_y {R : Nat → Nat} {rc ln j : Nat} (hj : j < 7) (h : 0 < ln) : zcode R rc ln j = zAcode R rc ln (nI j) := by
  rw [zAcode, if_pos (zin_nI hj (by decide)), if_pos h, zn_nI (by omega)]
theorem zin_x {x : Int32} {N : Nat} (hN : N + 1 < 2 ^ 31) (h1 : ¬ x < 0) (h2 : x ≤ nI N) : zin x (N + 1) := (zin_le (N := N + 1) (by omega) (by omega)).mp ⟨zlt_not.mp h1, h2⟩
theorem zin_xn {x : Int32} {N : Nat} (hN : N + 1 < 2 ^ 31) (h : x < 0 ∨ ¬ x ≤ nI N) : ¬ zin x (N + 1) := fun q => by
  have q2 := (zin_le (N := N + 1) (by omega) (by omega)).mpr q
  rcases h with h | h
  · exact absurd h (zlt_not.mpr q2.1)
  · exact h q2.2
theorem uX5_code_5 : ∀ w ∈ u_ws RX5 TX5 5, w ∈ wsX5_code := fun w h => List.mem_cons_of_mem _ (List.mem_append_left _ (List.mem_append_right _ h))
theorem fX5_code_5_2 : Cond.fieldLink RX5 26 (TX5 2).1 (TX5 2).2.1 (TX5 2).2.2.1 ∈ wsX5_code := by decide +kernel
set_option maxHeartbeats 1000000 in
set_option maxRecDepth 100000 in
theorem c_X5_code (l : Launch) (D : va_G) (cI : ClassId) (c0 p0 g0 r0 b0 h0 a0 a1 a2 t0 v0 d0 : Nat) (pg : Nat → Int32) (pn : Nat) (x1 x2 x3 : Int32) (Qf Rf Lf Wf : Nat → Int32) (rc ln rk ds su rd : Nat) (V : Nat → Int32) (bs bp sr sd : Int32) (R : Nat → Nat) (x : Int32) (hS : zSm R Rf Lf Wf rc ln rk ds su rd) (hln : ln ≤ 10) : zMr l D cI yX5_code wsX5_code { frames := 1, cells := 0, slots := 0, locals := 20 } [.ref c0, .int x] [(c0, .inr (5, [.ref p0, .ref r0, .ref h0, .ref t0, .ref d0])), (p0, .inr (1, [.ref g0, .int (nI pn)])), (g0, .inl (cI, 56, .inl pg)), (r0, .inr (2, [.ref b0, .int x1, .int x2, .int x3])), (b0, .inl (cI, 5, .inl Qf)), (h0, .inr (3, [.ref a0, .ref a1, .ref a2, .int (nI rc), .int (nI ln), .int (nI rk), .int (nI ds), .int (nI su), .int (nI rd)])), (a0, .inl (cI, 5, .inl Rf)), (a1, .inl (cI, 32, .inl Lf)), (a2, .inl (cI, 11, .inl Wf)), (t0, .inr (4, [.ref v0, .int bs, .int bp, .int sr])), (v0, .inl (cI, 4, .inl V)), (d0, .inr (0, [.int sd]))] (zAcode R rc ln x) := by
  refine zr_ent (maxL := 2) (by decide) rfl (Nat.le_of_ble_eq_true rfl) (fun X C E => ?_)
  have C : zC X l D cI { frames := 1, cells := 0, slots := 0, locals := 20 } 2 false cX5_code RX5 wsX5_code := C
  refine zg_cv (lv' := [(0, .ref c0), (1, .int x)]) rfl rfl rfl ?_
  refine zg_iload_n C 1 dX5_code_0 rfl ?_
  refine zg_if_lt C 10 dX5_code_1 (by decide) (fun c_1 => ?_) (fun c_1 => ?_)
  · skip
    refine zg_sipush (v := (-1002)) C dX5_code_10 (by decide) ?_
    exact zg_iret C E dX5_code_13 (by rw [zAcode, if_neg (zin_xn (N := 6) (by decide) (Or.inl c_1))])
  · skip
    refine zg_iload_n C 1 dX5_code_4 rfl ?_
    refine zg_bipush (v := nI 6) C dX5_code_5 (by decide) ?_
    refine zg_icmp_le C 14 dX5_code_7 (by decide) (fun c_7 => ?_) (fun c_7 => ?_)
    · skip
      have hx : zin x 7 := zin_x (N := 6) (by decide) c_1 c_7
      refine zg_aload_n C 0 dX5_code_14 rfl ?_
      refine zg_get C 0 (ci := 5) (f := 2) rfl rfl uX5_code_5 (by decide) fX5_code_5_2 dX5_code_15 rfl ?_
      refine zg_callr (As := []) (st := []) C [5, 6, 7, 8] 5 0 (c_X3_areThere l D cI h0 a0 a1 a2 Rf Lf Wf rc ln rk ds su rd hln) gX5_code_X3_areThere (by decide +kernel) rfl ⟨rfl, rfl⟩ ⟨Nat.le_of_ble_eq_true rfl, Nat.le_of_ble_eq_true rfl⟩ rfl (ci := 3) rfl rfl rfl rfl (Nat.le_of_ble_eq_true rfl) ⟨Nat.le_of_ble_eq_true rfl, Nat.le_of_ble_eq_true rfl⟩ dX5_code_18 ?_
      refine zp_if_ne C 28 dX5_code_21 (by decide) (fun c_21 => ?_) (fun c_21 => ?_)
      · skip
        obtain ⟨m1, hrc, m3, hR, hRb, hL, hW, e1, e2, e3, e4⟩ := hS c_21
        obtain ⟨j, hj, rfl⟩ := zin_of hx (by decide)
        refine zg_iload_n C 1 dX5_code_28 rfl ?_
        rcases (show j = 0 ∨ j = 1 ∨ j = 2 ∨ j = 3 ∨ j = 4 ∨ j = 5 ∨ j = 6 by omega) with rfl | rfl | rfl | rfl | rfl | rfl | rfl
        · skip
          refine zg_tabIn (off := 39) C 68 dX5_code_29 (by rw [show (nI 0).toInt = 0 from by decide]; decide) (by rw [show (nI 0).toInt = 0 from by decide]; decide) (by rw [show (nI 0).toInt = 0 from by decide]; rfl) (by decide) ?_
          refine zg_aload_n C 0 dX5_code_68 rfl ?_
          refine zg_get C 0 (ci := 5) (f := 2) rfl rfl uX5_code_5 (by decide) fX5_code_5_2 dX5_code_69 rfl ?_
          refine zg_callr (As := []) (st := []) C [5, 6, 7, 8] 5 0 (c_X3_length l D cI h0 a0 a1 a2 Rf Lf Wf rc ln rk ds su rd ) gX5_code_X3_length (by decide +kernel) rfl ⟨rfl, rfl⟩ ⟨Nat.le_of_ble_eq_true rfl, Nat.le_of_ble_eq_true rfl⟩ rfl (ci := 3) rfl rfl rfl rfl (Nat.le_of_ble_eq_true rfl) ⟨Nat.le_of_ble_eq_true rfl, Nat.le_of_ble_eq_true rfl⟩ dX5_code_72 ?_
          exact zg_iret C E dX5_code_75 (by rw [← zAcode_y (by decide) c_21, zcode_0])
        · skip
          refine zg_tabIn (off := 47) C 76 dX5_code_29 (by rw [show (nI 1).toInt = 1 from by decide]; decide) (by rw [show (nI 1).toInt = 1 from by decide]; decide) (by rw [show (nI 1).toInt = 1 from by decide]; rfl) (by decide) ?_
          refine zg_aload_n C 0 dX5_code_76 rfl ?_
          refine zg_get C 0 (ci := 5) (f := 2) rfl rfl uX5_code_5 (by decide) fX5_code_5_2 dX5_code_77 rfl ?_
          refine zg_callr (As := []) (st := []) C [5, 6, 7, 8] 5 0 (c_X3_rowCount l D cI h0 a0 a1 a2 Rf Lf Wf rc ln rk ds su rd ) gX5_code_X3_rowCount (by decide +kernel) rfl ⟨rfl, rfl⟩ ⟨Nat.le_of_ble_eq_true rfl, Nat.le_of_ble_eq_true rfl⟩ rfl (ci := 3) rfl rfl rfl rfl (Nat.le_of_ble_eq_true rfl) ⟨Nat.le_of_ble_eq_true rfl, Nat.le_of_ble_eq_true rfl⟩ dX5_code_80 ?_
          exact zg_iret C E dX5_code_83 (by rw [← zAcode_y (by decide) c_21, zcode_1])
        · skip
          refine zg_tabIn (off := 55) C 84 dX5_code_29 (by rw [show (nI 2).toInt = 2 from by decide]; decide) (by rw [show (nI 2).toInt = 2 from by decide]; decide) (by rw [show (nI 2).toInt = 2 from by decide]; rfl) (by decide) ?_
          refine zg_aload_n C 0 dX5_code_84 rfl ?_
          refine zg_get C 0 (ci := 5) (f := 2) rfl rfl uX5_code_5 (by decide) fX5_code_5_2 dX5_code_85 rfl ?_
          refine zg_callr (As := []) (st := []) C [5, 6, 7, 8] 5 0 (c_X3_rank l D cI h0 a0 a1 a2 Rf Lf Wf rc ln rk ds su rd ) gX5_code_X3_rank (by decide +kernel) rfl ⟨rfl, rfl⟩ ⟨Nat.le_of_ble_eq_true rfl, Nat.le_of_ble_eq_true rfl⟩ rfl (ci := 3) rfl rfl rfl rfl (Nat.le_of_ble_eq_true rfl) ⟨Nat.le_of_ble_eq_true rfl, Nat.le_of_ble_eq_true rfl⟩ dX5_code_88 ?_
          exact zg_iret C E dX5_code_91 (by rw [← zAcode_y (by decide) c_21, zcode_2, e1])
        · skip
          refine zg_tabIn (off := 63) C 92 dX5_code_29 (by rw [show (nI 3).toInt = 3 from by decide]; decide) (by rw [show (nI 3).toInt = 3 from by decide]; decide) (by rw [show (nI 3).toInt = 3 from by decide]; rfl) (by decide) ?_
          refine zg_aload_n C 0 dX5_code_92 rfl ?_
          refine zg_get C 0 (ci := 5) (f := 2) rfl rfl uX5_code_5 (by decide) fX5_code_5_2 dX5_code_93 rfl ?_
          have q9 := zdm_le R rc ln (2 ^ ln)
          refine zg_callr (As := []) (st := []) C [5, 6, 7, 8] 5 0 (c_X3_distanceOrNone l D cI h0 a0 a1 a2 Rf Lf Wf rc ln rk ds su rd hln (by omega)) gX5_code_X3_distanceOrNone (by decide +kernel) rfl ⟨rfl, rfl⟩ ⟨Nat.le_of_ble_eq_true rfl, Nat.le_of_ble_eq_true rfl⟩ rfl (ci := 3) rfl rfl rfl rfl (Nat.le_of_ble_eq_true rfl) ⟨Nat.le_of_ble_eq_true rfl, Nat.le_of_ble_eq_true rfl⟩ dX5_code_96 ?_
          exact zg_iret C E dX5_code_99 (by rw [← zAcode_y (by decide) c_21, zcode_3, e2])
        · skip
          refine zg_tabIn (off := 71) C 100 dX5_code_29 (by rw [show (nI 4).toInt = 4 from by decide]; decide) (by rw [show (nI 4).toInt = 4 from by decide]; decide) (by rw [show (nI 4).toInt = 4 from by decide]; rfl) (by decide) ?_
          refine zg_aload_n C 0 dX5_code_100 rfl ?_
          refine zg_get C 0 (ci := 5) (f := 2) rfl rfl uX5_code_5 (by decide) fX5_code_5_2 dX5_code_101 rfl ?_
          refine zg_callr (As := []) (st := []) C [5, 6, 7, 8] 5 0 (c_X3_sure l D cI h0 a0 a1 a2 Rf Lf Wf rc ln rk ds su rd ) gX5_code_X3_sure (by decide +kernel) rfl ⟨rfl, rfl⟩ ⟨Nat.le_of_ble_eq_true rfl, Nat.le_of_ble_eq_true rfl⟩ rfl (ci := 3) rfl rfl rfl rfl (Nat.le_of_ble_eq_true rfl) ⟨Nat.le_of_ble_eq_true rfl, Nat.le_of_ble_eq_true rfl⟩ dX5_code_104 ?_
          exact zg_iret C E dX5_code_107 (by rw [← zAcode_y (by decide) c_21, zcode_4, ← e2, e3])
        · skip
          refine zg_tabIn (off := 79) C 108 dX5_code_29 (by rw [show (nI 5).toInt = 5 from by decide]; decide) (by rw [show (nI 5).toInt = 5 from by decide]; decide) (by rw [show (nI 5).toInt = 5 from by decide]; rfl) (by decide) ?_
          refine zg_aload_n C 0 dX5_code_108 rfl ?_
          refine zg_get C 0 (ci := 5) (f := 2) rfl rfl uX5_code_5 (by decide) fX5_code_5_2 dX5_code_109 rfl ?_
          refine zg_callr (As := []) (st := []) C [5, 6, 7, 8] 5 0 (c_X3_radius l D cI h0 a0 a1 a2 Rf Lf Wf rc ln rk ds su rd ) gX5_code_X3_radius (by decide +kernel) rfl ⟨rfl, rfl⟩ ⟨Nat.le_of_ble_eq_true rfl, Nat.le_of_ble_eq_true rfl⟩ rfl (ci := 3) rfl rfl rfl rfl (Nat.le_of_ble_eq_true rfl) ⟨Nat.le_of_ble_eq_true rfl, Nat.le_of_ble_eq_true rfl⟩ dX5_code_112 ?_
          exact zg_iret C E dX5_code_115 (by rw [← zAcode_y (by decide) c_21, zcode_5, e4])
        · skip
          refine zg_tabOut C 116 dX5_code_29 (Or.inr (by decide)) (by decide) ?_
          refine zg_aload_n C 0 dX5_code_116 rfl ?_
          refine zg_get C 0 (ci := 5) (f := 2) rfl rfl uX5_code_5 (by decide) fX5_code_5_2 dX5_code_117 rfl ?_
          refine zg_callr (As := []) (st := []) C [5, 6, 7, 8] 5 0 (c_X3_radius l D cI h0 a0 a1 a2 Rf Lf Wf rc ln rk ds su rd ) gX5_code_X3_radius (by decide +kernel) rfl ⟨rfl, rfl⟩ ⟨Nat.le_of_ble_eq_true rfl, Nat.le_of_ble_eq_true rfl⟩ rfl (ci := 3) rfl rfl rfl rfl (Nat.le_of_ble_eq_true rfl) ⟨Nat.le_of_ble_eq_true rfl, Nat.le_of_ble_eq_true rfl⟩ dX5_code_120 ?_
          refine zg_aload_n C 0 dX5_code_123 rfl ?_
          refine zg_get C 0 (ci := 5) (f := 2) rfl rfl uX5_code_5 (by decide) fX5_code_5_2 dX5_code_124 rfl ?_
          refine zg_callr (As := []) (st := [.int (nI rd)]) C [5, 6, 7, 8] 5 0 (c_X3_sure l D cI h0 a0 a1 a2 Rf Lf Wf rc ln rk ds su rd ) gX5_code_X3_sure (by decide +kernel) rfl ⟨rfl, rfl⟩ ⟨Nat.le_of_ble_eq_true rfl, Nat.le_of_ble_eq_true rfl⟩ rfl (ci := 3) rfl rfl rfl rfl (Nat.le_of_ble_eq_true rfl) ⟨Nat.le_of_ble_eq_true rfl, Nat.le_of_ble_eq_true rfl⟩ dX5_code_127 ?_
          have q9 := zdm_le R rc ln (2 ^ ln)
          have q10 := zsu_le (ln := ln) (d := ds) hln (by omega)
          have q11 := (zrad_spec (zld R rc (2 ^ ln)) 32).1
          refine zn_icmp_ne C 137 (by omega) (by omega) dX5_code_130 (by decide) (fun c_130 => ?_) (fun c_130 => ?_)
          · skip
            refine zg_iconst (v := nI 0) C dX5_code_137 (by decide) ?_
            exact zg_iret C E dX5_code_138 (by rw [← zAcode_y (by decide) c_21, zcode_6, ← e2, ← e3, ← e4, if_neg c_130])
          · skip
            refine zg_iconst (v := nI 1) C dX5_code_133 (by decide) ?_
            refine zg_goto C 138 dX5_code_134 (by decide) ?_
            exact zg_iret C E dX5_code_138 (by rw [← zAcode_y (by decide) c_21, zcode_6, ← e2, ← e3, ← e4, if_pos c_130])
      · skip
        refine zg_sipush (v := (-1003)) C dX5_code_24 (by decide) ?_
        exact zg_iret C E dX5_code_27 (by rw [zAcode, if_pos hx, if_neg c_21])
    · skip
      refine zg_sipush (v := (-1002)) C dX5_code_10 (by decide) ?_
      exact zg_iret C E dX5_code_13 (by rw [zAcode, if_neg (zin_xn (N := 6) (by decide) (Or.inr c_7))])
theorem uX5_row_5 : ∀ w ∈ u_ws RX5 TX5 5, w ∈ wsX5_row := fun w h => List.mem_cons_of_mem _ (List.mem_append_left _ (List.mem_append_right _ h))
theorem fX5_row_5_2 : Cond.fieldLink RX5 26 (TX5 2).1 (TX5 2).2.1 (TX5 2).2.2.1 ∈ wsX5_row := by decide +kernel
set_option maxHeartbeats 1000000 in
set_option maxRecDepth 100000 in
theorem c_X5_row (l : Launch) (D : va_G) (cI : ClassId) (c0 p0 g0 r0 b0 h0 a0 a1 a2 t0 v0 d0 : Nat) (pg : Nat → Int32) (pn : Nat) (x1 x2 x3 : Int32) (Qf Rf Lf Wf : Nat → Int32) (rc ln rk ds su rd : Nat) (V : Nat → Int32) (bs bp sr sd : Int32) (R : Nat → Nat) (x : Int32) (hS : zSm R Rf Lf Wf rc ln rk ds su rd) (hln : ln ≤ 10) : zMr l D cI yX5_row wsX5_row { frames := 2, cells := 0, slots := 0, locals := 42 } [.ref c0, .int x] [(c0, .inr (5, [.ref p0, .ref r0, .ref h0, .ref t0, .ref d0])), (p0, .inr (1, [.ref g0, .int (nI pn)])), (g0, .inl (cI, 56, .inl pg)), (r0, .inr (2, [.ref b0, .int x1, .int x2, .int x3])), (b0, .inl (cI, 5, .inl Qf)), (h0, .inr (3, [.ref a0, .ref a1, .ref a2, .int (nI rc), .int (nI ln), .int (nI rk), .int (nI ds), .int (nI su), .int (nI rd)])), (a0, .inl (cI, 5, .inl Rf)), (a1, .inl (cI, 32, .inl Lf)), (a2, .inl (cI, 11, .inl Wf)), (t0, .inr (4, [.ref v0, .int bs, .int bp, .int sr])), (v0, .inl (cI, 4, .inl V)), (d0, .inr (0, [.int sd]))] (zA ln (zin x rc) (nI (R (zn x)))) := by
  refine zr_ent (maxL := 2) (by decide) rfl (Nat.le_of_ble_eq_true rfl) (fun X C E => ?_)
  have C : zC X l D cI { frames := 2, cells := 0, slots := 0, locals := 42 } 2 false cX5_row RX5 wsX5_row := C
  refine zg_cv (lv' := [(0, .ref c0), (1, .int x)]) rfl rfl rfl ?_
  refine zg_aload_n C 0 dX5_row_0 rfl ?_
  refine zg_get C 0 (ci := 5) (f := 2) rfl rfl uX5_row_5 (by decide) fX5_row_5_2 dX5_row_1 rfl ?_
  refine zg_callr (As := []) (st := []) C [5, 6, 7, 8] 5 0 (c_X3_areThere l D cI h0 a0 a1 a2 Rf Lf Wf rc ln rk ds su rd hln) gX5_row_X3_areThere (by decide +kernel) rfl ⟨rfl, rfl⟩ ⟨Nat.le_of_ble_eq_true rfl, Nat.le_of_ble_eq_true rfl⟩ rfl (ci := 3) rfl rfl rfl rfl (Nat.le_of_ble_eq_true rfl) ⟨Nat.le_of_ble_eq_true rfl, Nat.le_of_ble_eq_true rfl⟩ dX5_row_4 ?_
  refine zp_if_ne C 14 dX5_row_7 (by decide) (fun c_7 => ?_) (fun c_7 => ?_)
  · skip
    obtain ⟨m1, hrc, m3, hR, hRb, hL, hW, e1, e2, e3, e4⟩ := hS c_7
    have q0 := zpw hln
    have q1 := zpw0 ln
    have q5 := zpw5 hrc
    refine zg_aload_n C 0 dX5_row_14 rfl ?_
    refine zg_get C 0 (ci := 5) (f := 2) rfl rfl uX5_row_5 (by decide) fX5_row_5_2 dX5_row_15 rfl ?_
    refine zg_iload_n C 1 dX5_row_18 rfl ?_
    refine zg_callr (As := [.int x]) (st := []) C [5, 6, 7, 8] 5 1 (c_X3_isRow l D cI h0 a0 a1 a2 Rf Lf Wf rc ln rk ds su rd x hrc) gX5_row_X3_isRow (by decide +kernel) rfl ⟨rfl, rfl⟩ ⟨Nat.le_of_ble_eq_true rfl, Nat.le_of_ble_eq_true rfl⟩ rfl (ci := 3) rfl rfl rfl rfl (Nat.le_of_ble_eq_true rfl) ⟨Nat.le_of_ble_eq_true rfl, Nat.le_of_ble_eq_true rfl⟩ dX5_row_19 ?_
    refine zp_if_eq C 36 dX5_row_22 (by decide) (fun c_22 => ?_) (fun c_22 => ?_)
    · skip
      refine zg_sipush (v := (-1002)) C dX5_row_36 (by decide) ?_
      exact zg_iret C E dX5_row_39 ((zA_o c_7 c_22).symm)
    · skip
      obtain ⟨i, hi, rfl⟩ := zin_of c_22 (by omega)
      refine zg_aload_n C 0 dX5_row_25 rfl ?_
      refine zg_get C 0 (ci := 5) (f := 2) rfl rfl uX5_row_5 (by decide) fX5_row_5_2 dX5_row_26 rfl ?_
      refine zg_iload_n C 1 dX5_row_29 rfl ?_
      refine zg_callr (As := [.int (nI i)]) (st := []) C [5, 6, 7, 8] 5 1 (c_X3_rowAt l D cI h0 a0 a1 a2 Rf Lf Wf rc ln rk ds su rd i hrc (by omega)) gX5_row_X3_rowAt (by decide +kernel) rfl ⟨rfl, rfl⟩ ⟨Nat.le_of_ble_eq_true rfl, Nat.le_of_ble_eq_true rfl⟩ rfl (ci := 3) rfl rfl rfl rfl (Nat.le_of_ble_eq_true rfl) ⟨Nat.le_of_ble_eq_true rfl, Nat.le_of_ble_eq_true rfl⟩ dX5_row_30 ?_
      refine zg_goto C 39 dX5_row_33 (by decide) ?_
      exact zg_iret C E dX5_row_39 (by rw [zA_y c_7 c_22, zn_nI (by omega), hR i hi])
  · skip
    refine zg_sipush (v := (-1003)) C dX5_row_10 (by decide) ?_
    exact zg_iret C E dX5_row_13 ((zA_n c_7).symm)
theorem uX5_syndrome_5 : ∀ w ∈ u_ws RX5 TX5 5, w ∈ wsX5_syndrome := fun w h => List.mem_cons_of_mem _ (List.mem_append_left _ (List.mem_append_right _ h))
theorem fX5_syndrome_5_2 : Cond.fieldLink RX5 26 (TX5 2).1 (TX5 2).2.1 (TX5 2).2.2.1 ∈ wsX5_syndrome := by decide +kernel
set_option maxHeartbeats 1000000 in
set_option maxRecDepth 100000 in
theorem c_X5_syndrome (l : Launch) (D : va_G) (cI : ClassId) (c0 p0 g0 r0 b0 h0 a0 a1 a2 t0 v0 d0 : Nat) (pg : Nat → Int32) (pn : Nat) (x1 x2 x3 : Int32) (Qf Rf Lf Wf : Nat → Int32) (rc ln rk ds su rd : Nat) (V : Nat → Int32) (bs bp sr sd : Int32) (R : Nat → Nat) (x : Int32) (hS : zSm R Rf Lf Wf rc ln rk ds su rd) (hln : ln ≤ 10) : zMr l D cI yX5_syndrome wsX5_syndrome { frames := 2, cells := 0, slots := 0, locals := 43 } [.ref c0, .int x] [(c0, .inr (5, [.ref p0, .ref r0, .ref h0, .ref t0, .ref d0])), (p0, .inr (1, [.ref g0, .int (nI pn)])), (g0, .inl (cI, 56, .inl pg)), (r0, .inr (2, [.ref b0, .int x1, .int x2, .int x3])), (b0, .inl (cI, 5, .inl Qf)), (h0, .inr (3, [.ref a0, .ref a1, .ref a2, .int (nI rc), .int (nI ln), .int (nI rk), .int (nI ds), .int (nI su), .int (nI rd)])), (a0, .inl (cI, 5, .inl Rf)), (a1, .inl (cI, 32, .inl Lf)), (a2, .inl (cI, 11, .inl Wf)), (t0, .inr (4, [.ref v0, .int bs, .int bp, .int sr])), (v0, .inl (cI, 4, .inl V)), (d0, .inr (0, [.int sd]))] (zA ln (zin x (2 ^ ln)) (nI (zsk R (zn x) rc))) := by
  refine zr_ent (maxL := 2) (by decide) rfl (Nat.le_of_ble_eq_true rfl) (fun X C E => ?_)
  have C : zC X l D cI { frames := 2, cells := 0, slots := 0, locals := 43 } 2 false cX5_syndrome RX5 wsX5_syndrome := C
  refine zg_cv (lv' := [(0, .ref c0), (1, .int x)]) rfl rfl rfl ?_
  refine zg_aload_n C 0 dX5_syndrome_0 rfl ?_
  refine zg_get C 0 (ci := 5) (f := 2) rfl rfl uX5_syndrome_5 (by decide) fX5_syndrome_5_2 dX5_syndrome_1 rfl ?_
  refine zg_callr (As := []) (st := []) C [5, 6, 7, 8] 5 0 (c_X3_areThere l D cI h0 a0 a1 a2 Rf Lf Wf rc ln rk ds su rd hln) gX5_syndrome_X3_areThere (by decide +kernel) rfl ⟨rfl, rfl⟩ ⟨Nat.le_of_ble_eq_true rfl, Nat.le_of_ble_eq_true rfl⟩ rfl (ci := 3) rfl rfl rfl rfl (Nat.le_of_ble_eq_true rfl) ⟨Nat.le_of_ble_eq_true rfl, Nat.le_of_ble_eq_true rfl⟩ dX5_syndrome_4 ?_
  refine zp_if_ne C 14 dX5_syndrome_7 (by decide) (fun c_7 => ?_) (fun c_7 => ?_)
  · skip
    obtain ⟨m1, hrc, m3, hR, hRb, hL, hW, e1, e2, e3, e4⟩ := hS c_7
    have q0 := zpw hln
    have q1 := zpw0 ln
    have q5 := zpw5 hrc
    refine zg_aload_n C 0 dX5_syndrome_14 rfl ?_
    refine zg_get C 0 (ci := 5) (f := 2) rfl rfl uX5_syndrome_5 (by decide) fX5_syndrome_5_2 dX5_syndrome_15 rfl ?_
    refine zg_iload_n C 1 dX5_syndrome_18 rfl ?_
    refine zg_callr (As := [.int x]) (st := []) C [5, 6, 7, 8] 5 1 (c_X3_isWord l D cI h0 a0 a1 a2 Rf Lf Wf rc ln rk ds su rd x hln) gX5_syndrome_X3_isWord (by decide +kernel) rfl ⟨rfl, rfl⟩ ⟨Nat.le_of_ble_eq_true rfl, Nat.le_of_ble_eq_true rfl⟩ rfl (ci := 3) rfl rfl rfl rfl (Nat.le_of_ble_eq_true rfl) ⟨Nat.le_of_ble_eq_true rfl, Nat.le_of_ble_eq_true rfl⟩ dX5_syndrome_19 ?_
    refine zp_if_eq C 36 dX5_syndrome_22 (by decide) (fun c_22 => ?_) (fun c_22 => ?_)
    · skip
      refine zg_sipush (v := (-1002)) C dX5_syndrome_36 (by decide) ?_
      exact zg_iret C E dX5_syndrome_39 ((zA_o c_7 c_22).symm)
    · skip
      obtain ⟨i, hi, rfl⟩ := zin_of c_22 (by omega)
      refine zg_aload_n C 0 dX5_syndrome_25 rfl ?_
      refine zg_get C 0 (ci := 5) (f := 2) rfl rfl uX5_syndrome_5 (by decide) fX5_syndrome_5_2 dX5_syndrome_26 rfl ?_
      refine zg_iload_n C 1 dX5_syndrome_29 rfl ?_
      refine zg_callr (As := [.int (nI i)]) (st := []) C [5, 6, 7, 8] 5 1 (c_X3_syndromeOf l D cI h0 a0 a1 a2 Rf Lf Wf rc ln rk ds su rd R i hrc hR hRb (by omega)) gX5_syndrome_X3_syndromeOf (by decide +kernel) rfl ⟨rfl, rfl⟩ ⟨Nat.le_of_ble_eq_true rfl, Nat.le_of_ble_eq_true rfl⟩ rfl (ci := 3) rfl rfl rfl rfl (Nat.le_of_ble_eq_true rfl) ⟨Nat.le_of_ble_eq_true rfl, Nat.le_of_ble_eq_true rfl⟩ dX5_syndrome_30 ?_
      refine zg_goto C 39 dX5_syndrome_33 (by decide) ?_
      exact zg_iret C E dX5_syndrome_39 (by rw [zA_y c_7 c_22, zn_nI (by omega)])
  · skip
    refine zg_sipush (v := (-1003)) C dX5_syndrome_10 (by decide) ?_
    exact zg_iret C E dX5_syndrome_13 ((zA_n c_7).symm)
theorem uX5_leader_5 : ∀ w ∈ u_ws RX5 TX5 5, w ∈ wsX5_leader := fun w h => List.mem_cons_of_mem _ (List.mem_append_left _ (List.mem_append_right _ h))
theorem fX5_leader_5_2 : Cond.fieldLink RX5 26 (TX5 2).1 (TX5 2).2.1 (TX5 2).2.2.1 ∈ wsX5_leader := by decide +kernel
set_option maxHeartbeats 1000000 in
set_option maxRecDepth 100000 in
theorem c_X5_leader (l : Launch) (D : va_G) (cI : ClassId) (c0 p0 g0 r0 b0 h0 a0 a1 a2 t0 v0 d0 : Nat) (pg : Nat → Int32) (pn : Nat) (x1 x2 x3 : Int32) (Qf Rf Lf Wf : Nat → Int32) (rc ln rk ds su rd : Nat) (V : Nat → Int32) (bs bp sr sd : Int32) (R : Nat → Nat) (x : Int32) (hS : zSm R Rf Lf Wf rc ln rk ds su rd) (hln : ln ≤ 10) : zMr l D cI yX5_leader wsX5_leader { frames := 3, cells := 0, slots := 0, locals := 62 } [.ref c0, .int x] [(c0, .inr (5, [.ref p0, .ref r0, .ref h0, .ref t0, .ref d0])), (p0, .inr (1, [.ref g0, .int (nI pn)])), (g0, .inl (cI, 56, .inl pg)), (r0, .inr (2, [.ref b0, .int x1, .int x2, .int x3])), (b0, .inl (cI, 5, .inl Qf)), (h0, .inr (3, [.ref a0, .ref a1, .ref a2, .int (nI rc), .int (nI ln), .int (nI rk), .int (nI ds), .int (nI su), .int (nI rd)])), (a0, .inl (cI, 5, .inl Rf)), (a1, .inl (cI, 32, .inl Lf)), (a2, .inl (cI, 11, .inl Wf)), (t0, .inr (4, [.ref v0, .int bs, .int bp, .int sr])), (v0, .inl (cI, 4, .inl V)), (d0, .inr (0, [.int sd]))] (zA ln (zin x (2 ^ rc)) (zo (zld R rc (2 ^ ln) (zn x)))) := by
  refine zr_ent (maxL := 2) (by decide) rfl (Nat.le_of_ble_eq_true rfl) (fun X C E => ?_)
  have C : zC X l D cI { frames := 3, cells := 0, slots := 0, locals := 62 } 2 false cX5_leader RX5 wsX5_leader := C
  refine zg_cv (lv' := [(0, .ref c0), (1, .int x)]) rfl rfl rfl ?_
  refine zg_aload_n C 0 dX5_leader_0 rfl ?_
  refine zg_get C 0 (ci := 5) (f := 2) rfl rfl uX5_leader_5 (by decide) fX5_leader_5_2 dX5_leader_1 rfl ?_
  refine zg_callr (As := []) (st := []) C [5, 6, 7, 8] 5 0 (c_X3_areThere l D cI h0 a0 a1 a2 Rf Lf Wf rc ln rk ds su rd hln) gX5_leader_X3_areThere (by decide +kernel) rfl ⟨rfl, rfl⟩ ⟨Nat.le_of_ble_eq_true rfl, Nat.le_of_ble_eq_true rfl⟩ rfl (ci := 3) rfl rfl rfl rfl (Nat.le_of_ble_eq_true rfl) ⟨Nat.le_of_ble_eq_true rfl, Nat.le_of_ble_eq_true rfl⟩ dX5_leader_4 ?_
  refine zp_if_ne C 14 dX5_leader_7 (by decide) (fun c_7 => ?_) (fun c_7 => ?_)
  · skip
    obtain ⟨m1, hrc, m3, hR, hRb, hL, hW, e1, e2, e3, e4⟩ := hS c_7
    have q0 := zpw hln
    have q1 := zpw0 ln
    have q5 := zpw5 hrc
    refine zg_aload_n C 0 dX5_leader_14 rfl ?_
    refine zg_get C 0 (ci := 5) (f := 2) rfl rfl uX5_leader_5 (by decide) fX5_leader_5_2 dX5_leader_15 rfl ?_
    refine zg_iload_n C 1 dX5_leader_18 rfl ?_
    refine zg_callr (As := [.int x]) (st := []) C [5, 6, 7, 8] 5 1 (c_X3_isSyndrome l D cI h0 a0 a1 a2 Rf Lf Wf rc ln rk ds su rd x hrc) gX5_leader_X3_isSyndrome (by decide +kernel) rfl ⟨rfl, rfl⟩ ⟨Nat.le_of_ble_eq_true rfl, Nat.le_of_ble_eq_true rfl⟩ rfl (ci := 3) rfl rfl rfl rfl (Nat.le_of_ble_eq_true rfl) ⟨Nat.le_of_ble_eq_true rfl, Nat.le_of_ble_eq_true rfl⟩ dX5_leader_19 ?_
    refine zp_if_eq C 36 dX5_leader_22 (by decide) (fun c_22 => ?_) (fun c_22 => ?_)
    · skip
      refine zg_sipush (v := (-1002)) C dX5_leader_36 (by decide) ?_
      exact zg_iret C E dX5_leader_39 ((zA_o c_7 c_22).symm)
    · skip
      obtain ⟨i, hi, rfl⟩ := zin_of c_22 (by omega)
      refine zg_aload_n C 0 dX5_leader_25 rfl ?_
      refine zg_get C 0 (ci := 5) (f := 2) rfl rfl uX5_leader_5 (by decide) fX5_leader_5_2 dX5_leader_26 rfl ?_
      refine zg_iload_n C 1 dX5_leader_29 rfl ?_
      refine zg_callr (As := [.int (nI i)]) (st := []) C [5, 6, 7, 8] 5 1 (c_X3_leaderOf l D cI h0 a0 a1 a2 Rf Lf Wf rc ln rk ds su rd i hrc (by omega)) gX5_leader_X3_leaderOf (by decide +kernel) rfl ⟨rfl, rfl⟩ ⟨Nat.le_of_ble_eq_true rfl, Nat.le_of_ble_eq_true rfl⟩ rfl (ci := 3) rfl rfl rfl rfl (Nat.le_of_ble_eq_true rfl) ⟨Nat.le_of_ble_eq_true rfl, Nat.le_of_ble_eq_true rfl⟩ dX5_leader_30 ?_
      refine zg_goto C 39 dX5_leader_33 (by decide) ?_
      exact zg_iret C E dX5_leader_39 (by rw [zA_y c_7 c_22, zn_nI (by omega), hL i (by omega)])
  · skip
    refine zg_sipush (v := (-1003)) C dX5_leader_10 (by decide) ?_
    exact zg_iret C E dX5_leader_13 ((zA_n c_7).symm)
theorem uX5_leaders_5 : ∀ w ∈ u_ws RX5 TX5 5, w ∈ wsX5_leaders := fun w h => List.mem_cons_of_mem _ (List.mem_append_left _ (List.mem_append_right _ h))
theorem fX5_leaders_5_2 : Cond.fieldLink RX5 26 (TX5 2).1 (TX5 2).2.1 (TX5 2).2.2.1 ∈ wsX5_leaders := by decide +kernel
set_option maxHeartbeats 1000000 in
set_option maxRecDepth 100000 in
theorem c_X5_leaders (l : Launch) (D : va_G) (cI : ClassId) (c0 p0 g0 r0 b0 h0 a0 a1 a2 t0 v0 d0 : Nat) (pg : Nat → Int32) (pn : Nat) (x1 x2 x3 : Int32) (Qf Rf Lf Wf : Nat → Int32) (rc ln rk ds su rd : Nat) (V : Nat → Int32) (bs bp sr sd : Int32) (R : Nat → Nat) (x : Int32) (hS : zSm R Rf Lf Wf rc ln rk ds su rd) (hln : ln ≤ 10) : zMr l D cI yX5_leaders wsX5_leaders { frames := 2, cells := 0, slots := 0, locals := 42 } [.ref c0, .int x] [(c0, .inr (5, [.ref p0, .ref r0, .ref h0, .ref t0, .ref d0])), (p0, .inr (1, [.ref g0, .int (nI pn)])), (g0, .inl (cI, 56, .inl pg)), (r0, .inr (2, [.ref b0, .int x1, .int x2, .int x3])), (b0, .inl (cI, 5, .inl Qf)), (h0, .inr (3, [.ref a0, .ref a1, .ref a2, .int (nI rc), .int (nI ln), .int (nI rk), .int (nI ds), .int (nI su), .int (nI rd)])), (a0, .inl (cI, 5, .inl Rf)), (a1, .inl (cI, 32, .inl Lf)), (a2, .inl (cI, 11, .inl Wf)), (t0, .inr (4, [.ref v0, .int bs, .int bp, .int sr])), (v0, .inl (cI, 4, .inl V)), (d0, .inr (0, [.int sd]))] (zA ln (zin x (ln + 1)) (nI (zct (zhw (zld R rc (2 ^ ln)) (zn x)) 32))) := by
  refine zr_ent (maxL := 2) (by decide) rfl (Nat.le_of_ble_eq_true rfl) (fun X C E => ?_)
  have C : zC X l D cI { frames := 2, cells := 0, slots := 0, locals := 42 } 2 false cX5_leaders RX5 wsX5_leaders := C
  refine zg_cv (lv' := [(0, .ref c0), (1, .int x)]) rfl rfl rfl ?_
  refine zg_aload_n C 0 dX5_leaders_0 rfl ?_
  refine zg_get C 0 (ci := 5) (f := 2) rfl rfl uX5_leaders_5 (by decide) fX5_leaders_5_2 dX5_leaders_1 rfl ?_
  refine zg_callr (As := []) (st := []) C [5, 6, 7, 8] 5 0 (c_X3_areThere l D cI h0 a0 a1 a2 Rf Lf Wf rc ln rk ds su rd hln) gX5_leaders_X3_areThere (by decide +kernel) rfl ⟨rfl, rfl⟩ ⟨Nat.le_of_ble_eq_true rfl, Nat.le_of_ble_eq_true rfl⟩ rfl (ci := 3) rfl rfl rfl rfl (Nat.le_of_ble_eq_true rfl) ⟨Nat.le_of_ble_eq_true rfl, Nat.le_of_ble_eq_true rfl⟩ dX5_leaders_4 ?_
  refine zp_if_ne C 14 dX5_leaders_7 (by decide) (fun c_7 => ?_) (fun c_7 => ?_)
  · skip
    obtain ⟨m1, hrc, m3, hR, hRb, hL, hW, e1, e2, e3, e4⟩ := hS c_7
    have q0 := zpw hln
    have q1 := zpw0 ln
    have q5 := zpw5 hrc
    refine zg_aload_n C 0 dX5_leaders_14 rfl ?_
    refine zg_get C 0 (ci := 5) (f := 2) rfl rfl uX5_leaders_5 (by decide) fX5_leaders_5_2 dX5_leaders_15 rfl ?_
    refine zg_iload_n C 1 dX5_leaders_18 rfl ?_
    refine zg_callr (As := [.int x]) (st := []) C [5, 6, 7, 8] 5 1 (c_X3_isWeight l D cI h0 a0 a1 a2 Rf Lf Wf rc ln rk ds su rd x hln) gX5_leaders_X3_isWeight (by decide +kernel) rfl ⟨rfl, rfl⟩ ⟨Nat.le_of_ble_eq_true rfl, Nat.le_of_ble_eq_true rfl⟩ rfl (ci := 3) rfl rfl rfl rfl (Nat.le_of_ble_eq_true rfl) ⟨Nat.le_of_ble_eq_true rfl, Nat.le_of_ble_eq_true rfl⟩ dX5_leaders_19 ?_
    refine zp_if_eq C 36 dX5_leaders_22 (by decide) (fun c_22 => ?_) (fun c_22 => ?_)
    · skip
      refine zg_sipush (v := (-1002)) C dX5_leaders_36 (by decide) ?_
      exact zg_iret C E dX5_leaders_39 ((zA_o c_7 c_22).symm)
    · skip
      obtain ⟨i, hi, rfl⟩ := zin_of c_22 (by omega)
      refine zg_aload_n C 0 dX5_leaders_25 rfl ?_
      refine zg_get C 0 (ci := 5) (f := 2) rfl rfl uX5_leaders_5 (by decide) fX5_leaders_5_2 dX5_leaders_26 rfl ?_
      refine zg_iload_n C 1 dX5_leaders_29 rfl ?_
      refine zg_callr (As := [.int (nI i)]) (st := []) C [5, 6, 7, 8] 5 1 (c_X3_leadersOfWeight l D cI h0 a0 a1 a2 Rf Lf Wf rc ln rk ds su rd i hln (by omega)) gX5_leaders_X3_leadersOfWeight (by decide +kernel) rfl ⟨rfl, rfl⟩ ⟨Nat.le_of_ble_eq_true rfl, Nat.le_of_ble_eq_true rfl⟩ rfl (ci := 3) rfl rfl rfl rfl (Nat.le_of_ble_eq_true rfl) ⟨Nat.le_of_ble_eq_true rfl, Nat.le_of_ble_eq_true rfl⟩ dX5_leaders_30 ?_
      refine zg_goto C 39 dX5_leaders_33 (by decide) ?_
      exact zg_iret C E dX5_leaders_39 (by rw [zA_y c_7 c_22, zn_nI (by omega), hW i (by omega)])
  · skip
    refine zg_sipush (v := (-1003)) C dX5_leaders_10 (by decide) ?_
    exact zg_iret C E dX5_leaders_13 ((zA_n c_7).symm)
theorem uX5_coset_5 : ∀ w ∈ u_ws RX5 TX5 5, w ∈ wsX5_coset := fun w h => List.mem_cons_of_mem _ (List.mem_append_left _ (List.mem_append_right _ h))
theorem fX5_coset_5_2 : Cond.fieldLink RX5 26 (TX5 2).1 (TX5 2).2.1 (TX5 2).2.2.1 ∈ wsX5_coset := by decide +kernel
set_option maxHeartbeats 1000000 in
set_option maxRecDepth 100000 in
theorem c_X5_coset (l : Launch) (D : va_G) (cI : ClassId) (c0 p0 g0 r0 b0 h0 a0 a1 a2 t0 v0 d0 : Nat) (pg : Nat → Int32) (pn : Nat) (x1 x2 x3 : Int32) (Qf Rf Lf Wf : Nat → Int32) (rc ln rk ds su rd : Nat) (V : Nat → Int32) (bs bp sr sd : Int32) (R : Nat → Nat) (x y : Int32) (hS : zSm R Rf Lf Wf rc ln rk ds su rd) (hln : ln ≤ 10) : zMr l D cI yX5_coset wsX5_coset { frames := 3, cells := 0, slots := 0, locals := 68 } [.ref c0, .int x, .int y] [(c0, .inr (5, [.ref p0, .ref r0, .ref h0, .ref t0, .ref d0])), (p0, .inr (1, [.ref g0, .int (nI pn)])), (g0, .inl (cI, 56, .inl pg)), (r0, .inr (2, [.ref b0, .int x1, .int x2, .int x3])), (b0, .inl (cI, 5, .inl Qf)), (h0, .inr (3, [.ref a0, .ref a1, .ref a2, .int (nI rc), .int (nI ln), .int (nI rk), .int (nI ds), .int (nI su), .int (nI rd)])), (a0, .inl (cI, 5, .inl Rf)), (a1, .inl (cI, 32, .inl Lf)), (a2, .inl (cI, 11, .inl Wf)), (t0, .inr (4, [.ref v0, .int bs, .int bp, .int sr])), (v0, .inl (cI, 4, .inl V)), (d0, .inr (0, [.int sd]))] (zA ln (zin x (2 ^ rc)) (zco (fun w => decide (zsk R w rc = zn x)) y (2 ^ ln) 0 0)) := by
  refine zr_ent (maxL := 3) (by decide) rfl (Nat.le_of_ble_eq_true rfl) (fun X C E => ?_)
  have C : zC X l D cI { frames := 3, cells := 0, slots := 0, locals := 68 } 3 false cX5_coset RX5 wsX5_coset := C
  refine zg_cv (lv' := [(0, .ref c0), (1, .int x), (2, .int y)]) rfl rfl rfl ?_
  refine zg_aload_n C 0 dX5_coset_0 rfl ?_
  refine zg_get C 0 (ci := 5) (f := 2) rfl rfl uX5_coset_5 (by decide) fX5_coset_5_2 dX5_coset_1 rfl ?_
  refine zg_callr (As := []) (st := []) C [5, 6, 7, 8] 5 0 (c_X3_areThere l D cI h0 a0 a1 a2 Rf Lf Wf rc ln rk ds su rd hln) gX5_coset_X3_areThere (by decide +kernel) rfl ⟨rfl, rfl⟩ ⟨Nat.le_of_ble_eq_true rfl, Nat.le_of_ble_eq_true rfl⟩ rfl (ci := 3) rfl rfl rfl rfl (Nat.le_of_ble_eq_true rfl) ⟨Nat.le_of_ble_eq_true rfl, Nat.le_of_ble_eq_true rfl⟩ dX5_coset_4 ?_
  refine zp_if_ne C 14 dX5_coset_7 (by decide) (fun c_7 => ?_) (fun c_7 => ?_)
  · skip
    obtain ⟨m1, hrc, m3, hR, hRb, hL, hW, e1, e2, e3, e4⟩ := hS c_7
    have q0 := zpw hln
    have q1 := zpw0 ln
    have q5 := zpw5 hrc
    refine zg_aload_n C 0 dX5_coset_14 rfl ?_
    refine zg_get C 0 (ci := 5) (f := 2) rfl rfl uX5_coset_5 (by decide) fX5_coset_5_2 dX5_coset_15 rfl ?_
    refine zg_iload_n C 1 dX5_coset_18 rfl ?_
    refine zg_callr (As := [.int x]) (st := []) C [5, 6, 7, 8] 5 1 (c_X3_isSyndrome l D cI h0 a0 a1 a2 Rf Lf Wf rc ln rk ds su rd x hrc) gX5_coset_X3_isSyndrome (by decide +kernel) rfl ⟨rfl, rfl⟩ ⟨Nat.le_of_ble_eq_true rfl, Nat.le_of_ble_eq_true rfl⟩ rfl (ci := 3) rfl rfl rfl rfl (Nat.le_of_ble_eq_true rfl) ⟨Nat.le_of_ble_eq_true rfl, Nat.le_of_ble_eq_true rfl⟩ dX5_coset_19 ?_
    refine zp_if_eq C 37 dX5_coset_22 (by decide) (fun c_22 => ?_) (fun c_22 => ?_)
    · skip
      refine zg_sipush (v := (-1002)) C dX5_coset_37 (by decide) ?_
      exact zg_iret C E dX5_coset_40 ((zA_o c_7 c_22).symm)
    · skip
      obtain ⟨i, hi, rfl⟩ := zin_of c_22 (by omega)
      refine zg_aload_n C 0 dX5_coset_25 rfl ?_
      refine zg_get C 0 (ci := 5) (f := 2) rfl rfl uX5_coset_5 (by decide) fX5_coset_5_2 dX5_coset_26 rfl ?_
      refine zg_iload_n C 1 dX5_coset_29 rfl ?_
      refine zg_iload_n C 2 dX5_coset_30 rfl ?_
      refine zg_callr (As := [.int (nI i), .int y]) (st := []) C [5, 6, 7, 8] 5 2 (c_X3_wordOfCoset l D cI h0 a0 a1 a2 Rf Lf Wf rc ln rk ds su rd R i y hrc hln hR hRb (by omega)) gX5_coset_X3_wordOfCoset (by decide +kernel) rfl ⟨rfl, rfl⟩ ⟨Nat.le_of_ble_eq_true rfl, Nat.le_of_ble_eq_true rfl⟩ rfl (ci := 3) rfl rfl rfl rfl (Nat.le_of_ble_eq_true rfl) ⟨Nat.le_of_ble_eq_true rfl, Nat.le_of_ble_eq_true rfl⟩ dX5_coset_31 ?_
      refine zg_goto C 40 dX5_coset_34 (by decide) ?_
      exact zg_iret C E dX5_coset_40 (by rw [zA_y c_7 c_22, zn_nI (by omega)])
  · skip
    refine zg_sipush (v := (-1003)) C dX5_coset_10 (by decide) ?_
    exact zg_iret C E dX5_coset_13 ((zA_n c_7).symm)
theorem uX5_better_5 : ∀ w ∈ u_ws RX5 TX5 5, w ∈ wsX5_better := fun w h => List.mem_cons_of_mem _ (List.mem_append_left _ (List.mem_append_right _ h))
theorem fX5_better_5_2 : Cond.fieldLink RX5 26 (TX5 2).1 (TX5 2).2.1 (TX5 2).2.2.1 ∈ wsX5_better := by decide +kernel
set_option maxHeartbeats 1000000 in
set_option maxRecDepth 100000 in
theorem c_X5_better (l : Launch) (D : va_G) (cI : ClassId) (c0 p0 g0 r0 b0 h0 a0 a1 a2 t0 v0 d0 : Nat) (pg : Nat → Int32) (pn : Nat) (x1 x2 x3 : Int32) (Qf Rf Lf Wf : Nat → Int32) (rc ln rk ds su rd : Nat) (V : Nat → Int32) (bs bp sr sd : Int32) (R : Nat → Nat) (x y : Int32) (hS : zSm R Rf Lf Wf rc ln rk ds su rd) (hln : ln ≤ 10) : zMw l D cI yX5_better wsX5_better { frames := 4, cells := 0, slots := 0, locals := 91 } [.ref c0, .int x, .int y] [(c0, .inr (5, [.ref p0, .ref r0, .ref h0, .ref t0, .ref d0])), (p0, .inr (1, [.ref g0, .int (nI pn)])), (g0, .inl (cI, 56, .inl pg)), (r0, .inr (2, [.ref b0, .int x1, .int x2, .int x3])), (b0, .inl (cI, 5, .inl Qf)), (h0, .inr (3, [.ref a0, .ref a1, .ref a2, .int (nI rc), .int (nI ln), .int (nI rk), .int (nI ds), .int (nI su), .int (nI rd)])), (a0, .inl (cI, 5, .inl Rf)), (a1, .inl (cI, 32, .inl Lf)), (a2, .inl (cI, 11, .inl Wf)), (t0, .inr (4, [.ref v0, .int bs, .int bp, .int sr])), (v0, .inl (cI, 4, .inl V)), (d0, .inr (0, [.int sd]))] (fun v9 w9 => v9 = some (.int (zA ln (zin x rc ∧ zin y (2 ^ ln)) (nI (zdm (zset R (zn x) (zn y)) rc ln (2 ^ ln)) - nI (zdm R rc ln (2 ^ ln))))) ∧ w9 = [(c0, .inr (5, [.ref p0, .ref r0, .ref h0, .ref t0, .ref d0])), (p0, .inr (1, [.ref g0, .int (nI pn)])), (g0, .inl (cI, 56, .inl pg)), (r0, .inr (2, [.ref b0, .int x1, .int x2, .int x3])), (b0, .inl (cI, 5, .inl Qf)), (h0, .inr (3, [.ref a0, .ref a1, .ref a2, .int (nI rc), .int (nI ln), .int (nI rk), .int (nI ds), .int (nI su), .int (nI rd)])), (a0, .inl (cI, 5, .inl Rf)), (a1, .inl (cI, 32, .inl Lf)), (a2, .inl (cI, 11, .inl Wf)), (t0, .inr (4, [.ref v0, .int bs, .int bp, .int sr])), (v0, .inl (cI, 4, .inl V)), (d0, .inr (0, [.int sd]))]) 0 0 := by
  refine zw_ent (maxL := 3) (by decide) rfl (Nat.le_of_ble_eq_true rfl) (fun X C E hin9 => ?_)
  have C : zC X l D cI { frames := 4, cells := 0, slots := 0, locals := 91 } 3 true cX5_better RX5 wsX5_better := C
  refine zg_cv (lv' := [(0, .ref c0), (1, .int x), (2, .int y)]) rfl rfl rfl ?_
  refine zg_aload_n C 0 dX5_better_0 rfl ?_
  refine zg_get C 0 (ci := 5) (f := 2) rfl rfl uX5_better_5 (by decide) fX5_better_5_2 dX5_better_1 rfl ?_
  refine zg_callr (As := []) (st := []) C [5, 6, 7, 8] 5 0 (c_X3_areThere l D cI h0 a0 a1 a2 Rf Lf Wf rc ln rk ds su rd hln) gX5_better_X3_areThere (by decide +kernel) rfl ⟨rfl, rfl⟩ ⟨Nat.le_of_ble_eq_true rfl, Nat.le_of_ble_eq_true rfl⟩ rfl (ci := 3) rfl rfl rfl rfl (Nat.le_of_ble_eq_true rfl) ⟨Nat.le_of_ble_eq_true rfl, Nat.le_of_ble_eq_true rfl⟩ dX5_better_4 ?_
  refine zp_if_ne C 14 dX5_better_7 (by decide) (fun c_7 => ?_) (fun c_7 => ?_)
  · skip
    obtain ⟨m1, hrc, m3, hR, hRb, hL, hW, e1, e2, e3, e4⟩ := hS c_7
    have q0 := zpw hln
    have q1 := zpw0 ln
    have q5 := zpw5 hrc
    refine zg_aload_n C 0 dX5_better_14 rfl ?_
    refine zg_get C 0 (ci := 5) (f := 2) rfl rfl uX5_better_5 (by decide) fX5_better_5_2 dX5_better_15 rfl ?_
    refine zg_iload_n C 1 dX5_better_18 rfl ?_
    refine zg_callr (As := [.int x]) (st := []) C [5, 6, 7, 8] 5 1 (c_X3_isRow l D cI h0 a0 a1 a2 Rf Lf Wf rc ln rk ds su rd x hrc) gX5_better_X3_isRow (by decide +kernel) rfl ⟨rfl, rfl⟩ ⟨Nat.le_of_ble_eq_true rfl, Nat.le_of_ble_eq_true rfl⟩ rfl (ci := 3) rfl rfl rfl rfl (Nat.le_of_ble_eq_true rfl) ⟨Nat.le_of_ble_eq_true rfl, Nat.le_of_ble_eq_true rfl⟩ dX5_better_19 ?_
    refine zp_if_eq C 36 dX5_better_22 (by decide) (fun c_22 => ?_) (fun c_22 => ?_)
    · skip
      refine zg_sipush (v := (-1002)) C dX5_better_36 (by decide) ?_
      exact zg_wiret C E dX5_better_39 (⟨by rw [zA_o c_7 (fun q => c_22 q.1)], rfl⟩)
    · skip
      refine zg_aload_n C 0 dX5_better_25 rfl ?_
      refine zg_get C 0 (ci := 5) (f := 2) rfl rfl uX5_better_5 (by decide) fX5_better_5_2 dX5_better_26 rfl ?_
      refine zg_iload_n C 2 dX5_better_29 rfl ?_
      refine zg_callr (As := [.int y]) (st := []) C [5, 6, 7, 8] 5 1 (c_X3_isWord l D cI h0 a0 a1 a2 Rf Lf Wf rc ln rk ds su rd y hln) gX5_better_X3_isWord (by decide +kernel) rfl ⟨rfl, rfl⟩ ⟨Nat.le_of_ble_eq_true rfl, Nat.le_of_ble_eq_true rfl⟩ rfl (ci := 3) rfl rfl rfl rfl (Nat.le_of_ble_eq_true rfl) ⟨Nat.le_of_ble_eq_true rfl, Nat.le_of_ble_eq_true rfl⟩ dX5_better_30 ?_
      refine zp_if_ne C 40 dX5_better_33 (by decide) (fun c_33 => ?_) (fun c_33 => ?_)
      · skip
        obtain ⟨i, hi, rfl⟩ := zin_of c_22 (by omega)
        obtain ⟨w, hw, rfl⟩ := zin_of c_33 (by omega)
        refine zg_aload_n C 0 dX5_better_40 rfl ?_
        refine zg_get C 0 (ci := 5) (f := 2) rfl rfl uX5_better_5 (by decide) fX5_better_5_2 dX5_better_41 rfl ?_
        refine zg_iload_n C 1 dX5_better_44 rfl ?_
        refine zg_iload_n C 2 dX5_better_45 rfl ?_
        refine zg_callw (As := [.int (nI i), .int (nI w)]) (st := []) (wo := [(c0, .inr (5, [.ref p0, .ref r0, .ref h0, .ref t0, .ref d0])), (p0, .inr (1, [.ref g0, .int (nI pn)])), (g0, .inl (cI, 56, .inl pg)), (r0, .inr (2, [.ref b0, .int x1, .int x2, .int x3])), (b0, .inl (cI, 5, .inl Qf)), (t0, .inr (4, [.ref v0, .int bs, .int bp, .int sr])), (v0, .inl (cI, 4, .inl V)), (d0, .inr (0, [.int sd]))]) C [5, 6, 7, 8] [0, 1, 2, 3, 4, 9, 10, 11] 5 2 (c_X3_gainBy l D cI h0 a0 a1 a2 Rf Lf Wf rc ln rk ds su rd R i w hrc hln hR hRb (by omega) (by omega)) gX5_better_X3_gainBy (by decide +kernel) rfl ⟨rfl, rfl⟩ ⟨Nat.le_of_ble_eq_true rfl, Nat.le_of_ble_eq_true rfl⟩ rfl rfl rfl rfl (by decide) (ci := 3) rfl rfl rfl rfl (Nat.le_of_ble_eq_true rfl) ⟨Nat.le_of_ble_eq_true rfl, Nat.le_of_ble_eq_true rfl⟩ dX5_better_46 (fun v9 w9 hw9 => ?_)
        obtain ⟨rfl, rfl⟩ := hw9
        refine zg_cv (k' := 0) (n' := 0) (st' := [.int (nI (zdm (zset R i w) rc ln (2 ^ ln)) - nI ds)]) (ws' := [(c0, .inr (5, [.ref p0, .ref r0, .ref h0, .ref t0, .ref d0])), (p0, .inr (1, [.ref g0, .int (nI pn)])), (g0, .inl (cI, 56, .inl pg)), (r0, .inr (2, [.ref b0, .int x1, .int x2, .int x3])), (b0, .inl (cI, 5, .inl Qf)), (t0, .inr (4, [.ref v0, .int bs, .int bp, .int sr])), (v0, .inl (cI, 4, .inl V)), (d0, .inr (0, [.int sd])), (h0, .inr (3, [.ref a0, .ref a1, .ref a2, .int (nI rc), .int (nI ln), .int (nI rk), .int (nI ds), .int (nI su), .int (nI rd)])), (a0, .inl (cI, 5, .inl Rf)), (a1, .inl (cI, 32, .inl Lf)), (a2, .inl (cI, 11, .inl Wf))]) rfl rfl rfl ?_
        refine zg_perm [0, 1, 2, 3, 4, 8, 9, 10, 11, 5, 6, 7] (ws' := [(c0, .inr (5, [.ref p0, .ref r0, .ref h0, .ref t0, .ref d0])), (p0, .inr (1, [.ref g0, .int (nI pn)])), (g0, .inl (cI, 56, .inl pg)), (r0, .inr (2, [.ref b0, .int x1, .int x2, .int x3])), (b0, .inl (cI, 5, .inl Qf)), (h0, .inr (3, [.ref a0, .ref a1, .ref a2, .int (nI rc), .int (nI ln), .int (nI rk), .int (nI ds), .int (nI su), .int (nI rd)])), (a0, .inl (cI, 5, .inl Rf)), (a1, .inl (cI, 32, .inl Lf)), (a2, .inl (cI, 11, .inl Wf)), (t0, .inr (4, [.ref v0, .int bs, .int bp, .int sr])), (v0, .inl (cI, 4, .inl V)), (d0, .inr (0, [.int sd]))]) rfl rfl ?_
        exact zg_wiret C E dX5_better_49 (⟨by rw [zA_y c_7 ⟨c_22, c_33⟩, zn_nI (by omega), zn_nI (by omega), e2], rfl⟩)
      · skip
        refine zg_sipush (v := (-1002)) C dX5_better_36 (by decide) ?_
        exact zg_wiret C E dX5_better_39 (⟨by rw [zA_o c_7 (fun q => c_33 q.2)], rfl⟩)
  · skip
    refine zg_sipush (v := (-1003)) C dX5_better_10 (by decide) ?_
    exact zg_wiret C E dX5_better_13 (⟨by rw [zA_n c_7], rfl⟩)
theorem uX5_sendAndCount_5 : ∀ w ∈ u_ws RX5 TX5 5, w ∈ wsX5_sendAndCount := fun w h => List.mem_cons_of_mem _ (List.mem_append_left _ (List.mem_append_left _ (List.mem_append_right _ h)))
theorem fX5_sendAndCount_5_2 : Cond.fieldLink RX5 26 (TX5 2).1 (TX5 2).2.1 (TX5 2).2.2.1 ∈ wsX5_sendAndCount := by decide +kernel
theorem fX5_sendAndCount_5_3 : Cond.fieldLink RX5 33 (TX5 3).1 (TX5 3).2.1 (TX5 3).2.2.1 ∈ wsX5_sendAndCount := by decide +kernel
set_option maxHeartbeats 1000000 in
set_option maxRecDepth 100000 in
theorem c_X5_sendAndCount (l : Launch) (D : va_G) (cI : ClassId) (c0 p0 g0 r0 b0 h0 a0 a1 a2 t0 v0 d0 : Nat) (pg : Nat → Int32) (pn : Nat) (x1 x2 x3 : Int32) (Qf Rf Lf Wf : Nat → Int32) (rc ln rk ds su rd : Nat) (V : Nat → Int32) (bs bp sr sd : Int32) (R : Nat → Nat) (x y : Nat) (hS : zSm R Rf Lf Wf rc ln rk ds su rd) (hln : ln ≤ 10) (h0l : 0 < ln) (hx : x < 2 ^ ln) (hy : y < 2 ^ ln) : zMw l D cI yX5_sendAndCount wsX5_sendAndCount { frames := 5, cells := 0, slots := 0, locals := 108 } [.ref c0, .int (nI x), .int (nI y)] [(c0, .inr (5, [.ref p0, .ref r0, .ref h0, .ref t0, .ref d0])), (p0, .inr (1, [.ref g0, .int (nI pn)])), (g0, .inl (cI, 56, .inl pg)), (r0, .inr (2, [.ref b0, .int x1, .int x2, .int x3])), (b0, .inl (cI, 5, .inl Qf)), (h0, .inr (3, [.ref a0, .ref a1, .ref a2, .int (nI rc), .int (nI ln), .int (nI rk), .int (nI ds), .int (nI su), .int (nI rd)])), (a0, .inl (cI, 5, .inl Rf)), (a1, .inl (cI, 32, .inl Lf)), (a2, .inl (cI, 11, .inl Wf)), (t0, .inr (4, [.ref v0, .int bs, .int bp, .int sr])), (v0, .inl (cI, 4, .inl V)), (d0, .inr (0, [.int sd]))] (fun v9 w9 => v9 = some (.int (nI (zvr R rc ln x y))) ∧ w9 = [(c0, .inr (5, [.ref p0, .ref r0, .ref h0, .ref t0, .ref d0])), (p0, .inr (1, [.ref g0, .int (nI pn)])), (g0, .inl (cI, 56, .inl pg)), (r0, .inr (2, [.ref b0, .int x1, .int x2, .int x3])), (b0, .inl (cI, 5, .inl Qf)), (h0, .inr (3, [.ref a0, .ref a1, .ref a2, .int (nI rc), .int (nI ln), .int (nI rk), .int (nI ds), .int (nI su), .int (nI rd)])), (a0, .inl (cI, 5, .inl Rf)), (a1, .inl (cI, 32, .inl Lf)), (a2, .inl (cI, 11, .inl Wf)), (t0, .inr (4, [.ref v0, .int (bs + nI (ln + zrk R rc ln)), .int (bp + nI (2 * ln)), .int sr])), (v0, .inl (cI, 4, .inl (upd V (zvr R rc ln x y) (V (zvr R rc ln x y) + nI 1)))), (d0, .inr (0, [.int sd]))]) 0 0 := by
  refine zw_ent (maxL := 4) (by decide) rfl (Nat.le_of_ble_eq_true rfl) (fun X C E hin9 => ?_)
  have C : zC X l D cI { frames := 5, cells := 0, slots := 0, locals := 108 } 4 true cX5_sendAndCount RX5 wsX5_sendAndCount := C
  refine zg_cv (lv' := [(0, .ref c0), (1, .int (nI x)), (2, .int (nI y))]) rfl rfl rfl ?_
  obtain ⟨m1, hrc, m3, hR, hRb, hL, hW, e1, e2, e3, e4⟩ := hS h0l
  have q0 := zpw hln
  have q1 := zpw0 ln
  have q5 := zpw5 hrc
  have q9 := zdm_le R rc ln (2 ^ ln)
  have q10 := zsu_le (ln := ln) (d := ds) hln (by omega)
  have q11 := zvr_lt R rc ln x y
  have hf := zfl_some R rc hx hy
  have e5 : zvd x y (zfl R rc ln x y) su = zvr R rc ln x y := by rw [e3, e2]; rfl
  refine zg_aload_n C 0 dX5_sendAndCount_0 rfl ?_
  refine zg_get C 0 (ci := 5) (f := 2) rfl rfl uX5_sendAndCount_5 (by decide) fX5_sendAndCount_5_2 dX5_sendAndCount_1 rfl ?_
  refine zg_iload_n C 1 dX5_sendAndCount_4 rfl ?_
  refine zg_iload_n C 2 dX5_sendAndCount_5 rfl ?_
  refine zg_callr (As := [.int (nI x), .int (nI y)]) (st := []) C [5, 6, 7, 8] 5 2 (c_X3_verdictOf l D cI h0 a0 a1 a2 Rf Lf Wf rc ln rk ds su rd R x y (zfl R rc ln x y) hrc hln hR hRb hL (hf) hx hy (by omega)) gX5_sendAndCount_X3_verdictOf (by decide +kernel) rfl ⟨rfl, rfl⟩ ⟨Nat.le_of_ble_eq_true rfl, Nat.le_of_ble_eq_true rfl⟩ rfl (ci := 3) rfl rfl rfl rfl (Nat.le_of_ble_eq_true rfl) ⟨Nat.le_of_ble_eq_true rfl, Nat.le_of_ble_eq_true rfl⟩ dX5_sendAndCount_6 ?_
  refine zg_cv (st' := [.int (nI (zvr R rc ln x y))]) rfl (by rw [e5]) rfl ?_
  refine zg_istore_n C [1, 2, 3, 0] (lv' := [(0, .ref c0), (1, .int (nI x)), (2, .int (nI y)), (3, .int (nI (zvr R rc ln x y)))]) dX5_sendAndCount_9 (by decide) rfl ?_
  refine zg_aload_n C 0 dX5_sendAndCount_10 rfl ?_
  refine zg_get C 0 (ci := 5) (f := 3) rfl rfl uX5_sendAndCount_5 (by decide) fX5_sendAndCount_5_3 dX5_sendAndCount_11 rfl ?_
  refine zg_iload_n C 3 dX5_sendAndCount_14 rfl ?_
  refine zg_aload_n C 0 dX5_sendAndCount_15 rfl ?_
  refine zg_get C 0 (ci := 5) (f := 2) rfl rfl uX5_sendAndCount_5 (by decide) fX5_sendAndCount_5_2 dX5_sendAndCount_16 rfl ?_
  refine zg_callr (As := []) (st := [.int (nI (zvr R rc ln x y)), .ref t0]) C [5, 6, 7, 8] 5 0 (c_X3_length l D cI h0 a0 a1 a2 Rf Lf Wf rc ln rk ds su rd ) gX5_sendAndCount_X3_length (by decide +kernel) rfl ⟨rfl, rfl⟩ ⟨Nat.le_of_ble_eq_true rfl, Nat.le_of_ble_eq_true rfl⟩ rfl (ci := 3) rfl rfl rfl rfl (Nat.le_of_ble_eq_true rfl) ⟨Nat.le_of_ble_eq_true rfl, Nat.le_of_ble_eq_true rfl⟩ dX5_sendAndCount_19 ?_
  refine zg_aload_n C 0 dX5_sendAndCount_22 rfl ?_
  refine zg_get C 0 (ci := 5) (f := 2) rfl rfl uX5_sendAndCount_5 (by decide) fX5_sendAndCount_5_2 dX5_sendAndCount_23 rfl ?_
  refine zg_callr (As := []) (st := [.int (nI ln), .int (nI (zvr R rc ln x y)), .ref t0]) C [5, 6, 7, 8] 5 0 (c_X3_rank l D cI h0 a0 a1 a2 Rf Lf Wf rc ln rk ds su rd ) gX5_sendAndCount_X3_rank (by decide +kernel) rfl ⟨rfl, rfl⟩ ⟨Nat.le_of_ble_eq_true rfl, Nat.le_of_ble_eq_true rfl⟩ rfl (ci := 3) rfl rfl rfl rfl (Nat.le_of_ble_eq_true rfl) ⟨Nat.le_of_ble_eq_true rfl, Nat.le_of_ble_eq_true rfl⟩ dX5_sendAndCount_26 ?_
  refine zg_cv (st' := [.int (nI (zrk R rc ln)), .int (nI ln), .int (nI (zvr R rc ln x y)), .ref t0]) rfl (congrArg (fun q9 => ([.int (nI q9), .int (nI ln), .int (nI (zvr R rc ln x y)), .ref t0] : List Value)) (e1)) rfl ?_
  refine zg_callw (As := [.int (nI (zvr R rc ln x y)), .int (nI ln), .int (nI (zrk R rc ln))]) (st := []) (wo := [(c0, .inr (5, [.ref p0, .ref r0, .ref h0, .ref t0, .ref d0])), (p0, .inr (1, [.ref g0, .int (nI pn)])), (g0, .inl (cI, 56, .inl pg)), (r0, .inr (2, [.ref b0, .int x1, .int x2, .int x3])), (b0, .inl (cI, 5, .inl Qf)), (h0, .inr (3, [.ref a0, .ref a1, .ref a2, .int (nI rc), .int (nI ln), .int (nI rk), .int (nI ds), .int (nI su), .int (nI rd)])), (a0, .inl (cI, 5, .inl Rf)), (a1, .inl (cI, 32, .inl Lf)), (a2, .inl (cI, 11, .inl Wf)), (d0, .inr (0, [.int sd]))]) C [9, 10] [0, 1, 2, 3, 4, 5, 6, 7, 8, 11] 9 3 (c_X4_sentPlain l D cI t0 v0 V bs bp sr (zvr R rc ln x y) ln (zrk R rc ln) (by omega)) gX5_sendAndCount_X4_sentPlain (by decide +kernel) rfl ⟨rfl, rfl⟩ ⟨Nat.le_of_ble_eq_true rfl, Nat.le_of_ble_eq_true rfl⟩ rfl rfl rfl rfl (by decide) (ci := 4) rfl rfl rfl rfl (Nat.le_of_ble_eq_true rfl) ⟨Nat.le_of_ble_eq_true rfl, Nat.le_of_ble_eq_true rfl⟩ dX5_sendAndCount_29 (fun v9 w9 hw9 => ?_)
  obtain ⟨rfl, rfl⟩ := hw9
  refine zg_cv (k' := 0) (n' := 0) (st' := []) (ws' := [(c0, .inr (5, [.ref p0, .ref r0, .ref h0, .ref t0, .ref d0])), (p0, .inr (1, [.ref g0, .int (nI pn)])), (g0, .inl (cI, 56, .inl pg)), (r0, .inr (2, [.ref b0, .int x1, .int x2, .int x3])), (b0, .inl (cI, 5, .inl Qf)), (h0, .inr (3, [.ref a0, .ref a1, .ref a2, .int (nI rc), .int (nI ln), .int (nI rk), .int (nI ds), .int (nI su), .int (nI rd)])), (a0, .inl (cI, 5, .inl Rf)), (a1, .inl (cI, 32, .inl Lf)), (a2, .inl (cI, 11, .inl Wf)), (d0, .inr (0, [.int sd])), (t0, .inr (4, [.ref v0, .int (bs + nI (ln + (zrk R rc ln))), .int (bp + nI (2 * ln)), .int sr])), (v0, .inl (cI, 4, .inl (upd V (zvr R rc ln x y) (V (zvr R rc ln x y) + nI 1))))]) rfl rfl rfl ?_
  refine zg_perm [0, 1, 2, 3, 4, 5, 6, 7, 8, 10, 11, 9] (ws' := [(c0, .inr (5, [.ref p0, .ref r0, .ref h0, .ref t0, .ref d0])), (p0, .inr (1, [.ref g0, .int (nI pn)])), (g0, .inl (cI, 56, .inl pg)), (r0, .inr (2, [.ref b0, .int x1, .int x2, .int x3])), (b0, .inl (cI, 5, .inl Qf)), (h0, .inr (3, [.ref a0, .ref a1, .ref a2, .int (nI rc), .int (nI ln), .int (nI rk), .int (nI ds), .int (nI su), .int (nI rd)])), (a0, .inl (cI, 5, .inl Rf)), (a1, .inl (cI, 32, .inl Lf)), (a2, .inl (cI, 11, .inl Wf)), (t0, .inr (4, [.ref v0, .int (bs + nI (ln + (zrk R rc ln))), .int (bp + nI (2 * ln)), .int sr])), (v0, .inl (cI, 4, .inl (upd V (zvr R rc ln x y) (V (zvr R rc ln x y) + nI 1)))), (d0, .inr (0, [.int sd]))]) rfl rfl ?_
  refine zg_iload_n C 3 dX5_sendAndCount_32 rfl ?_
  exact zg_wiret C E dX5_sendAndCount_33 (⟨rfl, rfl⟩)
theorem uX5_send_5 : ∀ w ∈ u_ws RX5 TX5 5, w ∈ wsX5_send := fun w h => List.mem_cons_of_mem _ (List.mem_append_left _ (List.mem_append_left _ (List.mem_append_right _ h)))
theorem fX5_send_5_2 : Cond.fieldLink RX5 26 (TX5 2).1 (TX5 2).2.1 (TX5 2).2.2.1 ∈ wsX5_send := by decide +kernel
set_option maxHeartbeats 1000000 in
set_option maxRecDepth 100000 in
theorem c_X5_send (l : Launch) (D : va_G) (cI : ClassId) (c0 p0 g0 r0 b0 h0 a0 a1 a2 t0 v0 d0 : Nat) (pg : Nat → Int32) (pn : Nat) (x1 x2 x3 : Int32) (Qf Rf Lf Wf : Nat → Int32) (rc ln rk ds su rd : Nat) (V : Nat → Int32) (bs bp sr sd : Int32) (R : Nat → Nat) (x y : Nat) (hS : zSm R Rf Lf Wf rc ln rk ds su rd) (hln : ln ≤ 10) (h0l : 0 < ln) (hx : x < 2 ^ ln) (hy : y < 2 ^ ln) : zMw l D cI yX5_send wsX5_send { frames := 6, cells := 0, slots := 0, locals := 131 } [.ref c0, .int (nI x), .int (nI y)] [(c0, .inr (5, [.ref p0, .ref r0, .ref h0, .ref t0, .ref d0])), (p0, .inr (1, [.ref g0, .int (nI pn)])), (g0, .inl (cI, 56, .inl pg)), (r0, .inr (2, [.ref b0, .int x1, .int x2, .int x3])), (b0, .inl (cI, 5, .inl Qf)), (h0, .inr (3, [.ref a0, .ref a1, .ref a2, .int (nI rc), .int (nI ln), .int (nI rk), .int (nI ds), .int (nI su), .int (nI rd)])), (a0, .inl (cI, 5, .inl Rf)), (a1, .inl (cI, 32, .inl Lf)), (a2, .inl (cI, 11, .inl Wf)), (t0, .inr (4, [.ref v0, .int bs, .int bp, .int sr])), (v0, .inl (cI, 4, .inl V)), (d0, .inr (0, [.int sd]))] (fun v9 w9 => v9 = some (.int (nI (zvr R rc ln x y))) ∧ w9 = [(c0, .inr (5, [.ref p0, .ref r0, .ref h0, .ref t0, .ref d0])), (p0, .inr (1, [.ref g0, .int (nI pn)])), (g0, .inl (cI, 56, .inl pg)), (r0, .inr (2, [.ref b0, .int x1, .int x2, .int x3])), (b0, .inl (cI, 5, .inl Qf)), (h0, .inr (3, [.ref a0, .ref a1, .ref a2, .int (nI rc), .int (nI ln), .int (nI rk), .int (nI ds), .int (nI su), .int (nI rd)])), (a0, .inl (cI, 5, .inl Rf)), (a1, .inl (cI, 32, .inl Lf)), (a2, .inl (cI, 11, .inl Wf)), (t0, .inr (4, [.ref v0, .int (bs + nI (ln + zrk R rc ln)), .int (bp + nI (2 * ln)), .int sr])), (v0, .inl (cI, 4, .inl (upd V (zvr R rc ln x y) (V (zvr R rc ln x y) + nI 1)))), (d0, .inr (0, [.int sd]))]) 0 0 := by
  refine zw_ent (maxL := 3) (by decide) rfl (Nat.le_of_ble_eq_true rfl) (fun X C E hin9 => ?_)
  have C : zC X l D cI { frames := 6, cells := 0, slots := 0, locals := 131 } 3 true cX5_send RX5 wsX5_send := C
  refine zg_cv (lv' := [(0, .ref c0), (1, .int (nI x)), (2, .int (nI y))]) rfl rfl rfl ?_
  have q0 := zpw hln
  refine zg_aload_n C 0 dX5_send_0 rfl ?_
  refine zg_get C 0 (ci := 5) (f := 2) rfl rfl uX5_send_5 (by decide) fX5_send_5_2 dX5_send_1 rfl ?_
  refine zg_callr (As := []) (st := []) C [5, 6, 7, 8] 5 0 (c_X3_areThere l D cI h0 a0 a1 a2 Rf Lf Wf rc ln rk ds su rd hln) gX5_send_X3_areThere (by decide +kernel) rfl ⟨rfl, rfl⟩ ⟨Nat.le_of_ble_eq_true rfl, Nat.le_of_ble_eq_true rfl⟩ rfl (ci := 3) rfl rfl rfl rfl (Nat.le_of_ble_eq_true rfl) ⟨Nat.le_of_ble_eq_true rfl, Nat.le_of_ble_eq_true rfl⟩ dX5_send_4 ?_
  refine zp_if_ne C 14 dX5_send_7 (by decide) (fun c_7 => ?_) (fun c_7 => by exact absurd h0l c_7)
  refine zg_aload_n C 0 dX5_send_14 rfl ?_
  refine zg_get C 0 (ci := 5) (f := 2) rfl rfl uX5_send_5 (by decide) fX5_send_5_2 dX5_send_15 rfl ?_
  refine zg_iload_n C 1 dX5_send_18 rfl ?_
  refine zg_callr (As := [.int (nI x)]) (st := []) C [5, 6, 7, 8] 5 1 (c_X3_isWord l D cI h0 a0 a1 a2 Rf Lf Wf rc ln rk ds su rd (nI x) hln) gX5_send_X3_isWord (by decide +kernel) rfl ⟨rfl, rfl⟩ ⟨Nat.le_of_ble_eq_true rfl, Nat.le_of_ble_eq_true rfl⟩ rfl (ci := 3) rfl rfl rfl rfl (Nat.le_of_ble_eq_true rfl) ⟨Nat.le_of_ble_eq_true rfl, Nat.le_of_ble_eq_true rfl⟩ dX5_send_19 ?_
  refine zp_if_eq C 36 dX5_send_22 (by decide) (fun c_22 => by exact absurd (zin_nI hx (by omega)) c_22) (fun c_22 => ?_)
  refine zg_aload_n C 0 dX5_send_25 rfl ?_
  refine zg_get C 0 (ci := 5) (f := 2) rfl rfl uX5_send_5 (by decide) fX5_send_5_2 dX5_send_26 rfl ?_
  refine zg_iload_n C 2 dX5_send_29 rfl ?_
  refine zg_callr (As := [.int (nI y)]) (st := []) C [5, 6, 7, 8] 5 1 (c_X3_isWord l D cI h0 a0 a1 a2 Rf Lf Wf rc ln rk ds su rd (nI y) hln) gX5_send_X3_isWord (by decide +kernel) rfl ⟨rfl, rfl⟩ ⟨Nat.le_of_ble_eq_true rfl, Nat.le_of_ble_eq_true rfl⟩ rfl (ci := 3) rfl rfl rfl rfl (Nat.le_of_ble_eq_true rfl) ⟨Nat.le_of_ble_eq_true rfl, Nat.le_of_ble_eq_true rfl⟩ dX5_send_30 ?_
  refine zp_if_ne C 40 dX5_send_33 (by decide) (fun c_33 => ?_) (fun c_33 => by exact absurd (zin_nI hy (by omega)) c_33)
  refine zg_aload_n C 0 dX5_send_40 rfl ?_
  refine zg_iload_n C 1 dX5_send_41 rfl ?_
  refine zg_iload_n C 2 dX5_send_42 rfl ?_
  refine zg_callw (As := [.int (nI x), .int (nI y)]) (st := []) (wo := []) C [0, 1, 2, 3, 4, 5, 6, 7, 8, 9, 10, 11] [] 0 2 (c_X5_sendAndCount l D cI c0 p0 g0 r0 b0 h0 a0 a1 a2 t0 v0 d0 pg pn x1 x2 x3 Qf Rf Lf Wf rc ln rk ds su rd V bs bp sr sd R x y hS hln h0l hx hy) gX5_send_X5_sendAndCount (by decide +kernel) rfl ⟨rfl, rfl⟩ ⟨Nat.le_of_ble_eq_true rfl, Nat.le_of_ble_eq_true rfl⟩ rfl rfl rfl rfl (by decide) (ci := 5) rfl rfl rfl rfl (Nat.le_of_ble_eq_true rfl) ⟨Nat.le_of_ble_eq_true rfl, Nat.le_of_ble_eq_true rfl⟩ dX5_send_43 (fun v9 w9 hw9 => ?_)
  obtain ⟨rfl, rfl⟩ := hw9
  refine zg_cv (k' := 0) (n' := 0) (st' := [.int (nI (zvr R rc ln x y))]) (ws' := [(c0, .inr (5, [.ref p0, .ref r0, .ref h0, .ref t0, .ref d0])), (p0, .inr (1, [.ref g0, .int (nI pn)])), (g0, .inl (cI, 56, .inl pg)), (r0, .inr (2, [.ref b0, .int x1, .int x2, .int x3])), (b0, .inl (cI, 5, .inl Qf)), (h0, .inr (3, [.ref a0, .ref a1, .ref a2, .int (nI rc), .int (nI ln), .int (nI rk), .int (nI ds), .int (nI su), .int (nI rd)])), (a0, .inl (cI, 5, .inl Rf)), (a1, .inl (cI, 32, .inl Lf)), (a2, .inl (cI, 11, .inl Wf)), (t0, .inr (4, [.ref v0, .int (bs + nI (ln + zrk R rc ln)), .int (bp + nI (2 * ln)), .int sr])), (v0, .inl (cI, 4, .inl (upd V (zvr R rc ln x y) (V (zvr R rc ln x y) + nI 1)))), (d0, .inr (0, [.int sd]))]) rfl rfl rfl ?_
  exact zg_wiret C E dX5_send_46 (⟨rfl, rfl⟩)
theorem uc_X5_send_no_5 : ∀ w ∈ u_ws RX5 TX5 5, w ∈ wsX5_send := fun w h => List.mem_cons_of_mem _ (List.mem_append_left _ (List.mem_append_left _ (List.mem_append_right _ h)))
theorem fc_X5_send_no_5_2 : Cond.fieldLink RX5 26 (TX5 2).1 (TX5 2).2.1 (TX5 2).2.2.1 ∈ wsX5_send := by decide +kernel
set_option maxHeartbeats 1000000 in
set_option maxRecDepth 100000 in
theorem c_X5_send_no (l : Launch) (D : va_G) (cI : ClassId) (c0 p0 g0 r0 b0 h0 a0 a1 a2 t0 v0 d0 : Nat) (pg : Nat → Int32) (pn : Nat) (x1 x2 x3 : Int32) (Qf Rf Lf Wf : Nat → Int32) (rc ln rk ds su rd : Nat) (V : Nat → Int32) (bs bp sr sd : Int32) (R : Nat → Nat) (x y : Int32) (hS : zSm R Rf Lf Wf rc ln rk ds su rd) (hln : ln ≤ 10) (hno : ¬ (0 < ln ∧ zin x (2 ^ ln) ∧ zin y (2 ^ ln))) : zMr l D cI yX5_send wsX5_send { frames := 2, cells := 0, slots := 0, locals := 41 } [.ref c0, .int x, .int y] [(c0, .inr (5, [.ref p0, .ref r0, .ref h0, .ref t0, .ref d0])), (p0, .inr (1, [.ref g0, .int (nI pn)])), (g0, .inl (cI, 56, .inl pg)), (r0, .inr (2, [.ref b0, .int x1, .int x2, .int x3])), (b0, .inl (cI, 5, .inl Qf)), (h0, .inr (3, [.ref a0, .ref a1, .ref a2, .int (nI rc), .int (nI ln), .int (nI rk), .int (nI ds), .int (nI su), .int (nI rd)])), (a0, .inl (cI, 5, .inl Rf)), (a1, .inl (cI, 32, .inl Lf)), (a2, .inl (cI, 11, .inl Wf)), (t0, .inr (4, [.ref v0, .int bs, .int bp, .int sr])), (v0, .inl (cI, 4, .inl V)), (d0, .inr (0, [.int sd]))] (if 0 < ln then -1002 else -1003) := by
  refine zr_ent (maxL := 3) (by decide) rfl (Nat.le_of_ble_eq_true rfl) (fun X C E => ?_)
  have C : zC X l D cI { frames := 2, cells := 0, slots := 0, locals := 41 } 3 false cX5_send RX5 wsX5_send := C
  refine zg_cv (lv' := [(0, .ref c0), (1, .int x), (2, .int y)]) rfl rfl rfl ?_
  refine zg_aload_n C 0 dX5_send_0 rfl ?_
  refine zg_get C 0 (ci := 5) (f := 2) rfl rfl uc_X5_send_no_5 (by decide) fc_X5_send_no_5_2 dX5_send_1 rfl ?_
  refine zg_callr (As := []) (st := []) C [5, 6, 7, 8] 5 0 (c_X3_areThere l D cI h0 a0 a1 a2 Rf Lf Wf rc ln rk ds su rd hln) gX5_send_X3_areThere (by decide +kernel) rfl ⟨rfl, rfl⟩ ⟨Nat.le_of_ble_eq_true rfl, Nat.le_of_ble_eq_true rfl⟩ rfl (ci := 3) rfl rfl rfl rfl (Nat.le_of_ble_eq_true rfl) ⟨Nat.le_of_ble_eq_true rfl, Nat.le_of_ble_eq_true rfl⟩ dX5_send_4 ?_
  refine zp_if_ne C 14 dX5_send_7 (by decide) (fun c_7 => ?_) (fun c_7 => ?_)
  · skip
    refine zg_aload_n C 0 dX5_send_14 rfl ?_
    refine zg_get C 0 (ci := 5) (f := 2) rfl rfl uc_X5_send_no_5 (by decide) fc_X5_send_no_5_2 dX5_send_15 rfl ?_
    refine zg_iload_n C 1 dX5_send_18 rfl ?_
    refine zg_callr (As := [.int x]) (st := []) C [5, 6, 7, 8] 5 1 (c_X3_isWord l D cI h0 a0 a1 a2 Rf Lf Wf rc ln rk ds su rd x hln) gX5_send_X3_isWord (by decide +kernel) rfl ⟨rfl, rfl⟩ ⟨Nat.le_of_ble_eq_true rfl, Nat.le_of_ble_eq_true rfl⟩ rfl (ci := 3) rfl rfl rfl rfl (Nat.le_of_ble_eq_true rfl) ⟨Nat.le_of_ble_eq_true rfl, Nat.le_of_ble_eq_true rfl⟩ dX5_send_19 ?_
    refine zp_if_eq C 36 dX5_send_22 (by decide) (fun c_22 => ?_) (fun c_22 => ?_)
    · skip
      refine zg_sipush (v := (-1002)) C dX5_send_36 (by decide) ?_
      exact zg_iret C E dX5_send_39 ((if_pos c_7).symm)
    · skip
      refine zg_aload_n C 0 dX5_send_25 rfl ?_
      refine zg_get C 0 (ci := 5) (f := 2) rfl rfl uc_X5_send_no_5 (by decide) fc_X5_send_no_5_2 dX5_send_26 rfl ?_
      refine zg_iload_n C 2 dX5_send_29 rfl ?_
      refine zg_callr (As := [.int y]) (st := []) C [5, 6, 7, 8] 5 1 (c_X3_isWord l D cI h0 a0 a1 a2 Rf Lf Wf rc ln rk ds su rd y hln) gX5_send_X3_isWord (by decide +kernel) rfl ⟨rfl, rfl⟩ ⟨Nat.le_of_ble_eq_true rfl, Nat.le_of_ble_eq_true rfl⟩ rfl (ci := 3) rfl rfl rfl rfl (Nat.le_of_ble_eq_true rfl) ⟨Nat.le_of_ble_eq_true rfl, Nat.le_of_ble_eq_true rfl⟩ dX5_send_30 ?_
      refine zp_if_ne C 40 dX5_send_33 (by decide) (fun c_33 => by exact (hno ⟨c_7, c_22, c_33⟩).elim) (fun c_33 => ?_)
      refine zg_sipush (v := (-1002)) C dX5_send_36 (by decide) ?_
      exact zg_iret C E dX5_send_39 ((if_pos c_7).symm)
  · skip
    refine zg_sipush (v := (-1003)) C dX5_send_10 (by decide) ?_
    exact zg_iret C E dX5_send_13 ((if_neg c_7).symm)
theorem uX5_plain_5 : ∀ w ∈ u_ws RX5 TX5 5, w ∈ wsX5_plain := fun w h => List.mem_cons_of_mem _ (List.mem_append_left _ (List.mem_append_right _ h))
theorem fX5_plain_5_2 : Cond.fieldLink RX5 26 (TX5 2).1 (TX5 2).2.1 (TX5 2).2.2.1 ∈ wsX5_plain := by decide +kernel
set_option maxHeartbeats 1000000 in
set_option maxRecDepth 100000 in
theorem c_X5_plain (l : Launch) (D : va_G) (cI : ClassId) (c0 p0 g0 r0 b0 h0 a0 a1 a2 t0 v0 d0 : Nat) (pg : Nat → Int32) (pn : Nat) (x1 x2 x3 : Int32) (Qf Rf Lf Wf : Nat → Int32) (rc ln rk ds su rd : Nat) (V : Nat → Int32) (bs bp sr sd : Int32) (R : Nat → Nat) (x y z : Int32) (hS : zSm R Rf Lf Wf rc ln rk ds su rd) (hln : ln ≤ 10) : zMr l D cI yX5_plain wsX5_plain { frames := 5, cells := 0, slots := 0, locals := 108 } [.ref c0, .int x, .int y, .int z] [(c0, .inr (5, [.ref p0, .ref r0, .ref h0, .ref t0, .ref d0])), (p0, .inr (1, [.ref g0, .int (nI pn)])), (g0, .inl (cI, 56, .inl pg)), (r0, .inr (2, [.ref b0, .int x1, .int x2, .int x3])), (b0, .inl (cI, 5, .inl Qf)), (h0, .inr (3, [.ref a0, .ref a1, .ref a2, .int (nI rc), .int (nI ln), .int (nI rk), .int (nI ds), .int (nI su), .int (nI rd)])), (a0, .inl (cI, 5, .inl Rf)), (a1, .inl (cI, 32, .inl Lf)), (a2, .inl (cI, 11, .inl Wf)), (t0, .inr (4, [.ref v0, .int bs, .int bp, .int sr])), (v0, .inl (cI, 4, .inl V)), (d0, .inr (0, [.int sd]))] (zA ln (zin x (2 ^ ln) ∧ zin y (2 ^ ln) ∧ zin z 3) (zplain R rc ln (zn x) (zn y) z)) := by
  refine zr_ent (maxL := 4) (by decide) rfl (Nat.le_of_ble_eq_true rfl) (fun X C E => ?_)
  have C : zC X l D cI { frames := 5, cells := 0, slots := 0, locals := 108 } 4 false cX5_plain RX5 wsX5_plain := C
  refine zg_cv (lv' := [(0, .ref c0), (1, .int x), (2, .int y), (3, .int z)]) rfl rfl rfl ?_
  refine zg_aload_n C 0 dX5_plain_0 rfl ?_
  refine zg_get C 0 (ci := 5) (f := 2) rfl rfl uX5_plain_5 (by decide) fX5_plain_5_2 dX5_plain_1 rfl ?_
  refine zg_callr (As := []) (st := []) C [5, 6, 7, 8] 5 0 (c_X3_areThere l D cI h0 a0 a1 a2 Rf Lf Wf rc ln rk ds su rd hln) gX5_plain_X3_areThere (by decide +kernel) rfl ⟨rfl, rfl⟩ ⟨Nat.le_of_ble_eq_true rfl, Nat.le_of_ble_eq_true rfl⟩ rfl (ci := 3) rfl rfl rfl rfl (Nat.le_of_ble_eq_true rfl) ⟨Nat.le_of_ble_eq_true rfl, Nat.le_of_ble_eq_true rfl⟩ dX5_plain_4 ?_
  refine zp_if_ne C 14 dX5_plain_7 (by decide) (fun c_7 => ?_) (fun c_7 => ?_)
  · skip
    obtain ⟨m1, hrc, m3, hR, hRb, hL, hW, e1, e2, e3, e4⟩ := hS c_7
    have q0 := zpw hln
    have q1 := zpw0 ln
    have q5 := zpw5 hrc
    refine zg_aload_n C 0 dX5_plain_14 rfl ?_
    refine zg_get C 0 (ci := 5) (f := 2) rfl rfl uX5_plain_5 (by decide) fX5_plain_5_2 dX5_plain_15 rfl ?_
    refine zg_iload_n C 1 dX5_plain_18 rfl ?_
    refine zg_callr (As := [.int x]) (st := []) C [5, 6, 7, 8] 5 1 (c_X3_isWord l D cI h0 a0 a1 a2 Rf Lf Wf rc ln rk ds su rd x hln) gX5_plain_X3_isWord (by decide +kernel) rfl ⟨rfl, rfl⟩ ⟨Nat.le_of_ble_eq_true rfl, Nat.le_of_ble_eq_true rfl⟩ rfl (ci := 3) rfl rfl rfl rfl (Nat.le_of_ble_eq_true rfl) ⟨Nat.le_of_ble_eq_true rfl, Nat.le_of_ble_eq_true rfl⟩ dX5_plain_19 ?_
    refine zp_if_eq C 45 dX5_plain_22 (by decide) (fun c_22 => ?_) (fun c_22 => ?_)
    · skip
      refine zg_sipush (v := (-1002)) C dX5_plain_45 (by decide) ?_
      exact zg_iret C E dX5_plain_48 ((zA_o c_7 (fun q => c_22 q.1)).symm)
    · skip
      refine zg_aload_n C 0 dX5_plain_25 rfl ?_
      refine zg_get C 0 (ci := 5) (f := 2) rfl rfl uX5_plain_5 (by decide) fX5_plain_5_2 dX5_plain_26 rfl ?_
      refine zg_iload_n C 2 dX5_plain_29 rfl ?_
      refine zg_callr (As := [.int y]) (st := []) C [5, 6, 7, 8] 5 1 (c_X3_isWord l D cI h0 a0 a1 a2 Rf Lf Wf rc ln rk ds su rd y hln) gX5_plain_X3_isWord (by decide +kernel) rfl ⟨rfl, rfl⟩ ⟨Nat.le_of_ble_eq_true rfl, Nat.le_of_ble_eq_true rfl⟩ rfl (ci := 3) rfl rfl rfl rfl (Nat.le_of_ble_eq_true rfl) ⟨Nat.le_of_ble_eq_true rfl, Nat.le_of_ble_eq_true rfl⟩ dX5_plain_30 ?_
      refine zp_if_eq C 45 dX5_plain_33 (by decide) (fun c_33 => ?_) (fun c_33 => ?_)
      · skip
        refine zg_sipush (v := (-1002)) C dX5_plain_45 (by decide) ?_
        exact zg_iret C E dX5_plain_48 ((zA_o c_7 (fun q => c_33 q.2.1)).symm)
      · skip
        refine zg_iload_n C 3 dX5_plain_36 rfl ?_
        refine zg_if_lt C 45 dX5_plain_37 (by decide) (fun c_37 => ?_) (fun c_37 => ?_)
        · skip
          refine zg_sipush (v := (-1002)) C dX5_plain_45 (by decide) ?_
          exact zg_iret C E dX5_plain_48 ((zA_o c_7 (fun q => zin_xn (N := 2) (by decide) (Or.inl c_37) q.2.2)).symm)
        · skip
          refine zg_iload_n C 3 dX5_plain_40 rfl ?_
          refine zg_iconst (v := nI 2) C dX5_plain_41 (by decide) ?_
          refine zg_icmp_le C 49 dX5_plain_42 (by decide) (fun c_42 => ?_) (fun c_42 => ?_)
          · skip
            have hz : zin z 3 := zin_x (N := 2) (by decide) c_37 c_42
            obtain ⟨i, hi, rfl⟩ := zin_of c_22 (by omega)
            obtain ⟨w, hw, rfl⟩ := zin_of c_33 (by omega)
            obtain ⟨j, hj, rfl⟩ := zin_of hz (by decide)
            have hf := zfl_some R rc hi hw
            have q9 := zdm_le R rc ln (2 ^ ln)
            have q10 := zsu_le (ln := ln) (d := ds) hln (by omega)
            have e5 : zvd i w (zfl R rc ln i w) su = zvr R rc ln i w := by rw [e3, e2]; rfl
            refine zg_iload_n C 3 dX5_plain_49 rfl ?_
            rcases (show j = 0 ∨ j = 1 ∨ j = 2 by omega) with rfl | rfl | rfl
            · skip
              refine zg_lookup (off := 26) C 76 dX5_plain_50 (by decide) (by decide) (by decide) ?_
              refine zg_aload_n C 0 dX5_plain_76 rfl ?_
              refine zg_get C 0 (ci := 5) (f := 2) rfl rfl uX5_plain_5 (by decide) fX5_plain_5_2 dX5_plain_77 rfl ?_
              refine zg_iload_n C 1 dX5_plain_80 rfl ?_
              refine zg_iload_n C 2 dX5_plain_81 rfl ?_
              refine zg_callr (As := [.int (nI i), .int (nI w)]) (st := []) C [5, 6, 7, 8] 5 2 (c_X3_verdictOf l D cI h0 a0 a1 a2 Rf Lf Wf rc ln rk ds su rd R i w (zfl R rc ln i w) hrc hln hR hRb (by omega) (hf) (by omega) (by omega) (by omega)) gX5_plain_X3_verdictOf (by decide +kernel) rfl ⟨rfl, rfl⟩ ⟨Nat.le_of_ble_eq_true rfl, Nat.le_of_ble_eq_true rfl⟩ rfl (ci := 3) rfl rfl rfl rfl (Nat.le_of_ble_eq_true rfl) ⟨Nat.le_of_ble_eq_true rfl, Nat.le_of_ble_eq_true rfl⟩ dX5_plain_82 ?_
              refine zg_cv (st' := [.int (nI (zvr R rc ln i w))]) rfl (by rw [e5]) rfl ?_
              exact zg_iret C E dX5_plain_85 (by rw [zA_y c_7 ⟨c_22, c_33, hz⟩, zn_nI (by omega), zn_nI (by omega), zplain, if_pos rfl])
            · skip
              refine zg_lookup (off := 36) C 86 dX5_plain_50 (by decide) (by decide) (by decide) ?_
              refine zg_aload_n C 0 dX5_plain_86 rfl ?_
              refine zg_get C 0 (ci := 5) (f := 2) rfl rfl uX5_plain_5 (by decide) fX5_plain_5_2 dX5_plain_87 rfl ?_
              refine zg_iload_n C 1 dX5_plain_90 rfl ?_
              refine zg_iload_n C 2 dX5_plain_91 rfl ?_
              refine zg_callr (As := [.int (nI i), .int (nI w)]) (st := []) C [5, 6, 7, 8] 5 2 (c_X3_flipsOf l D cI h0 a0 a1 a2 Rf Lf Wf rc ln rk ds su rd R i w (zfl R rc ln i w) hrc hln hR hRb (by omega) (hf) (by omega) (by omega)) gX5_plain_X3_flipsOf (by decide +kernel) rfl ⟨rfl, rfl⟩ ⟨Nat.le_of_ble_eq_true rfl, Nat.le_of_ble_eq_true rfl⟩ rfl (ci := 3) rfl rfl rfl rfl (Nat.le_of_ble_eq_true rfl) ⟨Nat.le_of_ble_eq_true rfl, Nat.le_of_ble_eq_true rfl⟩ dX5_plain_92 ?_
              exact zg_iret C E dX5_plain_95 (by rw [zA_y c_7 ⟨c_22, c_33, hz⟩, zn_nI (by omega), zn_nI (by omega), zplain, if_neg (by decide), if_pos rfl])
            · skip
              refine zg_lookup (off := 46) C 96 dX5_plain_50 (by decide) (by decide) (by decide) ?_
              refine zg_iload_n C 1 dX5_plain_96 rfl ?_
              refine zg_aload_n C 0 dX5_plain_97 rfl ?_
              refine zg_get C 0 (ci := 5) (f := 2) rfl rfl uX5_plain_5 (by decide) fX5_plain_5_2 dX5_plain_98 rfl ?_
              refine zg_iload_n C 1 dX5_plain_101 rfl ?_
              refine zg_iload_n C 2 dX5_plain_102 rfl ?_
              refine zg_callr (As := [.int (nI i), .int (nI w)]) (st := [.int (nI i)]) C [5, 6, 7, 8] 5 2 (c_X3_flipsOf l D cI h0 a0 a1 a2 Rf Lf Wf rc ln rk ds su rd R i w (zfl R rc ln i w) hrc hln hR hRb (by omega) (hf) (by omega) (by omega)) gX5_plain_X3_flipsOf (by decide +kernel) rfl ⟨rfl, rfl⟩ ⟨Nat.le_of_ble_eq_true rfl, Nat.le_of_ble_eq_true rfl⟩ rfl (ci := 3) rfl rfl rfl rfl (Nat.le_of_ble_eq_true rfl) ⟨Nat.le_of_ble_eq_true rfl, Nat.le_of_ble_eq_true rfl⟩ dX5_plain_103 ?_
              refine zg_ixor C dX5_plain_106 (nI (i ^^^ (zfl R rc ln i w))) (zi_xor _ _) ?_
              exact zg_iret C E dX5_plain_107 (by rw [zA_y c_7 ⟨c_22, c_33, hz⟩, zn_nI (by omega), zn_nI (by omega), zplain, if_neg (by decide), if_neg (by decide)])
          · skip
            refine zg_sipush (v := (-1002)) C dX5_plain_45 (by decide) ?_
            exact zg_iret C E dX5_plain_48 ((zA_o c_7 (fun q => zin_xn (N := 2) (by decide) (Or.inr c_42) q.2.2)).symm)
  · skip
    refine zg_sipush (v := (-1003)) C dX5_plain_10 (by decide) ?_
    exact zg_iret C E dX5_plain_13 ((zA_n c_7).symm)
theorem uX5_share_5 : ∀ w ∈ u_ws RX5 TX5 5, w ∈ wsX5_share := fun w h => List.mem_cons_of_mem _ (List.mem_append_left _ (List.mem_append_right _ h))
theorem fX5_share_5_2 : Cond.fieldLink RX5 26 (TX5 2).1 (TX5 2).2.1 (TX5 2).2.2.1 ∈ wsX5_share := by decide +kernel
set_option maxHeartbeats 1000000 in
set_option maxRecDepth 100000 in
theorem c_X5_share (l : Launch) (D : va_G) (cI : ClassId) (c0 p0 g0 r0 b0 h0 a0 a1 a2 t0 v0 d0 : Nat) (pg : Nat → Int32) (pn : Nat) (x1 x2 x3 : Int32) (Qf Rf Lf Wf : Nat → Int32) (rc ln rk ds su rd : Nat) (V : Nat → Int32) (bs bp sr sd : Int32) (R : Nat → Nat) (x y z : Int32) (hS : zSm R Rf Lf Wf rc ln rk ds su rd) (hln : ln ≤ 10) : zMr l D cI yX5_share wsX5_share { frames := 3, cells := 0, slots := 0, locals := 66 } [.ref c0, .int x, .int y, .int z] [(c0, .inr (5, [.ref p0, .ref r0, .ref h0, .ref t0, .ref d0])), (p0, .inr (1, [.ref g0, .int (nI pn)])), (g0, .inl (cI, 56, .inl pg)), (r0, .inr (2, [.ref b0, .int x1, .int x2, .int x3])), (b0, .inl (cI, 5, .inl Qf)), (h0, .inr (3, [.ref a0, .ref a1, .ref a2, .int (nI rc), .int (nI ln), .int (nI rk), .int (nI ds), .int (nI su), .int (nI rd)])), (a0, .inl (cI, 5, .inl Rf)), (a1, .inl (cI, 32, .inl Lf)), (a2, .inl (cI, 11, .inl Wf)), (t0, .inr (4, [.ref v0, .int bs, .int bp, .int sr])), (v0, .inl (cI, 4, .inl V)), (d0, .inr (0, [.int sd]))] (zA ln ((zin x (2 ^ ln) ∧ zin y (2 ^ ln) ∧ x &&& y = 0) ∧ zin z 2) (zshare R rc ln (zn x) (zn y) z)) := by
  refine zr_ent (maxL := 5) (by decide) rfl (Nat.le_of_ble_eq_true rfl) (fun X C E => ?_)
  have C : zC X l D cI { frames := 3, cells := 0, slots := 0, locals := 66 } 5 false cX5_share RX5 wsX5_share := C
  refine zg_cv (lv' := [(0, .ref c0), (1, .int x), (2, .int y), (3, .int z)]) rfl rfl rfl ?_
  refine zg_aload_n C 0 dX5_share_0 rfl ?_
  refine zg_get C 0 (ci := 5) (f := 2) rfl rfl uX5_share_5 (by decide) fX5_share_5_2 dX5_share_1 rfl ?_
  refine zg_callr (As := []) (st := []) C [5, 6, 7, 8] 5 0 (c_X3_areThere l D cI h0 a0 a1 a2 Rf Lf Wf rc ln rk ds su rd hln) gX5_share_X3_areThere (by decide +kernel) rfl ⟨rfl, rfl⟩ ⟨Nat.le_of_ble_eq_true rfl, Nat.le_of_ble_eq_true rfl⟩ rfl (ci := 3) rfl rfl rfl rfl (Nat.le_of_ble_eq_true rfl) ⟨Nat.le_of_ble_eq_true rfl, Nat.le_of_ble_eq_true rfl⟩ dX5_share_4 ?_
  refine zp_if_ne C 14 dX5_share_7 (by decide) (fun c_7 => ?_) (fun c_7 => ?_)
  · skip
    obtain ⟨m1, hrc, m3, hR, hRb, hL, hW, e1, e2, e3, e4⟩ := hS c_7
    have q0 := zpw hln
    have q1 := zpw0 ln
    have q5 := zpw5 hrc
    refine zg_aload_n C 0 dX5_share_14 rfl ?_
    refine zg_get C 0 (ci := 5) (f := 2) rfl rfl uX5_share_5 (by decide) fX5_share_5_2 dX5_share_15 rfl ?_
    refine zg_iload_n C 1 dX5_share_18 rfl ?_
    refine zg_iload_n C 2 dX5_share_19 rfl ?_
    refine zg_callr (As := [.int x, .int y]) (st := []) C [5, 6, 7, 8] 5 2 (c_X3_areSharedSets l D cI h0 a0 a1 a2 Rf Lf Wf rc ln rk ds su rd x y hln) gX5_share_X3_areSharedSets (by decide +kernel) rfl ⟨rfl, rfl⟩ ⟨Nat.le_of_ble_eq_true rfl, Nat.le_of_ble_eq_true rfl⟩ rfl (ci := 3) rfl rfl rfl rfl (Nat.le_of_ble_eq_true rfl) ⟨Nat.le_of_ble_eq_true rfl, Nat.le_of_ble_eq_true rfl⟩ dX5_share_20 ?_
    refine zp_if_eq C 35 dX5_share_23 (by decide) (fun c_23 => ?_) (fun c_23 => ?_)
    · skip
      refine zg_sipush (v := (-1002)) C dX5_share_35 (by decide) ?_
      exact zg_iret C E dX5_share_38 ((zA_o c_7 (fun q => c_23 q.1)).symm)
    · skip
      refine zg_iload_n C 3 dX5_share_26 rfl ?_
      refine zg_if_lt C 35 dX5_share_27 (by decide) (fun c_27 => ?_) (fun c_27 => ?_)
      · skip
        refine zg_sipush (v := (-1002)) C dX5_share_35 (by decide) ?_
        exact zg_iret C E dX5_share_38 ((zA_o c_7 (fun q => zin_xn (N := 1) (by decide) (Or.inl c_27) q.2)).symm)
      · skip
        refine zg_iload_n C 3 dX5_share_30 rfl ?_
        refine zg_iconst (v := nI 1) C dX5_share_31 (by decide) ?_
        refine zg_icmp_le C 39 dX5_share_32 (by decide) (fun c_32 => ?_) (fun c_32 => ?_)
        · skip
          have hz : zin z 2 := zin_x (N := 1) (by decide) c_27 c_32
          obtain ⟨i, hi, rfl⟩ := zin_of c_23.1 (by omega)
          obtain ⟨w, hw, rfl⟩ := zin_of c_23.2.1 (by omega)
          have q6 : i ||| w < 2 ^ ln := Nat.or_lt_two_pow hi hw
          refine zg_iload_n C 1 dX5_share_39 rfl ?_
          refine zg_iload_n C 2 dX5_share_40 rfl ?_
          refine zg_ior C dX5_share_41 (nI (i ||| w)) (zi_or _ _) ?_
          refine zg_istore C [1, 2, 3, 4, 0] (lv' := [(0, .ref c0), (1, .int (nI i)), (2, .int (nI w)), (3, .int z), (4, .int (nI (i ||| w)))]) dX5_share_42 (by decide) rfl ?_
          refine zg_iload_n C 3 dX5_share_44 rfl ?_
          refine zg_if_ne C 66 dX5_share_45 (by decide) (fun c_45 => ?_) (fun c_45 => ?_)
          · skip
            refine zg_iconst (v := nI 2) C dX5_share_66 (by decide) ?_
            refine zg_aload_n C 0 dX5_share_67 rfl ?_
            refine zg_get C 0 (ci := 5) (f := 2) rfl rfl uX5_share_5 (by decide) fX5_share_5_2 dX5_share_68 rfl ?_
            refine zg_callr (As := []) (st := [.int (nI 2)]) C [5, 6, 7, 8] 5 0 (c_X3_rank l D cI h0 a0 a1 a2 Rf Lf Wf rc ln rk ds su rd ) gX5_share_X3_rank (by decide +kernel) rfl ⟨rfl, rfl⟩ ⟨Nat.le_of_ble_eq_true rfl, Nat.le_of_ble_eq_true rfl⟩ rfl (ci := 3) rfl rfl rfl rfl (Nat.le_of_ble_eq_true rfl) ⟨Nat.le_of_ble_eq_true rfl, Nat.le_of_ble_eq_true rfl⟩ dX5_share_71 ?_
            refine zg_cv (st' := [.int (nI (zrk R rc ln)), .int (nI 2)]) rfl (congrArg (fun q9 => ([.int (nI q9), .int (nI 2)] : List Value)) (e1)) rfl ?_
            refine zg_imul C dX5_share_74 (nI (2 * (zrk R rc ln))) (pk_mul _ _) ?_
            refine zg_iload C 4 dX5_share_75 rfl ?_
            refine zg_calls (As := [.int (nI (i ||| w))]) (st := [.int (nI (2 * (zrk R rc ln)))]) C [] 1 (c_J6_bitCount_0f7a4 l D cI (i ||| w) (by omega)) gX5_share_J6_bitCount_0f7a4 (by decide +kernel) rfl ⟨rfl, rfl⟩ ⟨Nat.le_of_ble_eq_true rfl, Nat.le_of_ble_eq_true rfl⟩ rfl rfl rfl (Nat.le_of_ble_eq_true rfl) ⟨Nat.le_of_ble_eq_true rfl, Nat.le_of_ble_eq_true rfl⟩ dX5_share_77 ?_
            refine zg_iadd C dX5_share_80 (nI ((2 * (zrk R rc ln)) + (zpc (i ||| w)))) (nI_add _ _) ?_
            exact zg_iret C E dX5_share_81 (by rw [zA_y c_7 ⟨c_23, hz⟩, zn_nI (by omega), zn_nI (by omega), zshare, if_neg (show ¬ z = nI 0 from c_45)])
          · skip
            refine zg_aload_n C 0 dX5_share_48 rfl ?_
            refine zg_get C 0 (ci := 5) (f := 2) rfl rfl uX5_share_5 (by decide) fX5_share_5_2 dX5_share_49 rfl ?_
            refine zg_iload C 4 dX5_share_52 rfl ?_
            refine zg_callr (As := [.int (nI (i ||| w))]) (st := []) C [5, 6, 7, 8] 5 1 (c_X3_isEnough l D cI h0 a0 a1 a2 Rf Lf Wf rc ln rk ds su rd R (i ||| w) hrc hln hR hRb (q6)) gX5_share_X3_isEnough (by decide +kernel) rfl ⟨rfl, rfl⟩ ⟨Nat.le_of_ble_eq_true rfl, Nat.le_of_ble_eq_true rfl⟩ rfl (ci := 3) rfl rfl rfl rfl (Nat.le_of_ble_eq_true rfl) ⟨Nat.le_of_ble_eq_true rfl, Nat.le_of_ble_eq_true rfl⟩ dX5_share_54 ?_
            refine zb_if_eq C 64 dX5_share_57 (by decide) (fun c_57 => ?_) (fun c_57 => ?_)
            · skip
              refine zg_iconst (v := nI 0) C dX5_share_64 (by decide) ?_
              exact zg_iret C E dX5_share_65 (by rw [zA_y c_7 ⟨c_23, hz⟩, zn_nI (by omega), zn_nI (by omega), zshare, if_pos (show z = nI 0 from c_45), c_57]; rfl)
            · skip
              refine zg_iconst (v := nI 1) C dX5_share_60 (by decide) ?_
              refine zg_goto C 65 dX5_share_61 (by decide) ?_
              exact zg_iret C E dX5_share_65 (by rw [zA_y c_7 ⟨c_23, hz⟩, zn_nI (by omega), zn_nI (by omega), zshare, if_pos (show z = nI 0 from c_45), c_57]; rfl)
        · skip
          refine zg_sipush (v := (-1002)) C dX5_share_35 (by decide) ?_
          exact zg_iret C E dX5_share_38 ((zA_o c_7 (fun q => zin_xn (N := 1) (by decide) (Or.inr c_32) q.2)).symm)
  · skip
    refine zg_sipush (v := (-1003)) C dX5_share_10 (by decide) ?_
    exact zg_iret C E dX5_share_13 ((zA_n c_7).symm)
theorem uX5_shared_5 : ∀ w ∈ u_ws RX5 TX5 5, w ∈ wsX5_shared := fun w h => List.mem_cons_of_mem _ (List.mem_append_left _ (List.mem_append_right _ h))
theorem fX5_shared_5_2 : Cond.fieldLink RX5 26 (TX5 2).1 (TX5 2).2.1 (TX5 2).2.2.1 ∈ wsX5_shared := by decide +kernel
set_option maxHeartbeats 1000000 in
set_option maxRecDepth 100000 in
theorem c_X5_shared (l : Launch) (D : va_G) (cI : ClassId) (c0 p0 g0 r0 b0 h0 a0 a1 a2 t0 v0 d0 : Nat) (pg : Nat → Int32) (pn : Nat) (x1 x2 x3 : Int32) (Qf Rf Lf Wf : Nat → Int32) (rc ln rk ds su rd : Nat) (V : Nat → Int32) (bs bp sr sd : Int32) (R : Nat → Nat) (u v x y z : Int32) (hS : zSm R Rf Lf Wf rc ln rk ds su rd) (hln : ln ≤ 10) : zMr l D cI yX5_shared wsX5_shared { frames := 5, cells := 0, slots := 0, locals := 113 } [.ref c0, .int u, .int v, .int x, .int y, .int z] [(c0, .inr (5, [.ref p0, .ref r0, .ref h0, .ref t0, .ref d0])), (p0, .inr (1, [.ref g0, .int (nI pn)])), (g0, .inl (cI, 56, .inl pg)), (r0, .inr (2, [.ref b0, .int x1, .int x2, .int x3])), (b0, .inl (cI, 5, .inl Qf)), (h0, .inr (3, [.ref a0, .ref a1, .ref a2, .int (nI rc), .int (nI ln), .int (nI rk), .int (nI ds), .int (nI su), .int (nI rd)])), (a0, .inl (cI, 5, .inl Rf)), (a1, .inl (cI, 32, .inl Lf)), (a2, .inl (cI, 11, .inl Wf)), (t0, .inr (4, [.ref v0, .int bs, .int bp, .int sr])), (v0, .inl (cI, 4, .inl V)), (d0, .inr (0, [.int sd]))] (zA ln ((zin u (2 ^ ln) ∧ zin v (2 ^ ln) ∧ u &&& v = 0) ∧ zin x (2 ^ ln) ∧ zin y (2 ^ ln)) (zshrd R rc ln (zn u) (zn v) (zn x) (zn y) z)) := by
  refine zr_ent (maxL := 7) (by decide) rfl (Nat.le_of_ble_eq_true rfl) (fun X C E => ?_)
  have C : zC X l D cI { frames := 5, cells := 0, slots := 0, locals := 113 } 7 false cX5_shared RX5 wsX5_shared := C
  refine zg_cv (lv' := [(0, .ref c0), (1, .int u), (2, .int v), (3, .int x), (4, .int y), (5, .int z)]) rfl rfl rfl ?_
  refine zg_aload_n C 0 dX5_shared_0 rfl ?_
  refine zg_get C 0 (ci := 5) (f := 2) rfl rfl uX5_shared_5 (by decide) fX5_shared_5_2 dX5_shared_1 rfl ?_
  refine zg_callr (As := []) (st := []) C [5, 6, 7, 8] 5 0 (c_X3_areThere l D cI h0 a0 a1 a2 Rf Lf Wf rc ln rk ds su rd hln) gX5_shared_X3_areThere (by decide +kernel) rfl ⟨rfl, rfl⟩ ⟨Nat.le_of_ble_eq_true rfl, Nat.le_of_ble_eq_true rfl⟩ rfl (ci := 3) rfl rfl rfl rfl (Nat.le_of_ble_eq_true rfl) ⟨Nat.le_of_ble_eq_true rfl, Nat.le_of_ble_eq_true rfl⟩ dX5_shared_4 ?_
  refine zp_if_ne C 14 dX5_shared_7 (by decide) (fun c_7 => ?_) (fun c_7 => ?_)
  · skip
    obtain ⟨m1, hrc, m3, hR, hRb, hL, hW, e1, e2, e3, e4⟩ := hS c_7
    have q0 := zpw hln
    have q1 := zpw0 ln
    have q5 := zpw5 hrc
    refine zg_aload_n C 0 dX5_shared_14 rfl ?_
    refine zg_get C 0 (ci := 5) (f := 2) rfl rfl uX5_shared_5 (by decide) fX5_shared_5_2 dX5_shared_15 rfl ?_
    refine zg_iload_n C 1 dX5_shared_18 rfl ?_
    refine zg_iload_n C 2 dX5_shared_19 rfl ?_
    refine zg_callr (As := [.int u, .int v]) (st := []) C [5, 6, 7, 8] 5 2 (c_X3_areSharedSets l D cI h0 a0 a1 a2 Rf Lf Wf rc ln rk ds su rd u v hln) gX5_shared_X3_areSharedSets (by decide +kernel) rfl ⟨rfl, rfl⟩ ⟨Nat.le_of_ble_eq_true rfl, Nat.le_of_ble_eq_true rfl⟩ rfl (ci := 3) rfl rfl rfl rfl (Nat.le_of_ble_eq_true rfl) ⟨Nat.le_of_ble_eq_true rfl, Nat.le_of_ble_eq_true rfl⟩ dX5_shared_20 ?_
    refine zp_if_eq C 49 dX5_shared_23 (by decide) (fun c_23 => ?_) (fun c_23 => ?_)
    · skip
      refine zg_sipush (v := (-1002)) C dX5_shared_49 (by decide) ?_
      exact zg_iret C E dX5_shared_52 ((zA_o c_7 (fun q => c_23 q.1)).symm)
    · skip
      refine zg_aload_n C 0 dX5_shared_26 rfl ?_
      refine zg_get C 0 (ci := 5) (f := 2) rfl rfl uX5_shared_5 (by decide) fX5_shared_5_2 dX5_shared_27 rfl ?_
      refine zg_iload_n C 3 dX5_shared_30 rfl ?_
      refine zg_callr (As := [.int x]) (st := []) C [5, 6, 7, 8] 5 1 (c_X3_isWord l D cI h0 a0 a1 a2 Rf Lf Wf rc ln rk ds su rd x hln) gX5_shared_X3_isWord (by decide +kernel) rfl ⟨rfl, rfl⟩ ⟨Nat.le_of_ble_eq_true rfl, Nat.le_of_ble_eq_true rfl⟩ rfl (ci := 3) rfl rfl rfl rfl (Nat.le_of_ble_eq_true rfl) ⟨Nat.le_of_ble_eq_true rfl, Nat.le_of_ble_eq_true rfl⟩ dX5_shared_31 ?_
      refine zp_if_eq C 49 dX5_shared_34 (by decide) (fun c_34 => ?_) (fun c_34 => ?_)
      · skip
        refine zg_sipush (v := (-1002)) C dX5_shared_49 (by decide) ?_
        exact zg_iret C E dX5_shared_52 ((zA_o c_7 (fun q => c_34 q.2.1)).symm)
      · skip
        refine zg_aload_n C 0 dX5_shared_37 rfl ?_
        refine zg_get C 0 (ci := 5) (f := 2) rfl rfl uX5_shared_5 (by decide) fX5_shared_5_2 dX5_shared_38 rfl ?_
        refine zg_iload C 4 dX5_shared_41 rfl ?_
        refine zg_callr (As := [.int y]) (st := []) C [5, 6, 7, 8] 5 1 (c_X3_isWord l D cI h0 a0 a1 a2 Rf Lf Wf rc ln rk ds su rd y hln) gX5_shared_X3_isWord (by decide +kernel) rfl ⟨rfl, rfl⟩ ⟨Nat.le_of_ble_eq_true rfl, Nat.le_of_ble_eq_true rfl⟩ rfl (ci := 3) rfl rfl rfl rfl (Nat.le_of_ble_eq_true rfl) ⟨Nat.le_of_ble_eq_true rfl, Nat.le_of_ble_eq_true rfl⟩ dX5_shared_43 ?_
        refine zp_if_ne C 53 dX5_shared_46 (by decide) (fun c_46 => ?_) (fun c_46 => ?_)
        · skip
          obtain ⟨i, hi, rfl⟩ := zin_of c_23.1 (by omega)
          obtain ⟨w, hw, rfl⟩ := zin_of c_23.2.1 (by omega)
          obtain ⟨k, hk, rfl⟩ := zin_of c_34 (by omega)
          obtain ⟨j, hj, rfl⟩ := zin_of c_46 (by omega)
          have hf := zfl_some R rc hk hj
          refine zg_aload_n C 0 dX5_shared_53 rfl ?_
          refine zg_get C 0 (ci := 5) (f := 2) rfl rfl uX5_shared_5 (by decide) fX5_shared_5_2 dX5_shared_54 rfl ?_
          refine zg_iload_n C 1 dX5_shared_57 rfl ?_
          refine zg_iload_n C 2 dX5_shared_58 rfl ?_
          refine zg_iload_n C 3 dX5_shared_59 rfl ?_
          refine zg_iload C 4 dX5_shared_60 rfl ?_
          refine zg_callr (As := [.int (nI i), .int (nI w), .int (nI k), .int (nI j)]) (st := []) C [5, 6, 7, 8] 5 4 (c_X3_firstOfShared l D cI h0 a0 a1 a2 Rf Lf Wf rc ln rk ds su rd R i w k j (zfl R rc ln k j) hrc hln hR hRb (by omega) (hf) (by omega) (by omega) (by omega) (by omega)) gX5_shared_X3_firstOfShared (by decide +kernel) rfl ⟨rfl, rfl⟩ ⟨Nat.le_of_ble_eq_true rfl, Nat.le_of_ble_eq_true rfl⟩ rfl (ci := 3) rfl rfl rfl rfl (Nat.le_of_ble_eq_true rfl) ⟨Nat.le_of_ble_eq_true rfl, Nat.le_of_ble_eq_true rfl⟩ dX5_shared_62 ?_
          refine zg_istore C [1, 2, 3, 4, 5, 6, 0] (lv' := [(0, .ref c0), (1, .int (nI i)), (2, .int (nI w)), (3, .int (nI k)), (4, .int (nI j)), (5, .int z), (6, .int (zsh R rc ln i w k j (zfl R rc ln k j)))]) dX5_shared_65 (by decide) rfl ?_
          refine zg_iload C 6 dX5_shared_67 rfl ?_
          refine zg_sipush (v := (-1001)) C dX5_shared_69 (by decide) ?_
          refine zg_icmp_eq C 80 dX5_shared_72 (by decide) (fun c_72 => ?_) (fun c_72 => ?_)
          · skip
            refine zg_iload C 6 dX5_shared_80 rfl ?_
            exact zg_iret C E dX5_shared_82 (by rw [zA_y c_7 ⟨c_23, c_34, c_46⟩, zn_nI (by omega), zn_nI (by omega), zn_nI (by omega), zn_nI (by omega), zshrd, if_pos (Or.inl c_72)])
          · skip
            refine zg_iload C 5 dX5_shared_75 rfl ?_
            refine zg_if_ne C 83 dX5_shared_77 (by decide) (fun c_77 => ?_) (fun c_77 => ?_)
            · skip
              refine zg_iload C 6 dX5_shared_83 rfl ?_
              refine zg_aload_n C 0 dX5_shared_85 rfl ?_
              refine zg_get C 0 (ci := 5) (f := 2) rfl rfl uX5_shared_5 (by decide) fX5_shared_5_2 dX5_shared_86 rfl ?_
              refine zg_iload_n C 3 dX5_shared_89 rfl ?_
              refine zg_iload C 4 dX5_shared_90 rfl ?_
              refine zg_callr (As := [.int (nI k), .int (nI j)]) (st := [.int (zsh R rc ln i w k j (zfl R rc ln k j))]) C [5, 6, 7, 8] 5 2 (c_X3_flipsOf l D cI h0 a0 a1 a2 Rf Lf Wf rc ln rk ds su rd R k j (zfl R rc ln k j) hrc hln hR hRb (by omega) (hf) (by omega) (by omega)) gX5_shared_X3_flipsOf (by decide +kernel) rfl ⟨rfl, rfl⟩ ⟨Nat.le_of_ble_eq_true rfl, Nat.le_of_ble_eq_true rfl⟩ rfl (ci := 3) rfl rfl rfl rfl (Nat.le_of_ble_eq_true rfl) ⟨Nat.le_of_ble_eq_true rfl, Nat.le_of_ble_eq_true rfl⟩ dX5_shared_92 ?_
              refine zg_ixor C dX5_shared_95 ((zsh R rc ln i w k j (zfl R rc ln k j)) ^^^ (nI (zfl R rc ln k j))) (rfl) ?_
              exact zg_iret C E dX5_shared_96 (by rw [zA_y c_7 ⟨c_23, c_34, c_46⟩, zn_nI (by omega), zn_nI (by omega), zn_nI (by omega), zn_nI (by omega), zshrd, if_neg (fun q => q.elim c_72 c_77)])
            · skip
              refine zg_iload C 6 dX5_shared_80 rfl ?_
              exact zg_iret C E dX5_shared_82 (by rw [zA_y c_7 ⟨c_23, c_34, c_46⟩, zn_nI (by omega), zn_nI (by omega), zn_nI (by omega), zn_nI (by omega), zshrd, if_pos (Or.inr c_77)])
        · skip
          refine zg_sipush (v := (-1002)) C dX5_shared_49 (by decide) ?_
          exact zg_iret C E dX5_shared_52 ((zA_o c_7 (fun q => c_46 q.2.2)).symm)
  · skip
    refine zg_sipush (v := (-1003)) C dX5_shared_10 (by decide) ?_
    exact zg_iret C E dX5_shared_13 ((zA_n c_7).symm)
theorem uX5_seed_5 : ∀ w ∈ u_ws RX5 TX5 5, w ∈ wsX5_seed := fun w h => List.mem_cons_of_mem _ (List.mem_append_left _ (List.mem_append_right _ h))
theorem fX5_seed_5_4 : Cond.fieldLink RX5 40 (TX5 4).1 (TX5 4).2.1 (TX5 4).2.2.1 ∈ wsX5_seed := by decide +kernel
set_option maxHeartbeats 1000000 in
set_option maxRecDepth 100000 in
theorem c_X5_seed (l : Launch) (D : va_G) (cI : ClassId) (c0 p0 g0 r0 b0 h0 a0 a1 a2 t0 v0 d0 : Nat) (pg : Nat → Int32) (pn : Nat) (x1 x2 x3 : Int32) (Qf Rf Lf Wf : Nat → Int32) (rc ln rk ds su rd : Nat) (V : Nat → Int32) (bs bp sr sd : Int32) (R : Nat → Nat) : zMr l D cI yX5_seed wsX5_seed { frames := 1, cells := 0, slots := 0, locals := 20 } [.ref c0] [(c0, .inr (5, [.ref p0, .ref r0, .ref h0, .ref t0, .ref d0])), (p0, .inr (1, [.ref g0, .int (nI pn)])), (g0, .inl (cI, 56, .inl pg)), (r0, .inr (2, [.ref b0, .int x1, .int x2, .int x3])), (b0, .inl (cI, 5, .inl Qf)), (h0, .inr (3, [.ref a0, .ref a1, .ref a2, .int (nI rc), .int (nI ln), .int (nI rk), .int (nI ds), .int (nI su), .int (nI rd)])), (a0, .inl (cI, 5, .inl Rf)), (a1, .inl (cI, 32, .inl Lf)), (a2, .inl (cI, 11, .inl Wf)), (t0, .inr (4, [.ref v0, .int bs, .int bp, .int sr])), (v0, .inl (cI, 4, .inl V)), (d0, .inr (0, [.int sd]))] (sd) := by
  refine zr_ent (maxL := 1) (by decide) rfl (Nat.le_of_ble_eq_true rfl) (fun X C E => ?_)
  have C : zC X l D cI { frames := 1, cells := 0, slots := 0, locals := 20 } 1 false cX5_seed RX5 wsX5_seed := C
  refine zg_cv (lv' := [(0, .ref c0)]) rfl rfl rfl ?_
  refine zg_aload_n C 0 dX5_seed_0 rfl ?_
  refine zg_get C 0 (ci := 5) (f := 4) rfl rfl uX5_seed_5 (by decide) fX5_seed_5_4 dX5_seed_1 rfl ?_
  refine zg_callr (As := []) (st := []) C [11] 11 0 (c_X0_last l D cI d0 sd ) gX5_seed_X0_last (by decide +kernel) rfl ⟨rfl, rfl⟩ ⟨Nat.le_of_ble_eq_true rfl, Nat.le_of_ble_eq_true rfl⟩ rfl (ci := 0) rfl rfl rfl rfl (Nat.le_of_ble_eq_true rfl) ⟨Nat.le_of_ble_eq_true rfl, Nat.le_of_ble_eq_true rfl⟩ dX5_seed_4 ?_
  exact zg_iret C E dX5_seed_7 (rfl)
theorem uX5_count_5 : ∀ w ∈ u_ws RX5 TX5 5, w ∈ wsX5_count := fun w h => List.mem_cons_of_mem _ (List.mem_append_left _ (List.mem_append_left _ (List.mem_append_right _ h)))
theorem fX5_count_5_0 : Cond.fieldLink RX5 10 (TX5 0).1 (TX5 0).2.1 (TX5 0).2.2.1 ∈ wsX5_count := by decide +kernel
theorem fX5_count_5_3 : Cond.fieldLink RX5 33 (TX5 3).1 (TX5 3).2.1 (TX5 3).2.2.1 ∈ wsX5_count := by decide +kernel
set_option maxHeartbeats 1000000 in
set_option maxRecDepth 100000 in
theorem c_X5_count (l : Launch) (D : va_G) (cI : ClassId) (c0 p0 g0 r0 b0 h0 a0 a1 a2 t0 v0 d0 : Nat) (pg : Nat → Int32) (pn : Nat) (x1 x2 x3 : Int32) (Qf Rf Lf Wf : Nat → Int32) (rc ln rk ds su rd : Nat) (V : Nat → Int32) (bs bp sr sd : Int32) (R : Nat → Nat) (x : Int32) : zMr l D cI yX5_count wsX5_count { frames := 1, cells := 0, slots := 0, locals := 21 } [.ref c0, .int x] [(c0, .inr (5, [.ref p0, .ref r0, .ref h0, .ref t0, .ref d0])), (p0, .inr (1, [.ref g0, .int (nI pn)])), (g0, .inl (cI, 56, .inl pg)), (r0, .inr (2, [.ref b0, .int x1, .int x2, .int x3])), (b0, .inl (cI, 5, .inl Qf)), (h0, .inr (3, [.ref a0, .ref a1, .ref a2, .int (nI rc), .int (nI ln), .int (nI rk), .int (nI ds), .int (nI su), .int (nI rd)])), (a0, .inl (cI, 5, .inl Rf)), (a1, .inl (cI, 32, .inl Lf)), (a2, .inl (cI, 11, .inl Wf)), (t0, .inr (4, [.ref v0, .int bs, .int bp, .int sr])), (v0, .inl (cI, 4, .inl V)), (d0, .inr (0, [.int sd]))] (zAcnt pn V bs bp sr x) := by
  refine zr_ent (maxL := 2) (by decide) rfl (Nat.le_of_ble_eq_true rfl) (fun X C E => ?_)
  have C : zC X l D cI { frames := 1, cells := 0, slots := 0, locals := 21 } 2 false cX5_count RX5 wsX5_count := C
  refine zg_cv (lv' := [(0, .ref c0), (1, .int x)]) rfl rfl rfl ?_
  refine zg_iload_n C 1 dX5_count_0 rfl ?_
  refine zg_if_lt C 10 dX5_count_1 (by decide) (fun c_1 => ?_) (fun c_1 => ?_)
  · skip
    refine zg_sipush (v := (-1002)) C dX5_count_10 (by decide) ?_
    exact zg_iret C E dX5_count_13 (by rw [zAcnt, if_neg (zin_xn (N := 7) (by decide) (Or.inl c_1))])
  · skip
    refine zg_iload_n C 1 dX5_count_4 rfl ?_
    refine zg_bipush (v := nI 7) C dX5_count_5 (by decide) ?_
    refine zg_icmp_le C 14 dX5_count_7 (by decide) (fun c_7 => ?_) (fun c_7 => ?_)
    · skip
      have hx : zin x 8 := zin_x (N := 7) (by decide) c_1 c_7
      obtain ⟨j, hj, rfl⟩ := zin_of hx (by decide)
      refine zg_iload_n C 1 dX5_count_14 rfl ?_
      rcases (show j = 0 ∨ j = 1 ∨ j = 2 ∨ j = 3 ∨ j = 4 ∨ j = 5 ∨ j = 6 ∨ j = 7 by omega) with rfl | rfl | rfl | rfl | rfl | rfl | rfl | rfl
      · skip
        refine zg_tabIn (off := 45) C 60 dX5_count_15 (by rw [show (nI 0).toInt = 0 from by decide]; decide) (by rw [show (nI 0).toInt = 0 from by decide]; decide) (by rw [show (nI 0).toInt = 0 from by decide]; rfl) (by decide) ?_
        refine zg_aload_n C 0 dX5_count_60 rfl ?_
        refine zg_get C 0 (ci := 5) (f := 0) rfl rfl uX5_count_5 (by decide) fX5_count_5_0 dX5_count_61 rfl ?_
        refine zg_callr (As := []) (st := []) C [1, 2] 1 0 (c_X1_size l D cI p0 g0 pg pn ) gX5_count_X1_size (by decide +kernel) rfl ⟨rfl, rfl⟩ ⟨Nat.le_of_ble_eq_true rfl, Nat.le_of_ble_eq_true rfl⟩ rfl (ci := 1) rfl rfl rfl rfl (Nat.le_of_ble_eq_true rfl) ⟨Nat.le_of_ble_eq_true rfl, Nat.le_of_ble_eq_true rfl⟩ dX5_count_64 ?_
        exact zg_iret C E dX5_count_67 (by rw [zAcnt, if_pos hx, zn_nI (by decide)]; rfl)
      · skip
        refine zg_tabIn (off := 77) C 92 dX5_count_15 (by rw [show (nI 1).toInt = 1 from by decide]; decide) (by rw [show (nI 1).toInt = 1 from by decide]; decide) (by rw [show (nI 1).toInt = 1 from by decide]; rfl) (by decide) ?_
        refine zg_aload_n C 0 dX5_count_92 rfl ?_
        refine zg_get C 0 (ci := 5) (f := 3) rfl rfl uX5_count_5 (by decide) fX5_count_5_3 dX5_count_93 rfl ?_
        refine zg_iload_n C 1 dX5_count_96 rfl ?_
        refine zg_iconst (v := nI 1) C dX5_count_97 (by decide) ?_
        refine zg_isub C dX5_count_98 (nI (1 - 1)) (pk_sub (by omega)) ?_
        refine zg_callr (As := [.int (nI (1 - 1))]) (st := []) C [9, 10] 9 1 (c_X4_sentWith l D cI t0 v0 V bs bp sr (1 - 1) (by omega)) gX5_count_X4_sentWith (by decide +kernel) rfl ⟨rfl, rfl⟩ ⟨Nat.le_of_ble_eq_true rfl, Nat.le_of_ble_eq_true rfl⟩ rfl (ci := 4) rfl rfl rfl rfl (Nat.le_of_ble_eq_true rfl) ⟨Nat.le_of_ble_eq_true rfl, Nat.le_of_ble_eq_true rfl⟩ dX5_count_99 ?_
        exact zg_iret C E dX5_count_102 (by rw [zAcnt, if_pos hx, zn_nI (by decide)]; rfl)
      · skip
        refine zg_tabIn (off := 77) C 92 dX5_count_15 (by rw [show (nI 2).toInt = 2 from by decide]; decide) (by rw [show (nI 2).toInt = 2 from by decide]; decide) (by rw [show (nI 2).toInt = 2 from by decide]; rfl) (by decide) ?_
        refine zg_aload_n C 0 dX5_count_92 rfl ?_
        refine zg_get C 0 (ci := 5) (f := 3) rfl rfl uX5_count_5 (by decide) fX5_count_5_3 dX5_count_93 rfl ?_
        refine zg_iload_n C 1 dX5_count_96 rfl ?_
        refine zg_iconst (v := nI 1) C dX5_count_97 (by decide) ?_
        refine zg_isub C dX5_count_98 (nI (2 - 1)) (pk_sub (by omega)) ?_
        refine zg_callr (As := [.int (nI (2 - 1))]) (st := []) C [9, 10] 9 1 (c_X4_sentWith l D cI t0 v0 V bs bp sr (2 - 1) (by omega)) gX5_count_X4_sentWith (by decide +kernel) rfl ⟨rfl, rfl⟩ ⟨Nat.le_of_ble_eq_true rfl, Nat.le_of_ble_eq_true rfl⟩ rfl (ci := 4) rfl rfl rfl rfl (Nat.le_of_ble_eq_true rfl) ⟨Nat.le_of_ble_eq_true rfl, Nat.le_of_ble_eq_true rfl⟩ dX5_count_99 ?_
        exact zg_iret C E dX5_count_102 (by rw [zAcnt, if_pos hx, zn_nI (by decide)]; rfl)
      · skip
        refine zg_tabIn (off := 77) C 92 dX5_count_15 (by rw [show (nI 3).toInt = 3 from by decide]; decide) (by rw [show (nI 3).toInt = 3 from by decide]; decide) (by rw [show (nI 3).toInt = 3 from by decide]; rfl) (by decide) ?_
        refine zg_aload_n C 0 dX5_count_92 rfl ?_
        refine zg_get C 0 (ci := 5) (f := 3) rfl rfl uX5_count_5 (by decide) fX5_count_5_3 dX5_count_93 rfl ?_
        refine zg_iload_n C 1 dX5_count_96 rfl ?_
        refine zg_iconst (v := nI 1) C dX5_count_97 (by decide) ?_
        refine zg_isub C dX5_count_98 (nI (3 - 1)) (pk_sub (by omega)) ?_
        refine zg_callr (As := [.int (nI (3 - 1))]) (st := []) C [9, 10] 9 1 (c_X4_sentWith l D cI t0 v0 V bs bp sr (3 - 1) (by omega)) gX5_count_X4_sentWith (by decide +kernel) rfl ⟨rfl, rfl⟩ ⟨Nat.le_of_ble_eq_true rfl, Nat.le_of_ble_eq_true rfl⟩ rfl (ci := 4) rfl rfl rfl rfl (Nat.le_of_ble_eq_true rfl) ⟨Nat.le_of_ble_eq_true rfl, Nat.le_of_ble_eq_true rfl⟩ dX5_count_99 ?_
        exact zg_iret C E dX5_count_102 (by rw [zAcnt, if_pos hx, zn_nI (by decide)]; rfl)
      · skip
        refine zg_tabIn (off := 77) C 92 dX5_count_15 (by rw [show (nI 4).toInt = 4 from by decide]; decide) (by rw [show (nI 4).toInt = 4 from by decide]; decide) (by rw [show (nI 4).toInt = 4 from by decide]; rfl) (by decide) ?_
        refine zg_aload_n C 0 dX5_count_92 rfl ?_
        refine zg_get C 0 (ci := 5) (f := 3) rfl rfl uX5_count_5 (by decide) fX5_count_5_3 dX5_count_93 rfl ?_
        refine zg_iload_n C 1 dX5_count_96 rfl ?_
        refine zg_iconst (v := nI 1) C dX5_count_97 (by decide) ?_
        refine zg_isub C dX5_count_98 (nI (4 - 1)) (pk_sub (by omega)) ?_
        refine zg_callr (As := [.int (nI (4 - 1))]) (st := []) C [9, 10] 9 1 (c_X4_sentWith l D cI t0 v0 V bs bp sr (4 - 1) (by omega)) gX5_count_X4_sentWith (by decide +kernel) rfl ⟨rfl, rfl⟩ ⟨Nat.le_of_ble_eq_true rfl, Nat.le_of_ble_eq_true rfl⟩ rfl (ci := 4) rfl rfl rfl rfl (Nat.le_of_ble_eq_true rfl) ⟨Nat.le_of_ble_eq_true rfl, Nat.le_of_ble_eq_true rfl⟩ dX5_count_99 ?_
        exact zg_iret C E dX5_count_102 (by rw [zAcnt, if_pos hx, zn_nI (by decide)]; rfl)
      · skip
        refine zg_tabIn (off := 53) C 68 dX5_count_15 (by rw [show (nI 5).toInt = 5 from by decide]; decide) (by rw [show (nI 5).toInt = 5 from by decide]; decide) (by rw [show (nI 5).toInt = 5 from by decide]; rfl) (by decide) ?_
        refine zg_aload_n C 0 dX5_count_68 rfl ?_
        refine zg_get C 0 (ci := 5) (f := 3) rfl rfl uX5_count_5 (by decide) fX5_count_5_3 dX5_count_69 rfl ?_
        refine zg_callr (As := []) (st := []) C [9, 10] 9 0 (c_X4_bitsSent l D cI t0 v0 V bs bp sr ) gX5_count_X4_bitsSent (by decide +kernel) rfl ⟨rfl, rfl⟩ ⟨Nat.le_of_ble_eq_true rfl, Nat.le_of_ble_eq_true rfl⟩ rfl (ci := 4) rfl rfl rfl rfl (Nat.le_of_ble_eq_true rfl) ⟨Nat.le_of_ble_eq_true rfl, Nat.le_of_ble_eq_true rfl⟩ dX5_count_72 ?_
        exact zg_iret C E dX5_count_75 (by rw [zAcnt, if_pos hx, zn_nI (by decide)]; rfl)
      · skip
        refine zg_tabIn (off := 61) C 76 dX5_count_15 (by rw [show (nI 6).toInt = 6 from by decide]; decide) (by rw [show (nI 6).toInt = 6 from by decide]; decide) (by rw [show (nI 6).toInt = 6 from by decide]; rfl) (by decide) ?_
        refine zg_aload_n C 0 dX5_count_76 rfl ?_
        refine zg_get C 0 (ci := 5) (f := 3) rfl rfl uX5_count_5 (by decide) fX5_count_5_3 dX5_count_77 rfl ?_
        refine zg_callr (As := []) (st := []) C [9, 10] 9 0 (c_X4_bitsSentByBothPlainly l D cI t0 v0 V bs bp sr ) gX5_count_X4_bitsSentByBothPlainly (by decide +kernel) rfl ⟨rfl, rfl⟩ ⟨Nat.le_of_ble_eq_true rfl, Nat.le_of_ble_eq_true rfl⟩ rfl (ci := 4) rfl rfl rfl rfl (Nat.le_of_ble_eq_true rfl) ⟨Nat.le_of_ble_eq_true rfl, Nat.le_of_ble_eq_true rfl⟩ dX5_count_80 ?_
        exact zg_iret C E dX5_count_83 (by rw [zAcnt, if_pos hx, zn_nI (by decide)]; rfl)
      · skip
        refine zg_tabIn (off := 69) C 84 dX5_count_15 (by rw [show (nI 7).toInt = 7 from by decide]; decide) (by rw [show (nI 7).toInt = 7 from by decide]; decide) (by rw [show (nI 7).toInt = 7 from by decide]; rfl) (by decide) ?_
        refine zg_aload_n C 0 dX5_count_84 rfl ?_
        refine zg_get C 0 (ci := 5) (f := 3) rfl rfl uX5_count_5 (by decide) fX5_count_5_3 dX5_count_85 rfl ?_
        refine zg_callr (As := []) (st := []) C [9, 10] 9 0 (c_X4_timesSumsRead l D cI t0 v0 V bs bp sr ) gX5_count_X4_timesSumsRead (by decide +kernel) rfl ⟨rfl, rfl⟩ ⟨Nat.le_of_ble_eq_true rfl, Nat.le_of_ble_eq_true rfl⟩ rfl (ci := 4) rfl rfl rfl rfl (Nat.le_of_ble_eq_true rfl) ⟨Nat.le_of_ble_eq_true rfl, Nat.le_of_ble_eq_true rfl⟩ dX5_count_88 ?_
        exact zg_iret C E dX5_count_91 (by rw [zAcnt, if_pos hx, zn_nI (by decide)]; rfl)
    · skip
      refine zg_sipush (v := (-1002)) C dX5_count_10 (by decide) ?_
      exact zg_iret C E dX5_count_13 (by rw [zAcnt, if_neg (zin_xn (N := 7) (by decide) (Or.inr c_7))])
theorem uX5_drawUnlikePlaces_5 : ∀ w ∈ u_ws RX5 TX5 5, w ∈ wsX5_drawUnlikePlaces := fun w h => List.mem_cons_of_mem _ (List.mem_append_left _ (List.mem_append_left _ (List.mem_append_right _ h)))
theorem fX5_drawUnlikePlaces_5_2 : Cond.fieldLink RX5 26 (TX5 2).1 (TX5 2).2.1 (TX5 2).2.2.1 ∈ wsX5_drawUnlikePlaces := by decide +kernel
theorem fX5_drawUnlikePlaces_5_4 : Cond.fieldLink RX5 40 (TX5 4).1 (TX5 4).2.1 (TX5 4).2.2.1 ∈ wsX5_drawUnlikePlaces := by decide +kernel
set_option maxHeartbeats 1000000 in
set_option maxRecDepth 100000 in
theorem c_X5_drawUnlikePlaces (l : Launch) (D : va_G) (cI : ClassId) (c0 p0 g0 r0 b0 h0 a0 a1 a2 t0 v0 d0 : Nat) (pg : Nat → Int32) (pn : Nat) (x1 x2 x3 : Int32) (Qf Rf Lf Wf : Nat → Int32) (rc ln rk ds su rd : Nat) (V : Nat → Int32) (bs bp sr : Int32) (s : Nat) (R : Nat → Nat) (z : Int32) (hln : ln ≤ 10) (hs : s < 2 ^ 31) : zMw l D cI yX5_drawUnlikePlaces wsX5_drawUnlikePlaces { frames := 1, cells := 0, slots := 0, locals := 21 } [.ref c0, .int z] [(c0, .inr (5, [.ref p0, .ref r0, .ref h0, .ref t0, .ref d0])), (p0, .inr (1, [.ref g0, .int (nI pn)])), (g0, .inl (cI, 56, .inl pg)), (r0, .inr (2, [.ref b0, .int x1, .int x2, .int x3])), (b0, .inl (cI, 5, .inl Qf)), (h0, .inr (3, [.ref a0, .ref a1, .ref a2, .int (nI rc), .int (nI ln), .int (nI rk), .int (nI ds), .int (nI su), .int (nI rd)])), (a0, .inl (cI, 5, .inl Rf)), (a1, .inl (cI, 32, .inl Lf)), (a2, .inl (cI, 11, .inl Wf)), (t0, .inr (4, [.ref v0, .int bs, .int bp, .int sr])), (v0, .inl (cI, 4, .inl V)), (d0, .inr (0, [.int (nI s)]))] (fun v9 w9 => v9 = some (.int (nI ((zul z s ln).2))) ∧ w9 = [(c0, .inr (5, [.ref p0, .ref r0, .ref h0, .ref t0, .ref d0])), (p0, .inr (1, [.ref g0, .int (nI pn)])), (g0, .inl (cI, 56, .inl pg)), (r0, .inr (2, [.ref b0, .int x1, .int x2, .int x3])), (b0, .inl (cI, 5, .inl Qf)), (h0, .inr (3, [.ref a0, .ref a1, .ref a2, .int (nI rc), .int (nI ln), .int (nI rk), .int (nI ds), .int (nI su), .int (nI rd)])), (a0, .inl (cI, 5, .inl Rf)), (a1, .inl (cI, 32, .inl Lf)), (a2, .inl (cI, 11, .inl Wf)), (t0, .inr (4, [.ref v0, .int bs, .int bp, .int sr])), (v0, .inl (cI, 4, .inl V)), (d0, .inr (0, [.int (nI ((zul z s ln).1))]))]) 0 0 := by
  refine zw_ent (maxL := 4) (by decide) rfl (Nat.le_of_ble_eq_true rfl) (fun X C E hin9 => ?_)
  have C : zC X l D cI { frames := 1, cells := 0, slots := 0, locals := 21 } 4 true cX5_drawUnlikePlaces RX5 wsX5_drawUnlikePlaces := C
  refine zg_cv (lv' := [(0, .ref c0), (1, .int z)]) rfl rfl rfl ?_
  refine zg_iconst (v := nI 0) C dX5_drawUnlikePlaces_0 (by decide) ?_
  refine zg_istore_n C [1, 2, 0] (lv' := [(0, .ref c0), (1, .int z), (2, .int (nI 0))]) dX5_drawUnlikePlaces_1 (by decide) rfl ?_
  refine zg_iconst (v := nI 0) C dX5_drawUnlikePlaces_2 (by decide) ?_
  refine zg_istore_n C [1, 2, 3, 0] (lv' := [(0, .ref c0), (1, .int z), (2, .int (nI 0)), (3, .int (nI 0))]) dX5_drawUnlikePlaces_3 (by decide) rfl ?_
  have L_4 : ∀ i, i ≤ ln → zG X 0 0 [(0, .ref c0), (1, .int z), (2, .int (nI ((zul z s i).2))), (3, .int (nI i))] [] [(c0, .inr (5, [.ref p0, .ref r0, .ref h0, .ref t0, .ref d0])), (p0, .inr (1, [.ref g0, .int (nI pn)])), (g0, .inl (cI, 56, .inl pg)), (r0, .inr (2, [.ref b0, .int x1, .int x2, .int x3])), (b0, .inl (cI, 5, .inl Qf)), (h0, .inr (3, [.ref a0, .ref a1, .ref a2, .int (nI rc), .int (nI ln), .int (nI rk), .int (nI ds), .int (nI su), .int (nI rd)])), (a0, .inl (cI, 5, .inl Rf)), (a1, .inl (cI, 32, .inl Lf)), (a2, .inl (cI, 11, .inl Wf)), (t0, .inr (4, [.ref v0, .int bs, .int bp, .int sr])), (v0, .inl (cI, 4, .inl V)), (d0, .inr (0, [.int (nI ((zul z s i).1))]))] 4 := by
    refine zg_dn (fun i hi ih_4  => ?_)
    refine zg_iload_n C 3 dX5_drawUnlikePlaces_4 rfl ?_
    refine zg_aload_n C 0 dX5_drawUnlikePlaces_5 rfl ?_
    refine zg_get C 0 (ci := 5) (f := 2) rfl rfl uX5_drawUnlikePlaces_5 (by decide) fX5_drawUnlikePlaces_5_2 dX5_drawUnlikePlaces_6 rfl ?_
    refine zg_callr (As := []) (st := [.int (nI i)]) C [5, 6, 7, 8] 5 0 (c_X3_length l D cI h0 a0 a1 a2 Rf Lf Wf rc ln rk ds su rd ) gX5_drawUnlikePlaces_X3_length (by decide +kernel) rfl ⟨rfl, rfl⟩ ⟨Nat.le_of_ble_eq_true rfl, Nat.le_of_ble_eq_true rfl⟩ rfl (ci := 3) rfl rfl rfl rfl (Nat.le_of_ble_eq_true rfl) ⟨Nat.le_of_ble_eq_true rfl, Nat.le_of_ble_eq_true rfl⟩ dX5_drawUnlikePlaces_9 ?_
    have q2 := zul_s z hs i
    have q3 := zul_lt z s i
    refine zn_icmp_ge C 39 (by omega) (by omega) dX5_drawUnlikePlaces_12 (by decide) (fun c_12 => ?_) (fun c_12 => ?_)
    · skip
      refine zg_iload_n C 2 dX5_drawUnlikePlaces_39 rfl ?_
      exact zg_wiret C E dX5_drawUnlikePlaces_40 (⟨by rw [show i = ln by omega], by rw [show i = ln by omega]⟩)
    · skip
      refine zg_aload_n C 0 dX5_drawUnlikePlaces_15 rfl ?_
      refine zg_get C 0 (ci := 5) (f := 4) rfl rfl uX5_drawUnlikePlaces_5 (by decide) fX5_drawUnlikePlaces_5_4 dX5_drawUnlikePlaces_16 rfl ?_
      refine zg_iconst (v := nI 4) C dX5_drawUnlikePlaces_19 (by decide) ?_
      refine zg_callw (As := [.int (nI 4)]) (st := []) (wo := [(c0, .inr (5, [.ref p0, .ref r0, .ref h0, .ref t0, .ref d0])), (p0, .inr (1, [.ref g0, .int (nI pn)])), (g0, .inl (cI, 56, .inl pg)), (r0, .inr (2, [.ref b0, .int x1, .int x2, .int x3])), (b0, .inl (cI, 5, .inl Qf)), (h0, .inr (3, [.ref a0, .ref a1, .ref a2, .int (nI rc), .int (nI ln), .int (nI rk), .int (nI ds), .int (nI su), .int (nI rd)])), (a0, .inl (cI, 5, .inl Rf)), (a1, .inl (cI, 32, .inl Lf)), (a2, .inl (cI, 11, .inl Wf)), (t0, .inr (4, [.ref v0, .int bs, .int bp, .int sr])), (v0, .inl (cI, 4, .inl V))]) C [11] [0, 1, 2, 3, 4, 5, 6, 7, 8, 9, 10] 11 1 (c_X0_next l D cI d0 ((zul z s i).1) 4 (q2) (by decide)) gX5_drawUnlikePlaces_X0_next (by decide +kernel) rfl ⟨rfl, rfl⟩ ⟨Nat.le_of_ble_eq_true rfl, Nat.le_of_ble_eq_true rfl⟩ rfl rfl rfl rfl (by decide) (ci := 0) rfl rfl rfl rfl (Nat.le_of_ble_eq_true rfl) ⟨Nat.le_of_ble_eq_true rfl, Nat.le_of_ble_eq_true rfl⟩ dX5_drawUnlikePlaces_20 (fun v9 w9 hw9 => ?_)
      obtain ⟨rfl, rfl⟩ := hw9
      refine zg_cv (k' := 0) (n' := 0) (st' := [.int (nI (zdr ((zul z s i).1) (2 ^ 4)))]) (ws' := [(c0, .inr (5, [.ref p0, .ref r0, .ref h0, .ref t0, .ref d0])), (p0, .inr (1, [.ref g0, .int (nI pn)])), (g0, .inl (cI, 56, .inl pg)), (r0, .inr (2, [.ref b0, .int x1, .int x2, .int x3])), (b0, .inl (cI, 5, .inl Qf)), (h0, .inr (3, [.ref a0, .ref a1, .ref a2, .int (nI rc), .int (nI ln), .int (nI rk), .int (nI ds), .int (nI su), .int (nI rd)])), (a0, .inl (cI, 5, .inl Rf)), (a1, .inl (cI, 32, .inl Lf)), (a2, .inl (cI, 11, .inl Wf)), (t0, .inr (4, [.ref v0, .int bs, .int bp, .int sr])), (v0, .inl (cI, 4, .inl V)), (d0, .inr (0, [.int (nI (znx ((zul z s i).1)))]))]) rfl rfl rfl ?_
      refine zg_cv (st' := [.int (nI (zdr (zul z s i).1 16))]) rfl (rfl) rfl ?_
      refine zg_iload_n C 1 dX5_drawUnlikePlaces_23 rfl ?_
      refine zg_icmp_ge C 33 dX5_drawUnlikePlaces_24 (by decide) (fun c_24 => ?_) (fun c_24 => ?_)
      · skip
        refine zg_iinc C 3 [1, 2, 3, 0] (lv' := [(0, .ref c0), (1, .int z), (2, .int (nI ((zul z s i).2))), (3, .int (nI (i + 1)))]) (nI (i + 1)) dX5_drawUnlikePlaces_33 rfl (zi_inc _) (by decide) rfl ?_
        refine zg_goto C 4 dX5_drawUnlikePlaces_36 (by decide) ?_
        exact zg_cv (lv' := [(0, .ref c0), (1, .int z), (2, .int (nI ((zul z s (i + 1)).2))), (3, .int (nI (i + 1)))]) (by rw [show (zul z s (i + 1)).2 = (zul z s i).2 + (if nI (zdr (zul z s i).1 16) < z then 2 ^ i else 0) from rfl, if_neg (zlt_not.mpr c_24), Nat.add_zero (zul z s i).2]) rfl (rfl) (ih_4 (by omega) )
      · skip
        refine zg_iload_n C 2 dX5_drawUnlikePlaces_27 rfl ?_
        refine zg_iconst (v := nI 1) C dX5_drawUnlikePlaces_28 (by decide) ?_
        refine zg_iload_n C 3 dX5_drawUnlikePlaces_29 rfl ?_
        refine zg_ishl C dX5_drawUnlikePlaces_30 (nI (2 ^ i)) (zi_shl1 (by omega)) ?_
        refine zg_ior C dX5_drawUnlikePlaces_31 (nI ((zul z s i).2 + 2 ^ i)) ((zi_or _ _).trans (congrArg nI (by have := zor_add (b := 1) q3; rw [Nat.one_mul] at this; exact this))) ?_
        refine zg_istore_n C [1, 2, 0, 3] (lv' := [(0, .ref c0), (1, .int z), (2, .int (nI ((zul z s i).2 + 2 ^ i))), (3, .int (nI i))]) dX5_drawUnlikePlaces_32 (by decide) rfl ?_
        refine zg_iinc C 3 [1, 2, 3, 0] (lv' := [(0, .ref c0), (1, .int z), (2, .int (nI ((zul z s i).2 + 2 ^ i))), (3, .int (nI (i + 1)))]) (nI (i + 1)) dX5_drawUnlikePlaces_33 rfl (zi_inc _) (by decide) rfl ?_
        refine zg_goto C 4 dX5_drawUnlikePlaces_36 (by decide) ?_
        exact zg_cv (lv' := [(0, .ref c0), (1, .int z), (2, .int (nI ((zul z s (i + 1)).2))), (3, .int (nI (i + 1)))]) (by rw [show (zul z s (i + 1)).2 = (zul z s i).2 + (if nI (zdr (zul z s i).1 16) < z then 2 ^ i else 0) from rfl, if_pos (zle_not.mp c_24)]) rfl (rfl) (ih_4 (by omega) )
  exact zg_cv (lv' := [(0, .ref c0), (1, .int z), (2, .int (nI ((zul z s 0).2))), (3, .int (nI 0))]) (rfl) rfl (rfl) (L_4 0 (Nat.zero_le _) )
theorem uX5_run_5 : ∀ w ∈ u_ws RX5 TX5 5, w ∈ wsX5_run := fun w h => List.mem_cons_of_mem _ (List.mem_append_left _ (List.mem_append_left _ (List.mem_append_left _ (List.mem_append_right _ h))))
theorem fX5_run_5_2 : Cond.fieldLink RX5 26 (TX5 2).1 (TX5 2).2.1 (TX5 2).2.2.1 ∈ wsX5_run := by decide +kernel
theorem fX5_run_5_4 : Cond.fieldLink RX5 40 (TX5 4).1 (TX5 4).2.1 (TX5 4).2.2.1 ∈ wsX5_run := by decide +kernel
set_option maxHeartbeats 1000000 in
set_option maxRecDepth 100000 in
theorem c_X5_run (l : Launch) (D : va_G) (cI : ClassId) (c0 p0 g0 r0 b0 h0 a0 a1 a2 t0 v0 d0 : Nat) (pg : Nat → Int32) (pn : Nat) (x1 x2 x3 : Int32) (Qf Rf Lf Wf : Nat → Int32) (rc ln rk ds su rd : Nat) (V : Nat → Int32) (bs bp sr sd : Int32) (R : Nat → Nat) (s m : Nat) (z : Int32) (hS : zSm R Rf Lf Wf rc ln rk ds su rd) (hln : ln ≤ 10) (h0l : 0 < ln) (hs : s < 2 ^ 31) (hm1 : 1 ≤ m) (hm2 : m ≤ 50) (hz1 : ¬ z < 0) (hz2 : z ≤ nI 16) : zMw l D cI yX5_run wsX5_run { frames := 6, cells := 0, slots := 0, locals := 131 } [.ref c0, .int (nI s), .int (nI m), .int z] [(c0, .inr (5, [.ref p0, .ref r0, .ref h0, .ref t0, .ref d0])), (p0, .inr (1, [.ref g0, .int (nI pn)])), (g0, .inl (cI, 56, .inl pg)), (r0, .inr (2, [.ref b0, .int x1, .int x2, .int x3])), (b0, .inl (cI, 5, .inl Qf)), (h0, .inr (3, [.ref a0, .ref a1, .ref a2, .int (nI rc), .int (nI ln), .int (nI rk), .int (nI ds), .int (nI su), .int (nI rd)])), (a0, .inl (cI, 5, .inl Rf)), (a1, .inl (cI, 32, .inl Lf)), (a2, .inl (cI, 11, .inl Wf)), (t0, .inr (4, [.ref v0, .int bs, .int bp, .int sr])), (v0, .inl (cI, 4, .inl V)), (d0, .inr (0, [.int sd]))] (fun v9 w9 => v9 = some (.int (nI ((zrn R rc ln z s V bs bp m).2.2.2.2))) ∧ w9 = [(c0, .inr (5, [.ref p0, .ref r0, .ref h0, .ref t0, .ref d0])), (p0, .inr (1, [.ref g0, .int (nI pn)])), (g0, .inl (cI, 56, .inl pg)), (r0, .inr (2, [.ref b0, .int x1, .int x2, .int x3])), (b0, .inl (cI, 5, .inl Qf)), (h0, .inr (3, [.ref a0, .ref a1, .ref a2, .int (nI rc), .int (nI ln), .int (nI rk), .int (nI ds), .int (nI su), .int (nI rd)])), (a0, .inl (cI, 5, .inl Rf)), (a1, .inl (cI, 32, .inl Lf)), (a2, .inl (cI, 11, .inl Wf)), (t0, .inr (4, [.ref v0, .int ((zrn R rc ln z s V bs bp m).2.2.1), .int ((zrn R rc ln z s V bs bp m).2.2.2.1), .int sr])), (v0, .inl (cI, 4, .inl ((zrn R rc ln z s V bs bp m).2.1))), (d0, .inr (0, [.int (nI ((zrn R rc ln z s V bs bp m).1))]))]) 0 0 := by
  refine zw_ent (maxL := 8) (by decide) rfl (Nat.le_of_ble_eq_true rfl) (fun X C E hin9 => ?_)
  have C : zC X l D cI { frames := 6, cells := 0, slots := 0, locals := 131 } 8 true cX5_run RX5 wsX5_run := C
  refine zg_cv (lv' := [(0, .ref c0), (1, .int (nI s)), (2, .int (nI m)), (3, .int z)]) rfl rfl rfl ?_
  have q0 := zpw hln
  have q1 := zpw0 ln
  refine zg_aload_n C 0 dX5_run_0 rfl ?_
  refine zg_get C 0 (ci := 5) (f := 2) rfl rfl uX5_run_5 (by decide) fX5_run_5_2 dX5_run_1 rfl ?_
  refine zg_callr (As := []) (st := []) C [5, 6, 7, 8] 5 0 (c_X3_areThere l D cI h0 a0 a1 a2 Rf Lf Wf rc ln rk ds su rd hln) gX5_run_X3_areThere (by decide +kernel) rfl ⟨rfl, rfl⟩ ⟨Nat.le_of_ble_eq_true rfl, Nat.le_of_ble_eq_true rfl⟩ rfl (ci := 3) rfl rfl rfl rfl (Nat.le_of_ble_eq_true rfl) ⟨Nat.le_of_ble_eq_true rfl, Nat.le_of_ble_eq_true rfl⟩ dX5_run_4 ?_
  refine zp_if_ne C 14 dX5_run_7 (by decide) (fun c_7 => ?_) (fun c_7 => by exact absurd h0l c_7)
  refine zg_iload_n C 1 dX5_run_14 rfl ?_
  refine zn_if_lt C 39 (by omega) dX5_run_15 (by decide) ?_
  refine zg_iload_n C 2 dX5_run_18 rfl ?_
  refine zg_iconst (v := nI 1) C dX5_run_19 (by decide) ?_
  refine zn_icmp_lt C 39 (by omega) (by omega) dX5_run_20 (by decide) (fun c_20 => by omega) (fun c_20 => ?_)
  refine zg_iload_n C 2 dX5_run_23 rfl ?_
  refine zg_bipush (v := nI 50) C dX5_run_24 (by decide) ?_
  refine zn_icmp_gt C 39 (by omega) (by omega) dX5_run_26 (by decide) (fun c_26 => by omega) (fun c_26 => ?_)
  refine zg_iload_n C 3 dX5_run_29 rfl ?_
  refine zg_if_lt C 39 dX5_run_30 (by decide) (fun c_30 => by exact absurd c_30 hz1) (fun c_30 => ?_)
  refine zg_iload_n C 3 dX5_run_33 rfl ?_
  refine zg_bipush (v := nI 16) C dX5_run_34 (by decide) ?_
  refine zg_icmp_le C 43 dX5_run_36 (by decide) (fun c_36 => ?_) (fun c_36 => by exact absurd hz2 c_36)
  refine zg_aload_n C 0 dX5_run_43 rfl ?_
  refine zg_get C 0 (ci := 5) (f := 4) rfl rfl uX5_run_5 (by decide) fX5_run_5_4 dX5_run_44 rfl ?_
  refine zg_iload_n C 1 dX5_run_47 rfl ?_
  refine zg_callw (As := [.int (nI s)]) (st := []) (wo := [(c0, .inr (5, [.ref p0, .ref r0, .ref h0, .ref t0, .ref d0])), (p0, .inr (1, [.ref g0, .int (nI pn)])), (g0, .inl (cI, 56, .inl pg)), (r0, .inr (2, [.ref b0, .int x1, .int x2, .int x3])), (b0, .inl (cI, 5, .inl Qf)), (h0, .inr (3, [.ref a0, .ref a1, .ref a2, .int (nI rc), .int (nI ln), .int (nI rk), .int (nI ds), .int (nI su), .int (nI rd)])), (a0, .inl (cI, 5, .inl Rf)), (a1, .inl (cI, 32, .inl Lf)), (a2, .inl (cI, 11, .inl Wf)), (t0, .inr (4, [.ref v0, .int bs, .int bp, .int sr])), (v0, .inl (cI, 4, .inl V))]) C [11] [0, 1, 2, 3, 4, 5, 6, 7, 8, 9, 10] 11 1 (c_X0_startFrom l D cI d0 sd (nI s) ) gX5_run_X0_startFrom (by decide +kernel) rfl ⟨rfl, rfl⟩ ⟨Nat.le_of_ble_eq_true rfl, Nat.le_of_ble_eq_true rfl⟩ rfl rfl rfl rfl (by decide) (ci := 0) rfl rfl rfl rfl (Nat.le_of_ble_eq_true rfl) ⟨Nat.le_of_ble_eq_true rfl, Nat.le_of_ble_eq_true rfl⟩ dX5_run_48 (fun v9 w9 hw9 => ?_)
  obtain ⟨rfl, rfl⟩ := hw9
  refine zg_cv (k' := 0) (n' := 0) (st' := []) (ws' := [(c0, .inr (5, [.ref p0, .ref r0, .ref h0, .ref t0, .ref d0])), (p0, .inr (1, [.ref g0, .int (nI pn)])), (g0, .inl (cI, 56, .inl pg)), (r0, .inr (2, [.ref b0, .int x1, .int x2, .int x3])), (b0, .inl (cI, 5, .inl Qf)), (h0, .inr (3, [.ref a0, .ref a1, .ref a2, .int (nI rc), .int (nI ln), .int (nI rk), .int (nI ds), .int (nI su), .int (nI rd)])), (a0, .inl (cI, 5, .inl Rf)), (a1, .inl (cI, 32, .inl Lf)), (a2, .inl (cI, 11, .inl Wf)), (t0, .inr (4, [.ref v0, .int bs, .int bp, .int sr])), (v0, .inl (cI, 4, .inl V)), (d0, .inr (0, [.int (nI s)]))]) rfl rfl rfl ?_
  refine zg_iconst (v := nI 0) C dX5_run_51 (by decide) ?_
  refine zg_istore C [1, 2, 3, 4, 0] (lv' := [(0, .ref c0), (1, .int (nI s)), (2, .int (nI m)), (3, .int z), (4, .int (nI 0))]) dX5_run_52 (by decide) rfl ?_
  refine zg_iconst (v := nI 0) C dX5_run_54 (by decide) ?_
  refine zg_istore C [1, 2, 3, 4, 5, 0] (lv' := [(0, .ref c0), (1, .int (nI s)), (2, .int (nI m)), (3, .int z), (4, .int (nI 0)), (5, .int (nI 0))]) dX5_run_55 (by decide) rfl ?_
  have L_57 : ∀ i, i ≤ m → zG X 0 0 [(0, .ref c0), (1, .int (nI s)), (2, .int (nI m)), (3, .int z), (4, .int (nI ((zrn R rc ln z s V bs bp i).2.2.2.2))), (5, .int (nI i))] [] [(c0, .inr (5, [.ref p0, .ref r0, .ref h0, .ref t0, .ref d0])), (p0, .inr (1, [.ref g0, .int (nI pn)])), (g0, .inl (cI, 56, .inl pg)), (r0, .inr (2, [.ref b0, .int x1, .int x2, .int x3])), (b0, .inl (cI, 5, .inl Qf)), (h0, .inr (3, [.ref a0, .ref a1, .ref a2, .int (nI rc), .int (nI ln), .int (nI rk), .int (nI ds), .int (nI su), .int (nI rd)])), (a0, .inl (cI, 5, .inl Rf)), (a1, .inl (cI, 32, .inl Lf)), (a2, .inl (cI, 11, .inl Wf)), (t0, .inr (4, [.ref v0, .int ((zrn R rc ln z s V bs bp i).2.2.1), .int ((zrn R rc ln z s V bs bp i).2.2.2.1), .int sr])), (v0, .inl (cI, 4, .inl ((zrn R rc ln z s V bs bp i).2.1))), (d0, .inr (0, [.int (nI ((zrn R rc ln z s V bs bp i).1))]))] 57 := by
    refine zg_dn (fun i hi ih_57  => ?_)
    refine zg_iload C 5 dX5_run_57 rfl ?_
    refine zg_iload_n C 2 dX5_run_59 rfl ?_
    have q2 := zrn_s R rc ln z V bs bp hs i
    have q3 := znx_lt (zrn R rc ln z s V bs bp i).1
    have q4 := zul_lt z (znx (zrn R rc ln z s V bs bp i).1) ln
    have q6 : (zdr (zrn R rc ln z s V bs bp i).1 (2 ^ ln)) < 2 ^ ln := Nat.mod_lt _ q1
    have q7 : ((zdr (zrn R rc ln z s V bs bp i).1 (2 ^ ln)) ^^^ (zul z (znx (zrn R rc ln z s V bs bp i).1) ln).2) < 2 ^ ln := Nat.xor_lt_two_pow q6 q4
    have q8 := zvr_lt R rc ln (zdr (zrn R rc ln z s V bs bp i).1 (2 ^ ln)) ((zdr (zrn R rc ln z s V bs bp i).1 (2 ^ ln)) ^^^ (zul z (znx (zrn R rc ln z s V bs bp i).1) ln).2)
    refine zn_icmp_ge C 110 (by omega) (by omega) dX5_run_60 (by decide) (fun c_60 => ?_) (fun c_60 => ?_)
    · skip
      have e9_110 : m = i := by omega
      subst e9_110
      refine zg_iload C 4 dX5_run_110 rfl ?_
      exact zg_wiret C E dX5_run_112 (⟨rfl, rfl⟩)
    · skip
      refine zg_aload_n C 0 dX5_run_63 rfl ?_
      refine zg_get C 0 (ci := 5) (f := 4) rfl rfl uX5_run_5 (by decide) fX5_run_5_4 dX5_run_64 rfl ?_
      refine zg_aload_n C 0 dX5_run_67 rfl ?_
      refine zg_get C 0 (ci := 5) (f := 2) rfl rfl uX5_run_5 (by decide) fX5_run_5_2 dX5_run_68 rfl ?_
      refine zg_callr (As := []) (st := [.ref d0]) C [5, 6, 7, 8] 5 0 (c_X3_length l D cI h0 a0 a1 a2 Rf Lf Wf rc ln rk ds su rd ) gX5_run_X3_length (by decide +kernel) rfl ⟨rfl, rfl⟩ ⟨Nat.le_of_ble_eq_true rfl, Nat.le_of_ble_eq_true rfl⟩ rfl (ci := 3) rfl rfl rfl rfl (Nat.le_of_ble_eq_true rfl) ⟨Nat.le_of_ble_eq_true rfl, Nat.le_of_ble_eq_true rfl⟩ dX5_run_71 ?_
      refine zg_callw (As := [.int (nI ln)]) (st := []) (wo := [(c0, .inr (5, [.ref p0, .ref r0, .ref h0, .ref t0, .ref d0])), (p0, .inr (1, [.ref g0, .int (nI pn)])), (g0, .inl (cI, 56, .inl pg)), (r0, .inr (2, [.ref b0, .int x1, .int x2, .int x3])), (b0, .inl (cI, 5, .inl Qf)), (h0, .inr (3, [.ref a0, .ref a1, .ref a2, .int (nI rc), .int (nI ln), .int (nI rk), .int (nI ds), .int (nI su), .int (nI rd)])), (a0, .inl (cI, 5, .inl Rf)), (a1, .inl (cI, 32, .inl Lf)), (a2, .inl (cI, 11, .inl Wf)), (t0, .inr (4, [.ref v0, .int ((zrn R rc ln z s V bs bp i).2.2.1), .int ((zrn R rc ln z s V bs bp i).2.2.2.1), .int sr])), (v0, .inl (cI, 4, .inl ((zrn R rc ln z s V bs bp i).2.1)))]) C [11] [0, 1, 2, 3, 4, 5, 6, 7, 8, 9, 10] 11 1 (c_X0_next l D cI d0 ((zrn R rc ln z s V bs bp i).1) ln (q2.1) (hln)) gX5_run_X0_next (by decide +kernel) rfl ⟨rfl, rfl⟩ ⟨Nat.le_of_ble_eq_true rfl, Nat.le_of_ble_eq_true rfl⟩ rfl rfl rfl rfl (by decide) (ci := 0) rfl rfl rfl rfl (Nat.le_of_ble_eq_true rfl) ⟨Nat.le_of_ble_eq_true rfl, Nat.le_of_ble_eq_true rfl⟩ dX5_run_74 (fun v9 w9 hw9 => ?_)
      obtain ⟨rfl, rfl⟩ := hw9
      refine zg_cv (k' := 0) (n' := 0) (st' := [.int (nI (zdr ((zrn R rc ln z s V bs bp i).1) (2 ^ ln)))]) (ws' := [(c0, .inr (5, [.ref p0, .ref r0, .ref h0, .ref t0, .ref d0])), (p0, .inr (1, [.ref g0, .int (nI pn)])), (g0, .inl (cI, 56, .inl pg)), (r0, .inr (2, [.ref b0, .int x1, .int x2, .int x3])), (b0, .inl (cI, 5, .inl Qf)), (h0, .inr (3, [.ref a0, .ref a1, .ref a2, .int (nI rc), .int (nI ln), .int (nI rk), .int (nI ds), .int (nI su), .int (nI rd)])), (a0, .inl (cI, 5, .inl Rf)), (a1, .inl (cI, 32, .inl Lf)), (a2, .inl (cI, 11, .inl Wf)), (t0, .inr (4, [.ref v0, .int ((zrn R rc ln z s V bs bp i).2.2.1), .int ((zrn R rc ln z s V bs bp i).2.2.2.1), .int sr])), (v0, .inl (cI, 4, .inl ((zrn R rc ln z s V bs bp i).2.1))), (d0, .inr (0, [.int (nI (znx ((zrn R rc ln z s V bs bp i).1)))]))]) rfl rfl rfl ?_
      refine zg_istore C [1, 2, 3, 4, 5, 6, 0] (lv' := [(0, .ref c0), (1, .int (nI s)), (2, .int (nI m)), (3, .int z), (4, .int (nI ((zrn R rc ln z s V bs bp i).2.2.2.2))), (5, .int (nI i)), (6, .int (nI (zdr ((zrn R rc ln z s V bs bp i).1) (2 ^ ln))))]) dX5_run_77 (by decide) rfl ?_
      refine zg_iload C 6 dX5_run_79 rfl ?_
      refine zg_aload_n C 0 dX5_run_81 rfl ?_
      refine zg_iload_n C 3 dX5_run_82 rfl ?_
      refine zg_callw (As := [.int z]) (st := [.int (nI (zdr ((zrn R rc ln z s V bs bp i).1) (2 ^ ln)))]) (wo := []) C [0, 1, 2, 3, 4, 5, 6, 7, 8, 9, 10, 11] [] 0 1 (c_X5_drawUnlikePlaces l D cI c0 p0 g0 r0 b0 h0 a0 a1 a2 t0 v0 d0 pg pn x1 x2 x3 Qf Rf Lf Wf rc ln rk ds su rd ((zrn R rc ln z s V bs bp i).2.1) ((zrn R rc ln z s V bs bp i).2.2.1) ((zrn R rc ln z s V bs bp i).2.2.2.1) sr (znx ((zrn R rc ln z s V bs bp i).1)) R z hln (q3)) gX5_run_X5_drawUnlikePlaces (by decide +kernel) rfl ⟨rfl, rfl⟩ ⟨Nat.le_of_ble_eq_true rfl, Nat.le_of_ble_eq_true rfl⟩ rfl rfl rfl rfl (by decide) (ci := 5) rfl rfl rfl rfl (Nat.le_of_ble_eq_true rfl) ⟨Nat.le_of_ble_eq_true rfl, Nat.le_of_ble_eq_true rfl⟩ dX5_run_83 (fun v9 w9 hw9 => ?_)
      obtain ⟨rfl, rfl⟩ := hw9
      refine zg_cv (k' := 0) (n' := 0) (st' := [.int (nI ((zul z (znx ((zrn R rc ln z s V bs bp i).1)) ln).2)), .int (nI (zdr ((zrn R rc ln z s V bs bp i).1) (2 ^ ln)))]) (ws' := [(c0, .inr (5, [.ref p0, .ref r0, .ref h0, .ref t0, .ref d0])), (p0, .inr (1, [.ref g0, .int (nI pn)])), (g0, .inl (cI, 56, .inl pg)), (r0, .inr (2, [.ref b0, .int x1, .int x2, .int x3])), (b0, .inl (cI, 5, .inl Qf)), (h0, .inr (3, [.ref a0, .ref a1, .ref a2, .int (nI rc), .int (nI ln), .int (nI rk), .int (nI ds), .int (nI su), .int (nI rd)])), (a0, .inl (cI, 5, .inl Rf)), (a1, .inl (cI, 32, .inl Lf)), (a2, .inl (cI, 11, .inl Wf)), (t0, .inr (4, [.ref v0, .int ((zrn R rc ln z s V bs bp i).2.2.1), .int ((zrn R rc ln z s V bs bp i).2.2.2.1), .int sr])), (v0, .inl (cI, 4, .inl ((zrn R rc ln z s V bs bp i).2.1))), (d0, .inr (0, [.int (nI ((zul z (znx ((zrn R rc ln z s V bs bp i).1)) ln).1))]))]) rfl rfl rfl ?_
      refine zg_ixor C dX5_run_86 (nI ((zdr ((zrn R rc ln z s V bs bp i).1) (2 ^ ln)) ^^^ ((zul z (znx ((zrn R rc ln z s V bs bp i).1)) ln).2))) (zi_xor _ _) ?_
      refine zg_istore C [1, 2, 3, 4, 5, 6, 7, 0] (lv' := [(0, .ref c0), (1, .int (nI s)), (2, .int (nI m)), (3, .int z), (4, .int (nI ((zrn R rc ln z s V bs bp i).2.2.2.2))), (5, .int (nI i)), (6, .int (nI (zdr ((zrn R rc ln z s V bs bp i).1) (2 ^ ln)))), (7, .int (nI ((zdr ((zrn R rc ln z s V bs bp i).1) (2 ^ ln)) ^^^ ((zul z (znx ((zrn R rc ln z s V bs bp i).1)) ln).2))))]) dX5_run_87 (by decide) rfl ?_
      refine zg_aload_n C 0 dX5_run_89 rfl ?_
      refine zg_iload C 6 dX5_run_90 rfl ?_
      refine zg_iload C 7 dX5_run_92 rfl ?_
      refine zg_callw (As := [.int (nI (zdr ((zrn R rc ln z s V bs bp i).1) (2 ^ ln))), .int (nI ((zdr ((zrn R rc ln z s V bs bp i).1) (2 ^ ln)) ^^^ ((zul z (znx ((zrn R rc ln z s V bs bp i).1)) ln).2)))]) (st := []) (wo := []) C [0, 1, 2, 3, 4, 5, 6, 7, 8, 9, 10, 11] [] 0 2 (c_X5_sendAndCount l D cI c0 p0 g0 r0 b0 h0 a0 a1 a2 t0 v0 d0 pg pn x1 x2 x3 Qf Rf Lf Wf rc ln rk ds su rd ((zrn R rc ln z s V bs bp i).2.1) ((zrn R rc ln z s V bs bp i).2.2.1) ((zrn R rc ln z s V bs bp i).2.2.2.1) sr (nI ((zul z (znx ((zrn R rc ln z s V bs bp i).1)) ln).1)) R (zdr ((zrn R rc ln z s V bs bp i).1) (2 ^ ln)) ((zdr ((zrn R rc ln z s V bs bp i).1) (2 ^ ln)) ^^^ ((zul z (znx ((zrn R rc ln z s V bs bp i).1)) ln).2)) hS hln h0l (q6) (q7)) gX5_run_X5_sendAndCount (by decide +kernel) rfl ⟨rfl, rfl⟩ ⟨Nat.le_of_ble_eq_true rfl, Nat.le_of_ble_eq_true rfl⟩ rfl rfl rfl rfl (by decide) (ci := 5) rfl rfl rfl rfl (Nat.le_of_ble_eq_true rfl) ⟨Nat.le_of_ble_eq_true rfl, Nat.le_of_ble_eq_true rfl⟩ dX5_run_94 (fun v9 w9 hw9 => ?_)
      obtain ⟨rfl, rfl⟩ := hw9
      refine zg_cv (k' := 0) (n' := 0) (st' := [.int (nI (zvr R rc ln (zdr ((zrn R rc ln z s V bs bp i).1) (2 ^ ln)) ((zdr ((zrn R rc ln z s V bs bp i).1) (2 ^ ln)) ^^^ ((zul z (znx ((zrn R rc ln z s V bs bp i).1)) ln).2))))]) (ws' := [(c0, .inr (5, [.ref p0, .ref r0, .ref h0, .ref t0, .ref d0])), (p0, .inr (1, [.ref g0, .int (nI pn)])), (g0, .inl (cI, 56, .inl pg)), (r0, .inr (2, [.ref b0, .int x1, .int x2, .int x3])), (b0, .inl (cI, 5, .inl Qf)), (h0, .inr (3, [.ref a0, .ref a1, .ref a2, .int (nI rc), .int (nI ln), .int (nI rk), .int (nI ds), .int (nI su), .int (nI rd)])), (a0, .inl (cI, 5, .inl Rf)), (a1, .inl (cI, 32, .inl Lf)), (a2, .inl (cI, 11, .inl Wf)), (t0, .inr (4, [.ref v0, .int (((zrn R rc ln z s V bs bp i).2.2.1) + nI (ln + zrk R rc ln)), .int (((zrn R rc ln z s V bs bp i).2.2.2.1) + nI (2 * ln)), .int sr])), (v0, .inl (cI, 4, .inl (upd ((zrn R rc ln z s V bs bp i).2.1) (zvr R rc ln (zdr ((zrn R rc ln z s V bs bp i).1) (2 ^ ln)) ((zdr ((zrn R rc ln z s V bs bp i).1) (2 ^ ln)) ^^^ ((zul z (znx ((zrn R rc ln z s V bs bp i).1)) ln).2))) (((zrn R rc ln z s V bs bp i).2.1) (zvr R rc ln (zdr ((zrn R rc ln z s V bs bp i).1) (2 ^ ln)) ((zdr ((zrn R rc ln z s V bs bp i).1) (2 ^ ln)) ^^^ ((zul z (znx ((zrn R rc ln z s V bs bp i).1)) ln).2))) + nI 1)))), (d0, .inr (0, [.int (nI ((zul z (znx ((zrn R rc ln z s V bs bp i).1)) ln).1))]))]) rfl rfl rfl ?_
      refine zg_iconst (v := nI 3) C dX5_run_97 (by decide) ?_
      refine zn_icmp_ne C 104 (by omega) (by omega) dX5_run_98 (by decide) (fun c_98 => ?_) (fun c_98 => ?_)
      · skip
        refine zg_iinc C 5 [1, 2, 3, 4, 5, 0, 6, 7] (lv' := [(0, .ref c0), (1, .int (nI s)), (2, .int (nI m)), (3, .int z), (4, .int (nI ((zrn R rc ln z s V bs bp i).2.2.2.2))), (5, .int (nI (i + 1))), (6, .int (nI (zdr ((zrn R rc ln z s V bs bp i).1) (2 ^ ln)))), (7, .int (nI ((zdr ((zrn R rc ln z s V bs bp i).1) (2 ^ ln)) ^^^ ((zul z (znx ((zrn R rc ln z s V bs bp i).1)) ln).2))))]) (nI (i + 1)) dX5_run_104 rfl (zi_inc _) (by decide) rfl ?_
        refine zg_goto C 57 dX5_run_107 (by decide) ?_
        refine zg_lv [0, 1, 2, 3, 4, 5] (lv' := [(0, .ref c0), (1, .int (nI s)), (2, .int (nI m)), (3, .int z), (4, .int (nI ((zrn R rc ln z s V bs bp i).2.2.2.2))), (5, .int (nI (i + 1)))]) rfl ?_
        exact zg_cv (lv' := [(0, .ref c0), (1, .int (nI s)), (2, .int (nI m)), (3, .int z), (4, .int (nI ((zrn R rc ln z s V bs bp (i + 1)).2.2.2.2))), (5, .int (nI (i + 1)))]) (by rw [show (zrn R rc ln z s V bs bp (i + 1)).2.2.2.2 = (zrn R rc ln z s V bs bp i).2.2.2.2 + (if zvr R rc ln (zdr (zrn R rc ln z s V bs bp i).1 (2 ^ ln)) ((zdr (zrn R rc ln z s V bs bp i).1 (2 ^ ln)) ^^^ (zul z (znx (zrn R rc ln z s V bs bp i).1) ln).2) = 3 then 1 else 0) from rfl, if_neg c_98, Nat.add_zero (zrn R rc ln z s V bs bp i).2.2.2.2]) rfl (rfl) (ih_57 (by omega) )
      · skip
        refine zg_iinc C 4 [1, 2, 3, 4, 0, 5, 6, 7] (lv' := [(0, .ref c0), (1, .int (nI s)), (2, .int (nI m)), (3, .int z), (4, .int (nI ((zrn R rc ln z s V bs bp i).2.2.2.2 + 1))), (5, .int (nI i)), (6, .int (nI (zdr ((zrn R rc ln z s V bs bp i).1) (2 ^ ln)))), (7, .int (nI ((zdr ((zrn R rc ln z s V bs bp i).1) (2 ^ ln)) ^^^ ((zul z (znx ((zrn R rc ln z s V bs bp i).1)) ln).2))))]) (nI ((zrn R rc ln z s V bs bp i).2.2.2.2 + 1)) dX5_run_101 rfl (zi_inc _) (by decide) rfl ?_
        refine zg_iinc C 5 [1, 2, 3, 4, 5, 0, 6, 7] (lv' := [(0, .ref c0), (1, .int (nI s)), (2, .int (nI m)), (3, .int z), (4, .int (nI ((zrn R rc ln z s V bs bp i).2.2.2.2 + 1))), (5, .int (nI (i + 1))), (6, .int (nI (zdr ((zrn R rc ln z s V bs bp i).1) (2 ^ ln)))), (7, .int (nI ((zdr ((zrn R rc ln z s V bs bp i).1) (2 ^ ln)) ^^^ ((zul z (znx ((zrn R rc ln z s V bs bp i).1)) ln).2))))]) (nI (i + 1)) dX5_run_104 rfl (zi_inc _) (by decide) rfl ?_
        refine zg_goto C 57 dX5_run_107 (by decide) ?_
        refine zg_lv [0, 1, 2, 3, 4, 5] (lv' := [(0, .ref c0), (1, .int (nI s)), (2, .int (nI m)), (3, .int z), (4, .int (nI ((zrn R rc ln z s V bs bp i).2.2.2.2 + 1))), (5, .int (nI (i + 1)))]) rfl ?_
        exact zg_cv (lv' := [(0, .ref c0), (1, .int (nI s)), (2, .int (nI m)), (3, .int z), (4, .int (nI ((zrn R rc ln z s V bs bp (i + 1)).2.2.2.2))), (5, .int (nI (i + 1)))]) (by rw [show (zrn R rc ln z s V bs bp (i + 1)).2.2.2.2 = (zrn R rc ln z s V bs bp i).2.2.2.2 + (if zvr R rc ln (zdr (zrn R rc ln z s V bs bp i).1 (2 ^ ln)) ((zdr (zrn R rc ln z s V bs bp i).1 (2 ^ ln)) ^^^ (zul z (znx (zrn R rc ln z s V bs bp i).1) ln).2) = 3 then 1 else 0) from rfl, if_pos c_98]) rfl (rfl) (ih_57 (by omega) )
  exact zg_cv (lv' := [(0, .ref c0), (1, .int (nI s)), (2, .int (nI m)), (3, .int z), (4, .int (nI ((zrn R rc ln z s V bs bp 0).2.2.2.2))), (5, .int (nI 0))]) (rfl) rfl (rfl) (L_57 0 (Nat.zero_le _) )
theorem uc_X5_run_no_5 : ∀ w ∈ u_ws RX5 TX5 5, w ∈ wsX5_run := fun w h => List.mem_cons_of_mem _ (List.mem_append_left _ (List.mem_append_left _ (List.mem_append_left _ (List.mem_append_right _ h))))
theorem fc_X5_run_no_5_2 : Cond.fieldLink RX5 26 (TX5 2).1 (TX5 2).2.1 (TX5 2).2.2.1 ∈ wsX5_run := by decide +kernel
set_option maxHeartbeats 1000000 in
set_option maxRecDepth 100000 in
theorem c_X5_run_no (l : Launch) (D : va_G) (cI : ClassId) (c0 p0 g0 r0 b0 h0 a0 a1 a2 t0 v0 d0 : Nat) (pg : Nat → Int32) (pn : Nat) (x1 x2 x3 : Int32) (Qf Rf Lf Wf : Nat → Int32) (rc ln rk ds su rd : Nat) (V : Nat → Int32) (bs bp sr sd : Int32) (R : Nat → Nat) (x y z : Int32) (hln : ln ≤ 10) (hno : ¬ (0 < ln ∧ ¬ x < 0 ∧ ¬ y < nI 1 ∧ ¬ nI 50 < y ∧ ¬ z < 0 ∧ z ≤ nI 16)) : zMr l D cI yX5_run wsX5_run { frames := 1, cells := 0, slots := 0, locals := 20 } [.ref c0, .int x, .int y, .int z] [(c0, .inr (5, [.ref p0, .ref r0, .ref h0, .ref t0, .ref d0])), (p0, .inr (1, [.ref g0, .int (nI pn)])), (g0, .inl (cI, 56, .inl pg)), (r0, .inr (2, [.ref b0, .int x1, .int x2, .int x3])), (b0, .inl (cI, 5, .inl Qf)), (h0, .inr (3, [.ref a0, .ref a1, .ref a2, .int (nI rc), .int (nI ln), .int (nI rk), .int (nI ds), .int (nI su), .int (nI rd)])), (a0, .inl (cI, 5, .inl Rf)), (a1, .inl (cI, 32, .inl Lf)), (a2, .inl (cI, 11, .inl Wf)), (t0, .inr (4, [.ref v0, .int bs, .int bp, .int sr])), (v0, .inl (cI, 4, .inl V)), (d0, .inr (0, [.int sd]))] (if 0 < ln then -1002 else -1003) := by
  refine zr_ent (maxL := 8) (by decide) rfl (Nat.le_of_ble_eq_true rfl) (fun X C E => ?_)
  have C : zC X l D cI { frames := 1, cells := 0, slots := 0, locals := 20 } 8 false cX5_run RX5 wsX5_run := C
  refine zg_cv (lv' := [(0, .ref c0), (1, .int x), (2, .int y), (3, .int z)]) rfl rfl rfl ?_
  refine zg_aload_n C 0 dX5_run_0 rfl ?_
  refine zg_get C 0 (ci := 5) (f := 2) rfl rfl uc_X5_run_no_5 (by decide) fc_X5_run_no_5_2 dX5_run_1 rfl ?_
  refine zg_callr (As := []) (st := []) C [5, 6, 7, 8] 5 0 (c_X3_areThere l D cI h0 a0 a1 a2 Rf Lf Wf rc ln rk ds su rd hln) gX5_run_X3_areThere (by decide +kernel) rfl ⟨rfl, rfl⟩ ⟨Nat.le_of_ble_eq_true rfl, Nat.le_of_ble_eq_true rfl⟩ rfl (ci := 3) rfl rfl rfl rfl (Nat.le_of_ble_eq_true rfl) ⟨Nat.le_of_ble_eq_true rfl, Nat.le_of_ble_eq_true rfl⟩ dX5_run_4 ?_
  refine zp_if_ne C 14 dX5_run_7 (by decide) (fun c_7 => ?_) (fun c_7 => ?_)
  · skip
    refine zg_iload_n C 1 dX5_run_14 rfl ?_
    refine zg_if_lt C 39 dX5_run_15 (by decide) (fun c_15 => ?_) (fun c_15 => ?_)
    · skip
      refine zg_sipush (v := (-1002)) C dX5_run_39 (by decide) ?_
      exact zg_iret C E dX5_run_42 ((if_pos c_7).symm)
    · skip
      refine zg_iload_n C 2 dX5_run_18 rfl ?_
      refine zg_iconst (v := nI 1) C dX5_run_19 (by decide) ?_
      refine zg_icmp_lt C 39 dX5_run_20 (by decide) (fun c_20 => ?_) (fun c_20 => ?_)
      · skip
        refine zg_sipush (v := (-1002)) C dX5_run_39 (by decide) ?_
        exact zg_iret C E dX5_run_42 ((if_pos c_7).symm)
      · skip
        refine zg_iload_n C 2 dX5_run_23 rfl ?_
        refine zg_bipush (v := nI 50) C dX5_run_24 (by decide) ?_
        refine zg_icmp_gt C 39 dX5_run_26 (by decide) (fun c_26 => ?_) (fun c_26 => ?_)
        · skip
          refine zg_sipush (v := (-1002)) C dX5_run_39 (by decide) ?_
          exact zg_iret C E dX5_run_42 ((if_pos c_7).symm)
        · skip
          refine zg_iload_n C 3 dX5_run_29 rfl ?_
          refine zg_if_lt C 39 dX5_run_30 (by decide) (fun c_30 => ?_) (fun c_30 => ?_)
          · skip
            refine zg_sipush (v := (-1002)) C dX5_run_39 (by decide) ?_
            exact zg_iret C E dX5_run_42 ((if_pos c_7).symm)
          · skip
            refine zg_iload_n C 3 dX5_run_33 rfl ?_
            refine zg_bipush (v := nI 16) C dX5_run_34 (by decide) ?_
            refine zg_icmp_le C 43 dX5_run_36 (by decide) (fun c_36 => by exact (hno ⟨c_7, c_15, c_20, c_26, c_30, c_36⟩).elim) (fun c_36 => ?_)
            refine zg_sipush (v := (-1002)) C dX5_run_39 (by decide) ?_
            exact zg_iret C E dX5_run_42 ((if_pos c_7).symm)
  · skip
    refine zg_sipush (v := (-1003)) C dX5_run_10 (by decide) ?_
    exact zg_iret C E dX5_run_13 ((if_neg c_7).symm)
theorem uX5_withSums_5 : ∀ w ∈ u_ws RX5 TX5 5, w ∈ wsX5_withSums := fun w h => List.mem_cons_of_mem _ (List.mem_append_left _ (List.mem_append_right _ h))
theorem fX5_withSums_5_2 : Cond.fieldLink RX5 26 (TX5 2).1 (TX5 2).2.1 (TX5 2).2.2.1 ∈ wsX5_withSums := by decide +kernel
theorem wX5_withSums_0 : Cond.constantLong RX5 179 (31) ∈ wsX5_withSums := by decide +kernel
set_option maxHeartbeats 1000000 in
set_option maxRecDepth 100000 in
theorem c_X5_withSums (l : Launch) (D : va_G) (cI : ClassId) (c0 p0 g0 r0 b0 h0 a0 a1 a2 t0 v0 d0 : Nat) (pg : Nat → Int32) (pn : Nat) (x1 x2 x3 : Int32) (Qf Rf Lf Wf : Nat → Int32) (rc ln rk ds su rd : Nat) (V : Nat → Int32) (bs bp sr sd : Int32) (R : Nat → Nat) (h9 : Int64) (hS : zSm R Rf Lf Wf rc ln rk ds su rd) (hln : ln ≤ 10) (h0l : 0 < ln) : zMl l D cI yX5_withSums wsX5_withSums { frames := 3, cells := 0, slots := 0, locals := 62 } [.ref c0, .long h9] [(c0, .inr (5, [.ref p0, .ref r0, .ref h0, .ref t0, .ref d0])), (p0, .inr (1, [.ref g0, .int (nI pn)])), (g0, .inl (cI, 56, .inl pg)), (r0, .inr (2, [.ref b0, .int x1, .int x2, .int x3])), (b0, .inl (cI, 5, .inl Qf)), (h0, .inr (3, [.ref a0, .ref a1, .ref a2, .int (nI rc), .int (nI ln), .int (nI rk), .int (nI ds), .int (nI su), .int (nI rd)])), (a0, .inl (cI, 5, .inl Rf)), (a1, .inl (cI, 32, .inl Lf)), (a2, .inl (cI, 11, .inl Wf)), (t0, .inr (4, [.ref v0, .int bs, .int bp, .int sr])), (v0, .inl (cI, 4, .inl V)), (d0, .inr (0, [.int sd]))] (zdgS R rc ln h9) := by
  refine zl_ent (maxL := 6) (by decide) rfl (Nat.le_of_ble_eq_true rfl) (fun X C E => ?_)
  have C : zC X l D cI { frames := 3, cells := 0, slots := 0, locals := 62 } 6 false cX5_withSums RX5 wsX5_withSums := C
  refine zg_cv (lv' := [(0, .ref c0), (1, .long h9)]) rfl rfl rfl ?_
  obtain ⟨m1, hrc, m3, hR, hRb, hL, hW, e1, e2, e3, e4⟩ := hS h0l
  have q0 := zpw hln
  have q1 := zpw0 ln
  have q5 := zpw5 hrc
  refine zg_lload_n C 1 dX5_withSums_0 rfl ?_
  refine zg_lstore_n C [1, 2, 0] (lv' := [(0, .ref c0), (1, .long h9), (3, .long h9)]) dX5_withSums_1 (by decide) rfl ?_
  refine zg_iconst (v := nI 0) C dX5_withSums_2 (by decide) ?_
  refine zg_istore C [1, 2, 3, 0] (lv' := [(0, .ref c0), (1, .long h9), (3, .long h9), (5, .int (nI 0))]) dX5_withSums_3 (by decide) rfl ?_
  have L_5 : ∀ i, i ≤ 7 → zG X 0 0 [(0, .ref c0), (1, .long h9), (3, .long (zmix (zcode R rc ln) h9 i)), (5, .int (nI i))] [] [(c0, .inr (5, [.ref p0, .ref r0, .ref h0, .ref t0, .ref d0])), (p0, .inr (1, [.ref g0, .int (nI pn)])), (g0, .inl (cI, 56, .inl pg)), (r0, .inr (2, [.ref b0, .int x1, .int x2, .int x3])), (b0, .inl (cI, 5, .inl Qf)), (h0, .inr (3, [.ref a0, .ref a1, .ref a2, .int (nI rc), .int (nI ln), .int (nI rk), .int (nI ds), .int (nI su), .int (nI rd)])), (a0, .inl (cI, 5, .inl Rf)), (a1, .inl (cI, 32, .inl Lf)), (a2, .inl (cI, 11, .inl Wf)), (t0, .inr (4, [.ref v0, .int bs, .int bp, .int sr])), (v0, .inl (cI, 4, .inl V)), (d0, .inr (0, [.int sd]))] 5 := by
    refine zg_dn (fun i hi ih_5  => ?_)
    refine zg_iload C 3 dX5_withSums_5 rfl ?_
    refine zg_bipush (v := nI 6) C dX5_withSums_7 (by decide) ?_
    refine zn_icmp_gt C 32 (by omega) (by omega) dX5_withSums_9 (by decide) (fun c_9 => ?_) (fun c_9 => ?_)
    · skip
      have e9_32 : 7 = i := by omega
      subst e9_32
      refine zg_iconst (v := nI 0) C dX5_withSums_32 (by decide) ?_
      refine zg_istore C [1, 2, 3, 0] (lv' := [(0, .ref c0), (1, .long h9), (3, .long (zmix (zcode R rc ln) h9 7)), (5, .int (nI 0))]) dX5_withSums_33 (by decide) rfl ?_
      have L_35 : ∀ i, i ≤ rc → zG X 0 0 [(0, .ref c0), (1, .long h9), (3, .long (zmix (fun j => nI (R j)) (zmix (zcode R rc ln) h9 7) i)), (5, .int (nI i))] [] [(c0, .inr (5, [.ref p0, .ref r0, .ref h0, .ref t0, .ref d0])), (p0, .inr (1, [.ref g0, .int (nI pn)])), (g0, .inl (cI, 56, .inl pg)), (r0, .inr (2, [.ref b0, .int x1, .int x2, .int x3])), (b0, .inl (cI, 5, .inl Qf)), (h0, .inr (3, [.ref a0, .ref a1, .ref a2, .int (nI rc), .int (nI ln), .int (nI rk), .int (nI ds), .int (nI su), .int (nI rd)])), (a0, .inl (cI, 5, .inl Rf)), (a1, .inl (cI, 32, .inl Lf)), (a2, .inl (cI, 11, .inl Wf)), (t0, .inr (4, [.ref v0, .int bs, .int bp, .int sr])), (v0, .inl (cI, 4, .inl V)), (d0, .inr (0, [.int sd]))] 35 := by
        refine zg_dn (fun i hi ih_35  => ?_)
        refine zg_iload C 3 dX5_withSums_35 rfl ?_
        refine zg_aload_n C 0 dX5_withSums_37 rfl ?_
        refine zg_get C 0 (ci := 5) (f := 2) rfl rfl uX5_withSums_5 (by decide) fX5_withSums_5_2 dX5_withSums_38 rfl ?_
        refine zg_callr (As := []) (st := [.int (nI i)]) C [5, 6, 7, 8] 5 0 (c_X3_rowCount l D cI h0 a0 a1 a2 Rf Lf Wf rc ln rk ds su rd ) gX5_withSums_X3_rowCount (by decide +kernel) rfl ⟨rfl, rfl⟩ ⟨Nat.le_of_ble_eq_true rfl, Nat.le_of_ble_eq_true rfl⟩ rfl (ci := 3) rfl rfl rfl rfl (Nat.le_of_ble_eq_true rfl) ⟨Nat.le_of_ble_eq_true rfl, Nat.le_of_ble_eq_true rfl⟩ dX5_withSums_41 ?_
        refine zn_icmp_ge C 70 (by omega) (by omega) dX5_withSums_44 (by decide) (fun c_44 => ?_) (fun c_44 => ?_)
        · skip
          have e9_70 : rc = i := by omega
          subst e9_70
          refine zg_iconst (v := nI 0) C dX5_withSums_70 (by decide) ?_
          refine zg_istore C [1, 2, 3, 0] (lv' := [(0, .ref c0), (1, .long h9), (3, .long (zmix (fun j => nI (R j)) (zmix (zcode R rc ln) h9 7) rc)), (5, .int (nI 0))]) dX5_withSums_71 (by decide) rfl ?_
          have L_73 : ∀ i, i ≤ 2 ^ rc → zG X 0 0 [(0, .ref c0), (1, .long h9), (3, .long (zmix (fun y => zo (zld R rc (2 ^ ln) y)) (zmix (fun j => nI (R j)) (zmix (zcode R rc ln) h9 7) rc) i)), (5, .int (nI i))] [] [(c0, .inr (5, [.ref p0, .ref r0, .ref h0, .ref t0, .ref d0])), (p0, .inr (1, [.ref g0, .int (nI pn)])), (g0, .inl (cI, 56, .inl pg)), (r0, .inr (2, [.ref b0, .int x1, .int x2, .int x3])), (b0, .inl (cI, 5, .inl Qf)), (h0, .inr (3, [.ref a0, .ref a1, .ref a2, .int (nI rc), .int (nI ln), .int (nI rk), .int (nI ds), .int (nI su), .int (nI rd)])), (a0, .inl (cI, 5, .inl Rf)), (a1, .inl (cI, 32, .inl Lf)), (a2, .inl (cI, 11, .inl Wf)), (t0, .inr (4, [.ref v0, .int bs, .int bp, .int sr])), (v0, .inl (cI, 4, .inl V)), (d0, .inr (0, [.int sd]))] 73 := by
            refine zg_dn (fun i hi ih_73  => ?_)
            refine zg_iload C 3 dX5_withSums_73 rfl ?_
            refine zg_aload_n C 0 dX5_withSums_75 rfl ?_
            refine zg_get C 0 (ci := 5) (f := 2) rfl rfl uX5_withSums_5 (by decide) fX5_withSums_5_2 dX5_withSums_76 rfl ?_
            refine zg_callr (As := []) (st := [.int (nI i)]) C [5, 6, 7, 8] 5 0 (c_X3_syndromes l D cI h0 a0 a1 a2 Rf Lf Wf rc ln rk ds su rd hrc) gX5_withSums_X3_syndromes (by decide +kernel) rfl ⟨rfl, rfl⟩ ⟨Nat.le_of_ble_eq_true rfl, Nat.le_of_ble_eq_true rfl⟩ rfl (ci := 3) rfl rfl rfl rfl (Nat.le_of_ble_eq_true rfl) ⟨Nat.le_of_ble_eq_true rfl, Nat.le_of_ble_eq_true rfl⟩ dX5_withSums_79 ?_
            refine zn_icmp_ge C 108 (by omega) (by omega) dX5_withSums_82 (by decide) (fun c_82 => ?_) (fun c_82 => ?_)
            · skip
              have e9_108 : 2 ^ rc = i := by omega
              subst e9_108
              refine zg_iconst (v := nI 0) C dX5_withSums_108 (by decide) ?_
              refine zg_istore C [1, 2, 3, 0] (lv' := [(0, .ref c0), (1, .long h9), (3, .long (zmix (fun y => zo (zld R rc (2 ^ ln) y)) (zmix (fun j => nI (R j)) (zmix (zcode R rc ln) h9 7) rc) (2 ^ rc))), (5, .int (nI 0))]) dX5_withSums_109 (by decide) rfl ?_
              have L_111 : ∀ i, i ≤ ln + 1 → zG X 0 0 [(0, .ref c0), (1, .long h9), (3, .long (zmix (fun j => nI (zct (zhw (zld R rc (2 ^ ln)) j) 32)) (zmix (fun y => zo (zld R rc (2 ^ ln) y)) (zmix (fun j => nI (R j)) (zmix (zcode R rc ln) h9 7) rc) (2 ^ rc)) i)), (5, .int (nI i))] [] [(c0, .inr (5, [.ref p0, .ref r0, .ref h0, .ref t0, .ref d0])), (p0, .inr (1, [.ref g0, .int (nI pn)])), (g0, .inl (cI, 56, .inl pg)), (r0, .inr (2, [.ref b0, .int x1, .int x2, .int x3])), (b0, .inl (cI, 5, .inl Qf)), (h0, .inr (3, [.ref a0, .ref a1, .ref a2, .int (nI rc), .int (nI ln), .int (nI rk), .int (nI ds), .int (nI su), .int (nI rd)])), (a0, .inl (cI, 5, .inl Rf)), (a1, .inl (cI, 32, .inl Lf)), (a2, .inl (cI, 11, .inl Wf)), (t0, .inr (4, [.ref v0, .int bs, .int bp, .int sr])), (v0, .inl (cI, 4, .inl V)), (d0, .inr (0, [.int sd]))] 111 := by
                refine zg_dn (fun i hi ih_111  => ?_)
                refine zg_iload C 3 dX5_withSums_111 rfl ?_
                refine zg_aload_n C 0 dX5_withSums_113 rfl ?_
                refine zg_get C 0 (ci := 5) (f := 2) rfl rfl uX5_withSums_5 (by decide) fX5_withSums_5_2 dX5_withSums_114 rfl ?_
                refine zg_callr (As := []) (st := [.int (nI i)]) C [5, 6, 7, 8] 5 0 (c_X3_length l D cI h0 a0 a1 a2 Rf Lf Wf rc ln rk ds su rd ) gX5_withSums_X3_length (by decide +kernel) rfl ⟨rfl, rfl⟩ ⟨Nat.le_of_ble_eq_true rfl, Nat.le_of_ble_eq_true rfl⟩ rfl (ci := 3) rfl rfl rfl rfl (Nat.le_of_ble_eq_true rfl) ⟨Nat.le_of_ble_eq_true rfl, Nat.le_of_ble_eq_true rfl⟩ dX5_withSums_117 ?_
                refine zn_icmp_gt C 146 (by omega) (by omega) dX5_withSums_120 (by decide) (fun c_120 => ?_) (fun c_120 => ?_)
                · skip
                  have e9_146 : ln + 1 = i := by omega
                  subst e9_146
                  refine zg_lload_n C 2 dX5_withSums_146 rfl ?_
                  exact zg_lret C E dX5_withSums_147 (rfl)
                · skip
                  refine zg_ldc2 C dX5_withSums_123 wX5_withSums_0 ?_
                  refine zg_lload_n C 2 dX5_withSums_126 rfl ?_
                  refine zg_lmul C dX5_withSums_127 ((31) * (zmix (fun j => nI (zct (zhw (zld R rc (2 ^ ln)) j) 32)) (zmix (fun y => zo (zld R rc (2 ^ ln) y)) (zmix (fun j => nI (R j)) (zmix (zcode R rc ln) h9 7) rc) (2 ^ rc)) i)) (rfl) ?_
                  refine zg_aload_n C 0 dX5_withSums_128 rfl ?_
                  refine zg_get C 0 (ci := 5) (f := 2) rfl rfl uX5_withSums_5 (by decide) fX5_withSums_5_2 dX5_withSums_129 rfl ?_
                  refine zg_iload C 3 dX5_withSums_132 rfl ?_
                  refine zg_callr (As := [.int (nI i)]) (st := [.long ((31) * (zmix (fun j => nI (zct (zhw (zld R rc (2 ^ ln)) j) 32)) (zmix (fun y => zo (zld R rc (2 ^ ln) y)) (zmix (fun j => nI (R j)) (zmix (zcode R rc ln) h9 7) rc) (2 ^ rc)) i))]) C [5, 6, 7, 8] 5 1 (c_X3_leadersOfWeight l D cI h0 a0 a1 a2 Rf Lf Wf rc ln rk ds su rd i hln (by omega)) gX5_withSums_X3_leadersOfWeight (by decide +kernel) rfl ⟨rfl, rfl⟩ ⟨Nat.le_of_ble_eq_true rfl, Nat.le_of_ble_eq_true rfl⟩ rfl (ci := 3) rfl rfl rfl rfl (Nat.le_of_ble_eq_true rfl) ⟨Nat.le_of_ble_eq_true rfl, Nat.le_of_ble_eq_true rfl⟩ dX5_withSums_134 ?_
                  refine zg_cv (st' := [.int (nI (zct (zhw (zld R rc (2 ^ ln)) i) 32)), .long ((31) * (zmix (fun j => nI (zct (zhw (zld R rc (2 ^ ln)) j) 32)) (zmix (fun y => zo (zld R rc (2 ^ ln) y)) (zmix (fun j => nI (R j)) (zmix (zcode R rc ln) h9 7) rc) (2 ^ rc)) i))]) rfl (by rw [hW i (by omega)]) rfl ?_
                  refine zg_i2l C dX5_withSums_137 ((nI (zct (zhw (zld R rc (2 ^ ln)) i) 32)).toInt64) (rfl) ?_
                  refine zg_ladd C dX5_withSums_138 (((31) * (zmix (fun j => nI (zct (zhw (zld R rc (2 ^ ln)) j) 32)) (zmix (fun y => zo (zld R rc (2 ^ ln) y)) (zmix (fun j => nI (R j)) (zmix (zcode R rc ln) h9 7) rc) (2 ^ rc)) i)) + ((nI (zct (zhw (zld R rc (2 ^ ln)) i) 32)).toInt64)) (rfl) ?_
                  refine zg_lstore_n C [1, 2, 0, 3] (lv' := [(0, .ref c0), (1, .long h9), (3, .long (((31) * (zmix (fun j => nI (zct (zhw (zld R rc (2 ^ ln)) j) 32)) (zmix (fun y => zo (zld R rc (2 ^ ln) y)) (zmix (fun j => nI (R j)) (zmix (zcode R rc ln) h9 7) rc) (2 ^ rc)) i)) + ((nI (zct (zhw (zld R rc (2 ^ ln)) i) 32)).toInt64))), (5, .int (nI i))]) dX5_withSums_139 (by decide) rfl ?_
                  refine zg_iinc C 3 [1, 2, 3, 0] (lv' := [(0, .ref c0), (1, .long h9), (3, .long (((31) * (zmix (fun j => nI (zct (zhw (zld R rc (2 ^ ln)) j) 32)) (zmix (fun y => zo (zld R rc (2 ^ ln) y)) (zmix (fun j => nI (R j)) (zmix (zcode R rc ln) h9 7) rc) (2 ^ rc)) i)) + ((nI (zct (zhw (zld R rc (2 ^ ln)) i) 32)).toInt64))), (5, .int (nI (i + 1)))]) (nI (i + 1)) dX5_withSums_140 rfl (zi_inc _) (by decide) rfl ?_
                  refine zg_goto C 111 dX5_withSums_143 (by decide) ?_
                  exact zg_cv (lv' := [(0, .ref c0), (1, .long h9), (3, .long (zmix (fun j => nI (zct (zhw (zld R rc (2 ^ ln)) j) 32)) (zmix (fun y => zo (zld R rc (2 ^ ln) y)) (zmix (fun j => nI (R j)) (zmix (zcode R rc ln) h9 7) rc) (2 ^ rc)) (i + 1))), (5, .int (nI (i + 1)))]) (rfl) rfl (rfl) (ih_111 (by omega) )
              exact zg_cv (lv' := [(0, .ref c0), (1, .long h9), (3, .long (zmix (fun j => nI (zct (zhw (zld R rc (2 ^ ln)) j) 32)) (zmix (fun y => zo (zld R rc (2 ^ ln) y)) (zmix (fun j => nI (R j)) (zmix (zcode R rc ln) h9 7) rc) (2 ^ rc)) 0)), (5, .int (nI 0))]) (rfl) rfl (rfl) (L_111 0 (Nat.zero_le _) )
            · skip
              refine zg_ldc2 C dX5_withSums_85 wX5_withSums_0 ?_
              refine zg_lload_n C 2 dX5_withSums_88 rfl ?_
              refine zg_lmul C dX5_withSums_89 ((31) * (zmix (fun y => zo (zld R rc (2 ^ ln) y)) (zmix (fun j => nI (R j)) (zmix (zcode R rc ln) h9 7) rc) i)) (rfl) ?_
              refine zg_aload_n C 0 dX5_withSums_90 rfl ?_
              refine zg_get C 0 (ci := 5) (f := 2) rfl rfl uX5_withSums_5 (by decide) fX5_withSums_5_2 dX5_withSums_91 rfl ?_
              refine zg_iload C 3 dX5_withSums_94 rfl ?_
              refine zg_callr (As := [.int (nI i)]) (st := [.long ((31) * (zmix (fun y => zo (zld R rc (2 ^ ln) y)) (zmix (fun j => nI (R j)) (zmix (zcode R rc ln) h9 7) rc) i))]) C [5, 6, 7, 8] 5 1 (c_X3_leaderOf l D cI h0 a0 a1 a2 Rf Lf Wf rc ln rk ds su rd i hrc (by omega)) gX5_withSums_X3_leaderOf (by decide +kernel) rfl ⟨rfl, rfl⟩ ⟨Nat.le_of_ble_eq_true rfl, Nat.le_of_ble_eq_true rfl⟩ rfl (ci := 3) rfl rfl rfl rfl (Nat.le_of_ble_eq_true rfl) ⟨Nat.le_of_ble_eq_true rfl, Nat.le_of_ble_eq_true rfl⟩ dX5_withSums_96 ?_
              refine zg_cv (st' := [.int (zo (zld R rc (2 ^ ln) i)), .long ((31) * (zmix (fun y => zo (zld R rc (2 ^ ln) y)) (zmix (fun j => nI (R j)) (zmix (zcode R rc ln) h9 7) rc) i))]) rfl (by rw [hL i (by omega)]) rfl ?_
              refine zg_i2l C dX5_withSums_99 ((zo (zld R rc (2 ^ ln) i)).toInt64) (rfl) ?_
              refine zg_ladd C dX5_withSums_100 (((31) * (zmix (fun y => zo (zld R rc (2 ^ ln) y)) (zmix (fun j => nI (R j)) (zmix (zcode R rc ln) h9 7) rc) i)) + ((zo (zld R rc (2 ^ ln) i)).toInt64)) (rfl) ?_
              refine zg_lstore_n C [1, 2, 0, 3] (lv' := [(0, .ref c0), (1, .long h9), (3, .long (((31) * (zmix (fun y => zo (zld R rc (2 ^ ln) y)) (zmix (fun j => nI (R j)) (zmix (zcode R rc ln) h9 7) rc) i)) + ((zo (zld R rc (2 ^ ln) i)).toInt64))), (5, .int (nI i))]) dX5_withSums_101 (by decide) rfl ?_
              refine zg_iinc C 3 [1, 2, 3, 0] (lv' := [(0, .ref c0), (1, .long h9), (3, .long (((31) * (zmix (fun y => zo (zld R rc (2 ^ ln) y)) (zmix (fun j => nI (R j)) (zmix (zcode R rc ln) h9 7) rc) i)) + ((zo (zld R rc (2 ^ ln) i)).toInt64))), (5, .int (nI (i + 1)))]) (nI (i + 1)) dX5_withSums_102 rfl (zi_inc _) (by decide) rfl ?_
              refine zg_goto C 73 dX5_withSums_105 (by decide) ?_
              exact zg_cv (lv' := [(0, .ref c0), (1, .long h9), (3, .long (zmix (fun y => zo (zld R rc (2 ^ ln) y)) (zmix (fun j => nI (R j)) (zmix (zcode R rc ln) h9 7) rc) (i + 1))), (5, .int (nI (i + 1)))]) (rfl) rfl (rfl) (ih_73 (by omega) )
          exact zg_cv (lv' := [(0, .ref c0), (1, .long h9), (3, .long (zmix (fun y => zo (zld R rc (2 ^ ln) y)) (zmix (fun j => nI (R j)) (zmix (zcode R rc ln) h9 7) rc) 0)), (5, .int (nI 0))]) (rfl) rfl (rfl) (L_73 0 (Nat.zero_le _) )
        · skip
          refine zg_ldc2 C dX5_withSums_47 wX5_withSums_0 ?_
          refine zg_lload_n C 2 dX5_withSums_50 rfl ?_
          refine zg_lmul C dX5_withSums_51 ((31) * (zmix (fun j => nI (R j)) (zmix (zcode R rc ln) h9 7) i)) (rfl) ?_
          refine zg_aload_n C 0 dX5_withSums_52 rfl ?_
          refine zg_get C 0 (ci := 5) (f := 2) rfl rfl uX5_withSums_5 (by decide) fX5_withSums_5_2 dX5_withSums_53 rfl ?_
          refine zg_iload C 3 dX5_withSums_56 rfl ?_
          refine zg_callr (As := [.int (nI i)]) (st := [.long ((31) * (zmix (fun j => nI (R j)) (zmix (zcode R rc ln) h9 7) i))]) C [5, 6, 7, 8] 5 1 (c_X3_rowAt l D cI h0 a0 a1 a2 Rf Lf Wf rc ln rk ds su rd i hrc (by omega)) gX5_withSums_X3_rowAt (by decide +kernel) rfl ⟨rfl, rfl⟩ ⟨Nat.le_of_ble_eq_true rfl, Nat.le_of_ble_eq_true rfl⟩ rfl (ci := 3) rfl rfl rfl rfl (Nat.le_of_ble_eq_true rfl) ⟨Nat.le_of_ble_eq_true rfl, Nat.le_of_ble_eq_true rfl⟩ dX5_withSums_58 ?_
          refine zg_cv (st' := [.int (nI (R i)), .long ((31) * (zmix (fun j => nI (R j)) (zmix (zcode R rc ln) h9 7) i))]) rfl (by rw [hR i (by omega)]) rfl ?_
          refine zg_i2l C dX5_withSums_61 ((nI (R i)).toInt64) (rfl) ?_
          refine zg_ladd C dX5_withSums_62 (((31) * (zmix (fun j => nI (R j)) (zmix (zcode R rc ln) h9 7) i)) + ((nI (R i)).toInt64)) (rfl) ?_
          refine zg_lstore_n C [1, 2, 0, 3] (lv' := [(0, .ref c0), (1, .long h9), (3, .long (((31) * (zmix (fun j => nI (R j)) (zmix (zcode R rc ln) h9 7) i)) + ((nI (R i)).toInt64))), (5, .int (nI i))]) dX5_withSums_63 (by decide) rfl ?_
          refine zg_iinc C 3 [1, 2, 3, 0] (lv' := [(0, .ref c0), (1, .long h9), (3, .long (((31) * (zmix (fun j => nI (R j)) (zmix (zcode R rc ln) h9 7) i)) + ((nI (R i)).toInt64))), (5, .int (nI (i + 1)))]) (nI (i + 1)) dX5_withSums_64 rfl (zi_inc _) (by decide) rfl ?_
          refine zg_goto C 35 dX5_withSums_67 (by decide) ?_
          exact zg_cv (lv' := [(0, .ref c0), (1, .long h9), (3, .long (zmix (fun j => nI (R j)) (zmix (zcode R rc ln) h9 7) (i + 1))), (5, .int (nI (i + 1)))]) (rfl) rfl (rfl) (ih_35 (by omega) )
      exact zg_cv (lv' := [(0, .ref c0), (1, .long h9), (3, .long (zmix (fun j => nI (R j)) (zmix (zcode R rc ln) h9 7) 0)), (5, .int (nI 0))]) (rfl) rfl (rfl) (L_35 0 (Nat.zero_le _) )
    · skip
      refine zg_ldc2 C dX5_withSums_12 wX5_withSums_0 ?_
      refine zg_lload_n C 2 dX5_withSums_15 rfl ?_
      refine zg_lmul C dX5_withSums_16 ((31) * (zmix (zcode R rc ln) h9 i)) (rfl) ?_
      refine zg_aload_n C 0 dX5_withSums_17 rfl ?_
      refine zg_iload C 3 dX5_withSums_18 rfl ?_
      refine zg_callr (As := [.int (nI i)]) (st := [.long ((31) * (zmix (zcode R rc ln) h9 i))]) C [0, 1, 2, 3, 4, 5, 6, 7, 8, 9, 10, 11] 0 1 (c_X5_code l D cI c0 p0 g0 r0 b0 h0 a0 a1 a2 t0 v0 d0 pg pn x1 x2 x3 Qf Rf Lf Wf rc ln rk ds su rd V bs bp sr sd R (nI i) hS hln) gX5_withSums_X5_code (by decide +kernel) rfl ⟨rfl, rfl⟩ ⟨Nat.le_of_ble_eq_true rfl, Nat.le_of_ble_eq_true rfl⟩ rfl (ci := 5) rfl rfl rfl rfl (Nat.le_of_ble_eq_true rfl) ⟨Nat.le_of_ble_eq_true rfl, Nat.le_of_ble_eq_true rfl⟩ dX5_withSums_20 ?_
      refine zg_cv (st' := [.int (zcode R rc ln i), .long ((31) * (zmix (zcode R rc ln) h9 i))]) rfl (by rw [← zAcode_y (show i < 7 by omega) h0l]) rfl ?_
      refine zg_i2l C dX5_withSums_23 ((zcode R rc ln i).toInt64) (rfl) ?_
      refine zg_ladd C dX5_withSums_24 (((31) * (zmix (zcode R rc ln) h9 i)) + ((zcode R rc ln i).toInt64)) (rfl) ?_
      refine zg_lstore_n C [1, 2, 0, 3] (lv' := [(0, .ref c0), (1, .long h9), (3, .long (((31) * (zmix (zcode R rc ln) h9 i)) + ((zcode R rc ln i).toInt64))), (5, .int (nI i))]) dX5_withSums_25 (by decide) rfl ?_
      refine zg_iinc C 3 [1, 2, 3, 0] (lv' := [(0, .ref c0), (1, .long h9), (3, .long (((31) * (zmix (zcode R rc ln) h9 i)) + ((zcode R rc ln i).toInt64))), (5, .int (nI (i + 1)))]) (nI (i + 1)) dX5_withSums_26 rfl (zi_inc _) (by decide) rfl ?_
      refine zg_goto C 5 dX5_withSums_29 (by decide) ?_
      exact zg_cv (lv' := [(0, .ref c0), (1, .long h9), (3, .long (zmix (zcode R rc ln) h9 (i + 1))), (5, .int (nI (i + 1)))]) (rfl) rfl (rfl) (ih_5 (by omega) )
  exact zg_cv (lv' := [(0, .ref c0), (1, .long h9), (3, .long (zmix (zcode R rc ln) h9 0)), (5, .int (nI 0))]) (rfl) rfl (rfl) (L_5 0 (Nat.zero_le _) )
theorem wX5_digest_0 : Cond.constantLong RX5 173 (1667) ∈ wsX5_digest := by decide +kernel
theorem uX5_digest_5 : ∀ w ∈ u_ws RX5 TX5 5, w ∈ wsX5_digest := fun w h => List.mem_cons_of_mem _ (List.mem_append_left _ (List.mem_append_left _ (List.mem_append_left _ (List.mem_append_left _ (List.mem_append_right _ h)))))
theorem fX5_digest_5_2 : Cond.fieldLink RX5 26 (TX5 2).1 (TX5 2).2.1 (TX5 2).2.2.1 ∈ wsX5_digest := by decide +kernel
theorem wX5_digest_1 : Cond.constantLong RX5 179 (31) ∈ wsX5_digest := by decide +kernel
theorem fX5_digest_5_0 : Cond.fieldLink RX5 10 (TX5 0).1 (TX5 0).2.1 (TX5 0).2.2.1 ∈ wsX5_digest := by decide +kernel
set_option maxHeartbeats 1000000 in
set_option maxRecDepth 100000 in
theorem c_X5_digest (l : Launch) (D : va_G) (cI : ClassId) (c0 p0 g0 r0 b0 h0 a0 a1 a2 t0 v0 d0 : Nat) (pg : Nat → Int32) (pn : Nat) (x1 x2 x3 : Int32) (Qf Rf Lf Wf : Nat → Int32) (rc ln rk ds su rd : Nat) (V : Nat → Int32) (bs bp sr sd : Int32) (R : Nat → Nat) (hS : zSm R Rf Lf Wf rc ln rk ds su rd) (hln : ln ≤ 10) (hpn : pn ≤ 56) : zMl l D cI yX5_digest wsX5_digest { frames := 4, cells := 0, slots := 0, locals := 87 } [.ref c0] [(c0, .inr (5, [.ref p0, .ref r0, .ref h0, .ref t0, .ref d0])), (p0, .inr (1, [.ref g0, .int (nI pn)])), (g0, .inl (cI, 56, .inl pg)), (r0, .inr (2, [.ref b0, .int x1, .int x2, .int x3])), (b0, .inl (cI, 5, .inl Qf)), (h0, .inr (3, [.ref a0, .ref a1, .ref a2, .int (nI rc), .int (nI ln), .int (nI rk), .int (nI ds), .int (nI su), .int (nI rd)])), (a0, .inl (cI, 5, .inl Rf)), (a1, .inl (cI, 32, .inl Lf)), (a2, .inl (cI, 11, .inl Wf)), (t0, .inr (4, [.ref v0, .int bs, .int bp, .int sr])), (v0, .inl (cI, 4, .inl V)), (d0, .inr (0, [.int sd]))] (zdig R rc ln sd pg pn V bs bp sr) := by
  refine zl_ent (maxL := 4) (by decide) rfl (Nat.le_of_ble_eq_true rfl) (fun X C E => ?_)
  have C : zC X l D cI { frames := 4, cells := 0, slots := 0, locals := 87 } 4 false cX5_digest RX5 wsX5_digest := C
  refine zg_cv (lv' := [(0, .ref c0)]) rfl rfl rfl ?_
  refine zg_ldc2 C dX5_digest_0 wX5_digest_0 ?_
  refine zg_lstore_n C [1, 0] (lv' := [(0, .ref c0), (1, .long (1667))]) dX5_digest_3 (by decide) rfl ?_
  refine zg_aload_n C 0 dX5_digest_4 rfl ?_
  refine zg_get C 0 (ci := 5) (f := 2) rfl rfl uX5_digest_5 (by decide) fX5_digest_5_2 dX5_digest_5 rfl ?_
  refine zg_callr (As := []) (st := []) C [5, 6, 7, 8] 5 0 (c_X3_areThere l D cI h0 a0 a1 a2 Rf Lf Wf rc ln rk ds su rd hln) gX5_digest_X3_areThere (by decide +kernel) rfl ⟨rfl, rfl⟩ ⟨Nat.le_of_ble_eq_true rfl, Nat.le_of_ble_eq_true rfl⟩ rfl (ci := 3) rfl rfl rfl rfl (Nat.le_of_ble_eq_true rfl) ⟨Nat.le_of_ble_eq_true rfl, Nat.le_of_ble_eq_true rfl⟩ dX5_digest_8 ?_
  refine zp_if_eq C 20 dX5_digest_11 (by decide) (fun c_11 => ?_) (fun c_11 => ?_)
  · skip
    refine zg_cv (lv' := [(0, .ref c0), (1, .long (if 0 < ln then zdgS R rc ln 1667 else 1667))]) (congrArg (fun q9 => ([(0, .ref c0), (1, .long q9)] : List (Nat × Value))) ((if_neg c_11).symm)) rfl rfl ?_
    refine zg_ldc2 C dX5_digest_20 wX5_digest_1 ?_
    refine zg_lload_n C 1 dX5_digest_23 rfl ?_
    refine zg_lmul C dX5_digest_24 ((31) * (if 0 < ln then zdgS R rc ln 1667 else 1667)) (rfl) ?_
    refine zg_aload_n C 0 dX5_digest_25 rfl ?_
    refine zg_callr (As := []) (st := [.long ((31) * (if 0 < ln then zdgS R rc ln 1667 else 1667))]) C [0, 1, 2, 3, 4, 5, 6, 7, 8, 9, 10, 11] 0 0 (c_X5_seed l D cI c0 p0 g0 r0 b0 h0 a0 a1 a2 t0 v0 d0 pg pn x1 x2 x3 Qf Rf Lf Wf rc ln rk ds su rd V bs bp sr sd R ) gX5_digest_X5_seed (by decide +kernel) rfl ⟨rfl, rfl⟩ ⟨Nat.le_of_ble_eq_true rfl, Nat.le_of_ble_eq_true rfl⟩ rfl (ci := 5) rfl rfl rfl rfl (Nat.le_of_ble_eq_true rfl) ⟨Nat.le_of_ble_eq_true rfl, Nat.le_of_ble_eq_true rfl⟩ dX5_digest_26 ?_
    refine zg_i2l C dX5_digest_29 (sd.toInt64) (rfl) ?_
    refine zg_ladd C dX5_digest_30 (((31) * (if 0 < ln then zdgS R rc ln 1667 else 1667)) + sd.toInt64) (rfl) ?_
    refine zg_lstore_n C [1, 0] (lv' := [(0, .ref c0), (1, .long (((31) * (if 0 < ln then zdgS R rc ln 1667 else 1667)) + sd.toInt64))]) dX5_digest_31 (by decide) rfl ?_
    refine zg_iconst (v := nI 0) C dX5_digest_32 (by decide) ?_
    refine zg_istore_n C [1, 2, 0] (lv' := [(0, .ref c0), (1, .long (((31) * (if 0 < ln then zdgS R rc ln 1667 else 1667)) + sd.toInt64)), (3, .int (nI 0))]) dX5_digest_33 (by decide) rfl ?_
    have L_34 : ∀ i, i ≤ pn → zG X 0 0 [(0, .ref c0), (1, .long (zmix pg (31 * (if 0 < ln then zdgS R rc ln 1667 else 1667) + sd.toInt64) i)), (3, .int (nI i))] [] [(c0, .inr (5, [.ref p0, .ref r0, .ref h0, .ref t0, .ref d0])), (p0, .inr (1, [.ref g0, .int (nI pn)])), (g0, .inl (cI, 56, .inl pg)), (r0, .inr (2, [.ref b0, .int x1, .int x2, .int x3])), (b0, .inl (cI, 5, .inl Qf)), (h0, .inr (3, [.ref a0, .ref a1, .ref a2, .int (nI rc), .int (nI ln), .int (nI rk), .int (nI ds), .int (nI su), .int (nI rd)])), (a0, .inl (cI, 5, .inl Rf)), (a1, .inl (cI, 32, .inl Lf)), (a2, .inl (cI, 11, .inl Wf)), (t0, .inr (4, [.ref v0, .int bs, .int bp, .int sr])), (v0, .inl (cI, 4, .inl V)), (d0, .inr (0, [.int sd]))] 34 := by
      refine zg_dn (fun i hi ih_34  => ?_)
      refine zg_iload_n C 2 dX5_digest_34 rfl ?_
      refine zg_aload_n C 0 dX5_digest_35 rfl ?_
      refine zg_get C 0 (ci := 5) (f := 0) rfl rfl uX5_digest_5 (by decide) fX5_digest_5_0 dX5_digest_36 rfl ?_
      refine zg_callr (As := []) (st := [.int (nI i)]) C [1, 2] 1 0 (c_X1_size l D cI p0 g0 pg pn ) gX5_digest_X1_size (by decide +kernel) rfl ⟨rfl, rfl⟩ ⟨Nat.le_of_ble_eq_true rfl, Nat.le_of_ble_eq_true rfl⟩ rfl (ci := 1) rfl rfl rfl rfl (Nat.le_of_ble_eq_true rfl) ⟨Nat.le_of_ble_eq_true rfl, Nat.le_of_ble_eq_true rfl⟩ dX5_digest_39 ?_
      refine zn_icmp_ge C 67 (by omega) (by omega) dX5_digest_42 (by decide) (fun c_42 => ?_) (fun c_42 => ?_)
      · skip
        have e9_67 : pn = i := by omega
        subst e9_67
        refine zg_iconst (v := nI 0) C dX5_digest_67 (by decide) ?_
        refine zg_istore_n C [1, 2, 0] (lv' := [(0, .ref c0), (1, .long (zmix pg (31 * (if 0 < ln then zdgS R rc ln 1667 else 1667) + sd.toInt64) pn)), (3, .int (nI 0))]) dX5_digest_68 (by decide) rfl ?_
        have L_69 : ∀ i, i ≤ 8 → zG X 0 0 [(0, .ref c0), (1, .long (zmix (zcnt pn V bs bp sr) (zmix pg (31 * (if 0 < ln then zdgS R rc ln 1667 else 1667) + sd.toInt64) pn) i)), (3, .int (nI i))] [] [(c0, .inr (5, [.ref p0, .ref r0, .ref h0, .ref t0, .ref d0])), (p0, .inr (1, [.ref g0, .int (nI pn)])), (g0, .inl (cI, 56, .inl pg)), (r0, .inr (2, [.ref b0, .int x1, .int x2, .int x3])), (b0, .inl (cI, 5, .inl Qf)), (h0, .inr (3, [.ref a0, .ref a1, .ref a2, .int (nI rc), .int (nI ln), .int (nI rk), .int (nI ds), .int (nI su), .int (nI rd)])), (a0, .inl (cI, 5, .inl Rf)), (a1, .inl (cI, 32, .inl Lf)), (a2, .inl (cI, 11, .inl Wf)), (t0, .inr (4, [.ref v0, .int bs, .int bp, .int sr])), (v0, .inl (cI, 4, .inl V)), (d0, .inr (0, [.int sd]))] 69 := by
          refine zg_dn (fun i hi ih_69  => ?_)
          refine zg_iload_n C 2 dX5_digest_69 rfl ?_
          refine zg_bipush (v := nI 7) C dX5_digest_70 (by decide) ?_
          refine zn_icmp_gt C 94 (by omega) (by omega) dX5_digest_72 (by decide) (fun c_72 => ?_) (fun c_72 => ?_)
          · skip
            have e9_94 : 8 = i := by omega
            subst e9_94
            refine zg_lload_n C 1 dX5_digest_94 rfl ?_
            exact zg_lret C E dX5_digest_95 (rfl)
          · skip
            refine zg_ldc2 C dX5_digest_75 wX5_digest_1 ?_
            refine zg_lload_n C 1 dX5_digest_78 rfl ?_
            refine zg_lmul C dX5_digest_79 ((31) * (zmix (zcnt pn V bs bp sr) (zmix pg (31 * (if 0 < ln then zdgS R rc ln 1667 else 1667) + sd.toInt64) pn) i)) (rfl) ?_
            refine zg_aload_n C 0 dX5_digest_80 rfl ?_
            refine zg_iload_n C 2 dX5_digest_81 rfl ?_
            refine zg_callr (As := [.int (nI i)]) (st := [.long ((31) * (zmix (zcnt pn V bs bp sr) (zmix pg (31 * (if 0 < ln then zdgS R rc ln 1667 else 1667) + sd.toInt64) pn) i))]) C [0, 1, 2, 3, 4, 5, 6, 7, 8, 9, 10, 11] 0 1 (c_X5_count l D cI c0 p0 g0 r0 b0 h0 a0 a1 a2 t0 v0 d0 pg pn x1 x2 x3 Qf Rf Lf Wf rc ln rk ds su rd V bs bp sr sd R (nI i) ) gX5_digest_X5_count (by decide +kernel) rfl ⟨rfl, rfl⟩ ⟨Nat.le_of_ble_eq_true rfl, Nat.le_of_ble_eq_true rfl⟩ rfl (ci := 5) rfl rfl rfl rfl (Nat.le_of_ble_eq_true rfl) ⟨Nat.le_of_ble_eq_true rfl, Nat.le_of_ble_eq_true rfl⟩ dX5_digest_82 ?_
            refine zg_cv (st' := [.int (zcnt pn V bs bp sr i), .long ((31) * (zmix (zcnt pn V bs bp sr) (zmix pg (31 * (if 0 < ln then zdgS R rc ln 1667 else 1667) + sd.toInt64) pn) i))]) rfl (by rw [show zAcnt pn V bs bp sr (nI i) = zcnt pn V bs bp sr i from (by rw [zAcnt, if_pos (zin_nI (show i < 8 by omega) (by decide)), zn_nI (by omega)])]) rfl ?_
            refine zg_i2l C dX5_digest_85 ((zcnt pn V bs bp sr i).toInt64) (rfl) ?_
            refine zg_ladd C dX5_digest_86 (((31) * (zmix (zcnt pn V bs bp sr) (zmix pg (31 * (if 0 < ln then zdgS R rc ln 1667 else 1667) + sd.toInt64) pn) i)) + ((zcnt pn V bs bp sr i).toInt64)) (rfl) ?_
            refine zg_lstore_n C [1, 0, 2] (lv' := [(0, .ref c0), (1, .long (((31) * (zmix (zcnt pn V bs bp sr) (zmix pg (31 * (if 0 < ln then zdgS R rc ln 1667 else 1667) + sd.toInt64) pn) i)) + ((zcnt pn V bs bp sr i).toInt64))), (3, .int (nI i))]) dX5_digest_87 (by decide) rfl ?_
            refine zg_iinc C 2 [1, 2, 0] (lv' := [(0, .ref c0), (1, .long (((31) * (zmix (zcnt pn V bs bp sr) (zmix pg (31 * (if 0 < ln then zdgS R rc ln 1667 else 1667) + sd.toInt64) pn) i)) + ((zcnt pn V bs bp sr i).toInt64))), (3, .int (nI (i + 1)))]) (nI (i + 1)) dX5_digest_88 rfl (zi_inc _) (by decide) rfl ?_
            refine zg_goto C 69 dX5_digest_91 (by decide) ?_
            exact zg_cv (lv' := [(0, .ref c0), (1, .long (zmix (zcnt pn V bs bp sr) (zmix pg (31 * (if 0 < ln then zdgS R rc ln 1667 else 1667) + sd.toInt64) pn) (i + 1))), (3, .int (nI (i + 1)))]) (rfl) rfl (rfl) (ih_69 (by omega) )
        exact zg_cv (lv' := [(0, .ref c0), (1, .long (zmix (zcnt pn V bs bp sr) (zmix pg (31 * (if 0 < ln then zdgS R rc ln 1667 else 1667) + sd.toInt64) pn) 0)), (3, .int (nI 0))]) (rfl) rfl (rfl) (L_69 0 (Nat.zero_le _) )
      · skip
        refine zg_ldc2 C dX5_digest_45 wX5_digest_1 ?_
        refine zg_lload_n C 1 dX5_digest_48 rfl ?_
        refine zg_lmul C dX5_digest_49 ((31) * (zmix pg (31 * (if 0 < ln then zdgS R rc ln 1667 else 1667) + sd.toInt64) i)) (rfl) ?_
        refine zg_aload_n C 0 dX5_digest_50 rfl ?_
        refine zg_get C 0 (ci := 5) (f := 0) rfl rfl uX5_digest_5 (by decide) fX5_digest_5_0 dX5_digest_51 rfl ?_
        refine zg_iload_n C 2 dX5_digest_54 rfl ?_
        refine zg_callr (As := [.int (nI i)]) (st := [.long ((31) * (zmix pg (31 * (if 0 < ln then zdgS R rc ln 1667 else 1667) + sd.toInt64) i))]) C [1, 2] 1 1 (c_X1_letterAt l D cI p0 g0 pg pn i (by omega)) gX5_digest_X1_letterAt (by decide +kernel) rfl ⟨rfl, rfl⟩ ⟨Nat.le_of_ble_eq_true rfl, Nat.le_of_ble_eq_true rfl⟩ rfl (ci := 1) rfl rfl rfl rfl (Nat.le_of_ble_eq_true rfl) ⟨Nat.le_of_ble_eq_true rfl, Nat.le_of_ble_eq_true rfl⟩ dX5_digest_55 ?_
        refine zg_i2l C dX5_digest_58 ((pg i).toInt64) (rfl) ?_
        refine zg_ladd C dX5_digest_59 (((31) * (zmix pg (31 * (if 0 < ln then zdgS R rc ln 1667 else 1667) + sd.toInt64) i)) + ((pg i).toInt64)) (rfl) ?_
        refine zg_lstore_n C [1, 0, 2] (lv' := [(0, .ref c0), (1, .long (((31) * (zmix pg (31 * (if 0 < ln then zdgS R rc ln 1667 else 1667) + sd.toInt64) i)) + ((pg i).toInt64))), (3, .int (nI i))]) dX5_digest_60 (by decide) rfl ?_
        refine zg_iinc C 2 [1, 2, 0] (lv' := [(0, .ref c0), (1, .long (((31) * (zmix pg (31 * (if 0 < ln then zdgS R rc ln 1667 else 1667) + sd.toInt64) i)) + ((pg i).toInt64))), (3, .int (nI (i + 1)))]) (nI (i + 1)) dX5_digest_61 rfl (zi_inc _) (by decide) rfl ?_
        refine zg_goto C 34 dX5_digest_64 (by decide) ?_
        exact zg_cv (lv' := [(0, .ref c0), (1, .long (zmix pg (31 * (if 0 < ln then zdgS R rc ln 1667 else 1667) + sd.toInt64) (i + 1))), (3, .int (nI (i + 1)))]) (rfl) rfl (rfl) (ih_34 (by omega) )
    exact zg_cv (lv' := [(0, .ref c0), (1, .long (zmix pg (31 * (if 0 < ln then zdgS R rc ln 1667 else 1667) + sd.toInt64) 0)), (3, .int (nI 0))]) (rfl) rfl (rfl) (L_34 0 (Nat.zero_le _) )
  · skip
    refine zg_aload_n C 0 dX5_digest_14 rfl ?_
    refine zg_lload_n C 1 dX5_digest_15 rfl ?_
    refine zg_callrl (As := [.long (1667)]) (st := []) C [0, 1, 2, 3, 4, 5, 6, 7, 8, 9, 10, 11] 0 1 (c_X5_withSums l D cI c0 p0 g0 r0 b0 h0 a0 a1 a2 t0 v0 d0 pg pn x1 x2 x3 Qf Rf Lf Wf rc ln rk ds su rd V bs bp sr sd R (1667) hS hln (by omega)) gX5_digest_X5_withSums (by decide +kernel) rfl ⟨rfl, rfl⟩ ⟨Nat.le_of_ble_eq_true rfl, Nat.le_of_ble_eq_true rfl⟩ rfl (ci := 5) rfl rfl rfl rfl (Nat.le_of_ble_eq_true rfl) ⟨Nat.le_of_ble_eq_true rfl, Nat.le_of_ble_eq_true rfl⟩ dX5_digest_16 ?_
    refine zg_lstore_n C [1, 0] (lv' := [(0, .ref c0), (1, .long (zdgS R rc ln (1667)))]) dX5_digest_19 (by decide) rfl ?_
    refine zg_cv (lv' := [(0, .ref c0), (1, .long (if 0 < ln then zdgS R rc ln 1667 else 1667))]) (congrArg (fun q9 => ([(0, .ref c0), (1, .long q9)] : List (Nat × Value))) ((if_pos c_11).symm)) rfl rfl ?_
    refine zg_ldc2 C dX5_digest_20 wX5_digest_1 ?_
    refine zg_lload_n C 1 dX5_digest_23 rfl ?_
    refine zg_lmul C dX5_digest_24 ((31) * (if 0 < ln then zdgS R rc ln 1667 else 1667)) (rfl) ?_
    refine zg_aload_n C 0 dX5_digest_25 rfl ?_
    refine zg_callr (As := []) (st := [.long ((31) * (if 0 < ln then zdgS R rc ln 1667 else 1667))]) C [0, 1, 2, 3, 4, 5, 6, 7, 8, 9, 10, 11] 0 0 (c_X5_seed l D cI c0 p0 g0 r0 b0 h0 a0 a1 a2 t0 v0 d0 pg pn x1 x2 x3 Qf Rf Lf Wf rc ln rk ds su rd V bs bp sr sd R ) gX5_digest_X5_seed (by decide +kernel) rfl ⟨rfl, rfl⟩ ⟨Nat.le_of_ble_eq_true rfl, Nat.le_of_ble_eq_true rfl⟩ rfl (ci := 5) rfl rfl rfl rfl (Nat.le_of_ble_eq_true rfl) ⟨Nat.le_of_ble_eq_true rfl, Nat.le_of_ble_eq_true rfl⟩ dX5_digest_26 ?_
    refine zg_i2l C dX5_digest_29 (sd.toInt64) (rfl) ?_
    refine zg_ladd C dX5_digest_30 (((31) * (if 0 < ln then zdgS R rc ln 1667 else 1667)) + sd.toInt64) (rfl) ?_
    refine zg_lstore_n C [1, 0] (lv' := [(0, .ref c0), (1, .long (((31) * (if 0 < ln then zdgS R rc ln 1667 else 1667)) + sd.toInt64))]) dX5_digest_31 (by decide) rfl ?_
    refine zg_iconst (v := nI 0) C dX5_digest_32 (by decide) ?_
    refine zg_istore_n C [1, 2, 0] (lv' := [(0, .ref c0), (1, .long (((31) * (if 0 < ln then zdgS R rc ln 1667 else 1667)) + sd.toInt64)), (3, .int (nI 0))]) dX5_digest_33 (by decide) rfl ?_
    have L_34 : ∀ i, i ≤ pn → zG X 0 0 [(0, .ref c0), (1, .long (zmix pg (31 * (if 0 < ln then zdgS R rc ln 1667 else 1667) + sd.toInt64) i)), (3, .int (nI i))] [] [(c0, .inr (5, [.ref p0, .ref r0, .ref h0, .ref t0, .ref d0])), (p0, .inr (1, [.ref g0, .int (nI pn)])), (g0, .inl (cI, 56, .inl pg)), (r0, .inr (2, [.ref b0, .int x1, .int x2, .int x3])), (b0, .inl (cI, 5, .inl Qf)), (h0, .inr (3, [.ref a0, .ref a1, .ref a2, .int (nI rc), .int (nI ln), .int (nI rk), .int (nI ds), .int (nI su), .int (nI rd)])), (a0, .inl (cI, 5, .inl Rf)), (a1, .inl (cI, 32, .inl Lf)), (a2, .inl (cI, 11, .inl Wf)), (t0, .inr (4, [.ref v0, .int bs, .int bp, .int sr])), (v0, .inl (cI, 4, .inl V)), (d0, .inr (0, [.int sd]))] 34 := by
      refine zg_dn (fun i hi ih_34  => ?_)
      refine zg_iload_n C 2 dX5_digest_34 rfl ?_
      refine zg_aload_n C 0 dX5_digest_35 rfl ?_
      refine zg_get C 0 (ci := 5) (f := 0) rfl rfl uX5_digest_5 (by decide) fX5_digest_5_0 dX5_digest_36 rfl ?_
      refine zg_callr (As := []) (st := [.int (nI i)]) C [1, 2] 1 0 (c_X1_size l D cI p0 g0 pg pn ) gX5_digest_X1_size (by decide +kernel) rfl ⟨rfl, rfl⟩ ⟨Nat.le_of_ble_eq_true rfl, Nat.le_of_ble_eq_true rfl⟩ rfl (ci := 1) rfl rfl rfl rfl (Nat.le_of_ble_eq_true rfl) ⟨Nat.le_of_ble_eq_true rfl, Nat.le_of_ble_eq_true rfl⟩ dX5_digest_39 ?_
      refine zn_icmp_ge C 67 (by omega) (by omega) dX5_digest_42 (by decide) (fun c_42 => ?_) (fun c_42 => ?_)
      · skip
        have e9_67 : pn = i := by omega
        subst e9_67
        refine zg_iconst (v := nI 0) C dX5_digest_67 (by decide) ?_
        refine zg_istore_n C [1, 2, 0] (lv' := [(0, .ref c0), (1, .long (zmix pg (31 * (if 0 < ln then zdgS R rc ln 1667 else 1667) + sd.toInt64) pn)), (3, .int (nI 0))]) dX5_digest_68 (by decide) rfl ?_
        have L_69 : ∀ i, i ≤ 8 → zG X 0 0 [(0, .ref c0), (1, .long (zmix (zcnt pn V bs bp sr) (zmix pg (31 * (if 0 < ln then zdgS R rc ln 1667 else 1667) + sd.toInt64) pn) i)), (3, .int (nI i))] [] [(c0, .inr (5, [.ref p0, .ref r0, .ref h0, .ref t0, .ref d0])), (p0, .inr (1, [.ref g0, .int (nI pn)])), (g0, .inl (cI, 56, .inl pg)), (r0, .inr (2, [.ref b0, .int x1, .int x2, .int x3])), (b0, .inl (cI, 5, .inl Qf)), (h0, .inr (3, [.ref a0, .ref a1, .ref a2, .int (nI rc), .int (nI ln), .int (nI rk), .int (nI ds), .int (nI su), .int (nI rd)])), (a0, .inl (cI, 5, .inl Rf)), (a1, .inl (cI, 32, .inl Lf)), (a2, .inl (cI, 11, .inl Wf)), (t0, .inr (4, [.ref v0, .int bs, .int bp, .int sr])), (v0, .inl (cI, 4, .inl V)), (d0, .inr (0, [.int sd]))] 69 := by
          refine zg_dn (fun i hi ih_69  => ?_)
          refine zg_iload_n C 2 dX5_digest_69 rfl ?_
          refine zg_bipush (v := nI 7) C dX5_digest_70 (by decide) ?_
          refine zn_icmp_gt C 94 (by omega) (by omega) dX5_digest_72 (by decide) (fun c_72 => ?_) (fun c_72 => ?_)
          · skip
            have e9_94 : 8 = i := by omega
            subst e9_94
            refine zg_lload_n C 1 dX5_digest_94 rfl ?_
            exact zg_lret C E dX5_digest_95 (rfl)
          · skip
            refine zg_ldc2 C dX5_digest_75 wX5_digest_1 ?_
            refine zg_lload_n C 1 dX5_digest_78 rfl ?_
            refine zg_lmul C dX5_digest_79 ((31) * (zmix (zcnt pn V bs bp sr) (zmix pg (31 * (if 0 < ln then zdgS R rc ln 1667 else 1667) + sd.toInt64) pn) i)) (rfl) ?_
            refine zg_aload_n C 0 dX5_digest_80 rfl ?_
            refine zg_iload_n C 2 dX5_digest_81 rfl ?_
            refine zg_callr (As := [.int (nI i)]) (st := [.long ((31) * (zmix (zcnt pn V bs bp sr) (zmix pg (31 * (if 0 < ln then zdgS R rc ln 1667 else 1667) + sd.toInt64) pn) i))]) C [0, 1, 2, 3, 4, 5, 6, 7, 8, 9, 10, 11] 0 1 (c_X5_count l D cI c0 p0 g0 r0 b0 h0 a0 a1 a2 t0 v0 d0 pg pn x1 x2 x3 Qf Rf Lf Wf rc ln rk ds su rd V bs bp sr sd R (nI i) ) gX5_digest_X5_count (by decide +kernel) rfl ⟨rfl, rfl⟩ ⟨Nat.le_of_ble_eq_true rfl, Nat.le_of_ble_eq_true rfl⟩ rfl (ci := 5) rfl rfl rfl rfl (Nat.le_of_ble_eq_true rfl) ⟨Nat.le_of_ble_eq_true rfl, Nat.le_of_ble_eq_true rfl⟩ dX5_digest_82 ?_
            refine zg_cv (st' := [.int (zcnt pn V bs bp sr i), .long ((31) * (zmix (zcnt pn V bs bp sr) (zmix pg (31 * (if 0 < ln then zdgS R rc ln 1667 else 1667) + sd.toInt64) pn) i))]) rfl (by rw [show zAcnt pn V bs bp sr (nI i) = zcnt pn V bs bp sr i from (by rw [zAcnt, if_pos (zin_nI (show i < 8 by omega) (by decide)), zn_nI (by omega)])]) rfl ?_
            refine zg_i2l C dX5_digest_85 ((zcnt pn V bs bp sr i).toInt64) (rfl) ?_
            refine zg_ladd C dX5_digest_86 (((31) * (zmix (zcnt pn V bs bp sr) (zmix pg (31 * (if 0 < ln then zdgS R rc ln 1667 else 1667) + sd.toInt64) pn) i)) + ((zcnt pn V bs bp sr i).toInt64)) (rfl) ?_
            refine zg_lstore_n C [1, 0, 2] (lv' := [(0, .ref c0), (1, .long (((31) * (zmix (zcnt pn V bs bp sr) (zmix pg (31 * (if 0 < ln then zdgS R rc ln 1667 else 1667) + sd.toInt64) pn) i)) + ((zcnt pn V bs bp sr i).toInt64))), (3, .int (nI i))]) dX5_digest_87 (by decide) rfl ?_
            refine zg_iinc C 2 [1, 2, 0] (lv' := [(0, .ref c0), (1, .long (((31) * (zmix (zcnt pn V bs bp sr) (zmix pg (31 * (if 0 < ln then zdgS R rc ln 1667 else 1667) + sd.toInt64) pn) i)) + ((zcnt pn V bs bp sr i).toInt64))), (3, .int (nI (i + 1)))]) (nI (i + 1)) dX5_digest_88 rfl (zi_inc _) (by decide) rfl ?_
            refine zg_goto C 69 dX5_digest_91 (by decide) ?_
            exact zg_cv (lv' := [(0, .ref c0), (1, .long (zmix (zcnt pn V bs bp sr) (zmix pg (31 * (if 0 < ln then zdgS R rc ln 1667 else 1667) + sd.toInt64) pn) (i + 1))), (3, .int (nI (i + 1)))]) (rfl) rfl (rfl) (ih_69 (by omega) )
        exact zg_cv (lv' := [(0, .ref c0), (1, .long (zmix (zcnt pn V bs bp sr) (zmix pg (31 * (if 0 < ln then zdgS R rc ln 1667 else 1667) + sd.toInt64) pn) 0)), (3, .int (nI 0))]) (rfl) rfl (rfl) (L_69 0 (Nat.zero_le _) )
      · skip
        refine zg_ldc2 C dX5_digest_45 wX5_digest_1 ?_
        refine zg_lload_n C 1 dX5_digest_48 rfl ?_
        refine zg_lmul C dX5_digest_49 ((31) * (zmix pg (31 * (if 0 < ln then zdgS R rc ln 1667 else 1667) + sd.toInt64) i)) (rfl) ?_
        refine zg_aload_n C 0 dX5_digest_50 rfl ?_
        refine zg_get C 0 (ci := 5) (f := 0) rfl rfl uX5_digest_5 (by decide) fX5_digest_5_0 dX5_digest_51 rfl ?_
        refine zg_iload_n C 2 dX5_digest_54 rfl ?_
        refine zg_callr (As := [.int (nI i)]) (st := [.long ((31) * (zmix pg (31 * (if 0 < ln then zdgS R rc ln 1667 else 1667) + sd.toInt64) i))]) C [1, 2] 1 1 (c_X1_letterAt l D cI p0 g0 pg pn i (by omega)) gX5_digest_X1_letterAt (by decide +kernel) rfl ⟨rfl, rfl⟩ ⟨Nat.le_of_ble_eq_true rfl, Nat.le_of_ble_eq_true rfl⟩ rfl (ci := 1) rfl rfl rfl rfl (Nat.le_of_ble_eq_true rfl) ⟨Nat.le_of_ble_eq_true rfl, Nat.le_of_ble_eq_true rfl⟩ dX5_digest_55 ?_
        refine zg_i2l C dX5_digest_58 ((pg i).toInt64) (rfl) ?_
        refine zg_ladd C dX5_digest_59 (((31) * (zmix pg (31 * (if 0 < ln then zdgS R rc ln 1667 else 1667) + sd.toInt64) i)) + ((pg i).toInt64)) (rfl) ?_
        refine zg_lstore_n C [1, 0, 2] (lv' := [(0, .ref c0), (1, .long (((31) * (zmix pg (31 * (if 0 < ln then zdgS R rc ln 1667 else 1667) + sd.toInt64) i)) + ((pg i).toInt64))), (3, .int (nI i))]) dX5_digest_60 (by decide) rfl ?_
        refine zg_iinc C 2 [1, 2, 0] (lv' := [(0, .ref c0), (1, .long (((31) * (zmix pg (31 * (if 0 < ln then zdgS R rc ln 1667 else 1667) + sd.toInt64) i)) + ((pg i).toInt64))), (3, .int (nI (i + 1)))]) (nI (i + 1)) dX5_digest_61 rfl (zi_inc _) (by decide) rfl ?_
        refine zg_goto C 34 dX5_digest_64 (by decide) ?_
        exact zg_cv (lv' := [(0, .ref c0), (1, .long (zmix pg (31 * (if 0 < ln then zdgS R rc ln 1667 else 1667) + sd.toInt64) (i + 1))), (3, .int (nI (i + 1)))]) (rfl) rfl (rfl) (ih_34 (by omega) )
    exact zg_cv (lv' := [(0, .ref c0), (1, .long (zmix pg (31 * (if 0 < ln then zdgS R rc ln 1667 else 1667) + sd.toInt64) 0)), (3, .int (nI 0))]) (rfl) rfl (rfl) (L_34 0 (Nat.zero_le _) )
