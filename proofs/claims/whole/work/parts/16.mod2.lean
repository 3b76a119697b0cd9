/-! the reference: tables, and what is told of SUMS -/
theorem uX6_layReach_6 : ∀ w ∈ u_ws RX6 TX6 21, w ∈ wsX6_layReach := fun w h => List.mem_cons_of_mem _ (List.mem_append_right _ h)
theorem fX6_layReach_6_3 : Cond.fieldLink RX6 59 (TX6 3).1 (TX6 3).2.1 (TX6 3).2.2.1 ∈ wsX6_layReach := by decide +kernel
theorem fX6_layReach_6_18 : Cond.fieldLink RX6 90 (TX6 18).1 (TX6 18).2.1 (TX6 18).2.2.1 ∈ wsX6_layReach := by decide +kernel
theorem fX6_layReach_6_19 : Cond.fieldLink RX6 93 (TX6 19).1 (TX6 19).2.1 (TX6 19).2.2.1 ∈ wsX6_layReach := by decide +kernel
theorem fX6_layReach_6_15 : Cond.fieldLink RX6 29 (TX6 15).1 (TX6 15).2.1 (TX6 15).2.2.1 ∈ wsX6_layReach := by decide +kernel
theorem fX6_layReach_6_14 : Cond.fieldLink RX6 26 (TX6 14).1 (TX6 14).2.1 (TX6 14).2.2.1 ∈ wsX6_layReach := by decide +kernel
set_option maxHeartbeats 1000000 in
set_option maxRecDepth 100000 in
theorem c_X6_layReach (l : Launch) (D : va_G) (cI : ClassId) (m0 mp mo mv mn my ml : Nat) (pg Of V Nf Yf Lf : Nat → Int32) (pn rc ln rk su rd : Nat) (sd bs bp sr y1 y2 y3 dz : Int32) (hh : Int64) (R : Nat → Nat) (hrc : rc ≤ 5) (hln : ln ≤ 10) (h3 : 3 ≤ ln) (hY : ∀ w, w < 2 ^ ln → Yf w = nI (zsk R w rc)) (hL : ∀ y, y < 32 → Lf y = zo (zld R rc (2 ^ ln) y)) : zMw l D cI yX6_layReach wsX6_layReach { frames := 2, cells := 0, slots := 0, locals := 45 } [.ref m0] [(m0, .inr (6, [.int (nI pn), .ref mp, .int (nI rc), .int (nI ln), .ref mo, .int sd, .ref mv, .int bs, .int bp, .int sr, .int y1, .int y2, .int y3, .ref mn, .ref my, .ref ml, .int (nI rk), .int dz, .int (nI su), .int (nI rd), .long hh])), (mp, .inl (cI, 56, .inl pg)), (mo, .inl (cI, 5, .inl Of)), (mv, .inl (cI, 4, .inl V)), (mn, .inl (cI, 5, .inl Nf)), (my, .inl (cI, 1024, .inl Yf)), (ml, .inl (cI, 32, .inl Lf))] (fun v9 w9 => v9 = none ∧ w9 = [(m0, .inr (6, [.int (nI pn), .ref mp, .int (nI rc), .int (nI ln), .ref mo, .int sd, .ref mv, .int bs, .int bp, .int sr, .int y1, .int y2, .int y3, .ref mn, .ref my, .ref ml, .int (nI rk), .int dz, .int (nI (zsu ln (zdm R rc ln (2 ^ ln)))), .int (nI (zrad (zld R rc (2 ^ ln)) 32)), .long hh])), (mp, .inl (cI, 56, .inl pg)), (mo, .inl (cI, 5, .inl Of)), (mv, .inl (cI, 4, .inl V)), (mn, .inl (cI, 5, .inl Nf)), (my, .inl (cI, 1024, .inl Yf)), (ml, .inl (cI, 32, .inl Lf))]) 0 0 := by
  refine zw_ent (maxL := 2) (by decide) rfl (Nat.le_of_ble_eq_true rfl) (fun X C E hin9 => ?_)
  have C : zC X l D cI { frames := 2, cells := 0, slots := 0, locals := 45 } 2 true cX6_layReach RX6 wsX6_layReach := C
  refine zg_cv (lv' := [(0, .ref m0)]) rfl rfl rfl ?_
  have q0 := zpw hln
  have q1 := zpw0 ln
  have q5 := zpw5 hrc
  refine zg_aload_n C 0 dX6_layReach_0 rfl ?_
  refine zg_aload_n C 0 dX6_layReach_1 rfl ?_
  refine zg_get C 0 (ci := 6) (f := 3) rfl rfl uX6_layReach_6 (by decide) fX6_layReach_6_3 dX6_layReach_2 rfl ?_
  refine zg_put C 0 (ci := 6) (f := 18) (ws' := [(m0, .inr (6, [.int (nI pn), .ref mp, .int (nI rc), .int (nI ln), .ref mo, .int sd, .ref mv, .int bs, .int bp, .int sr, .int y1, .int y2, .int y3, .ref mn, .ref my, .ref ml, .int (nI rk), .int dz, .int (nI ln), .int (nI rd), .long hh])), (mp, .inl (cI, 56, .inl pg)), (mo, .inl (cI, 5, .inl Of)), (mv, .inl (cI, 4, .inl V)), (mn, .inl (cI, 5, .inl Nf)), (my, .inl (cI, 1024, .inl Yf)), (ml, .inl (cI, 32, .inl Lf))]) rfl rfl uX6_layReach_6 tyX6_ok nmX6 (by decide) fX6_layReach_6_18 rfl rfl rfl rfl (Nat.le_of_ble_eq_true rfl) dX6_layReach_5 rfl ?_
  refine zg_aload_n C 0 dX6_layReach_8 rfl ?_
  refine zg_iconst (v := nI 0) C dX6_layReach_9 (by decide) ?_
  refine zg_put C 0 (ci := 6) (f := 19) (ws' := [(m0, .inr (6, [.int (nI pn), .ref mp, .int (nI rc), .int (nI ln), .ref mo, .int sd, .ref mv, .int bs, .int bp, .int sr, .int y1, .int y2, .int y3, .ref mn, .ref my, .ref ml, .int (nI rk), .int dz, .int (nI ln), .int (nI 0), .long hh])), (mp, .inl (cI, 56, .inl pg)), (mo, .inl (cI, 5, .inl Of)), (mv, .inl (cI, 4, .inl V)), (mn, .inl (cI, 5, .inl Nf)), (my, .inl (cI, 1024, .inl Yf)), (ml, .inl (cI, 32, .inl Lf))]) rfl rfl uX6_layReach_6 tyX6_ok nmX6 (by decide) fX6_layReach_6_19 rfl rfl rfl rfl (Nat.le_of_ble_eq_true rfl) dX6_layReach_10 rfl ?_
  refine zg_iconst (v := nI 0) C dX6_layReach_13 (by decide) ?_
  refine zg_istore_n C [1, 0] (lv' := [(0, .ref m0), (1, .int (nI 0))]) dX6_layReach_14 (by decide) rfl ?_
  have L_15 : ∀ i, i ≤ 2 ^ ln → zG X 0 0 [(0, .ref m0), (1, .int (nI i))] [] [(m0, .inr (6, [.int (nI pn), .ref mp, .int (nI rc), .int (nI ln), .ref mo, .int sd, .ref mv, .int bs, .int bp, .int sr, .int y1, .int y2, .int y3, .ref mn, .ref my, .ref ml, .int (nI rk), .int dz, .int (nI (zsr R rc ln (2 ^ ln) i)), .int (nI (zrw R rc (2 ^ ln) i)), .long hh])), (mp, .inl (cI, 56, .inl pg)), (mo, .inl (cI, 5, .inl Of)), (mv, .inl (cI, 4, .inl V)), (mn, .inl (cI, 5, .inl Nf)), (my, .inl (cI, 1024, .inl Yf)), (ml, .inl (cI, 32, .inl Lf))] 15 := by
    refine zg_dn (fun i hi ih_15  => ?_)
    refine zg_iload_n C 1 dX6_layReach_15 rfl ?_
    refine zg_aload_n C 0 dX6_layReach_16 rfl ?_
    refine zg_callr (As := []) (st := [.int (nI i)]) C [0, 1, 2, 3, 4, 5, 6] 0 0 (c_X6_words l D cI m0 mp mo mv mn my ml pg Of V Nf Yf Lf pn rc ln rk (zsr R rc ln (2 ^ ln) i) (zrw R rc (2 ^ ln) i) sd bs bp sr y1 y2 y3 dz hh hln) gX6_layReach_X6_words (by decide +kernel) rfl ⟨rfl, rfl⟩ ⟨Nat.le_of_ble_eq_true rfl, Nat.le_of_ble_eq_true rfl⟩ rfl (ci := 6) rfl rfl rfl rfl (Nat.le_of_ble_eq_true rfl) ⟨Nat.le_of_ble_eq_true rfl, Nat.le_of_ble_eq_true rfl⟩ dX6_layReach_17 ?_
    refine zn_icmp_ge C 99 (by omega) (by omega) dX6_layReach_20 (by decide) (fun c_20 => ?_) (fun c_20 => ?_)
    · skip
      have e9_99 : 2 ^ ln = i := by omega
      subst e9_99
      refine zg_cv (ws' := [(m0, .inr (6, [.int (nI pn), .ref mp, .int (nI rc), .int (nI ln), .ref mo, .int sd, .ref mv, .int bs, .int bp, .int sr, .int y1, .int y2, .int y3, .ref mn, .ref my, .ref ml, .int (nI rk), .int dz, .int (nI (zsu ln (zdm R rc ln (2 ^ ln)))), .int (nI (zrw R rc (2 ^ ln) (2 ^ ln))), .long hh])), (mp, .inl (cI, 56, .inl pg)), (mo, .inl (cI, 5, .inl Of)), (mv, .inl (cI, 4, .inl V)), (mn, .inl (cI, 5, .inl Nf)), (my, .inl (cI, 1024, .inl Yf)), (ml, .inl (cI, 32, .inl Lf))]) rfl rfl (congrArg (fun q9 => ([(m0, .inr (6, [.int (nI pn), .ref mp, .int (nI rc), .int (nI ln), .ref mo, .int sd, .ref mv, .int bs, .int bp, .int sr, .int y1, .int y2, .int y3, .ref mn, .ref my, .ref ml, .int (nI rk), .int dz, .int (nI q9), .int (nI (zrw R rc (2 ^ ln) (2 ^ ln))), .long hh])), (mp, .inl (cI, 56, .inl pg)), (mo, .inl (cI, 5, .inl Of)), (mv, .inl (cI, 4, .inl V)), (mn, .inl (cI, 5, .inl Nf)), (my, .inl (cI, 1024, .inl Yf)), (ml, .inl (cI, 32, .inl Lf))] : va_W)) (zsr_eq R h3 hln)) ?_
      refine zg_cv (ws' := [(m0, .inr (6, [.int (nI pn), .ref mp, .int (nI rc), .int (nI ln), .ref mo, .int sd, .ref mv, .int bs, .int bp, .int sr, .int y1, .int y2, .int y3, .ref mn, .ref my, .ref ml, .int (nI rk), .int dz, .int (nI (zsu ln (zdm R rc ln (2 ^ ln)))), .int (nI (zrad (zld R rc (2 ^ ln)) 32)), .long hh])), (mp, .inl (cI, 56, .inl pg)), (mo, .inl (cI, 5, .inl Of)), (mv, .inl (cI, 4, .inl V)), (mn, .inl (cI, 5, .inl Nf)), (my, .inl (cI, 1024, .inl Yf)), (ml, .inl (cI, 32, .inl Lf))]) rfl rfl (congrArg (fun q9 => ([(m0, .inr (6, [.int (nI pn), .ref mp, .int (nI rc), .int (nI ln), .ref mo, .int sd, .ref mv, .int bs, .int bp, .int sr, .int y1, .int y2, .int y3, .ref mn, .ref my, .ref ml, .int (nI rk), .int dz, .int (nI (zsu ln (zdm R rc ln (2 ^ ln)))), .int (nI q9), .long hh])), (mp, .inl (cI, 56, .inl pg)), (mo, .inl (cI, 5, .inl Of)), (mv, .inl (cI, 4, .inl V)), (mn, .inl (cI, 5, .inl Nf)), (my, .inl (cI, 1024, .inl Yf)), (ml, .inl (cI, 32, .inl Lf))] : va_W)) (zrw_eq R hrc)) ?_
      exact zg_wvret C E dX6_layReach_99 (⟨rfl, rfl⟩)
    · skip
      have q2 := (zsr_inv R rc ln (2 ^ ln) i).1
      have q3 := zpc_le i
      refine zg_iload_n C 1 dX6_layReach_23 rfl ?_
      refine zg_calls (As := [.int (nI i)]) (st := []) C [] 1 (c_X6_ones l D cI i (by omega)) gX6_layReach_X6_ones (by decide +kernel) rfl ⟨rfl, rfl⟩ ⟨Nat.le_of_ble_eq_true rfl, Nat.le_of_ble_eq_true rfl⟩ rfl rfl rfl (Nat.le_of_ble_eq_true rfl) ⟨Nat.le_of_ble_eq_true rfl, Nat.le_of_ble_eq_true rfl⟩ dX6_layReach_24 ?_
      refine zg_aload_n C 0 dX6_layReach_27 rfl ?_
      refine zg_get C 0 (ci := 6) (f := 18) rfl rfl uX6_layReach_6 (by decide) fX6_layReach_6_18 dX6_layReach_28 rfl ?_
      refine zn_icmp_gt C 52 (by omega) (by omega) dX6_layReach_31 (by decide) (fun c_31 => ?_) (fun c_31 => ?_)
      · skip
        obtain ⟨v, hv, -⟩ := zld_min (R := R) (rc := rc) (show i < 2 ^ ln by omega)
        have hv2 := (zld_some hv).1
        have q7 := zsk_lt R i rc
        have q8 := (zrw_spec R rc (2 ^ ln) i).1
        refine zg_cv (ws' := [(m0, .inr (6, [.int (nI pn), .ref mp, .int (nI rc), .int (nI ln), .ref mo, .int sd, .ref mv, .int bs, .int bp, .int sr, .int y1, .int y2, .int y3, .ref mn, .ref my, .ref ml, .int (nI rk), .int dz, .int (nI (zsr R rc ln (2 ^ ln) (i + 1))), .int (nI (zrw R rc (2 ^ ln) i)), .long hh])), (mp, .inl (cI, 56, .inl pg)), (mo, .inl (cI, 5, .inl Of)), (mv, .inl (cI, 4, .inl V)), (mn, .inl (cI, 5, .inl Nf)), (my, .inl (cI, 1024, .inl Yf)), (ml, .inl (cI, 32, .inl Lf))]) rfl rfl (congrArg (fun q9 => ([(m0, .inr (6, [.int (nI pn), .ref mp, .int (nI rc), .int (nI ln), .ref mo, .int sd, .ref mv, .int bs, .int bp, .int sr, .int y1, .int y2, .int y3, .ref mn, .ref my, .ref ml, .int (nI rk), .int dz, .int (nI q9), .int (nI (zrw R rc (2 ^ ln) i)), .long hh])), (mp, .inl (cI, 56, .inl pg)), (mo, .inl (cI, 5, .inl Of)), (mv, .inl (cI, 4, .inl V)), (mn, .inl (cI, 5, .inl Nf)), (my, .inl (cI, 1024, .inl Yf)), (ml, .inl (cI, 32, .inl Lf))] : va_W)) ((zsr_f (fun q => by omega)).symm)) ?_
        refine zg_aload_n C 0 dX6_layReach_52 rfl ?_
        refine zg_aload_n C 0 dX6_layReach_53 rfl ?_
        refine zg_get C 0 (ci := 6) (f := 15) rfl rfl uX6_layReach_6 (by decide) fX6_layReach_6_15 dX6_layReach_54 rfl ?_
        refine zg_aload_n C 0 dX6_layReach_57 rfl ?_
        refine zg_get C 0 (ci := 6) (f := 14) rfl rfl uX6_layReach_6 (by decide) fX6_layReach_6_14 dX6_layReach_58 rfl ?_
        refine zg_iload_n C 1 dX6_layReach_61 rfl ?_
        refine zg_iald C 5 rfl (by omega) (by decide) dX6_layReach_62 (nI (zsk R i rc)) (hY i (by omega)) ?_
        refine zg_iald C 6 rfl (by omega) (by decide) dX6_layReach_63 (nI v) ((hL _ (by omega)).trans (by rw [hv]; rfl)) ?_
        refine zg_iload_n C 1 dX6_layReach_64 rfl ?_
        refine zn_icmp_ne C 86 (by omega) (by omega) dX6_layReach_65 (by decide) (fun c_65 => ?_) (fun c_65 => ?_)
        · skip
          refine zg_aload_n C 0 dX6_layReach_86 rfl ?_
          refine zg_get C 0 (ci := 6) (f := 19) rfl rfl uX6_layReach_6 (by decide) fX6_layReach_6_19 dX6_layReach_87 rfl ?_
          refine zg_put C 0 (ci := 6) (f := 19) (ws' := [(m0, .inr (6, [.int (nI pn), .ref mp, .int (nI rc), .int (nI ln), .ref mo, .int sd, .ref mv, .int bs, .int bp, .int sr, .int y1, .int y2, .int y3, .ref mn, .ref my, .ref ml, .int (nI rk), .int dz, .int (nI (zsr R rc ln (2 ^ ln) (i + 1))), .int (nI (zrw R rc (2 ^ ln) i)), .long hh])), (mp, .inl (cI, 56, .inl pg)), (mo, .inl (cI, 5, .inl Of)), (mv, .inl (cI, 4, .inl V)), (mn, .inl (cI, 5, .inl Nf)), (my, .inl (cI, 1024, .inl Yf)), (ml, .inl (cI, 32, .inl Lf))]) rfl rfl uX6_layReach_6 tyX6_ok nmX6 (by decide) fX6_layReach_6_19 rfl rfl rfl rfl (Nat.le_of_ble_eq_true rfl) dX6_layReach_90 rfl ?_
          refine zg_cv (ws' := [(m0, .inr (6, [.int (nI pn), .ref mp, .int (nI rc), .int (nI ln), .ref mo, .int sd, .ref mv, .int bs, .int bp, .int sr, .int y1, .int y2, .int y3, .ref mn, .ref my, .ref ml, .int (nI rk), .int dz, .int (nI (zsr R rc ln (2 ^ ln) (i + 1))), .int (nI (zrw R rc (2 ^ ln) (i + 1))), .long hh])), (mp, .inl (cI, 56, .inl pg)), (mo, .inl (cI, 5, .inl Of)), (mv, .inl (cI, 4, .inl V)), (mn, .inl (cI, 5, .inl Nf)), (my, .inl (cI, 1024, .inl Yf)), (ml, .inl (cI, 32, .inl Lf))]) rfl rfl (congrArg (fun q9 => ([(m0, .inr (6, [.int (nI pn), .ref mp, .int (nI rc), .int (nI ln), .ref mo, .int sd, .ref mv, .int bs, .int bp, .int sr, .int y1, .int y2, .int y3, .ref mn, .ref my, .ref ml, .int (nI rk), .int dz, .int (nI (zsr R rc ln (2 ^ ln) (i + 1))), .int (nI q9), .long hh])), (mp, .inl (cI, 56, .inl pg)), (mo, .inl (cI, 5, .inl Of)), (mv, .inl (cI, 4, .inl V)), (mn, .inl (cI, 5, .inl Nf)), (my, .inl (cI, 1024, .inl Yf)), (ml, .inl (cI, 32, .inl Lf))] : va_W)) ((zrw_f (fun q => by rw [hv] at q; exact c_65 (Option.some.inj q.1))).symm)) ?_
          refine zg_iinc C 1 [1, 0] (lv' := [(0, .ref m0), (1, .int (nI (i + 1)))]) (nI (i + 1)) dX6_layReach_93 rfl (zi_inc _) (by decide) rfl ?_
          refine zg_goto C 15 dX6_layReach_96 (by decide) ?_
          exact zg_cv (lv' := [(0, .ref m0), (1, .int (nI (i + 1)))]) (rfl) rfl (rfl) (ih_15 (by omega) )
        · skip
          refine zg_iload_n C 1 dX6_layReach_68 rfl ?_
          refine zg_calls (As := [.int (nI i)]) (st := [.ref m0]) C [] 1 (c_X6_ones l D cI i (by omega)) gX6_layReach_X6_ones (by decide +kernel) rfl ⟨rfl, rfl⟩ ⟨Nat.le_of_ble_eq_true rfl, Nat.le_of_ble_eq_true rfl⟩ rfl rfl rfl (Nat.le_of_ble_eq_true rfl) ⟨Nat.le_of_ble_eq_true rfl, Nat.le_of_ble_eq_true rfl⟩ dX6_layReach_69 ?_
          refine zg_aload_n C 0 dX6_layReach_72 rfl ?_
          refine zg_get C 0 (ci := 6) (f := 19) rfl rfl uX6_layReach_6 (by decide) fX6_layReach_6_19 dX6_layReach_73 rfl ?_
          refine zn_icmp_le C 86 (by omega) (by omega) dX6_layReach_76 (by decide) (fun c_76 => ?_) (fun c_76 => ?_)
          · skip
            refine zg_aload_n C 0 dX6_layReach_86 rfl ?_
            refine zg_get C 0 (ci := 6) (f := 19) rfl rfl uX6_layReach_6 (by decide) fX6_layReach_6_19 dX6_layReach_87 rfl ?_
            refine zg_put C 0 (ci := 6) (f := 19) (ws' := [(m0, .inr (6, [.int (nI pn), .ref mp, .int (nI rc), .int (nI ln), .ref mo, .int sd, .ref mv, .int bs, .int bp, .int sr, .int y1, .int y2, .int y3, .ref mn, .ref my, .ref ml, .int (nI rk), .int dz, .int (nI (zsr R rc ln (2 ^ ln) (i + 1))), .int (nI (zrw R rc (2 ^ ln) i)), .long hh])), (mp, .inl (cI, 56, .inl pg)), (mo, .inl (cI, 5, .inl Of)), (mv, .inl (cI, 4, .inl V)), (mn, .inl (cI, 5, .inl Nf)), (my, .inl (cI, 1024, .inl Yf)), (ml, .inl (cI, 32, .inl Lf))]) rfl rfl uX6_layReach_6 tyX6_ok nmX6 (by decide) fX6_layReach_6_19 rfl rfl rfl rfl (Nat.le_of_ble_eq_true rfl) dX6_layReach_90 rfl ?_
            refine zg_cv (ws' := [(m0, .inr (6, [.int (nI pn), .ref mp, .int (nI rc), .int (nI ln), .ref mo, .int sd, .ref mv, .int bs, .int bp, .int sr, .int y1, .int y2, .int y3, .ref mn, .ref my, .ref ml, .int (nI rk), .int dz, .int (nI (zsr R rc ln (2 ^ ln) (i + 1))), .int (nI (zrw R rc (2 ^ ln) (i + 1))), .long hh])), (mp, .inl (cI, 56, .inl pg)), (mo, .inl (cI, 5, .inl Of)), (mv, .inl (cI, 4, .inl V)), (mn, .inl (cI, 5, .inl Nf)), (my, .inl (cI, 1024, .inl Yf)), (ml, .inl (cI, 32, .inl Lf))]) rfl rfl (congrArg (fun q9 => ([(m0, .inr (6, [.int (nI pn), .ref mp, .int (nI rc), .int (nI ln), .ref mo, .int sd, .ref mv, .int bs, .int bp, .int sr, .int y1, .int y2, .int y3, .ref mn, .ref my, .ref ml, .int (nI rk), .int dz, .int (nI (zsr R rc ln (2 ^ ln) (i + 1))), .int (nI q9), .long hh])), (mp, .inl (cI, 56, .inl pg)), (mo, .inl (cI, 5, .inl Of)), (mv, .inl (cI, 4, .inl V)), (mn, .inl (cI, 5, .inl Nf)), (my, .inl (cI, 1024, .inl Yf)), (ml, .inl (cI, 32, .inl Lf))] : va_W)) ((zrw_f (fun q => by omega)).symm)) ?_
            refine zg_iinc C 1 [1, 0] (lv' := [(0, .ref m0), (1, .int (nI (i + 1)))]) (nI (i + 1)) dX6_layReach_93 rfl (zi_inc _) (by decide) rfl ?_
            refine zg_goto C 15 dX6_layReach_96 (by decide) ?_
            exact zg_cv (lv' := [(0, .ref m0), (1, .int (nI (i + 1)))]) (rfl) rfl (rfl) (ih_15 (by omega) )
          · skip
            refine zg_iload_n C 1 dX6_layReach_79 rfl ?_
            refine zg_calls (As := [.int (nI i)]) (st := [.ref m0]) C [] 1 (c_X6_ones l D cI i (by omega)) gX6_layReach_X6_ones (by decide +kernel) rfl ⟨rfl, rfl⟩ ⟨Nat.le_of_ble_eq_true rfl, Nat.le_of_ble_eq_true rfl⟩ rfl rfl rfl (Nat.le_of_ble_eq_true rfl) ⟨Nat.le_of_ble_eq_true rfl, Nat.le_of_ble_eq_true rfl⟩ dX6_layReach_80 ?_
            refine zg_goto C 90 dX6_layReach_83 (by decide) ?_
            refine zg_put C 0 (ci := 6) (f := 19) (ws' := [(m0, .inr (6, [.int (nI pn), .ref mp, .int (nI rc), .int (nI ln), .ref mo, .int sd, .ref mv, .int bs, .int bp, .int sr, .int y1, .int y2, .int y3, .ref mn, .ref my, .ref ml, .int (nI rk), .int dz, .int (nI (zsr R rc ln (2 ^ ln) (i + 1))), .int (nI (zpc i)), .long hh])), (mp, .inl (cI, 56, .inl pg)), (mo, .inl (cI, 5, .inl Of)), (mv, .inl (cI, 4, .inl V)), (mn, .inl (cI, 5, .inl Nf)), (my, .inl (cI, 1024, .inl Yf)), (ml, .inl (cI, 32, .inl Lf))]) rfl rfl uX6_layReach_6 tyX6_ok nmX6 (by decide) fX6_layReach_6_19 rfl rfl rfl rfl (Nat.le_of_ble_eq_true rfl) dX6_layReach_90 rfl ?_
            refine zg_cv (ws' := [(m0, .inr (6, [.int (nI pn), .ref mp, .int (nI rc), .int (nI ln), .ref mo, .int sd, .ref mv, .int bs, .int bp, .int sr, .int y1, .int y2, .int y3, .ref mn, .ref my, .ref ml, .int (nI rk), .int dz, .int (nI (zsr R rc ln (2 ^ ln) (i + 1))), .int (nI (zrw R rc (2 ^ ln) (i + 1))), .long hh])), (mp, .inl (cI, 56, .inl pg)), (mo, .inl (cI, 5, .inl Of)), (mv, .inl (cI, 4, .inl V)), (mn, .inl (cI, 5, .inl Nf)), (my, .inl (cI, 1024, .inl Yf)), (ml, .inl (cI, 32, .inl Lf))]) rfl rfl (congrArg (fun q9 => ([(m0, .inr (6, [.int (nI pn), .ref mp, .int (nI rc), .int (nI ln), .ref mo, .int sd, .ref mv, .int bs, .int bp, .int sr, .int y1, .int y2, .int y3, .ref mn, .ref my, .ref ml, .int (nI rk), .int dz, .int (nI (zsr R rc ln (2 ^ ln) (i + 1))), .int (nI q9), .long hh])), (mp, .inl (cI, 56, .inl pg)), (mo, .inl (cI, 5, .inl Of)), (mv, .inl (cI, 4, .inl V)), (mn, .inl (cI, 5, .inl Nf)), (my, .inl (cI, 1024, .inl Yf)), (ml, .inl (cI, 32, .inl Lf))] : va_W)) ((zrw_t ⟨by rw [hv, c_65], c_76⟩).symm)) ?_
            refine zg_iinc C 1 [1, 0] (lv' := [(0, .ref m0), (1, .int (nI (i + 1)))]) (nI (i + 1)) dX6_layReach_93 rfl (zi_inc _) (by decide) rfl ?_
            refine zg_goto C 15 dX6_layReach_96 (by decide) ?_
            exact zg_cv (lv' := [(0, .ref m0), (1, .int (nI (i + 1)))]) (rfl) rfl (rfl) (ih_15 (by omega) )
      · skip
        refine zg_aload_n C 0 dX6_layReach_34 rfl ?_
        refine zg_iload_n C 1 dX6_layReach_35 rfl ?_
        refine zg_callr (As := [.int (nI i)]) (st := []) C [0, 1, 2, 3, 4, 5, 6] 0 1 (c_X6_isSole l D cI m0 mp mo mv mn my ml pg Of V Nf Yf Lf pn rc ln rk (zsr R rc ln (2 ^ ln) i) (zrw R rc (2 ^ ln) i) sd bs bp sr y1 y2 y3 dz hh R i hrc hln (by omega) (by omega)) gX6_layReach_X6_isSole (by decide +kernel) rfl ⟨rfl, rfl⟩ ⟨Nat.le_of_ble_eq_true rfl, Nat.le_of_ble_eq_true rfl⟩ rfl (ci := 6) rfl rfl rfl rfl (Nat.le_of_ble_eq_true rfl) ⟨Nat.le_of_ble_eq_true rfl, Nat.le_of_ble_eq_true rfl⟩ dX6_layReach_36 ?_
        refine zp_if_ne C 52 dX6_layReach_39 (by decide) (fun c_39 => ?_) (fun c_39 => ?_)
        · skip
          obtain ⟨v, hv, -⟩ := zld_min (R := R) (rc := rc) (show i < 2 ^ ln by omega)
          have hv2 := (zld_some hv).1
          have q7 := zsk_lt R i rc
          have q8 := (zrw_spec R rc (2 ^ ln) i).1
          refine zg_cv (ws' := [(m0, .inr (6, [.int (nI pn), .ref mp, .int (nI rc), .int (nI ln), .ref mo, .int sd, .ref mv, .int bs, .int bp, .int sr, .int y1, .int y2, .int y3, .ref mn, .ref my, .ref ml, .int (nI rk), .int dz, .int (nI (zsr R rc ln (2 ^ ln) (i + 1))), .int (nI (zrw R rc (2 ^ ln) i)), .long hh])), (mp, .inl (cI, 56, .inl pg)), (mo, .inl (cI, 5, .inl Of)), (mv, .inl (cI, 4, .inl V)), (mn, .inl (cI, 5, .inl Nf)), (my, .inl (cI, 1024, .inl Yf)), (ml, .inl (cI, 32, .inl Lf))]) rfl rfl (congrArg (fun q9 => ([(m0, .inr (6, [.int (nI pn), .ref mp, .int (nI rc), .int (nI ln), .ref mo, .int sd, .ref mv, .int bs, .int bp, .int sr, .int y1, .int y2, .int y3, .ref mn, .ref my, .ref ml, .int (nI rk), .int dz, .int (nI q9), .int (nI (zrw R rc (2 ^ ln) i)), .long hh])), (mp, .inl (cI, 56, .inl pg)), (mo, .inl (cI, 5, .inl Of)), (mv, .inl (cI, 4, .inl V)), (mn, .inl (cI, 5, .inl Nf)), (my, .inl (cI, 1024, .inl Yf)), (ml, .inl (cI, 32, .inl Lf))] : va_W)) ((zsr_f (fun q => q.2 c_39)).symm)) ?_
          refine zg_aload_n C 0 dX6_layReach_52 rfl ?_
          refine zg_aload_n C 0 dX6_layReach_53 rfl ?_
          refine zg_get C 0 (ci := 6) (f := 15) rfl rfl uX6_layReach_6 (by decide) fX6_layReach_6_15 dX6_layReach_54 rfl ?_
          refine zg_aload_n C 0 dX6_layReach_57 rfl ?_
          refine zg_get C 0 (ci := 6) (f := 14) rfl rfl uX6_layReach_6 (by decide) fX6_layReach_6_14 dX6_layReach_58 rfl ?_
          refine zg_iload_n C 1 dX6_layReach_61 rfl ?_
          refine zg_iald C 5 rfl (by omega) (by decide) dX6_layReach_62 (nI (zsk R i rc)) (hY i (by omega)) ?_
          refine zg_iald C 6 rfl (by omega) (by decide) dX6_layReach_63 (nI v) ((hL _ (by omega)).trans (by rw [hv]; rfl)) ?_
          refine zg_iload_n C 1 dX6_layReach_64 rfl ?_
          refine zn_icmp_ne C 86 (by omega) (by omega) dX6_layReach_65 (by decide) (fun c_65 => ?_) (fun c_65 => ?_)
          · skip
            refine zg_aload_n C 0 dX6_layReach_86 rfl ?_
            refine zg_get C 0 (ci := 6) (f := 19) rfl rfl uX6_layReach_6 (by decide) fX6_layReach_6_19 dX6_layReach_87 rfl ?_
            refine zg_put C 0 (ci := 6) (f := 19) (ws' := [(m0, .inr (6, [.int (nI pn), .ref mp, .int (nI rc), .int (nI ln), .ref mo, .int sd, .ref mv, .int bs, .int bp, .int sr, .int y1, .int y2, .int y3, .ref mn, .ref my, .ref ml, .int (nI rk), .int dz, .int (nI (zsr R rc ln (2 ^ ln) (i + 1))), .int (nI (zrw R rc (2 ^ ln) i)), .long hh])), (mp, .inl (cI, 56, .inl pg)), (mo, .inl (cI, 5, .inl Of)), (mv, .inl (cI, 4, .inl V)), (mn, .inl (cI, 5, .inl Nf)), (my, .inl (cI, 1024, .inl Yf)), (ml, .inl (cI, 32, .inl Lf))]) rfl rfl uX6_layReach_6 tyX6_ok nmX6 (by decide) fX6_layReach_6_19 rfl rfl rfl rfl (Nat.le_of_ble_eq_true rfl) dX6_layReach_90 rfl ?_
            refine zg_cv (ws' := [(m0, .inr (6, [.int (nI pn), .ref mp, .int (nI rc), .int (nI ln), .ref mo, .int sd, .ref mv, .int bs, .int bp, .int sr, .int y1, .int y2, .int y3, .ref mn, .ref my, .ref ml, .int (nI rk), .int dz, .int (nI (zsr R rc ln (2 ^ ln) (i + 1))), .int (nI (zrw R rc (2 ^ ln) (i + 1))), .long hh])), (mp, .inl (cI, 56, .inl pg)), (mo, .inl (cI, 5, .inl Of)), (mv, .inl (cI, 4, .inl V)), (mn, .inl (cI, 5, .inl Nf)), (my, .inl (cI, 1024, .inl Yf)), (ml, .inl (cI, 32, .inl Lf))]) rfl rfl (congrArg (fun q9 => ([(m0, .inr (6, [.int (nI pn), .ref mp, .int (nI rc), .int (nI ln), .ref mo, .int sd, .ref mv, .int bs, .int bp, .int sr, .int y1, .int y2, .int y3, .ref mn, .ref my, .ref ml, .int (nI rk), .int dz, .int (nI (zsr R rc ln (2 ^ ln) (i + 1))), .int (nI q9), .long hh])), (mp, .inl (cI, 56, .inl pg)), (mo, .inl (cI, 5, .inl Of)), (mv, .inl (cI, 4, .inl V)), (mn, .inl (cI, 5, .inl Nf)), (my, .inl (cI, 1024, .inl Yf)), (ml, .inl (cI, 32, .inl Lf))] : va_W)) ((zrw_f (fun q => by rw [hv] at q; exact c_65 (Option.some.inj q.1))).symm)) ?_
            refine zg_iinc C 1 [1, 0] (lv' := [(0, .ref m0), (1, .int (nI (i + 1)))]) (nI (i + 1)) dX6_layReach_93 rfl (zi_inc _) (by decide) rfl ?_
            refine zg_goto C 15 dX6_layReach_96 (by decide) ?_
            exact zg_cv (lv' := [(0, .ref m0), (1, .int (nI (i + 1)))]) (rfl) rfl (rfl) (ih_15 (by omega) )
          · skip
            refine zg_iload_n C 1 dX6_layReach_68 rfl ?_
            refine zg_calls (As := [.int (nI i)]) (st := [.ref m0]) C [] 1 (c_X6_ones l D cI i (by omega)) gX6_layReach_X6_ones (by decide +kernel) rfl ⟨rfl, rfl⟩ ⟨Nat.le_of_ble_eq_true rfl, Nat.le_of_ble_eq_true rfl⟩ rfl rfl rfl (Nat.le_of_ble_eq_true rfl) ⟨Nat.le_of_ble_eq_true rfl, Nat.le_of_ble_eq_true rfl⟩ dX6_layReach_69 ?_
            refine zg_aload_n C 0 dX6_layReach_72 rfl ?_
            refine zg_get C 0 (ci := 6) (f := 19) rfl rfl uX6_layReach_6 (by decide) fX6_layReach_6_19 dX6_layReach_73 rfl ?_
            refine zn_icmp_le C 86 (by omega) (by omega) dX6_layReach_76 (by decide) (fun c_76 => ?_) (fun c_76 => ?_)
            · skip
              refine zg_aload_n C 0 dX6_layReach_86 rfl ?_
              refine zg_get C 0 (ci := 6) (f := 19) rfl rfl uX6_layReach_6 (by decide) fX6_layReach_6_19 dX6_layReach_87 rfl ?_
              refine zg_put C 0 (ci := 6) (f := 19) (ws' := [(m0, .inr (6, [.int (nI pn), .ref mp, .int (nI rc), .int (nI ln), .ref mo, .int sd, .ref mv, .int bs, .int bp, .int sr, .int y1, .int y2, .int y3, .ref mn, .ref my, .ref ml, .int (nI rk), .int dz, .int (nI (zsr R rc ln (2 ^ ln) (i + 1))), .int (nI (zrw R rc (2 ^ ln) i)), .long hh])), (mp, .inl (cI, 56, .inl pg)), (mo, .inl (cI, 5, .inl Of)), (mv, .inl (cI, 4, .inl V)), (mn, .inl (cI, 5, .inl Nf)), (my, .inl (cI, 1024, .inl Yf)), (ml, .inl (cI, 32, .inl Lf))]) rfl rfl uX6_layReach_6 tyX6_ok nmX6 (by decide) fX6_layReach_6_19 rfl rfl rfl rfl (Nat.le_of_ble_eq_true rfl) dX6_layReach_90 rfl ?_
              refine zg_cv (ws' := [(m0, .inr (6, [.int (nI pn), .ref mp, .int (nI rc), .int (nI ln), .ref mo, .int sd, .ref mv, .int bs, .int bp, .int sr, .int y1, .int y2, .int y3, .ref mn, .ref my, .ref ml, .int (nI rk), .int dz, .int (nI (zsr R rc ln (2 ^ ln) (i + 1))), .int (nI (zrw R rc (2 ^ ln) (i + 1))), .long hh])), (mp, .inl (cI, 56, .inl pg)), (mo, .inl (cI, 5, .inl Of)), (mv, .inl (cI, 4, .inl V)), (mn, .inl (cI, 5, .inl Nf)), (my, .inl (cI, 1024, .inl Yf)), (ml, .inl (cI, 32, .inl Lf))]) rfl rfl (congrArg (fun q9 => ([(m0, .inr (6, [.int (nI pn), .ref mp, .int (nI rc), .int (nI ln), .ref mo, .int sd, .ref mv, .int bs, .int bp, .int sr, .int y1, .int y2, .int y3, .ref mn, .ref my, .ref ml, .int (nI rk), .int dz, .int (nI (zsr R rc ln (2 ^ ln) (i + 1))), .int (nI q9), .long hh])), (mp, .inl (cI, 56, .inl pg)), (mo, .inl (cI, 5, .inl Of)), (mv, .inl (cI, 4, .inl V)), (mn, .inl (cI, 5, .inl Nf)), (my, .inl (cI, 1024, .inl Yf)), (ml, .inl (cI, 32, .inl Lf))] : va_W)) ((zrw_f (fun q => by omega)).symm)) ?_
              refine zg_iinc C 1 [1, 0] (lv' := [(0, .ref m0), (1, .int (nI (i + 1)))]) (nI (i + 1)) dX6_layReach_93 rfl (zi_inc _) (by decide) rfl ?_
              refine zg_goto C 15 dX6_layReach_96 (by decide) ?_
              exact zg_cv (lv' := [(0, .ref m0), (1, .int (nI (i + 1)))]) (rfl) rfl (rfl) (ih_15 (by omega) )
            · skip
              refine zg_iload_n C 1 dX6_layReach_79 rfl ?_
              refine zg_calls (As := [.int (nI i)]) (st := [.ref m0]) C [] 1 (c_X6_ones l D cI i (by omega)) gX6_layReach_X6_ones (by decide +kernel) rfl ⟨rfl, rfl⟩ ⟨Nat.le_of_ble_eq_true rfl, Nat.le_of_ble_eq_true rfl⟩ rfl rfl rfl (Nat.le_of_ble_eq_true rfl) ⟨Nat.le_of_ble_eq_true rfl, Nat.le_of_ble_eq_true rfl⟩ dX6_layReach_80 ?_
              refine zg_goto C 90 dX6_layReach_83 (by decide) ?_
              refine zg_put C 0 (ci := 6) (f := 19) (ws' := [(m0, .inr (6, [.int (nI pn), .ref mp, .int (nI rc), .int (nI ln), .ref mo, .int sd, .ref mv, .int bs, .int bp, .int sr, .int y1, .int y2, .int y3, .ref mn, .ref my, .ref ml, .int (nI rk), .int dz, .int (nI (zsr R rc ln (2 ^ ln) (i + 1))), .int (nI (zpc i)), .long hh])), (mp, .inl (cI, 56, .inl pg)), (mo, .inl (cI, 5, .inl Of)), (mv, .inl (cI, 4, .inl V)), (mn, .inl (cI, 5, .inl Nf)), (my, .inl (cI, 1024, .inl Yf)), (ml, .inl (cI, 32, .inl Lf))]) rfl rfl uX6_layReach_6 tyX6_ok nmX6 (by decide) fX6_layReach_6_19 rfl rfl rfl rfl (Nat.le_of_ble_eq_true rfl) dX6_layReach_90 rfl ?_
              refine zg_cv (ws' := [(m0, .inr (6, [.int (nI pn), .ref mp, .int (nI rc), .int (nI ln), .ref mo, .int sd, .ref mv, .int bs, .int bp, .int sr, .int y1, .int y2, .int y3, .ref mn, .ref my, .ref ml, .int (nI rk), .int dz, .int (nI (zsr R rc ln (2 ^ ln) (i + 1))), .int (nI (zrw R rc (2 ^ ln) (i + 1))), .long hh])), (mp, .inl (cI, 56, .inl pg)), (mo, .inl (cI, 5, .inl Of)), (mv, .inl (cI, 4, .inl V)), (mn, .inl (cI, 5, .inl Nf)), (my, .inl (cI, 1024, .inl Yf)), (ml, .inl (cI, 32, .inl Lf))]) rfl rfl (congrArg (fun q9 => ([(m0, .inr (6, [.int (nI pn), .ref mp, .int (nI rc), .int (nI ln), .ref mo, .int sd, .ref mv, .int bs, .int bp, .int sr, .int y1, .int y2, .int y3, .ref mn, .ref my, .ref ml, .int (nI rk), .int dz, .int (nI (zsr R rc ln (2 ^ ln) (i + 1))), .int (nI q9), .long hh])), (mp, .inl (cI, 56, .inl pg)), (mo, .inl (cI, 5, .inl Of)), (mv, .inl (cI, 4, .inl V)), (mn, .inl (cI, 5, .inl Nf)), (my, .inl (cI, 1024, .inl Yf)), (ml, .inl (cI, 32, .inl Lf))] : va_W)) ((zrw_t ⟨by rw [hv, c_65], c_76⟩).symm)) ?_
              refine zg_iinc C 1 [1, 0] (lv' := [(0, .ref m0), (1, .int (nI (i + 1)))]) (nI (i + 1)) dX6_layReach_93 rfl (zi_inc _) (by decide) rfl ?_
              refine zg_goto C 15 dX6_layReach_96 (by decide) ?_
              exact zg_cv (lv' := [(0, .ref m0), (1, .int (nI (i + 1)))]) (rfl) rfl (rfl) (ih_15 (by omega) )
        · skip
          refine zg_aload_n C 0 dX6_layReach_42 rfl ?_
          refine zg_iload_n C 1 dX6_layReach_43 rfl ?_
          refine zg_calls (As := [.int (nI i)]) (st := [.ref m0]) C [] 1 (c_X6_ones l D cI i (by omega)) gX6_layReach_X6_ones (by decide +kernel) rfl ⟨rfl, rfl⟩ ⟨Nat.le_of_ble_eq_true rfl, Nat.le_of_ble_eq_true rfl⟩ rfl rfl rfl (Nat.le_of_ble_eq_true rfl) ⟨Nat.le_of_ble_eq_true rfl, Nat.le_of_ble_eq_true rfl⟩ dX6_layReach_44 ?_
          refine zg_iconst (v := nI 1) C dX6_layReach_47 (by decide) ?_
          obtain ⟨u9, -, -, -, -, q4⟩ := zsl_pos hln (show i < 2 ^ ln by omega) c_39
          refine zg_isub C dX6_layReach_48 (nI ((zpc i) - 1)) (pk_sub (by omega)) ?_
          refine zg_put C 0 (ci := 6) (f := 18) (ws' := [(m0, .inr (6, [.int (nI pn), .ref mp, .int (nI rc), .int (nI ln), .ref mo, .int sd, .ref mv, .int bs, .int bp, .int sr, .int y1, .int y2, .int y3, .ref mn, .ref my, .ref ml, .int (nI rk), .int dz, .int (nI ((zpc i) - 1)), .int (nI (zrw R rc (2 ^ ln) i)), .long hh])), (mp, .inl (cI, 56, .inl pg)), (mo, .inl (cI, 5, .inl Of)), (mv, .inl (cI, 4, .inl V)), (mn, .inl (cI, 5, .inl Nf)), (my, .inl (cI, 1024, .inl Yf)), (ml, .inl (cI, 32, .inl Lf))]) rfl rfl uX6_layReach_6 tyX6_ok nmX6 (by decide) fX6_layReach_6_18 rfl rfl rfl rfl (Nat.le_of_ble_eq_true rfl) dX6_layReach_49 rfl ?_
          obtain ⟨v, hv, -⟩ := zld_min (R := R) (rc := rc) (show i < 2 ^ ln by omega)
          have hv2 := (zld_some hv).1
          have q7 := zsk_lt R i rc
          have q8 := (zrw_spec R rc (2 ^ ln) i).1
          refine zg_cv (ws' := [(m0, .inr (6, [.int (nI pn), .ref mp, .int (nI rc), .int (nI ln), .ref mo, .int sd, .ref mv, .int bs, .int bp, .int sr, .int y1, .int y2, .int y3, .ref mn, .ref my, .ref ml, .int (nI rk), .int dz, .int (nI (zsr R rc ln (2 ^ ln) (i + 1))), .int (nI (zrw R rc (2 ^ ln) i)), .long hh])), (mp, .inl (cI, 56, .inl pg)), (mo, .inl (cI, 5, .inl Of)), (mv, .inl (cI, 4, .inl V)), (mn, .inl (cI, 5, .inl Nf)), (my, .inl (cI, 1024, .inl Yf)), (ml, .inl (cI, 32, .inl Lf))]) rfl rfl (congrArg (fun q9 => ([(m0, .inr (6, [.int (nI pn), .ref mp, .int (nI rc), .int (nI ln), .ref mo, .int sd, .ref mv, .int bs, .int bp, .int sr, .int y1, .int y2, .int y3, .ref mn, .ref my, .ref ml, .int (nI rk), .int dz, .int (nI q9), .int (nI (zrw R rc (2 ^ ln) i)), .long hh])), (mp, .inl (cI, 56, .inl pg)), (mo, .inl (cI, 5, .inl Of)), (mv, .inl (cI, 4, .inl V)), (mn, .inl (cI, 5, .inl Nf)), (my, .inl (cI, 1024, .inl Yf)), (ml, .inl (cI, 32, .inl Lf))] : va_W)) ((zsr_t ⟨c_31, c_39⟩).symm)) ?_
          refine zg_aload_n C 0 dX6_layReach_52 rfl ?_
          refine zg_aload_n C 0 dX6_layReach_53 rfl ?_
          refine zg_get C 0 (ci := 6) (f := 15) rfl rfl uX6_layReach_6 (by decide) fX6_layReach_6_15 dX6_layReach_54 rfl ?_
          refine zg_aload_n C 0 dX6_layReach_57 rfl ?_
          refine zg_get C 0 (ci := 6) (f := 14) rfl rfl uX6_layReach_6 (by decide) fX6_layReach_6_14 dX6_layReach_58 rfl ?_
          refine zg_iload_n C 1 dX6_layReach_61 rfl ?_
          refine zg_iald C 5 rfl (by omega) (by decide) dX6_layReach_62 (nI (zsk R i rc)) (hY i (by omega)) ?_
          refine zg_iald C 6 rfl (by omega) (by decide) dX6_layReach_63 (nI v) ((hL _ (by omega)).trans (by rw [hv]; rfl)) ?_
          refine zg_iload_n C 1 dX6_layReach_64 rfl ?_
          refine zn_icmp_ne C 86 (by omega) (by omega) dX6_layReach_65 (by decide) (fun c_65 => ?_) (fun c_65 => ?_)
          · skip
            refine zg_aload_n C 0 dX6_layReach_86 rfl ?_
            refine zg_get C 0 (ci := 6) (f := 19) rfl rfl uX6_layReach_6 (by decide) fX6_layReach_6_19 dX6_layReach_87 rfl ?_
            refine zg_put C 0 (ci := 6) (f := 19) (ws' := [(m0, .inr (6, [.int (nI pn), .ref mp, .int (nI rc), .int (nI ln), .ref mo, .int sd, .ref mv, .int bs, .int bp, .int sr, .int y1, .int y2, .int y3, .ref mn, .ref my, .ref ml, .int (nI rk), .int dz, .int (nI (zsr R rc ln (2 ^ ln) (i + 1))), .int (nI (zrw R rc (2 ^ ln) i)), .long hh])), (mp, .inl (cI, 56, .inl pg)), (mo, .inl (cI, 5, .inl Of)), (mv, .inl (cI, 4, .inl V)), (mn, .inl (cI, 5, .inl Nf)), (my, .inl (cI, 1024, .inl Yf)), (ml, .inl (cI, 32, .inl Lf))]) rfl rfl uX6_layReach_6 tyX6_ok nmX6 (by decide) fX6_layReach_6_19 rfl rfl rfl rfl (Nat.le_of_ble_eq_true rfl) dX6_layReach_90 rfl ?_
            refine zg_cv (ws' := [(m0, .inr (6, [.int (nI pn), .ref mp, .int (nI rc), .int (nI ln), .ref mo, .int sd, .ref mv, .int bs, .int bp, .int sr, .int y1, .int y2, .int y3, .ref mn, .ref my, .ref ml, .int (nI rk), .int dz, .int (nI (zsr R rc ln (2 ^ ln) (i + 1))), .int (nI (zrw R rc (2 ^ ln) (i + 1))), .long hh])), (mp, .inl (cI, 56, .inl pg)), (mo, .inl (cI, 5, .inl Of)), (mv, .inl (cI, 4, .inl V)), (mn, .inl (cI, 5, .inl Nf)), (my, .inl (cI, 1024, .inl Yf)), (ml, .inl (cI, 32, .inl Lf))]) rfl rfl (congrArg (fun q9 => ([(m0, .inr (6, [.int (nI pn), .ref mp, .int (nI rc), .int (nI ln), .ref mo, .int sd, .ref mv, .int bs, .int bp, .int sr, .int y1, .int y2, .int y3, .ref mn, .ref my, .ref ml, .int (nI rk), .int dz, .int (nI (zsr R rc ln (2 ^ ln) (i + 1))), .int (nI q9), .long hh])), (mp, .inl (cI, 56, .inl pg)), (mo, .inl (cI, 5, .inl Of)), (mv, .inl (cI, 4, .inl V)), (mn, .inl (cI, 5, .inl Nf)), (my, .inl (cI, 1024, .inl Yf)), (ml, .inl (cI, 32, .inl Lf))] : va_W)) ((zrw_f (fun q => by rw [hv] at q; exact c_65 (Option.some.inj q.1))).symm)) ?_
            refine zg_iinc C 1 [1, 0] (lv' := [(0, .ref m0), (1, .int (nI (i + 1)))]) (nI (i + 1)) dX6_layReach_93 rfl (zi_inc _) (by decide) rfl ?_
            refine zg_goto C 15 dX6_layReach_96 (by decide) ?_
            exact zg_cv (lv' := [(0, .ref m0), (1, .int (nI (i + 1)))]) (rfl) rfl (rfl) (ih_15 (by omega) )
          · skip
            refine zg_iload_n C 1 dX6_layReach_68 rfl ?_
            refine zg_calls (As := [.int (nI i)]) (st := [.ref m0]) C [] 1 (c_X6_ones l D cI i (by omega)) gX6_layReach_X6_ones (by decide +kernel) rfl ⟨rfl, rfl⟩ ⟨Nat.le_of_ble_eq_true rfl, Nat.le_of_ble_eq_true rfl⟩ rfl rfl rfl (Nat.le_of_ble_eq_true rfl) ⟨Nat.le_of_ble_eq_true rfl, Nat.le_of_ble_eq_true rfl⟩ dX6_layReach_69 ?_
            refine zg_aload_n C 0 dX6_layReach_72 rfl ?_
            refine zg_get C 0 (ci := 6) (f := 19) rfl rfl uX6_layReach_6 (by decide) fX6_layReach_6_19 dX6_layReach_73 rfl ?_
            refine zn_icmp_le C 86 (by omega) (by omega) dX6_layReach_76 (by decide) (fun c_76 => ?_) (fun c_76 => ?_)
            · skip
              refine zg_aload_n C 0 dX6_layReach_86 rfl ?_
              refine zg_get C 0 (ci := 6) (f := 19) rfl rfl uX6_layReach_6 (by decide) fX6_layReach_6_19 dX6_layReach_87 rfl ?_
              refine zg_put C 0 (ci := 6) (f := 19) (ws' := [(m0, .inr (6, [.int (nI pn), .ref mp, .int (nI rc), .int (nI ln), .ref mo, .int sd, .ref mv, .int bs, .int bp, .int sr, .int y1, .int y2, .int y3, .ref mn, .ref my, .ref ml, .int (nI rk), .int dz, .int (nI (zsr R rc ln (2 ^ ln) (i + 1))), .int (nI (zrw R rc (2 ^ ln) i)), .long hh])), (mp, .inl (cI, 56, .inl pg)), (mo, .inl (cI, 5, .inl Of)), (mv, .inl (cI, 4, .inl V)), (mn, .inl (cI, 5, .inl Nf)), (my, .inl (cI, 1024, .inl Yf)), (ml, .inl (cI, 32, .inl Lf))]) rfl rfl uX6_layReach_6 tyX6_ok nmX6 (by decide) fX6_layReach_6_19 rfl rfl rfl rfl (Nat.le_of_ble_eq_true rfl) dX6_layReach_90 rfl ?_
              refine zg_cv (ws' := [(m0, .inr (6, [.int (nI pn), .ref mp, .int (nI rc), .int (nI ln), .ref mo, .int sd, .ref mv, .int bs, .int bp, .int sr, .int y1, .int y2, .int y3, .ref mn, .ref my, .ref ml, .int (nI rk), .int dz, .int (nI (zsr R rc ln (2 ^ ln) (i + 1))), .int (nI (zrw R rc (2 ^ ln) (i + 1))), .long hh])), (mp, .inl (cI, 56, .inl pg)), (mo, .inl (cI, 5, .inl Of)), (mv, .inl (cI, 4, .inl V)), (mn, .inl (cI, 5, .inl Nf)), (my, .inl (cI, 1024, .inl Yf)), (ml, .inl (cI, 32, .inl Lf))]) rfl rfl (congrArg (fun q9 => ([(m0, .inr (6, [.int (nI pn), .ref mp, .int (nI rc), .int (nI ln), .ref mo, .int sd, .ref mv, .int bs, .int bp, .int sr, .int y1, .int y2, .int y3, .ref mn, .ref my, .ref ml, .int (nI rk), .int dz, .int (nI (zsr R rc ln (2 ^ ln) (i + 1))), .int (nI q9), .long hh])), (mp, .inl (cI, 56, .inl pg)), (mo, .inl (cI, 5, .inl Of)), (mv, .inl (cI, 4, .inl V)), (mn, .inl (cI, 5, .inl Nf)), (my, .inl (cI, 1024, .inl Yf)), (ml, .inl (cI, 32, .inl Lf))] : va_W)) ((zrw_f (fun q => by omega)).symm)) ?_
              refine zg_iinc C 1 [1, 0] (lv' := [(0, .ref m0), (1, .int (nI (i + 1)))]) (nI (i + 1)) dX6_layReach_93 rfl (zi_inc _) (by decide) rfl ?_
              refine zg_goto C 15 dX6_layReach_96 (by decide) ?_
              exact zg_cv (lv' := [(0, .ref m0), (1, .int (nI (i + 1)))]) (rfl) rfl (rfl) (ih_15 (by omega) )
            · skip
              refine zg_iload_n C 1 dX6_layReach_79 rfl ?_
              refine zg_calls (As := [.int (nI i)]) (st := [.ref m0]) C [] 1 (c_X6_ones l D cI i (by omega)) gX6_layReach_X6_ones (by decide +kernel) rfl ⟨rfl, rfl⟩ ⟨Nat.le_of_ble_eq_true rfl, Nat.le_of_ble_eq_true rfl⟩ rfl rfl rfl (Nat.le_of_ble_eq_true rfl) ⟨Nat.le_of_ble_eq_true rfl, Nat.le_of_ble_eq_true rfl⟩ dX6_layReach_80 ?_
              refine zg_goto C 90 dX6_layReach_83 (by decide) ?_
              refine zg_put C 0 (ci := 6) (f := 19) (ws' := [(m0, .inr (6, [.int (nI pn), .ref mp, .int (nI rc), .int (nI ln), .ref mo, .int sd, .ref mv, .int bs, .int bp, .int sr, .int y1, .int y2, .int y3, .ref mn, .ref my, .ref ml, .int (nI rk), .int dz, .int (nI (zsr R rc ln (2 ^ ln) (i + 1))), .int (nI (zpc i)), .long hh])), (mp, .inl (cI, 56, .inl pg)), (mo, .inl (cI, 5, .inl Of)), (mv, .inl (cI, 4, .inl V)), (mn, .inl (cI, 5, .inl Nf)), (my, .inl (cI, 1024, .inl Yf)), (ml, .inl (cI, 32, .inl Lf))]) rfl rfl uX6_layReach_6 tyX6_ok nmX6 (by decide) fX6_layReach_6_19 rfl rfl rfl rfl (Nat.le_of_ble_eq_true rfl) dX6_layReach_90 rfl ?_
              refine zg_cv (ws' := [(m0, .inr (6, [.int (nI pn), .ref mp, .int (nI rc), .int (nI ln), .ref mo, .int sd, .ref mv, .int bs, .int bp, .int sr, .int y1, .int y2, .int y3, .ref mn, .ref my, .ref ml, .int (nI rk), .int dz, .int (nI (zsr R rc ln (2 ^ ln) (i + 1))), .int (nI (zrw R rc (2 ^ ln) (i + 1))), .long hh])), (mp, .inl (cI, 56, .inl pg)), (mo, .inl (cI, 5, .inl Of)), (mv, .inl (cI, 4, .inl V)), (mn, .inl (cI, 5, .inl Nf)), (my, .inl (cI, 1024, .inl Yf)), (ml, .inl (cI, 32, .inl Lf))]) rfl rfl (congrArg (fun q9 => ([(m0, .inr (6, [.int (nI pn), .ref mp, .int (nI rc), .int (nI ln), .ref mo, .int sd, .ref mv, .int bs, .int bp, .int sr, .int y1, .int y2, .int y3, .ref mn, .ref my, .ref ml, .int (nI rk), .int dz, .int (nI (zsr R rc ln (2 ^ ln) (i + 1))), .int (nI q9), .long hh])), (mp, .inl (cI, 56, .inl pg)), (mo, .inl (cI, 5, .inl Of)), (mv, .inl (cI, 4, .inl V)), (mn, .inl (cI, 5, .inl Nf)), (my, .inl (cI, 1024, .inl Yf)), (ml, .inl (cI, 32, .inl Lf))] : va_W)) ((zrw_t ⟨by rw [hv, c_65], c_76⟩).symm)) ?_
              refine zg_iinc C 1 [1, 0] (lv' := [(0, .ref m0), (1, .int (nI (i + 1)))]) (nI (i + 1)) dX6_layReach_93 rfl (zi_inc _) (by decide) rfl ?_
              refine zg_goto C 15 dX6_layReach_96 (by decide) ?_
              exact zg_cv (lv' := [(0, .ref m0), (1, .int (nI (i + 1)))]) (rfl) rfl (rfl) (ih_15 (by omega) )
  exact zg_cv (lv' := [(0, .ref m0), (1, .int (nI 0))]) (rfl) rfl (rfl) (L_15 0 (Nat.zero_le _) )
theorem uX6_layAll_6 : ∀ w ∈ u_ws RX6 TX6 21, w ∈ wsX6_layAll := fun w h => List.mem_cons_of_mem _ (List.mem_append_right _ h)
theorem fX6_layAll_6_16 : Cond.fieldLink RX6 78 (TX6 16).1 (TX6 16).2.1 (TX6 16).2.2.1 ∈ wsX6_layAll := by decide +kernel
theorem fX6_layAll_6_17 : Cond.fieldLink RX6 84 (TX6 17).1 (TX6 17).2.1 (TX6 17).2.2.1 ∈ wsX6_layAll := by decide +kernel
theorem fX6_layAll_6_14 : Cond.fieldLink RX6 26 (TX6 14).1 (TX6 14).2.1 (TX6 14).2.2.1 ∈ wsX6_layAll := by decide +kernel
theorem fX6_layAll_6_15 : Cond.fieldLink RX6 29 (TX6 15).1 (TX6 15).2.1 (TX6 15).2.2.1 ∈ wsX6_layAll := by decide +kernel
set_option maxHeartbeats 1000000 in
set_option maxRecDepth 100000 in
theorem c_X6_layAll (l : Launch) (D : va_G) (cI : ClassId) (m0 mp mo mv mn my ml : Nat) (pg Of V Nf Yf Lf : Nat → Int32) (pn rc ln rk su rd : Nat) (sd bs bp sr y1 y2 y3 dz : Int32) (hh : Int64) (R : Nat → Nat) (hrc : rc ≤ 5) (hln : ln ≤ 10) (h3 : 3 ≤ ln) (hO : ∀ i, i < rc → Of i = nI (R i)) (hRb : ∀ i, i < rc → R i < 1024) : zMw l D cI yX6_layAll wsX6_layAll { frames := 3, cells := 0, slots := 0, locals := 67 } [.ref m0] [(m0, .inr (6, [.int (nI pn), .ref mp, .int (nI rc), .int (nI ln), .ref mo, .int sd, .ref mv, .int bs, .int bp, .int sr, .int y1, .int y2, .int y3, .ref mn, .ref my, .ref ml, .int (nI rk), .int dz, .int (nI su), .int (nI rd), .long hh])), (mp, .inl (cI, 56, .inl pg)), (mo, .inl (cI, 5, .inl Of)), (mv, .inl (cI, 4, .inl V)), (mn, .inl (cI, 5, .inl Nf)), (my, .inl (cI, 1024, .inl Yf)), (ml, .inl (cI, 32, .inl Lf))] (fun v9 w9 => v9 = none ∧ w9 = [(m0, .inr (6, [.int (nI pn), .ref mp, .int (nI rc), .int (nI ln), .ref mo, .int sd, .ref mv, .int bs, .int bp, .int sr, .int y1, .int y2, .int y3, .ref mn, .ref my, .ref ml, .int (nI (zrk R rc ln)), .int (zdn ln (zdm R rc ln (2 ^ ln))), .int (nI (zsu ln (zdm R rc ln (2 ^ ln)))), .int (nI (zrad (zld R rc (2 ^ ln)) 32)), .long hh])), (mp, .inl (cI, 56, .inl pg)), (mo, .inl (cI, 5, .inl Of)), (mv, .inl (cI, 4, .inl V)), (mn, .inl (cI, 5, .inl Nf)), (my, .inl (cI, 1024, .inl (fun w => if w < 2 ^ ln then nI (zsk R w rc) else Yf w))), (ml, .inl (cI, 32, .inl (fun s => zo (zld R rc (2 ^ ln) s))))]) 0 0 := by
  refine zw_ent (maxL := 4) (by decide) rfl (Nat.le_of_ble_eq_true rfl) (fun X C E hin9 => ?_)
  have C : zC X l D cI { frames := 3, cells := 0, slots := 0, locals := 67 } 4 true cX6_layAll RX6 wsX6_layAll := C
  refine zg_cv (lv' := [(0, .ref m0)]) rfl rfl rfl ?_
  have q0 := zpw hln
  have q1 := zpw0 ln
  have q5 := zpw5 hrc
  refine zg_cell 6 (ws' := [(m0, .inr (6, [.int (nI pn), .ref mp, .int (nI rc), .int (nI ln), .ref mo, .int sd, .ref mv, .int bs, .int bp, .int sr, .int y1, .int y2, .int y3, .ref mn, .ref my, .ref ml, .int (nI rk), .int dz, .int (nI su), .int (nI rd), .long hh])), (mp, .inl (cI, 56, .inl pg)), (mo, .inl (cI, 5, .inl Of)), (mv, .inl (cI, 4, .inl V)), (mn, .inl (cI, 5, .inl Nf)), (my, .inl (cI, 1024, .inl Yf)), (ml, .inl (cI, 32, .inl (fun j => if j < 0 then -1001 else Lf j)))]) (fun j => if j < 0 then -1001 else Lf j) rfl (fun j _ => by rw [if_neg (Nat.not_lt_zero j)]) rfl ?_
  refine zg_iconst (v := nI 0) C dX6_layAll_0 (by decide) ?_
  refine zg_istore_n C [1, 0] (lv' := [(0, .ref m0), (1, .int (nI 0))]) dX6_layAll_1 (by decide) rfl ?_
  have L_2 : ∀ i, i ≤ 32 → zG X 0 0 [(0, .ref m0), (1, .int (nI i))] [] [(m0, .inr (6, [.int (nI pn), .ref mp, .int (nI rc), .int (nI ln), .ref mo, .int sd, .ref mv, .int bs, .int bp, .int sr, .int y1, .int y2, .int y3, .ref mn, .ref my, .ref ml, .int (nI rk), .int dz, .int (nI su), .int (nI rd), .long hh])), (mp, .inl (cI, 56, .inl pg)), (mo, .inl (cI, 5, .inl Of)), (mv, .inl (cI, 4, .inl V)), (mn, .inl (cI, 5, .inl Nf)), (my, .inl (cI, 1024, .inl Yf)), (ml, .inl (cI, 32, .inl (fun j => if j < i then -1001 else Lf j)))] 2 := by
    refine zg_dn (fun i hi ih_2  => ?_)
    refine zg_iload_n C 1 dX6_layAll_2 rfl ?_
    refine zg_bipush (v := nI 32) C dX6_layAll_3 (by decide) ?_
    refine zn_icmp_ge C 23 (by omega) (by omega) dX6_layAll_5 (by decide) (fun c_5 => ?_) (fun c_5 => ?_)
    · skip
      have e9_23 : 32 = i := by omega
      subst e9_23
      refine zg_cell 6 (ws' := [(m0, .inr (6, [.int (nI pn), .ref mp, .int (nI rc), .int (nI ln), .ref mo, .int sd, .ref mv, .int bs, .int bp, .int sr, .int y1, .int y2, .int y3, .ref mn, .ref my, .ref ml, .int (nI rk), .int dz, .int (nI su), .int (nI rd), .long hh])), (mp, .inl (cI, 56, .inl pg)), (mo, .inl (cI, 5, .inl Of)), (mv, .inl (cI, 4, .inl V)), (mn, .inl (cI, 5, .inl Nf)), (my, .inl (cI, 1024, .inl Yf)), (ml, .inl (cI, 32, .inl (fun s => zo (zld R rc 0 s))))]) (fun s => zo (zld R rc 0 s)) rfl (fun s hs => by show (if s < 32 then (-1001 : Int32) else Lf s) = -1001; rw [if_pos hs]) rfl ?_
      refine zg_cell 5 (ws' := [(m0, .inr (6, [.int (nI pn), .ref mp, .int (nI rc), .int (nI ln), .ref mo, .int sd, .ref mv, .int bs, .int bp, .int sr, .int y1, .int y2, .int y3, .ref mn, .ref my, .ref ml, .int (nI rk), .int dz, .int (nI su), .int (nI rd), .long hh])), (mp, .inl (cI, 56, .inl pg)), (mo, .inl (cI, 5, .inl Of)), (mv, .inl (cI, 4, .inl V)), (mn, .inl (cI, 5, .inl Nf)), (my, .inl (cI, 1024, .inl (fun j => if j < 0 then nI (zsk R j rc) else Yf j))), (ml, .inl (cI, 32, .inl (fun s => zo (zld R rc 0 s))))]) (fun j => if j < 0 then nI (zsk R j rc) else Yf j) rfl (fun j _ => by rw [if_neg (Nat.not_lt_zero j)]) rfl ?_
      refine zg_iconst (v := nI 0) C dX6_layAll_23 (by decide) ?_
      refine zg_istore_n C [1, 0] (lv' := [(0, .ref m0), (1, .int (nI 0))]) dX6_layAll_24 (by decide) rfl ?_
      refine zg_iconst (v := nI 0) C dX6_layAll_25 (by decide) ?_
      refine zg_istore_n C [1, 2, 0] (lv' := [(0, .ref m0), (1, .int (nI 0)), (2, .int (nI 0))]) dX6_layAll_26 (by decide) rfl ?_
      have L_27 : ∀ i, i ≤ 2 ^ ln → zG X 0 0 [(0, .ref m0), (1, .int (nI (zct (zim R rc i) 32))), (2, .int (nI i))] [] [(m0, .inr (6, [.int (nI pn), .ref mp, .int (nI rc), .int (nI ln), .ref mo, .int sd, .ref mv, .int bs, .int bp, .int sr, .int y1, .int y2, .int y3, .ref mn, .ref my, .ref ml, .int (nI rk), .int dz, .int (nI su), .int (nI rd), .long hh])), (mp, .inl (cI, 56, .inl pg)), (mo, .inl (cI, 5, .inl Of)), (mv, .inl (cI, 4, .inl V)), (mn, .inl (cI, 5, .inl Nf)), (my, .inl (cI, 1024, .inl (fun j => if j < i then nI (zsk R j rc) else Yf j))), (ml, .inl (cI, 32, .inl (fun s => zo (zld R rc i s))))] 27 := by
        refine zg_dn (fun i hi ih_27  => ?_)
        refine zg_iload_n C 2 dX6_layAll_27 rfl ?_
        refine zg_aload_n C 0 dX6_layAll_28 rfl ?_
        refine zg_callr (As := []) (st := [.int (nI i)]) C [0, 1, 2, 3, 4, 5, 6] 0 0 (c_X6_words l D cI m0 mp mo mv mn my ml pg Of V Nf (fun j => if j < i then nI (zsk R j rc) else Yf j) (fun s => zo (zld R rc i s)) pn rc ln rk su rd sd bs bp sr y1 y2 y3 dz hh hln) gX6_layAll_X6_words (by decide +kernel) rfl ⟨rfl, rfl⟩ ⟨Nat.le_of_ble_eq_true rfl, Nat.le_of_ble_eq_true rfl⟩ rfl (ci := 6) rfl rfl rfl rfl (Nat.le_of_ble_eq_true rfl) ⟨Nat.le_of_ble_eq_true rfl, Nat.le_of_ble_eq_true rfl⟩ dX6_layAll_29 ?_
        refine zn_icmp_ge C 113 (by omega) (by omega) dX6_layAll_32 (by decide) (fun c_32 => ?_) (fun c_32 => ?_)
        · skip
          have e9_113 : 2 ^ ln = i := by omega
          subst e9_113
          refine zg_cv (lv' := [(0, .ref m0), (1, .int (nI (2 ^ zrk R rc ln))), (2, .int (nI (2 ^ ln)))]) (congrArg (fun q9 => ([(0, .ref m0), (1, .int (nI q9)), (2, .int (nI (2 ^ ln)))] : List (Nat × Value))) ((zrk_pow R ln hrc).1)) rfl rfl ?_
          refine zg_aload_n C 0 dX6_layAll_113 rfl ?_
          refine zg_iconst (v := nI 0) C dX6_layAll_114 (by decide) ?_
          refine zg_put C 0 (ci := 6) (f := 16) (ws' := [(m0, .inr (6, [.int (nI pn), .ref mp, .int (nI rc), .int (nI ln), .ref mo, .int sd, .ref mv, .int bs, .int bp, .int sr, .int y1, .int y2, .int y3, .ref mn, .ref my, .ref ml, .int (nI 0), .int dz, .int (nI su), .int (nI rd), .long hh])), (mp, .inl (cI, 56, .inl pg)), (mo, .inl (cI, 5, .inl Of)), (mv, .inl (cI, 4, .inl V)), (mn, .inl (cI, 5, .inl Nf)), (my, .inl (cI, 1024, .inl (fun j => if j < (2 ^ ln) then nI (zsk R j rc) else Yf j))), (ml, .inl (cI, 32, .inl (fun s => zo (zld R rc (2 ^ ln) s))))]) rfl rfl uX6_layAll_6 tyX6_ok nmX6 (by decide) fX6_layAll_6_16 rfl rfl rfl rfl (Nat.le_of_ble_eq_true rfl) dX6_layAll_115 rfl ?_
          have L_118 : ∀ i, i ≤ zrk R rc ln → zG X 0 0 [(0, .ref m0), (1, .int (nI (2 ^ zrk R rc ln))), (2, .int (nI (2 ^ ln)))] [] [(m0, .inr (6, [.int (nI pn), .ref mp, .int (nI rc), .int (nI ln), .ref mo, .int sd, .ref mv, .int bs, .int bp, .int sr, .int y1, .int y2, .int y3, .ref mn, .ref my, .ref ml, .int (nI i), .int dz, .int (nI su), .int (nI rd), .long hh])), (mp, .inl (cI, 56, .inl pg)), (mo, .inl (cI, 5, .inl Of)), (mv, .inl (cI, 4, .inl V)), (mn, .inl (cI, 5, .inl Nf)), (my, .inl (cI, 1024, .inl (fun j => if j < (2 ^ ln) then nI (zsk R j rc) else Yf j))), (ml, .inl (cI, 32, .inl (fun s => zo (zld R rc (2 ^ ln) s))))] 118 := by
            refine zg_dn (fun i hi ih_118  => ?_)
            refine zg_iconst (v := nI 1) C dX6_layAll_118 (by decide) ?_
            refine zg_aload_n C 0 dX6_layAll_119 rfl ?_
            refine zg_get C 0 (ci := 6) (f := 16) rfl rfl uX6_layAll_6 (by decide) fX6_layAll_6_16 dX6_layAll_120 rfl ?_
            have q9 := (zrk_pow R ln hrc).2
            have q10 := zpw5 (show i ≤ 5 by omega)
            have q11 := zpw5 q9
            refine zg_ishl C dX6_layAll_123 (nI (2 ^ i)) (zi_shl1 (by omega)) ?_
            refine zg_iload_n C 1 dX6_layAll_124 rfl ?_
            refine zn_icmp_ge C 141 (by omega) (by omega) dX6_layAll_125 (by decide) (fun c_125 => ?_) (fun c_125 => ?_)
            · skip
              have e9_141 : zrk R rc ln = i := by exact zpow_eq hi c_125
              subst e9_141
              refine zg_aload_n C 0 dX6_layAll_141 rfl ?_
              refine zg_aload_n C 0 dX6_layAll_142 rfl ?_
              refine zg_callr (As := []) (st := [.ref m0]) C [0, 1, 2, 3, 4, 5, 6] 0 0 (c_X6_distanceNow l D cI m0 mp mo mv mn my ml pg Of V Nf (fun j => if j < (2 ^ ln) then nI (zsk R j rc) else Yf j) (fun s => zo (zld R rc (2 ^ ln) s)) pn rc ln (zrk R rc ln) su rd sd bs bp sr y1 y2 y3 dz hh R hrc hln hO hRb) gX6_layAll_X6_distanceNow (by decide +kernel) rfl ⟨rfl, rfl⟩ ⟨Nat.le_of_ble_eq_true rfl, Nat.le_of_ble_eq_true rfl⟩ rfl (ci := 6) rfl rfl rfl rfl (Nat.le_of_ble_eq_true rfl) ⟨Nat.le_of_ble_eq_true rfl, Nat.le_of_ble_eq_true rfl⟩ dX6_layAll_143 ?_
              refine zg_put C 0 (ci := 6) (f := 17) (ws' := [(m0, .inr (6, [.int (nI pn), .ref mp, .int (nI rc), .int (nI ln), .ref mo, .int sd, .ref mv, .int bs, .int bp, .int sr, .int y1, .int y2, .int y3, .ref mn, .ref my, .ref ml, .int (nI (zrk R rc ln)), .int (zdn ln (zdm R rc ln (2 ^ ln))), .int (nI su), .int (nI rd), .long hh])), (mp, .inl (cI, 56, .inl pg)), (mo, .inl (cI, 5, .inl Of)), (mv, .inl (cI, 4, .inl V)), (mn, .inl (cI, 5, .inl Nf)), (my, .inl (cI, 1024, .inl (fun j => if j < (2 ^ ln) then nI (zsk R j rc) else Yf j))), (ml, .inl (cI, 32, .inl (fun s => zo (zld R rc (2 ^ ln) s))))]) rfl rfl uX6_layAll_6 tyX6_ok nmX6 (by decide) fX6_layAll_6_17 rfl rfl rfl rfl (Nat.le_of_ble_eq_true rfl) dX6_layAll_146 rfl ?_
              refine zg_aload_n C 0 dX6_layAll_149 rfl ?_
              refine zg_callw (As := []) (st := []) (wo := []) C [0, 1, 2, 3, 4, 5, 6] [] 0 0 (c_X6_layReach l D cI m0 mp mo mv mn my ml pg Of V Nf (fun j => if j < (2 ^ ln) then nI (zsk R j rc) else Yf j) (fun s => zo (zld R rc (2 ^ ln) s)) pn rc ln (zrk R rc ln) su rd sd bs bp sr y1 y2 y3 (zdn ln (zdm R rc ln (2 ^ ln))) hh R hrc hln h3 (fun w hw => if_pos hw) (fun y _ => rfl)) gX6_layAll_X6_layReach (by decide +kernel) rfl ⟨rfl, rfl⟩ ⟨Nat.le_of_ble_eq_true rfl, Nat.le_of_ble_eq_true rfl⟩ rfl rfl rfl rfl (by decide) (ci := 6) rfl rfl rfl rfl (Nat.le_of_ble_eq_true rfl) ⟨Nat.le_of_ble_eq_true rfl, Nat.le_of_ble_eq_true rfl⟩ dX6_layAll_150 (fun v9 w9 hw9 => ?_)
              obtain ⟨rfl, rfl⟩ := hw9
              refine zg_cv (k' := 0) (n' := 0) (st' := []) (ws' := [(m0, .inr (6, [.int (nI pn), .ref mp, .int (nI rc), .int (nI ln), .ref mo, .int sd, .ref mv, .int bs, .int bp, .int sr, .int y1, .int y2, .int y3, .ref mn, .ref my, .ref ml, .int (nI (zrk R rc ln)), .int (zdn ln (zdm R rc ln (2 ^ ln))), .int (nI (zsu ln (zdm R rc ln (2 ^ ln)))), .int (nI (zrad (zld R rc (2 ^ ln)) 32)), .long hh])), (mp, .inl (cI, 56, .inl pg)), (mo, .inl (cI, 5, .inl Of)), (mv, .inl (cI, 4, .inl V)), (mn, .inl (cI, 5, .inl Nf)), (my, .inl (cI, 1024, .inl (fun j => if j < (2 ^ ln) then nI (zsk R j rc) else Yf j))), (ml, .inl (cI, 32, .inl (fun s => zo (zld R rc (2 ^ ln) s))))]) rfl rfl rfl ?_
              exact zg_wvret C E dX6_layAll_153 (⟨rfl, rfl⟩)
            · skip
              have q12 := zpow_lt c_125
              refine zg_aload_n C 0 dX6_layAll_128 rfl ?_
              refine zg_dup C dX6_layAll_129 rfl ?_
              refine zg_get C 0 (ci := 6) (f := 16) rfl rfl uX6_layAll_6 (by decide) fX6_layAll_6_16 dX6_layAll_130 rfl ?_
              refine zg_iconst (v := nI 1) C dX6_layAll_133 (by decide) ?_
              refine zg_iadd C dX6_layAll_134 (nI (i + 1)) (nI_add _ _) ?_
              refine zg_put C 0 (ci := 6) (f := 16) (ws' := [(m0, .inr (6, [.int (nI pn), .ref mp, .int (nI rc), .int (nI ln), .ref mo, .int sd, .ref mv, .int bs, .int bp, .int sr, .int y1, .int y2, .int y3, .ref mn, .ref my, .ref ml, .int (nI (i + 1)), .int dz, .int (nI su), .int (nI rd), .long hh])), (mp, .inl (cI, 56, .inl pg)), (mo, .inl (cI, 5, .inl Of)), (mv, .inl (cI, 4, .inl V)), (mn, .inl (cI, 5, .inl Nf)), (my, .inl (cI, 1024, .inl (fun j => if j < (2 ^ ln) then nI (zsk R j rc) else Yf j))), (ml, .inl (cI, 32, .inl (fun s => zo (zld R rc (2 ^ ln) s))))]) rfl rfl uX6_layAll_6 tyX6_ok nmX6 (by decide) fX6_layAll_6_16 rfl rfl rfl rfl (Nat.le_of_ble_eq_true rfl) dX6_layAll_135 rfl ?_
              refine zg_goto C 118 dX6_layAll_138 (by decide) ?_
              exact zg_cv (lv' := [(0, .ref m0), (1, .int (nI (2 ^ zrk R rc ln))), (2, .int (nI (2 ^ ln)))]) (rfl) rfl (rfl) (ih_118 (by omega) )
          exact zg_cv (lv' := [(0, .ref m0), (1, .int (nI (2 ^ zrk R rc ln))), (2, .int (nI (2 ^ ln)))]) (rfl) rfl (rfl) (L_118 0 (Nat.zero_le _) )
        · skip
          refine zg_aload_n C 0 dX6_layAll_35 rfl ?_
          refine zg_get C 0 (ci := 6) (f := 14) rfl rfl uX6_layAll_6 (by decide) fX6_layAll_6_14 dX6_layAll_36 rfl ?_
          refine zg_iload_n C 2 dX6_layAll_39 rfl ?_
          refine zg_aload_n C 0 dX6_layAll_40 rfl ?_
          refine zg_iload_n C 2 dX6_layAll_41 rfl ?_
          refine zg_callr (As := [.int (nI i)]) (st := [.int (nI i), .ref my]) C [0, 1, 2, 3, 4, 5, 6] 0 1 (c_X6_syndromeBy l D cI m0 mp mo mv mn my ml pg Of V Nf (fun j => if j < i then nI (zsk R j rc) else Yf j) (fun s => zo (zld R rc i s)) pn rc ln rk su rd sd bs bp sr y1 y2 y3 dz hh R i hrc hO hRb (by omega)) gX6_layAll_X6_syndromeBy (by decide +kernel) rfl ⟨rfl, rfl⟩ ⟨Nat.le_of_ble_eq_true rfl, Nat.le_of_ble_eq_true rfl⟩ rfl (ci := 6) rfl rfl rfl rfl (Nat.le_of_ble_eq_true rfl) ⟨Nat.le_of_ble_eq_true rfl, Nat.le_of_ble_eq_true rfl⟩ dX6_layAll_42 ?_
          have q6 := zsk_lt R i rc
          refine zg_iast C 5 (ws' := [(m0, .inr (6, [.int (nI pn), .ref mp, .int (nI rc), .int (nI ln), .ref mo, .int sd, .ref mv, .int bs, .int bp, .int sr, .int y1, .int y2, .int y3, .ref mn, .ref my, .ref ml, .int (nI rk), .int dz, .int (nI su), .int (nI rd), .long hh])), (mp, .inl (cI, 56, .inl pg)), (mo, .inl (cI, 5, .inl Of)), (mv, .inl (cI, 4, .inl V)), (mn, .inl (cI, 5, .inl Nf)), (my, .inl (cI, 1024, .inl (upd (fun j => if j < i then nI (zsk R j rc) else Yf j) i (nI (zsk R i rc))))), (ml, .inl (cI, 32, .inl (fun s => zo (zld R rc i s))))]) rfl (by omega) (by decide) dX6_layAll_45 rfl ?_
          refine zg_cell 5 (ws' := [(m0, .inr (6, [.int (nI pn), .ref mp, .int (nI rc), .int (nI ln), .ref mo, .int sd, .ref mv, .int bs, .int bp, .int sr, .int y1, .int y2, .int y3, .ref mn, .ref my, .ref ml, .int (nI rk), .int dz, .int (nI su), .int (nI rd), .long hh])), (mp, .inl (cI, 56, .inl pg)), (mo, .inl (cI, 5, .inl Of)), (mv, .inl (cI, 4, .inl V)), (mn, .inl (cI, 5, .inl Nf)), (my, .inl (cI, 1024, .inl (fun j => if j < (i + 1) then nI (zsk R j rc) else Yf j))), (ml, .inl (cI, 32, .inl (fun s => zo (zld R rc i s))))]) (fun j => if j < (i + 1) then nI (zsk R j rc) else Yf j) rfl (fun j _ => zcopy (g := fun j => nI (zsk R j rc)) j) rfl ?_
          refine zg_aload_n C 0 dX6_layAll_46 rfl ?_
          refine zg_get C 0 (ci := 6) (f := 15) rfl rfl uX6_layAll_6 (by decide) fX6_layAll_6_15 dX6_layAll_47 rfl ?_
          refine zg_aload_n C 0 dX6_layAll_50 rfl ?_
          refine zg_get C 0 (ci := 6) (f := 14) rfl rfl uX6_layAll_6 (by decide) fX6_layAll_6_14 dX6_layAll_51 rfl ?_
          refine zg_iload_n C 2 dX6_layAll_54 rfl ?_
          refine zg_iald C 5 rfl (by omega) (by decide) dX6_layAll_55 (nI (zsk R i rc)) (if_pos (by omega)) ?_
          refine zg_iald C 6 rfl (by omega) (by decide) dX6_layAll_56 (zo (zld R rc i (zsk R i rc))) (rfl) ?_
          refine zg_istore_n C [1, 2, 3, 0] (lv' := [(0, .ref m0), (1, .int (nI (zct (zim R rc i) 32))), (2, .int (nI i)), (3, .int (zo (zld R rc i (zsk R i rc))))]) dX6_layAll_57 (by decide) rfl ?_
          rcases zopt (zld R rc i (zsk R i rc)) with hz | ⟨v, hz⟩
          · skip
            refine zg_cv (lv' := [(0, .ref m0), (1, .int (nI (zct (zim R rc i) 32))), (2, .int (nI i)), (3, .int (-1001))]) (congrArg (fun q9 => ([(0, .ref m0), (1, .int (nI (zct (zim R rc i) 32))), (2, .int (nI i)), (3, .int q9)] : List (Nat × Value))) (show zo (zld R rc i (zsk R i rc)) = -1001 from (by rw [hz]; rfl))) rfl rfl ?_
            refine zg_iload_n C 1 dX6_layAll_58 rfl ?_
            refine zg_iload_n C 3 dX6_layAll_59 rfl ?_
            refine zg_sipush (v := (-1001)) C dX6_layAll_60 (by decide) ?_
            refine zg_icmp_ne C 70 dX6_layAll_63 (by decide) (fun c_63 => by exact absurd rfl c_63) (fun c_63 => ?_)
            refine zg_iconst (v := nI 1) C dX6_layAll_66 (by decide) ?_
            refine zg_goto C 71 dX6_layAll_67 (by decide) ?_
            refine zg_iadd C dX6_layAll_71 (nI ((zct (zim R rc i) 32) + 1)) (nI_add _ _) ?_
            refine zg_istore_n C [1, 0, 2, 3] (lv' := [(0, .ref m0), (1, .int (nI ((zct (zim R rc i) 32) + 1))), (2, .int (nI i)), (3, .int (-1001))]) dX6_layAll_72 (by decide) rfl ?_
            refine zg_aload_n C 0 dX6_layAll_73 rfl ?_
            refine zg_get C 0 (ci := 6) (f := 15) rfl rfl uX6_layAll_6 (by decide) fX6_layAll_6_15 dX6_layAll_74 rfl ?_
            refine zg_aload_n C 0 dX6_layAll_77 rfl ?_
            refine zg_get C 0 (ci := 6) (f := 14) rfl rfl uX6_layAll_6 (by decide) fX6_layAll_6_14 dX6_layAll_78 rfl ?_
            refine zg_iload_n C 2 dX6_layAll_81 rfl ?_
            refine zg_iald C 5 rfl (by omega) (by decide) dX6_layAll_82 (nI (zsk R i rc)) (if_pos (by omega)) ?_
            refine zg_iload_n C 3 dX6_layAll_83 rfl ?_
            refine zg_sipush (v := (-1001)) C dX6_layAll_84 (by decide) ?_
            refine zg_icmp_eq C 101 dX6_layAll_87 (by decide) (fun c_87 => ?_) (fun c_87 => by exact absurd rfl c_87)
            refine zg_iload_n C 2 dX6_layAll_101 rfl ?_
            refine zg_goto C 106 dX6_layAll_102 (by decide) ?_
            refine zg_iast C 6 (ws' := [(m0, .inr (6, [.int (nI pn), .ref mp, .int (nI rc), .int (nI ln), .ref mo, .int sd, .ref mv, .int bs, .int bp, .int sr, .int y1, .int y2, .int y3, .ref mn, .ref my, .ref ml, .int (nI rk), .int dz, .int (nI su), .int (nI rd), .long hh])), (mp, .inl (cI, 56, .inl pg)), (mo, .inl (cI, 5, .inl Of)), (mv, .inl (cI, 4, .inl V)), (mn, .inl (cI, 5, .inl Nf)), (my, .inl (cI, 1024, .inl (fun j => if j < (i + 1) then nI (zsk R j rc) else Yf j))), (ml, .inl (cI, 32, .inl (upd (fun s => zo (zld R rc i s)) (zsk R i rc) (nI i))))]) rfl (by omega) (by decide) dX6_layAll_106 rfl ?_
            refine zg_cell 6 (ws' := [(m0, .inr (6, [.int (nI pn), .ref mp, .int (nI rc), .int (nI ln), .ref mo, .int sd, .ref mv, .int bs, .int bp, .int sr, .int y1, .int y2, .int y3, .ref mn, .ref my, .ref ml, .int (nI rk), .int dz, .int (nI su), .int (nI rd), .long hh])), (mp, .inl (cI, 56, .inl pg)), (mo, .inl (cI, 5, .inl Of)), (mv, .inl (cI, 4, .inl V)), (mn, .inl (cI, 5, .inl Nf)), (my, .inl (cI, 1024, .inl (fun j => if j < (i + 1) then nI (zsk R j rc) else Yf j))), (ml, .inl (cI, 32, .inl (fun s => zo (zld R rc (i + 1) s))))]) (fun s => zo (zld R rc (i + 1) s)) rfl (fun s _ => zld_hit (by rw [hz]; rfl) s) rfl ?_
            refine zg_cv (lv' := [(0, .ref m0), (1, .int (nI (zct (zim R rc (i + 1)) 32))), (2, .int (nI i)), (3, .int (-1001))]) (congrArg (fun q9 => ([(0, .ref m0), (1, .int (nI q9)), (2, .int (nI i)), (3, .int (-1001))] : List (Nat × Value))) ((zim_none hrc hz).symm)) rfl rfl ?_
            refine zg_iinc C 2 [1, 2, 0, 3] (lv' := [(0, .ref m0), (1, .int (nI (zct (zim R rc (i + 1)) 32))), (2, .int (nI (i + 1))), (3, .int (-1001))]) (nI (i + 1)) dX6_layAll_107 rfl (zi_inc _) (by decide) rfl ?_
            refine zg_goto C 27 dX6_layAll_110 (by decide) ?_
            refine zg_lv [0, 1, 2] (lv' := [(0, .ref m0), (1, .int (nI (zct (zim R rc (i + 1)) 32))), (2, .int (nI (i + 1)))]) rfl ?_
            exact zg_cv (lv' := [(0, .ref m0), (1, .int (nI (zct (zim R rc (i + 1)) 32))), (2, .int (nI (i + 1)))]) (rfl) rfl (rfl) (ih_27 (by omega) )
          · have hv := (zld_some hz).1
            refine zg_cv (lv' := [(0, .ref m0), (1, .int (nI (zct (zim R rc i) 32))), (2, .int (nI i)), (3, .int (nI v))]) (congrArg (fun q9 => ([(0, .ref m0), (1, .int (nI (zct (zim R rc i) 32))), (2, .int (nI i)), (3, .int q9)] : List (Nat × Value))) (show zo (zld R rc i (zsk R i rc)) = nI v from (by rw [hz]; rfl))) rfl rfl ?_
            refine zg_iload_n C 1 dX6_layAll_58 rfl ?_
            refine zg_iload_n C 3 dX6_layAll_59 rfl ?_
            refine zg_sipush (v := (-1001)) C dX6_layAll_60 (by decide) ?_
            refine zg_icmp_ne C 70 dX6_layAll_63 (by decide) (fun c_63 => ?_) (fun c_63 => by exact absurd c_63 (zo_ne (by omega)))
            refine zg_iconst (v := nI 0) C dX6_layAll_70 (by decide) ?_
            refine zg_iadd C dX6_layAll_71 (nI ((zct (zim R rc i) 32) + 0)) (nI_add _ _) ?_
            refine zg_istore_n C [1, 0, 2, 3] (lv' := [(0, .ref m0), (1, .int (nI ((zct (zim R rc i) 32) + 0))), (2, .int (nI i)), (3, .int (nI v))]) dX6_layAll_72 (by decide) rfl ?_
            refine zg_aload_n C 0 dX6_layAll_73 rfl ?_
            refine zg_get C 0 (ci := 6) (f := 15) rfl rfl uX6_layAll_6 (by decide) fX6_layAll_6_15 dX6_layAll_74 rfl ?_
            refine zg_aload_n C 0 dX6_layAll_77 rfl ?_
            refine zg_get C 0 (ci := 6) (f := 14) rfl rfl uX6_layAll_6 (by decide) fX6_layAll_6_14 dX6_layAll_78 rfl ?_
            refine zg_iload_n C 2 dX6_layAll_81 rfl ?_
            refine zg_iald C 5 rfl (by omega) (by decide) dX6_layAll_82 (nI (zsk R i rc)) (if_pos (by omega)) ?_
            refine zg_iload_n C 3 dX6_layAll_83 rfl ?_
            refine zg_sipush (v := (-1001)) C dX6_layAll_84 (by decide) ?_
            refine zg_icmp_eq C 101 dX6_layAll_87 (by decide) (fun c_87 => by exact absurd c_87 (zo_ne (by omega))) (fun c_87 => ?_)
            refine zg_iload_n C 2 dX6_layAll_90 rfl ?_
            refine zg_calls (As := [.int (nI i)]) (st := [.int (nI (zsk R i rc)), .ref ml]) C [] 1 (c_X6_ones l D cI i (by omega)) gX6_layAll_X6_ones (by decide +kernel) rfl ⟨rfl, rfl⟩ ⟨Nat.le_of_ble_eq_true rfl, Nat.le_of_ble_eq_true rfl⟩ rfl rfl rfl (Nat.le_of_ble_eq_true rfl) ⟨Nat.le_of_ble_eq_true rfl, Nat.le_of_ble_eq_true rfl⟩ dX6_layAll_91 ?_
            refine zg_iload_n C 3 dX6_layAll_94 rfl ?_
            refine zg_calls (As := [.int (nI v)]) (st := [.int (nI (zpc i)), .int (nI (zsk R i rc)), .ref ml]) C [] 1 (c_X6_ones l D cI v (by omega)) gX6_layAll_X6_ones (by decide +kernel) rfl ⟨rfl, rfl⟩ ⟨Nat.le_of_ble_eq_true rfl, Nat.le_of_ble_eq_true rfl⟩ rfl rfl rfl (Nat.le_of_ble_eq_true rfl) ⟨Nat.le_of_ble_eq_true rfl, Nat.le_of_ble_eq_true rfl⟩ dX6_layAll_95 ?_
            have q7 := zpc_le i
            have q8 := zpc_le v
            refine zn_icmp_ge C 105 (by omega) (by omega) dX6_layAll_98 (by decide) (fun c_98 => ?_) (fun c_98 => ?_)
            · skip
              refine zg_iload_n C 3 dX6_layAll_105 rfl ?_
              refine zg_iast C 6 (ws' := [(m0, .inr (6, [.int (nI pn), .ref mp, .int (nI rc), .int (nI ln), .ref mo, .int sd, .ref mv, .int bs, .int bp, .int sr, .int y1, .int y2, .int y3, .ref mn, .ref my, .ref ml, .int (nI rk), .int dz, .int (nI su), .int (nI rd), .long hh])), (mp, .inl (cI, 56, .inl pg)), (mo, .inl (cI, 5, .inl Of)), (mv, .inl (cI, 4, .inl V)), (mn, .inl (cI, 5, .inl Nf)), (my, .inl (cI, 1024, .inl (fun j => if j < (i + 1) then nI (zsk R j rc) else Yf j))), (ml, .inl (cI, 32, .inl (upd (fun s => zo (zld R rc i s)) (zsk R i rc) (nI v))))]) rfl (by omega) (by decide) dX6_layAll_106 rfl ?_
              refine zg_cell 6 (ws' := [(m0, .inr (6, [.int (nI pn), .ref mp, .int (nI rc), .int (nI ln), .ref mo, .int sd, .ref mv, .int bs, .int bp, .int sr, .int y1, .int y2, .int y3, .ref mn, .ref my, .ref ml, .int (nI rk), .int dz, .int (nI su), .int (nI rd), .long hh])), (mp, .inl (cI, 56, .inl pg)), (mo, .inl (cI, 5, .inl Of)), (mv, .inl (cI, 4, .inl V)), (mn, .inl (cI, 5, .inl Nf)), (my, .inl (cI, 1024, .inl (fun j => if j < (i + 1) then nI (zsk R j rc) else Yf j))), (ml, .inl (cI, 32, .inl (fun s => zo (zld R rc (i + 1) s))))]) (fun s => zo (zld R rc (i + 1) s)) rfl (fun s _ => zld_keep hz (by omega) s) rfl ?_
              refine zg_cv (lv' := [(0, .ref m0), (1, .int (nI (zct (zim R rc (i + 1)) 32))), (2, .int (nI i)), (3, .int (nI v))]) (congrArg (fun q9 => ([(0, .ref m0), (1, .int (nI q9)), (2, .int (nI i)), (3, .int (nI v))] : List (Nat × Value))) ((zim_some hz).symm)) rfl rfl ?_
              refine zg_iinc C 2 [1, 2, 0, 3] (lv' := [(0, .ref m0), (1, .int (nI (zct (zim R rc (i + 1)) 32))), (2, .int (nI (i + 1))), (3, .int (nI v))]) (nI (i + 1)) dX6_layAll_107 rfl (zi_inc _) (by decide) rfl ?_
              refine zg_goto C 27 dX6_layAll_110 (by decide) ?_
              refine zg_lv [0, 1, 2] (lv' := [(0, .ref m0), (1, .int (nI (zct (zim R rc (i + 1)) 32))), (2, .int (nI (i + 1)))]) rfl ?_
              exact zg_cv (lv' := [(0, .ref m0), (1, .int (nI (zct (zim R rc (i + 1)) 32))), (2, .int (nI (i + 1)))]) (rfl) rfl (rfl) (ih_27 (by omega) )
            · skip
              refine zg_iload_n C 2 dX6_layAll_101 rfl ?_
              refine zg_goto C 106 dX6_layAll_102 (by decide) ?_
              refine zg_iast C 6 (ws' := [(m0, .inr (6, [.int (nI pn), .ref mp, .int (nI rc), .int (nI ln), .ref mo, .int sd, .ref mv, .int bs, .int bp, .int sr, .int y1, .int y2, .int y3, .ref mn, .ref my, .ref ml, .int (nI rk), .int dz, .int (nI su), .int (nI rd), .long hh])), (mp, .inl (cI, 56, .inl pg)), (mo, .inl (cI, 5, .inl Of)), (mv, .inl (cI, 4, .inl V)), (mn, .inl (cI, 5, .inl Nf)), (my, .inl (cI, 1024, .inl (fun j => if j < (i + 1) then nI (zsk R j rc) else Yf j))), (ml, .inl (cI, 32, .inl (upd (fun s => zo (zld R rc i s)) (zsk R i rc) (nI i))))]) rfl (by omega) (by decide) dX6_layAll_106 rfl ?_
              refine zg_cell 6 (ws' := [(m0, .inr (6, [.int (nI pn), .ref mp, .int (nI rc), .int (nI ln), .ref mo, .int sd, .ref mv, .int bs, .int bp, .int sr, .int y1, .int y2, .int y3, .ref mn, .ref my, .ref ml, .int (nI rk), .int dz, .int (nI su), .int (nI rd), .long hh])), (mp, .inl (cI, 56, .inl pg)), (mo, .inl (cI, 5, .inl Of)), (mv, .inl (cI, 4, .inl V)), (mn, .inl (cI, 5, .inl Nf)), (my, .inl (cI, 1024, .inl (fun j => if j < (i + 1) then nI (zsk R j rc) else Yf j))), (ml, .inl (cI, 32, .inl (fun s => zo (zld R rc (i + 1) s))))]) (fun s => zo (zld R rc (i + 1) s)) rfl (fun s _ => zld_hit (by rw [hz]; exact decide_eq_true c_98) s) rfl ?_
              refine zg_cv (lv' := [(0, .ref m0), (1, .int (nI (zct (zim R rc (i + 1)) 32))), (2, .int (nI i)), (3, .int (nI v))]) (congrArg (fun q9 => ([(0, .ref m0), (1, .int (nI q9)), (2, .int (nI i)), (3, .int (nI v))] : List (Nat × Value))) ((zim_some hz).symm)) rfl rfl ?_
              refine zg_iinc C 2 [1, 2, 0, 3] (lv' := [(0, .ref m0), (1, .int (nI (zct (zim R rc (i + 1)) 32))), (2, .int (nI (i + 1))), (3, .int (nI v))]) (nI (i + 1)) dX6_layAll_107 rfl (zi_inc _) (by decide) rfl ?_
              refine zg_goto C 27 dX6_layAll_110 (by decide) ?_
              refine zg_lv [0, 1, 2] (lv' := [(0, .ref m0), (1, .int (nI (zct (zim R rc (i + 1)) 32))), (2, .int (nI (i + 1)))]) rfl ?_
              exact zg_cv (lv' := [(0, .ref m0), (1, .int (nI (zct (zim R rc (i + 1)) 32))), (2, .int (nI (i + 1)))]) (rfl) rfl (rfl) (ih_27 (by omega) )
      exact zg_cv (lv' := [(0, .ref m0), (1, .int (nI (zct (zim R rc 0) 32))), (2, .int (nI 0))]) (by rw [zim_0]) rfl (rfl) (L_27 0 (Nat.zero_le _) )
    · skip
      refine zg_aload_n C 0 dX6_layAll_8 rfl ?_
      refine zg_get C 0 (ci := 6) (f := 15) rfl rfl uX6_layAll_6 (by decide) fX6_layAll_6_15 dX6_layAll_9 rfl ?_
      refine zg_iload_n C 1 dX6_layAll_12 rfl ?_
      refine zg_sipush (v := (-1001)) C dX6_layAll_13 (by decide) ?_
      refine zg_iast C 6 (ws' := [(m0, .inr (6, [.int (nI pn), .ref mp, .int (nI rc), .int (nI ln), .ref mo, .int sd, .ref mv, .int bs, .int bp, .int sr, .int y1, .int y2, .int y3, .ref mn, .ref my, .ref ml, .int (nI rk), .int dz, .int (nI su), .int (nI rd), .long hh])), (mp, .inl (cI, 56, .inl pg)), (mo, .inl (cI, 5, .inl Of)), (mv, .inl (cI, 4, .inl V)), (mn, .inl (cI, 5, .inl Nf)), (my, .inl (cI, 1024, .inl Yf)), (ml, .inl (cI, 32, .inl (upd (fun j => if j < i then -1001 else Lf j) i (-1001))))]) rfl (by omega) (by decide) dX6_layAll_16 rfl ?_
      refine zg_cell 6 (ws' := [(m0, .inr (6, [.int (nI pn), .ref mp, .int (nI rc), .int (nI ln), .ref mo, .int sd, .ref mv, .int bs, .int bp, .int sr, .int y1, .int y2, .int y3, .ref mn, .ref my, .ref ml, .int (nI rk), .int dz, .int (nI su), .int (nI rd), .long hh])), (mp, .inl (cI, 56, .inl pg)), (mo, .inl (cI, 5, .inl Of)), (mv, .inl (cI, 4, .inl V)), (mn, .inl (cI, 5, .inl Nf)), (my, .inl (cI, 1024, .inl Yf)), (ml, .inl (cI, 32, .inl (fun j => if j < (i + 1) then -1001 else Lf j)))]) (fun j => if j < (i + 1) then -1001 else Lf j) rfl (fun j _ => zfill j) rfl ?_
      refine zg_iinc C 1 [1, 0] (lv' := [(0, .ref m0), (1, .int (nI (i + 1)))]) (nI (i + 1)) dX6_layAll_17 rfl (zi_inc _) (by decide) rfl ?_
      refine zg_goto C 2 dX6_layAll_20 (by decide) ?_
      exact zg_cv (lv' := [(0, .ref m0), (1, .int (nI (i + 1)))]) (rfl) rfl (rfl) (ih_2 (by omega) )
  exact zg_cv (lv' := [(0, .ref m0), (1, .int (nI 0))]) (rfl) rfl (rfl) (L_2 0 (Nat.zero_le _) )
theorem uX6_sums_6 : ∀ w ∈ u_ws RX6 TX6 21, w ∈ wsX6_sums := fun w h => List.mem_cons_of_mem _ (List.mem_append_right _ h)
theorem fX6_sums_6_0 : Cond.fieldLink RX6 36 (TX6 0).1 (TX6 0).2.1 (TX6 0).2.2.1 ∈ wsX6_sums := by decide +kernel
theorem fX6_sums_6_12 : Cond.fieldLink RX6 42 (TX6 12).1 (TX6 12).2.1 (TX6 12).2.2.1 ∈ wsX6_sums := by decide +kernel
theorem fX6_sums_6_11 : Cond.fieldLink RX6 45 (TX6 11).1 (TX6 11).2.1 (TX6 11).2.2.1 ∈ wsX6_sums := by decide +kernel
theorem fX6_sums_6_10 : Cond.fieldLink RX6 39 (TX6 10).1 (TX6 10).2.1 (TX6 10).2.2.1 ∈ wsX6_sums := by decide +kernel
theorem fX6_sums_6_2 : Cond.fieldLink RX6 56 (TX6 2).1 (TX6 2).2.1 (TX6 2).2.2.1 ∈ wsX6_sums := by decide +kernel
theorem fX6_sums_6_3 : Cond.fieldLink RX6 59 (TX6 3).1 (TX6 3).2.1 (TX6 3).2.2.1 ∈ wsX6_sums := by decide +kernel
theorem fX6_sums_6_9 : Cond.fieldLink RX6 62 (TX6 9).1 (TX6 9).2.1 (TX6 9).2.2.1 ∈ wsX6_sums := by decide +kernel
theorem fX6_sums_6_4 : Cond.fieldLink RX6 13 (TX6 4).1 (TX6 4).2.1 (TX6 4).2.2.1 ∈ wsX6_sums := by decide +kernel
theorem fX6_sums_6_13 : Cond.fieldLink RX6 23 (TX6 13).1 (TX6 13).2.1 (TX6 13).2.2.1 ∈ wsX6_sums := by decide +kernel
set_option maxHeartbeats 1000000 in
set_option maxRecDepth 100000 in
theorem c_X6_sums (l : Launch) (D : va_G) (cI : ClassId) (m0 mp mo mv mn my ml : Nat) (pg Of V Nf Yf Lf : Nat → Int32) (pn rc ln rk su rd : Nat) (sd bs bp sr y1 y2 y3 dz : Int32) (hh : Int64) (hok : zokS pg pn) (hpn : pn ≤ 56) : zMw l D cI yX6_sums wsX6_sums { frames := 4, cells := 0, slots := 0, locals := 90 } [.ref m0] [(m0, .inr (6, [.int (nI pn), .ref mp, .int (nI rc), .int (nI ln), .ref mo, .int sd, .ref mv, .int bs, .int bp, .int sr, .int y1, .int y2, .int y3, .ref mn, .ref my, .ref ml, .int (nI rk), .int dz, .int (nI su), .int (nI rd), .long hh])), (mp, .inl (cI, 56, .inl pg)), (mo, .inl (cI, 5, .inl Of)), (mv, .inl (cI, 4, .inl V)), (mn, .inl (cI, 5, .inl Nf)), (my, .inl (cI, 1024, .inl Yf)), (ml, .inl (cI, 32, .inl Lf))] (fun v9 w9 => ∃ (Nf9 : Nat → Int32), v9 = some (.int (nI ((zfa pg pn 0 zr0).2.2.1))) ∧ w9 = [(m0, .inr (6, [.int (nI 0), .ref mp, .int (nI ((zfa pg pn 0 zr0).2.1 + 1)), .int (nI ((zfa pg pn 0 zr0).2.2.1)), .ref mo, .int sd, .ref mv, .int bs, .int bp, .int (sr + nI 1), .int (nI ((zfa pg pn 0 zr0).2.1)), .int (nI ((zfa pg pn 0 zr0).2.2.1)), .int (nI ((zfa pg pn 0 zr0).2.2.2.1)), .ref mn, .ref my, .ref ml, .int (nI (zrk ((zfa pg pn 0 zr0).2.2.2.2) ((zfa pg pn 0 zr0).2.1 + 1) ((zfa pg pn 0 zr0).2.2.1))), .int (zdn ((zfa pg pn 0 zr0).2.2.1) (zdm ((zfa pg pn 0 zr0).2.2.2.2) ((zfa pg pn 0 zr0).2.1 + 1) ((zfa pg pn 0 zr0).2.2.1) (2 ^ ((zfa pg pn 0 zr0).2.2.1)))), .int (nI (zsu ((zfa pg pn 0 zr0).2.2.1) (zdm ((zfa pg pn 0 zr0).2.2.2.2) ((zfa pg pn 0 zr0).2.1 + 1) ((zfa pg pn 0 zr0).2.2.1) (2 ^ ((zfa pg pn 0 zr0).2.2.1))))), .int (nI (zrad (zld ((zfa pg pn 0 zr0).2.2.2.2) ((zfa pg pn 0 zr0).2.1 + 1) (2 ^ ((zfa pg pn 0 zr0).2.2.1))) 32)), .long hh])), (mp, .inl (cI, 56, .inl pg)), (mo, .inl (cI, 5, .inl (fun j => if j < (zfa pg pn 0 zr0).2.1 + 1 then nI ((zfa pg pn 0 zr0).2.2.2.2 j) else Of j))), (mv, .inl (cI, 4, .inl V)), (mn, .inl (cI, 5, .inl Nf9)), (my, .inl (cI, 1024, .inl (fun w => if w < 2 ^ ((zfa pg pn 0 zr0).2.2.1) then nI (zsk ((zfa pg pn 0 zr0).2.2.2.2) w ((zfa pg pn 0 zr0).2.1 + 1)) else Yf w))), (ml, .inl (cI, 32, .inl (fun s => zo (zld ((zfa pg pn 0 zr0).2.2.2.2) ((zfa pg pn 0 zr0).2.1 + 1) (2 ^ ((zfa pg pn 0 zr0).2.2.1)) s))))]) 0 0 := by
  refine zw_ent (maxL := 2) (by decide) rfl (Nat.le_of_ble_eq_true rfl) (fun X C E hin9 => ?_)
  have C : zC X l D cI { frames := 4, cells := 0, slots := 0, locals := 90 } 2 true cX6_sums RX6 wsX6_sums := C
  refine zg_cv (lv' := [(0, .ref m0)]) rfl rfl rfl ?_
  obtain ⟨o1, o2⟩ := id hok
  have q7 := zfa_le (pg := pg) pn 0 zr0
  have q8 := zfa_ok (pg := pg) pn 0 zr0 zrok_0
  refine zg_aload_n C 0 dX6_sums_0 rfl ?_
  refine zg_callw (As := []) (st := []) (wo := []) C [0, 1, 2, 3, 4, 5, 6] [] 0 0 (c_X6_goAlong l D cI m0 mp mo mv mn my ml pg Of V Nf Yf Lf pn rc ln rk su rd sd bs bp sr y1 y2 y3 dz hh hpn) gX6_sums_X6_goAlong (by decide +kernel) rfl ⟨rfl, rfl⟩ ⟨Nat.le_of_ble_eq_true rfl, Nat.le_of_ble_eq_true rfl⟩ rfl rfl rfl rfl (by decide) (ci := 6) rfl rfl rfl rfl (Nat.le_of_ble_eq_true rfl) ⟨Nat.le_of_ble_eq_true rfl, Nat.le_of_ble_eq_true rfl⟩ dX6_sums_1 (fun v9 w9 hw9 => ?_)
  obtain ⟨Nf9_1, rfl, rfl, hp_1⟩ := hw9
  refine zg_cv (k' := 0) (n' := 0) (st' := [.int (nI ((zfa pg pn 0 zr0).1))]) (ws' := [(m0, .inr (6, [.int (nI pn), .ref mp, .int (nI rc), .int (nI ln), .ref mo, .int sd, .ref mv, .int bs, .int bp, .int sr, .int (nI ((zfa pg pn 0 zr0).2.1)), .int (nI ((zfa pg pn 0 zr0).2.2.1)), .int (nI ((zfa pg pn 0 zr0).2.2.2.1)), .ref mn, .ref my, .ref ml, .int (nI rk), .int dz, .int (nI su), .int (nI rd), .long hh])), (mp, .inl (cI, 56, .inl pg)), (mo, .inl (cI, 5, .inl Of)), (mv, .inl (cI, 4, .inl V)), (mn, .inl (cI, 5, .inl Nf9_1)), (my, .inl (cI, 1024, .inl Yf)), (ml, .inl (cI, 32, .inl Lf))]) rfl rfl rfl ?_
  have o3 : ((zfa pg pn 0 zr0).2.2.2.1 = 0 ∧ 3 ≤ (zfa pg pn 0 zr0).2.2.1) ∨ (0 < (zfa pg pn 0 zr0).2.2.2.1 ∧ (zfa pg pn 0 zr0).2.2.1 = (zfa pg pn 0 zr0).2.2.2.1) := (zwh_of q8).mp o2
  have k2 : (zfa pg pn 0 zr0).2.2.1 ≤ 10 := q8.2.1
  have k3 : (zfa pg pn 0 zr0).2.2.2.1 ≤ 10 := q8.2.2.1
  refine zg_aload_n C 0 dX6_sums_4 rfl ?_
  refine zg_get C 0 (ci := 6) (f := 0) rfl rfl uX6_sums_6 (by decide) fX6_sums_6_0 dX6_sums_5 rfl ?_
  refine zn_icmp_lt C 40 (by omega) (by omega) dX6_sums_8 (by decide) (fun c_8 => by omega) (fun c_8 => ?_)
  refine zg_aload_n C 0 dX6_sums_11 rfl ?_
  refine zg_get C 0 (ci := 6) (f := 12) rfl rfl uX6_sums_6 (by decide) fX6_sums_6_12 dX6_sums_12 rfl ?_
  refine zn_if_ne C 29 (by omega) dX6_sums_15 (by decide) (fun c_15 => ?_) (fun c_15 => ?_)
  · skip
    refine zg_aload_n C 0 dX6_sums_29 rfl ?_
    refine zg_get C 0 (ci := 6) (f := 11) rfl rfl uX6_sums_6 (by decide) fX6_sums_6_11 dX6_sums_30 rfl ?_
    refine zg_aload_n C 0 dX6_sums_33 rfl ?_
    refine zg_get C 0 (ci := 6) (f := 12) rfl rfl uX6_sums_6 (by decide) fX6_sums_6_12 dX6_sums_34 rfl ?_
    refine zn_icmp_eq C 44 (by omega) (by omega) dX6_sums_37 (by decide) (fun c_37 => ?_) (fun c_37 => by omega)
    obtain ⟨g1, hln, hrc, hRw⟩ : 3 ≤ (zfa pg pn 0 zr0).2.2.1 ∧ (zfa pg pn 0 zr0).2.2.1 ≤ 10 ∧ (zfa pg pn 0 zr0).2.1 + 1 ≤ 5 ∧ ∀ i, i < (zfa pg pn 0 zr0).2.1 + 1 → (zfa pg pn 0 zr0).2.2.2.2 i < 2 ^ (zfa pg pn 0 zr0).2.2.1 := zrok_whole q8 o2
    have q0 := zpw hln
    have hRb : ∀ i, i < (zfa pg pn 0 zr0).2.1 + 1 → (zfa pg pn 0 zr0).2.2.2.2 i < 1024 := fun i hi => Nat.lt_of_lt_of_le (hRw i hi) q0
    obtain ⟨hp1, hp2⟩ : (∀ i, i < (zfa pg pn 0 zr0).2.1 → Nf9_1 i = nI ((zfa pg pn 0 zr0).2.2.2.2 i)) ∧ (0 < (zfa pg pn 0 zr0).2.2.1 → Nf9_1 (zfa pg pn 0 zr0).2.1 = nI ((zfa pg pn 0 zr0).2.2.2.2 (zfa pg pn 0 zr0).2.1)) := hp_1
    have hN9 : ∀ i, i < (zfa pg pn 0 zr0).2.1 + 1 → Nf9_1 i = nI ((zfa pg pn 0 zr0).2.2.2.2 i) := fun i hi => by
                          by_cases he : i = (zfa pg pn 0 zr0).2.1
                          · rw [he]; exact hp2 (by omega)
                          · exact hp1 i (by omega)
    refine zg_aload_n C 0 dX6_sums_44 rfl ?_
    refine zg_aload_n C 0 dX6_sums_45 rfl ?_
    refine zg_get C 0 (ci := 6) (f := 10) rfl rfl uX6_sums_6 (by decide) fX6_sums_6_10 dX6_sums_46 rfl ?_
    refine zg_iconst (v := nI 1) C dX6_sums_49 (by decide) ?_
    refine zg_iadd C dX6_sums_50 (nI (((zfa pg pn 0 zr0).2.1) + 1)) (nI_add _ _) ?_
    refine zg_put C 0 (ci := 6) (f := 2) (ws' := [(m0, .inr (6, [.int (nI pn), .ref mp, .int (nI (((zfa pg pn 0 zr0).2.1) + 1)), .int (nI ln), .ref mo, .int sd, .ref mv, .int bs, .int bp, .int sr, .int (nI ((zfa pg pn 0 zr0).2.1)), .int (nI ((zfa pg pn 0 zr0).2.2.1)), .int (nI ((zfa pg pn 0 zr0).2.2.2.1)), .ref mn, .ref my, .ref ml, .int (nI rk), .int dz, .int (nI su), .int (nI rd), .long hh])), (mp, .inl (cI, 56, .inl pg)), (mo, .inl (cI, 5, .inl Of)), (mv, .inl (cI, 4, .inl V)), (mn, .inl (cI, 5, .inl Nf9_1)), (my, .inl (cI, 1024, .inl Yf)), (ml, .inl (cI, 32, .inl Lf))]) rfl rfl uX6_sums_6 tyX6_ok nmX6 (by decide) fX6_sums_6_2 rfl rfl rfl rfl (Nat.le_of_ble_eq_true rfl) dX6_sums_51 rfl ?_
    refine zg_aload_n C 0 dX6_sums_54 rfl ?_
    refine zg_aload_n C 0 dX6_sums_55 rfl ?_
    refine zg_get C 0 (ci := 6) (f := 11) rfl rfl uX6_sums_6 (by decide) fX6_sums_6_11 dX6_sums_56 rfl ?_
    refine zg_put C 0 (ci := 6) (f := 3) (ws' := [(m0, .inr (6, [.int (nI pn), .ref mp, .int (nI (((zfa pg pn 0 zr0).2.1) + 1)), .int (nI ((zfa pg pn 0 zr0).2.2.1)), .ref mo, .int sd, .ref mv, .int bs, .int bp, .int sr, .int (nI ((zfa pg pn 0 zr0).2.1)), .int (nI ((zfa pg pn 0 zr0).2.2.1)), .int (nI ((zfa pg pn 0 zr0).2.2.2.1)), .ref mn, .ref my, .ref ml, .int (nI rk), .int dz, .int (nI su), .int (nI rd), .long hh])), (mp, .inl (cI, 56, .inl pg)), (mo, .inl (cI, 5, .inl Of)), (mv, .inl (cI, 4, .inl V)), (mn, .inl (cI, 5, .inl Nf9_1)), (my, .inl (cI, 1024, .inl Yf)), (ml, .inl (cI, 32, .inl Lf))]) rfl rfl uX6_sums_6 tyX6_ok nmX6 (by decide) fX6_sums_6_3 rfl rfl rfl rfl (Nat.le_of_ble_eq_true rfl) dX6_sums_59 rfl ?_
    refine zg_cell 2 (ws' := [(m0, .inr (6, [.int (nI pn), .ref mp, .int (nI (((zfa pg pn 0 zr0).2.1) + 1)), .int (nI ((zfa pg pn 0 zr0).2.2.1)), .ref mo, .int sd, .ref mv, .int bs, .int bp, .int sr, .int (nI ((zfa pg pn 0 zr0).2.1)), .int (nI ((zfa pg pn 0 zr0).2.2.1)), .int (nI ((zfa pg pn 0 zr0).2.2.2.1)), .ref mn, .ref my, .ref ml, .int (nI rk), .int dz, .int (nI su), .int (nI rd), .long hh])), (mp, .inl (cI, 56, .inl pg)), (mo, .inl (cI, 5, .inl (fun j => if j < 0 then nI ((zfa pg pn 0 zr0).2.2.2.2 j) else Of j))), (mv, .inl (cI, 4, .inl V)), (mn, .inl (cI, 5, .inl Nf9_1)), (my, .inl (cI, 1024, .inl Yf)), (ml, .inl (cI, 32, .inl Lf))]) (fun j => if j < 0 then nI ((zfa pg pn 0 zr0).2.2.2.2 j) else Of j) rfl (fun j _ => by rw [if_neg (Nat.not_lt_zero j)]) rfl ?_
    refine zg_iconst (v := nI 0) C dX6_sums_62 (by decide) ?_
    refine zg_istore_n C [1, 0] (lv' := [(0, .ref m0), (1, .int (nI 0))]) dX6_sums_63 (by decide) rfl ?_
    have L_64 : ∀ i, i ≤ (zfa pg pn 0 zr0).2.1 + 1 → zG X 0 0 [(0, .ref m0), (1, .int (nI i))] [] [(m0, .inr (6, [.int (nI pn), .ref mp, .int (nI (((zfa pg pn 0 zr0).2.1) + 1)), .int (nI ((zfa pg pn 0 zr0).2.2.1)), .ref mo, .int sd, .ref mv, .int bs, .int bp, .int sr, .int (nI ((zfa pg pn 0 zr0).2.1)), .int (nI ((zfa pg pn 0 zr0).2.2.1)), .int (nI ((zfa pg pn 0 zr0).2.2.2.1)), .ref mn, .ref my, .ref ml, .int (nI rk), .int dz, .int (nI su), .int (nI rd), .long hh])), (mp, .inl (cI, 56, .inl pg)), (mo, .inl (cI, 5, .inl (fun j => if j < i then nI ((zfa pg pn 0 zr0).2.2.2.2 j) else Of j))), (mv, .inl (cI, 4, .inl V)), (mn, .inl (cI, 5, .inl Nf9_1)), (my, .inl (cI, 1024, .inl Yf)), (ml, .inl (cI, 32, .inl Lf))] 64 := by
      refine zg_dn (fun i hi ih_64  => ?_)
      refine zg_iload_n C 1 dX6_sums_64 rfl ?_
      refine zg_aload_n C 0 dX6_sums_65 rfl ?_
      refine zg_get C 0 (ci := 6) (f := 2) rfl rfl uX6_sums_6 (by decide) fX6_sums_6_2 dX6_sums_66 rfl ?_
      refine zn_icmp_ge C 90 (by omega) (by omega) dX6_sums_69 (by decide) (fun c_69 => ?_) (fun c_69 => ?_)
      · skip
        have e9_90 : (zfa pg pn 0 zr0).2.1 + 1 = i := by omega
        subst e9_90
        refine zg_aload_n C 0 dX6_sums_90 rfl ?_
        refine zg_dup C dX6_sums_91 rfl ?_
        refine zg_get C 0 (ci := 6) (f := 9) rfl rfl uX6_sums_6 (by decide) fX6_sums_6_9 dX6_sums_92 rfl ?_
        refine zg_iconst (v := nI 1) C dX6_sums_95 (by decide) ?_
        refine zg_iadd C dX6_sums_96 (sr + (nI 1)) (rfl) ?_
        refine zg_put C 0 (ci := 6) (f := 9) (ws' := [(m0, .inr (6, [.int (nI pn), .ref mp, .int (nI (((zfa pg pn 0 zr0).2.1) + 1)), .int (nI ((zfa pg pn 0 zr0).2.2.1)), .ref mo, .int sd, .ref mv, .int bs, .int bp, .int (sr + (nI 1)), .int (nI ((zfa pg pn 0 zr0).2.1)), .int (nI ((zfa pg pn 0 zr0).2.2.1)), .int (nI ((zfa pg pn 0 zr0).2.2.2.1)), .ref mn, .ref my, .ref ml, .int (nI rk), .int dz, .int (nI su), .int (nI rd), .long hh])), (mp, .inl (cI, 56, .inl pg)), (mo, .inl (cI, 5, .inl (fun j => if j < ((zfa pg pn 0 zr0).2.1 + 1) then nI ((zfa pg pn 0 zr0).2.2.2.2 j) else Of j))), (mv, .inl (cI, 4, .inl V)), (mn, .inl (cI, 5, .inl Nf9_1)), (my, .inl (cI, 1024, .inl Yf)), (ml, .inl (cI, 32, .inl Lf))]) rfl rfl uX6_sums_6 tyX6_ok nmX6 (by decide) fX6_sums_6_9 rfl rfl rfl rfl (Nat.le_of_ble_eq_true rfl) dX6_sums_97 rfl ?_
        refine zg_aload_n C 0 dX6_sums_100 rfl ?_
        refine zg_iconst (v := nI 0) C dX6_sums_101 (by decide) ?_
        refine zg_put C 0 (ci := 6) (f := 0) (ws' := [(m0, .inr (6, [.int (nI 0), .ref mp, .int (nI (((zfa pg pn 0 zr0).2.1) + 1)), .int (nI ((zfa pg pn 0 zr0).2.2.1)), .ref mo, .int sd, .ref mv, .int bs, .int bp, .int (sr + (nI 1)), .int (nI ((zfa pg pn 0 zr0).2.1)), .int (nI ((zfa pg pn 0 zr0).2.2.1)), .int (nI ((zfa pg pn 0 zr0).2.2.2.1)), .ref mn, .ref my, .ref ml, .int (nI rk), .int dz, .int (nI su), .int (nI rd), .long hh])), (mp, .inl (cI, 56, .inl pg)), (mo, .inl (cI, 5, .inl (fun j => if j < ((zfa pg pn 0 zr0).2.1 + 1) then nI ((zfa pg pn 0 zr0).2.2.2.2 j) else Of j))), (mv, .inl (cI, 4, .inl V)), (mn, .inl (cI, 5, .inl Nf9_1)), (my, .inl (cI, 1024, .inl Yf)), (ml, .inl (cI, 32, .inl Lf))]) rfl rfl uX6_sums_6 tyX6_ok nmX6 (by decide) fX6_sums_6_0 rfl rfl rfl rfl (Nat.le_of_ble_eq_true rfl) dX6_sums_102 rfl ?_
        refine zg_aload_n C 0 dX6_sums_105 rfl ?_
        refine zg_callw (As := []) (st := []) (wo := []) C [0, 1, 2, 3, 4, 5, 6] [] 0 0 (c_X6_layAll l D cI m0 mp mo mv mn my ml pg (fun j => if j < ((zfa pg pn 0 zr0).2.1 + 1) then nI ((zfa pg pn 0 zr0).2.2.2.2 j) else Of j) V Nf9_1 Yf Lf 0 (((zfa pg pn 0 zr0).2.1) + 1) ((zfa pg pn 0 zr0).2.2.1) rk su rd sd bs bp (sr + (nI 1)) (nI ((zfa pg pn 0 zr0).2.1)) (nI ((zfa pg pn 0 zr0).2.2.1)) (nI ((zfa pg pn 0 zr0).2.2.2.1)) dz hh ((zfa pg pn 0 zr0).2.2.2.2) (by omega) (by omega) (by omega) (fun i hi => if_pos hi) (hRb)) gX6_sums_X6_layAll (by decide +kernel) rfl ⟨rfl, rfl⟩ ⟨Nat.le_of_ble_eq_true rfl, Nat.le_of_ble_eq_true rfl⟩ rfl rfl rfl rfl (by decide) (ci := 6) rfl rfl rfl rfl (Nat.le_of_ble_eq_true rfl) ⟨Nat.le_of_ble_eq_true rfl, Nat.le_of_ble_eq_true rfl⟩ dX6_sums_106 (fun v9 w9 hw9 => ?_)
        obtain ⟨rfl, rfl⟩ := hw9
        refine zg_cv (k' := 0) (n' := 0) (st' := []) (ws' := [(m0, .inr (6, [.int (nI 0), .ref mp, .int (nI (((zfa pg pn 0 zr0).2.1) + 1)), .int (nI ((zfa pg pn 0 zr0).2.2.1)), .ref mo, .int sd, .ref mv, .int bs, .int bp, .int (sr + (nI 1)), .int (nI ((zfa pg pn 0 zr0).2.1)), .int (nI ((zfa pg pn 0 zr0).2.2.1)), .int (nI ((zfa pg pn 0 zr0).2.2.2.1)), .ref mn, .ref my, .ref ml, .int (nI (zrk ((zfa pg pn 0 zr0).2.2.2.2) (((zfa pg pn 0 zr0).2.1) + 1) ((zfa pg pn 0 zr0).2.2.1))), .int (zdn ((zfa pg pn 0 zr0).2.2.1) (zdm ((zfa pg pn 0 zr0).2.2.2.2) (((zfa pg pn 0 zr0).2.1) + 1) ((zfa pg pn 0 zr0).2.2.1) (2 ^ ((zfa pg pn 0 zr0).2.2.1)))), .int (nI (zsu ((zfa pg pn 0 zr0).2.2.1) (zdm ((zfa pg pn 0 zr0).2.2.2.2) (((zfa pg pn 0 zr0).2.1) + 1) ((zfa pg pn 0 zr0).2.2.1) (2 ^ ((zfa pg pn 0 zr0).2.2.1))))), .int (nI (zrad (zld ((zfa pg pn 0 zr0).2.2.2.2) (((zfa pg pn 0 zr0).2.1) + 1) (2 ^ ((zfa pg pn 0 zr0).2.2.1))) 32)), .long hh])), (mp, .inl (cI, 56, .inl pg)), (mo, .inl (cI, 5, .inl (fun j => if j < ((zfa pg pn 0 zr0).2.1 + 1) then nI ((zfa pg pn 0 zr0).2.2.2.2 j) else Of j))), (mv, .inl (cI, 4, .inl V)), (mn, .inl (cI, 5, .inl Nf9_1)), (my, .inl (cI, 1024, .inl (fun w => if w < 2 ^ ((zfa pg pn 0 zr0).2.2.1) then nI (zsk ((zfa pg pn 0 zr0).2.2.2.2) w (((zfa pg pn 0 zr0).2.1) + 1)) else Yf w))), (ml, .inl (cI, 32, .inl (fun s => zo (zld ((zfa pg pn 0 zr0).2.2.2.2) (((zfa pg pn 0 zr0).2.1) + 1) (2 ^ ((zfa pg pn 0 zr0).2.2.1)) s))))]) rfl rfl rfl ?_
        refine zg_aload_n C 0 dX6_sums_109 rfl ?_
        refine zg_get C 0 (ci := 6) (f := 3) rfl rfl uX6_sums_6 (by decide) fX6_sums_6_3 dX6_sums_110 rfl ?_
        exact zg_wiret C E dX6_sums_113 (⟨_, rfl, rfl⟩)
      · skip
        refine zg_aload_n C 0 dX6_sums_72 rfl ?_
        refine zg_get C 0 (ci := 6) (f := 4) rfl rfl uX6_sums_6 (by decide) fX6_sums_6_4 dX6_sums_73 rfl ?_
        refine zg_iload_n C 1 dX6_sums_76 rfl ?_
        refine zg_aload_n C 0 dX6_sums_77 rfl ?_
        refine zg_get C 0 (ci := 6) (f := 13) rfl rfl uX6_sums_6 (by decide) fX6_sums_6_13 dX6_sums_78 rfl ?_
        refine zg_iload_n C 1 dX6_sums_81 rfl ?_
        refine zg_iald C 4 rfl (by omega) (by decide) dX6_sums_82 (nI ((zfa pg pn 0 zr0).2.2.2.2 i)) (hN9 i (by omega)) ?_
        refine zg_iast C 2 (ws' := [(m0, .inr (6, [.int (nI pn), .ref mp, .int (nI (((zfa pg pn 0 zr0).2.1) + 1)), .int (nI ((zfa pg pn 0 zr0).2.2.1)), .ref mo, .int sd, .ref mv, .int bs, .int bp, .int sr, .int (nI ((zfa pg pn 0 zr0).2.1)), .int (nI ((zfa pg pn 0 zr0).2.2.1)), .int (nI ((zfa pg pn 0 zr0).2.2.2.1)), .ref mn, .ref my, .ref ml, .int (nI rk), .int dz, .int (nI su), .int (nI rd), .long hh])), (mp, .inl (cI, 56, .inl pg)), (mo, .inl (cI, 5, .inl (upd (fun j => if j < i then nI ((zfa pg pn 0 zr0).2.2.2.2 j) else Of j) i (nI ((zfa pg pn 0 zr0).2.2.2.2 i))))), (mv, .inl (cI, 4, .inl V)), (mn, .inl (cI, 5, .inl Nf9_1)), (my, .inl (cI, 1024, .inl Yf)), (ml, .inl (cI, 32, .inl Lf))]) rfl (by omega) (by decide) dX6_sums_83 rfl ?_
        refine zg_cell 2 (ws' := [(m0, .inr (6, [.int (nI pn), .ref mp, .int (nI (((zfa pg pn 0 zr0).2.1) + 1)), .int (nI ((zfa pg pn 0 zr0).2.2.1)), .ref mo, .int sd, .ref mv, .int bs, .int bp, .int sr, .int (nI ((zfa pg pn 0 zr0).2.1)), .int (nI ((zfa pg pn 0 zr0).2.2.1)), .int (nI ((zfa pg pn 0 zr0).2.2.2.1)), .ref mn, .ref my, .ref ml, .int (nI rk), .int dz, .int (nI su), .int (nI rd), .long hh])), (mp, .inl (cI, 56, .inl pg)), (mo, .inl (cI, 5, .inl (fun j => if j < (i + 1) then nI ((zfa pg pn 0 zr0).2.2.2.2 j) else Of j))), (mv, .inl (cI, 4, .inl V)), (mn, .inl (cI, 5, .inl Nf9_1)), (my, .inl (cI, 1024, .inl Yf)), (ml, .inl (cI, 32, .inl Lf))]) (fun j => if j < (i + 1) then nI ((zfa pg pn 0 zr0).2.2.2.2 j) else Of j) rfl (fun j _ => zcopy (g := fun j => nI ((zfa pg pn 0 zr0).2.2.2.2 j)) j) rfl ?_
        refine zg_iinc C 1 [1, 0] (lv' := [(0, .ref m0), (1, .int (nI (i + 1)))]) (nI (i + 1)) dX6_sums_84 rfl (zi_inc _) (by decide) rfl ?_
        refine zg_goto C 64 dX6_sums_87 (by decide) ?_
        exact zg_cv (lv' := [(0, .ref m0), (1, .int (nI (i + 1)))]) (rfl) rfl (rfl) (ih_64 (by omega) )
    exact zg_cv (lv' := [(0, .ref m0), (1, .int (nI 0))]) (rfl) rfl (rfl) (L_64 0 (Nat.zero_le _) )
  · skip
    refine zg_aload_n C 0 dX6_sums_18 rfl ?_
    refine zg_get C 0 (ci := 6) (f := 11) rfl rfl uX6_sums_6 (by decide) fX6_sums_6_11 dX6_sums_19 rfl ?_
    refine zg_iconst (v := nI 3) C dX6_sums_22 (by decide) ?_
    refine zn_icmp_ge C 44 (by omega) (by omega) dX6_sums_23 (by decide) (fun c_23 => ?_) (fun c_23 => by omega)
    obtain ⟨g1, hln, hrc, hRw⟩ : 3 ≤ (zfa pg pn 0 zr0).2.2.1 ∧ (zfa pg pn 0 zr0).2.2.1 ≤ 10 ∧ (zfa pg pn 0 zr0).2.1 + 1 ≤ 5 ∧ ∀ i, i < (zfa pg pn 0 zr0).2.1 + 1 → (zfa pg pn 0 zr0).2.2.2.2 i < 2 ^ (zfa pg pn 0 zr0).2.2.1 := zrok_whole q8 o2
    have q0 := zpw hln
    have hRb : ∀ i, i < (zfa pg pn 0 zr0).2.1 + 1 → (zfa pg pn 0 zr0).2.2.2.2 i < 1024 := fun i hi => Nat.lt_of_lt_of_le (hRw i hi) q0
    obtain ⟨hp1, hp2⟩ : (∀ i, i < (zfa pg pn 0 zr0).2.1 → Nf9_1 i = nI ((zfa pg pn 0 zr0).2.2.2.2 i)) ∧ (0 < (zfa pg pn 0 zr0).2.2.1 → Nf9_1 (zfa pg pn 0 zr0).2.1 = nI ((zfa pg pn 0 zr0).2.2.2.2 (zfa pg pn 0 zr0).2.1)) := hp_1
    have hN9 : ∀ i, i < (zfa pg pn 0 zr0).2.1 + 1 → Nf9_1 i = nI ((zfa pg pn 0 zr0).2.2.2.2 i) := fun i hi => by
                          by_cases he : i = (zfa pg pn 0 zr0).2.1
                          · rw [he]; exact hp2 (by omega)
                          · exact hp1 i (by omega)
    refine zg_aload_n C 0 dX6_sums_44 rfl ?_
    refine zg_aload_n C 0 dX6_sums_45 rfl ?_
    refine zg_get C 0 (ci := 6) (f := 10) rfl rfl uX6_sums_6 (by decide) fX6_sums_6_10 dX6_sums_46 rfl ?_
    refine zg_iconst (v := nI 1) C dX6_sums_49 (by decide) ?_
    refine zg_iadd C dX6_sums_50 (nI (((zfa pg pn 0 zr0).2.1) + 1)) (nI_add _ _) ?_
    refine zg_put C 0 (ci := 6) (f := 2) (ws' := [(m0, .inr (6, [.int (nI pn), .ref mp, .int (nI (((zfa pg pn 0 zr0).2.1) + 1)), .int (nI ln), .ref mo, .int sd, .ref mv, .int bs, .int bp, .int sr, .int (nI ((zfa pg pn 0 zr0).2.1)), .int (nI ((zfa pg pn 0 zr0).2.2.1)), .int (nI ((zfa pg pn 0 zr0).2.2.2.1)), .ref mn, .ref my, .ref ml, .int (nI rk), .int dz, .int (nI su), .int (nI rd), .long hh])), (mp, .inl (cI, 56, .inl pg)), (mo, .inl (cI, 5, .inl Of)), (mv, .inl (cI, 4, .inl V)), (mn, .inl (cI, 5, .inl Nf9_1)), (my, .inl (cI, 1024, .inl Yf)), (ml, .inl (cI, 32, .inl Lf))]) rfl rfl uX6_sums_6 tyX6_ok nmX6 (by decide) fX6_sums_6_2 rfl rfl rfl rfl (Nat.le_of_ble_eq_true rfl) dX6_sums_51 rfl ?_
    refine zg_aload_n C 0 dX6_sums_54 rfl ?_
    refine zg_aload_n C 0 dX6_sums_55 rfl ?_
    refine zg_get C 0 (ci := 6) (f := 11) rfl rfl uX6_sums_6 (by decide) fX6_sums_6_11 dX6_sums_56 rfl ?_
    refine zg_put C 0 (ci := 6) (f := 3) (ws' := [(m0, .inr (6, [.int (nI pn), .ref mp, .int (nI (((zfa pg pn 0 zr0).2.1) + 1)), .int (nI ((zfa pg pn 0 zr0).2.2.1)), .ref mo, .int sd, .ref mv, .int bs, .int bp, .int sr, .int (nI ((zfa pg pn 0 zr0).2.1)), .int (nI ((zfa pg pn 0 zr0).2.2.1)), .int (nI ((zfa pg pn 0 zr0).2.2.2.1)), .ref mn, .ref my, .ref ml, .int (nI rk), .int dz, .int (nI su), .int (nI rd), .long hh])), (mp, .inl (cI, 56, .inl pg)), (mo, .inl (cI, 5, .inl Of)), (mv, .inl (cI, 4, .inl V)), (mn, .inl (cI, 5, .inl Nf9_1)), (my, .inl (cI, 1024, .inl Yf)), (ml, .inl (cI, 32, .inl Lf))]) rfl rfl uX6_sums_6 tyX6_ok nmX6 (by decide) fX6_sums_6_3 rfl rfl rfl rfl (Nat.le_of_ble_eq_true rfl) dX6_sums_59 rfl ?_
    refine zg_cell 2 (ws' := [(m0, .inr (6, [.int (nI pn), .ref mp, .int (nI (((zfa pg pn 0 zr0).2.1) + 1)), .int (nI ((zfa pg pn 0 zr0).2.2.1)), .ref mo, .int sd, .ref mv, .int bs, .int bp, .int sr, .int (nI ((zfa pg pn 0 zr0).2.1)), .int (nI ((zfa pg pn 0 zr0).2.2.1)), .int (nI ((zfa pg pn 0 zr0).2.2.2.1)), .ref mn, .ref my, .ref ml, .int (nI rk), .int dz, .int (nI su), .int (nI rd), .long hh])), (mp, .inl (cI, 56, .inl pg)), (mo, .inl (cI, 5, .inl (fun j => if j < 0 then nI ((zfa pg pn 0 zr0).2.2.2.2 j) else Of j))), (mv, .inl (cI, 4, .inl V)), (mn, .inl (cI, 5, .inl Nf9_1)), (my, .inl (cI, 1024, .inl Yf)), (ml, .inl (cI, 32, .inl Lf))]) (fun j => if j < 0 then nI ((zfa pg pn 0 zr0).2.2.2.2 j) else Of j) rfl (fun j _ => by rw [if_neg (Nat.not_lt_zero j)]) rfl ?_
    refine zg_iconst (v := nI 0) C dX6_sums_62 (by decide) ?_
    refine zg_istore_n C [1, 0] (lv' := [(0, .ref m0), (1, .int (nI 0))]) dX6_sums_63 (by decide) rfl ?_
    have L_64 : ∀ i, i ≤ (zfa pg pn 0 zr0).2.1 + 1 → zG X 0 0 [(0, .ref m0), (1, .int (nI i))] [] [(m0, .inr (6, [.int (nI pn), .ref mp, .int (nI (((zfa pg pn 0 zr0).2.1) + 1)), .int (nI ((zfa pg pn 0 zr0).2.2.1)), .ref mo, .int sd, .ref mv, .int bs, .int bp, .int sr, .int (nI ((zfa pg pn 0 zr0).2.1)), .int (nI ((zfa pg pn 0 zr0).2.2.1)), .int (nI ((zfa pg pn 0 zr0).2.2.2.1)), .ref mn, .ref my, .ref ml, .int (nI rk), .int dz, .int (nI su), .int (nI rd), .long hh])), (mp, .inl (cI, 56, .inl pg)), (mo, .inl (cI, 5, .inl (fun j => if j < i then nI ((zfa pg pn 0 zr0).2.2.2.2 j) else Of j))), (mv, .inl (cI, 4, .inl V)), (mn, .inl (cI, 5, .inl Nf9_1)), (my, .inl (cI, 1024, .inl Yf)), (ml, .inl (cI, 32, .inl Lf))] 64 := by
      refine zg_dn (fun i hi ih_64  => ?_)
      refine zg_iload_n C 1 dX6_sums_64 rfl ?_
      refine zg_aload_n C 0 dX6_sums_65 rfl ?_
      refine zg_get C 0 (ci := 6) (f := 2) rfl rfl uX6_sums_6 (by decide) fX6_sums_6_2 dX6_sums_66 rfl ?_
      refine zn_icmp_ge C 90 (by omega) (by omega) dX6_sums_69 (by decide) (fun c_69 => ?_) (fun c_69 => ?_)
      · skip
        have e9_90 : (zfa pg pn 0 zr0).2.1 + 1 = i := by omega
        subst e9_90
        refine zg_aload_n C 0 dX6_sums_90 rfl ?_
        refine zg_dup C dX6_sums_91 rfl ?_
        refine zg_get C 0 (ci := 6) (f := 9) rfl rfl uX6_sums_6 (by decide) fX6_sums_6_9 dX6_sums_92 rfl ?_
        refine zg_iconst (v := nI 1) C dX6_sums_95 (by decide) ?_
        refine zg_iadd C dX6_sums_96 (sr + (nI 1)) (rfl) ?_
        refine zg_put C 0 (ci := 6) (f := 9) (ws' := [(m0, .inr (6, [.int (nI pn), .ref mp, .int (nI (((zfa pg pn 0 zr0).2.1) + 1)), .int (nI ((zfa pg pn 0 zr0).2.2.1)), .ref mo, .int sd, .ref mv, .int bs, .int bp, .int (sr + (nI 1)), .int (nI ((zfa pg pn 0 zr0).2.1)), .int (nI ((zfa pg pn 0 zr0).2.2.1)), .int (nI ((zfa pg pn 0 zr0).2.2.2.1)), .ref mn, .ref my, .ref ml, .int (nI rk), .int dz, .int (nI su), .int (nI rd), .long hh])), (mp, .inl (cI, 56, .inl pg)), (mo, .inl (cI, 5, .inl (fun j => if j < ((zfa pg pn 0 zr0).2.1 + 1) then nI ((zfa pg pn 0 zr0).2.2.2.2 j) else Of j))), (mv, .inl (cI, 4, .inl V)), (mn, .inl (cI, 5, .inl Nf9_1)), (my, .inl (cI, 1024, .inl Yf)), (ml, .inl (cI, 32, .inl Lf))]) rfl rfl uX6_sums_6 tyX6_ok nmX6 (by decide) fX6_sums_6_9 rfl rfl rfl rfl (Nat.le_of_ble_eq_true rfl) dX6_sums_97 rfl ?_
        refine zg_aload_n C 0 dX6_sums_100 rfl ?_
        refine zg_iconst (v := nI 0) C dX6_sums_101 (by decide) ?_
        refine zg_put C 0 (ci := 6) (f := 0) (ws' := [(m0, .inr (6, [.int (nI 0), .ref mp, .int (nI (((zfa pg pn 0 zr0).2.1) + 1)), .int (nI ((zfa pg pn 0 zr0).2.2.1)), .ref mo, .int sd, .ref mv, .int bs, .int bp, .int (sr + (nI 1)), .int (nI ((zfa pg pn 0 zr0).2.1)), .int (nI ((zfa pg pn 0 zr0).2.2.1)), .int (nI ((zfa pg pn 0 zr0).2.2.2.1)), .ref mn, .ref my, .ref ml, .int (nI rk), .int dz, .int (nI su), .int (nI rd), .long hh])), (mp, .inl (cI, 56, .inl pg)), (mo, .inl (cI, 5, .inl (fun j => if j < ((zfa pg pn 0 zr0).2.1 + 1) then nI ((zfa pg pn 0 zr0).2.2.2.2 j) else Of j))), (mv, .inl (cI, 4, .inl V)), (mn, .inl (cI, 5, .inl Nf9_1)), (my, .inl (cI, 1024, .inl Yf)), (ml, .inl (cI, 32, .inl Lf))]) rfl rfl uX6_sums_6 tyX6_ok nmX6 (by decide) fX6_sums_6_0 rfl rfl rfl rfl (Nat.le_of_ble_eq_true rfl) dX6_sums_102 rfl ?_
        refine zg_aload_n C 0 dX6_sums_105 rfl ?_
        refine zg_callw (As := []) (st := []) (wo := []) C [0, 1, 2, 3, 4, 5, 6] [] 0 0 (c_X6_layAll l D cI m0 mp mo mv mn my ml pg (fun j => if j < ((zfa pg pn 0 zr0).2.1 + 1) then nI ((zfa pg pn 0 zr0).2.2.2.2 j) else Of j) V Nf9_1 Yf Lf 0 (((zfa pg pn 0 zr0).2.1) + 1) ((zfa pg pn 0 zr0).2.2.1) rk su rd sd bs bp (sr + (nI 1)) (nI ((zfa pg pn 0 zr0).2.1)) (nI ((zfa pg pn 0 zr0).2.2.1)) (nI ((zfa pg pn 0 zr0).2.2.2.1)) dz hh ((zfa pg pn 0 zr0).2.2.2.2) (by omega) (by omega) (by omega) (fun i hi => if_pos hi) (hRb)) gX6_sums_X6_layAll (by decide +kernel) rfl ⟨rfl, rfl⟩ ⟨Nat.le_of_ble_eq_true rfl, Nat.le_of_ble_eq_true rfl⟩ rfl rfl rfl rfl (by decide) (ci := 6) rfl rfl rfl rfl (Nat.le_of_ble_eq_true rfl) ⟨Nat.le_of_ble_eq_true rfl, Nat.le_of_ble_eq_true rfl⟩ dX6_sums_106 (fun v9 w9 hw9 => ?_)
        obtain ⟨rfl, rfl⟩ := hw9
        refine zg_cv (k' := 0) (n' := 0) (st' := []) (ws' := [(m0, .inr (6, [.int (nI 0), .ref mp, .int (nI (((zfa pg pn 0 zr0).2.1) + 1)), .int (nI ((zfa pg pn 0 zr0).2.2.1)), .ref mo, .int sd, .ref mv, .int bs, .int bp, .int (sr + (nI 1)), .int (nI ((zfa pg pn 0 zr0).2.1)), .int (nI ((zfa pg pn 0 zr0).2.2.1)), .int (nI ((zfa pg pn 0 zr0).2.2.2.1)), .ref mn, .ref my, .ref ml, .int (nI (zrk ((zfa pg pn 0 zr0).2.2.2.2) (((zfa pg pn 0 zr0).2.1) + 1) ((zfa pg pn 0 zr0).2.2.1))), .int (zdn ((zfa pg pn 0 zr0).2.2.1) (zdm ((zfa pg pn 0 zr0).2.2.2.2) (((zfa pg pn 0 zr0).2.1) + 1) ((zfa pg pn 0 zr0).2.2.1) (2 ^ ((zfa pg pn 0 zr0).2.2.1)))), .int (nI (zsu ((zfa pg pn 0 zr0).2.2.1) (zdm ((zfa pg pn 0 zr0).2.2.2.2) (((zfa pg pn 0 zr0).2.1) + 1) ((zfa pg pn 0 zr0).2.2.1) (2 ^ ((zfa pg pn 0 zr0).2.2.1))))), .int (nI (zrad (zld ((zfa pg pn 0 zr0).2.2.2.2) (((zfa pg pn 0 zr0).2.1) + 1) (2 ^ ((zfa pg pn 0 zr0).2.2.1))) 32)), .long hh])), (mp, .inl (cI, 56, .inl pg)), (mo, .inl (cI, 5, .inl (fun j => if j < ((zfa pg pn 0 zr0).2.1 + 1) then nI ((zfa pg pn 0 zr0).2.2.2.2 j) else Of j))), (mv, .inl (cI, 4, .inl V)), (mn, .inl (cI, 5, .inl Nf9_1)), (my, .inl (cI, 1024, .inl (fun w => if w < 2 ^ ((zfa pg pn 0 zr0).2.2.1) then nI (zsk ((zfa pg pn 0 zr0).2.2.2.2) w (((zfa pg pn 0 zr0).2.1) + 1)) else Yf w))), (ml, .inl (cI, 32, .inl (fun s => zo (zld ((zfa pg pn 0 zr0).2.2.2.2) (((zfa pg pn 0 zr0).2.1) + 1) (2 ^ ((zfa pg pn 0 zr0).2.2.1)) s))))]) rfl rfl rfl ?_
        refine zg_aload_n C 0 dX6_sums_109 rfl ?_
        refine zg_get C 0 (ci := 6) (f := 3) rfl rfl uX6_sums_6 (by decide) fX6_sums_6_3 dX6_sums_110 rfl ?_
        exact zg_wiret C E dX6_sums_113 (⟨_, rfl, rfl⟩)
      · skip
        refine zg_aload_n C 0 dX6_sums_72 rfl ?_
        refine zg_get C 0 (ci := 6) (f := 4) rfl rfl uX6_sums_6 (by decide) fX6_sums_6_4 dX6_sums_73 rfl ?_
        refine zg_iload_n C 1 dX6_sums_76 rfl ?_
        refine zg_aload_n C 0 dX6_sums_77 rfl ?_
        refine zg_get C 0 (ci := 6) (f := 13) rfl rfl uX6_sums_6 (by decide) fX6_sums_6_13 dX6_sums_78 rfl ?_
        refine zg_iload_n C 1 dX6_sums_81 rfl ?_
        refine zg_iald C 4 rfl (by omega) (by decide) dX6_sums_82 (nI ((zfa pg pn 0 zr0).2.2.2.2 i)) (hN9 i (by omega)) ?_
        refine zg_iast C 2 (ws' := [(m0, .inr (6, [.int (nI pn), .ref mp, .int (nI (((zfa pg pn 0 zr0).2.1) + 1)), .int (nI ((zfa pg pn 0 zr0).2.2.1)), .ref mo, .int sd, .ref mv, .int bs, .int bp, .int sr, .int (nI ((zfa pg pn 0 zr0).2.1)), .int (nI ((zfa pg pn 0 zr0).2.2.1)), .int (nI ((zfa pg pn 0 zr0).2.2.2.1)), .ref mn, .ref my, .ref ml, .int (nI rk), .int dz, .int (nI su), .int (nI rd), .long hh])), (mp, .inl (cI, 56, .inl pg)), (mo, .inl (cI, 5, .inl (upd (fun j => if j < i then nI ((zfa pg pn 0 zr0).2.2.2.2 j) else Of j) i (nI ((zfa pg pn 0 zr0).2.2.2.2 i))))), (mv, .inl (cI, 4, .inl V)), (mn, .inl (cI, 5, .inl Nf9_1)), (my, .inl (cI, 1024, .inl Yf)), (ml, .inl (cI, 32, .inl Lf))]) rfl (by omega) (by decide) dX6_sums_83 rfl ?_
        refine zg_cell 2 (ws' := [(m0, .inr (6, [.int (nI pn), .ref mp, .int (nI (((zfa pg pn 0 zr0).2.1) + 1)), .int (nI ((zfa pg pn 0 zr0).2.2.1)), .ref mo, .int sd, .ref mv, .int bs, .int bp, .int sr, .int (nI ((zfa pg pn 0 zr0).2.1)), .int (nI ((zfa pg pn 0 zr0).2.2.1)), .int (nI ((zfa pg pn 0 zr0).2.2.2.1)), .ref mn, .ref my, .ref ml, .int (nI rk), .int dz, .int (nI su), .int (nI rd), .long hh])), (mp, .inl (cI, 56, .inl pg)), (mo, .inl (cI, 5, .inl (fun j => if j < (i + 1) then nI ((zfa pg pn 0 zr0).2.2.2.2 j) else Of j))), (mv, .inl (cI, 4, .inl V)), (mn, .inl (cI, 5, .inl Nf9_1)), (my, .inl (cI, 1024, .inl Yf)), (ml, .inl (cI, 32, .inl Lf))]) (fun j => if j < (i + 1) then nI ((zfa pg pn 0 zr0).2.2.2.2 j) else Of j) rfl (fun j _ => zcopy (g := fun j => nI ((zfa pg pn 0 zr0).2.2.2.2 j)) j) rfl ?_
        refine zg_iinc C 1 [1, 0] (lv' := [(0, .ref m0), (1, .int (nI (i + 1)))]) (nI (i + 1)) dX6_sums_84 rfl (zi_inc _) (by decide) rfl ?_
        refine zg_goto C 64 dX6_sums_87 (by decide) ?_
        exact zg_cv (lv' := [(0, .ref m0), (1, .int (nI (i + 1)))]) (rfl) rfl (rfl) (ih_64 (by omega) )
    exact zg_cv (lv' := [(0, .ref m0), (1, .int (nI 0))]) (rfl) rfl (rfl) (L_64 0 (Nat.zero_le _) )
theorem uc_X6_sums_no_6 : ∀ w ∈ u_ws RX6 TX6 21, w ∈ wsX6_sums := fun w h => List.mem_cons_of_mem _ (List.mem_append_right _ h)
theorem fc_X6_sums_no_6_0 : Cond.fieldLink RX6 36 (TX6 0).1 (TX6 0).2.1 (TX6 0).2.2.1 ∈ wsX6_sums := by decide +kernel
theorem fc_X6_sums_no_6_12 : Cond.fieldLink RX6 42 (TX6 12).1 (TX6 12).2.1 (TX6 12).2.2.1 ∈ wsX6_sums := by decide +kernel
theorem fc_X6_sums_no_6_11 : Cond.fieldLink RX6 45 (TX6 11).1 (TX6 11).2.1 (TX6 11).2.2.1 ∈ wsX6_sums := by decide +kernel
set_option maxHeartbeats 1000000 in
set_option maxRecDepth 100000 in
theorem c_X6_sums_no (l : Launch) (D : va_G) (cI : ClassId) (m0 mp mo mv mn my ml : Nat) (pg Of V Nf Yf Lf : Nat → Int32) (pn rc ln rk su rd : Nat) (sd bs bp sr y1 y2 y3 dz : Int32) (hh : Int64) (hno : ¬ zokS pg pn) (hpn : pn ≤ 56) : zMw l D cI yX6_sums wsX6_sums { frames := 2, cells := 0, slots := 0, locals := 43 } [.ref m0] [(m0, .inr (6, [.int (nI pn), .ref mp, .int (nI rc), .int (nI ln), .ref mo, .int sd, .ref mv, .int bs, .int bp, .int sr, .int y1, .int y2, .int y3, .ref mn, .ref my, .ref ml, .int (nI rk), .int dz, .int (nI su), .int (nI rd), .long hh])), (mp, .inl (cI, 56, .inl pg)), (mo, .inl (cI, 5, .inl Of)), (mv, .inl (cI, 4, .inl V)), (mn, .inl (cI, 5, .inl Nf)), (my, .inl (cI, 1024, .inl Yf)), (ml, .inl (cI, 32, .inl Lf))] (fun v9 w9 => ∃ (Nf9 : Nat → Int32), v9 = some (.int (-1003)) ∧ w9 = [(m0, .inr (6, [.int (nI pn), .ref mp, .int (nI rc), .int (nI ln), .ref mo, .int sd, .ref mv, .int bs, .int bp, .int sr, .int (nI ((zfa pg pn 0 zr0).2.1)), .int (nI ((zfa pg pn 0 zr0).2.2.1)), .int (nI ((zfa pg pn 0 zr0).2.2.2.1)), .ref mn, .ref my, .ref ml, .int (nI rk), .int dz, .int (nI su), .int (nI rd), .long hh])), (mp, .inl (cI, 56, .inl pg)), (mo, .inl (cI, 5, .inl Of)), (mv, .inl (cI, 4, .inl V)), (mn, .inl (cI, 5, .inl Nf9)), (my, .inl (cI, 1024, .inl Yf)), (ml, .inl (cI, 32, .inl Lf))]) 0 0 := by
  refine zw_ent (maxL := 2) (by decide) rfl (Nat.le_of_ble_eq_true rfl) (fun X C E hin9 => ?_)
  have C : zC X l D cI { frames := 2, cells := 0, slots := 0, locals := 43 } 2 true cX6_sums RX6 wsX6_sums := C
  refine zg_cv (lv' := [(0, .ref m0)]) rfl rfl rfl ?_
  have q7 := zfa_le (pg := pg) pn 0 zr0
  have q8 := zfa_ok (pg := pg) pn 0 zr0 zrok_0
  refine zg_aload_n C 0 dX6_sums_0 rfl ?_
  refine zg_callw (As := []) (st := []) (wo := []) C [0, 1, 2, 3, 4, 5, 6] [] 0 0 (c_X6_goAlong l D cI m0 mp mo mv mn my ml pg Of V Nf Yf Lf pn rc ln rk su rd sd bs bp sr y1 y2 y3 dz hh hpn) gX6_sums_X6_goAlong (by decide +kernel) rfl ⟨rfl, rfl⟩ ⟨Nat.le_of_ble_eq_true rfl, Nat.le_of_ble_eq_true rfl⟩ rfl rfl rfl rfl (by decide) (ci := 6) rfl rfl rfl rfl (Nat.le_of_ble_eq_true rfl) ⟨Nat.le_of_ble_eq_true rfl, Nat.le_of_ble_eq_true rfl⟩ dX6_sums_1 (fun v9 w9 hw9 => ?_)
  obtain ⟨Nf9_1, rfl, rfl, hp_1⟩ := hw9
  refine zg_cv (k' := 0) (n' := 0) (st' := [.int (nI ((zfa pg pn 0 zr0).1))]) (ws' := [(m0, .inr (6, [.int (nI pn), .ref mp, .int (nI rc), .int (nI ln), .ref mo, .int sd, .ref mv, .int bs, .int bp, .int sr, .int (nI ((zfa pg pn 0 zr0).2.1)), .int (nI ((zfa pg pn 0 zr0).2.2.1)), .int (nI ((zfa pg pn 0 zr0).2.2.2.1)), .ref mn, .ref my, .ref ml, .int (nI rk), .int dz, .int (nI su), .int (nI rd), .long hh])), (mp, .inl (cI, 56, .inl pg)), (mo, .inl (cI, 5, .inl Of)), (mv, .inl (cI, 4, .inl V)), (mn, .inl (cI, 5, .inl Nf9_1)), (my, .inl (cI, 1024, .inl Yf)), (ml, .inl (cI, 32, .inl Lf))]) rfl rfl rfl ?_
  have o3 : (zwh (zfa pg pn 0 zr0).2.1 (zfa pg pn 0 zr0).2.2.1 (zfa pg pn 0 zr0).2.2.2.1 = true) ↔ (((zfa pg pn 0 zr0).2.2.2.1 = 0 ∧ 3 ≤ (zfa pg pn 0 zr0).2.2.1) ∨ (0 < (zfa pg pn 0 zr0).2.2.2.1 ∧ (zfa pg pn 0 zr0).2.2.1 = (zfa pg pn 0 zr0).2.2.2.1)) := zwh_of q8
  have k2 : (zfa pg pn 0 zr0).2.2.1 ≤ 10 := q8.2.1
  have k3 : (zfa pg pn 0 zr0).2.2.2.1 ≤ 10 := q8.2.2.1
  refine zg_aload_n C 0 dX6_sums_4 rfl ?_
  refine zg_get C 0 (ci := 6) (f := 0) rfl rfl uc_X6_sums_no_6 (by decide) fc_X6_sums_no_6_0 dX6_sums_5 rfl ?_
  refine zn_icmp_lt C 40 (by omega) (by omega) dX6_sums_8 (by decide) (fun c_8 => ?_) (fun c_8 => ?_)
  · skip
    refine zg_sipush (v := (-1003)) C dX6_sums_40 (by decide) ?_
    exact zg_wiret C E dX6_sums_43 (⟨_, rfl, rfl⟩)
  · skip
    refine zg_aload_n C 0 dX6_sums_11 rfl ?_
    refine zg_get C 0 (ci := 6) (f := 12) rfl rfl uc_X6_sums_no_6 (by decide) fc_X6_sums_no_6_12 dX6_sums_12 rfl ?_
    refine zn_if_ne C 29 (by omega) dX6_sums_15 (by decide) (fun c_15 => ?_) (fun c_15 => ?_)
    · skip
      refine zg_aload_n C 0 dX6_sums_29 rfl ?_
      refine zg_get C 0 (ci := 6) (f := 11) rfl rfl uc_X6_sums_no_6 (by decide) fc_X6_sums_no_6_11 dX6_sums_30 rfl ?_
      refine zg_aload_n C 0 dX6_sums_33 rfl ?_
      refine zg_get C 0 (ci := 6) (f := 12) rfl rfl uc_X6_sums_no_6 (by decide) fc_X6_sums_no_6_12 dX6_sums_34 rfl ?_
      refine zn_icmp_eq C 44 (by omega) (by omega) dX6_sums_37 (by decide) (fun c_37 => by exact (hno ⟨by omega, o3.mpr (by omega)⟩).elim) (fun c_37 => ?_)
      refine zg_sipush (v := (-1003)) C dX6_sums_40 (by decide) ?_
      exact zg_wiret C E dX6_sums_43 (⟨_, rfl, rfl⟩)
    · skip
      refine zg_aload_n C 0 dX6_sums_18 rfl ?_
      refine zg_get C 0 (ci := 6) (f := 11) rfl rfl uc_X6_sums_no_6 (by decide) fc_X6_sums_no_6_11 dX6_sums_19 rfl ?_
      refine zg_iconst (v := nI 3) C dX6_sums_22 (by decide) ?_
      refine zn_icmp_ge C 44 (by omega) (by omega) dX6_sums_23 (by decide) (fun c_23 => by exact (hno ⟨by omega, o3.mpr (by omega)⟩).elim) (fun c_23 => ?_)
      refine zg_goto C 40 dX6_sums_26 (by decide) ?_
      refine zg_sipush (v := (-1003)) C dX6_sums_40 (by decide) ?_
      exact zg_wiret C E dX6_sums_43 (⟨_, rfl, rfl⟩)
theorem uX6_codeNow_6 : ∀ w ∈ u_ws RX6 TX6 21, w ∈ wsX6_codeNow := fun w h => List.mem_cons_of_mem _ (List.mem_append_right _ h)
theorem fX6_codeNow_6_3 : Cond.fieldLink RX6 59 (TX6 3).1 (TX6 3).2.1 (TX6 3).2.2.1 ∈ wsX6_codeNow := by decide +kernel
theorem fX6_codeNow_6_2 : Cond.fieldLink RX6 56 (TX6 2).1 (TX6 2).2.1 (TX6 2).2.2.1 ∈ wsX6_codeNow := by decide +kernel
theorem fX6_codeNow_6_16 : Cond.fieldLink RX6 78 (TX6 16).1 (TX6 16).2.1 (TX6 16).2.2.1 ∈ wsX6_codeNow := by decide +kernel
theorem fX6_codeNow_6_17 : Cond.fieldLink RX6 84 (TX6 17).1 (TX6 17).2.1 (TX6 17).2.2.1 ∈ wsX6_codeNow := by decide +kernel
theorem fX6_codeNow_6_18 : Cond.fieldLink RX6 90 (TX6 18).1 (TX6 18).2.1 (TX6 18).2.2.1 ∈ wsX6_codeNow := by decide +kernel
theorem fX6_codeNow_6_19 : Cond.fieldLink RX6 93 (TX6 19).1 (TX6 19).2.1 (TX6 19).2.2.1 ∈ wsX6_codeNow := by decide +kernel
set_option maxHeartbeats 1000000 in
set_option maxRecDepth 100000 in
theorem c_X6_codeNow (l : Launch) (D : va_G) (cI : ClassId) (m0 mp mo mv mn my ml : Nat) (pg Of V Nf Yf Lf : Nat → Int32) (pn rc ln rk su rd : Nat) (sd bs bp sr y1 y2 y3 dz : Int32) (hh : Int64) (R : Nat → Nat) (j : Nat) (hM : zMm R Of Yf Lf rc ln rk dz su rd) (hln : ln ≤ 10) (hrc : rc ≤ 5) (h0l : 0 < ln) (hj : j < 7) : zMr l D cI yX6_codeNow wsX6_codeNow { frames := 0, cells := 0, slots := 0, locals := 0 } [.ref m0, .int (nI j)] [(m0, .inr (6, [.int (nI pn), .ref mp, .int (nI rc), .int (nI ln), .ref mo, .int sd, .ref mv, .int bs, .int bp, .int sr, .int y1, .int y2, .int y3, .ref mn, .ref my, .ref ml, .int (nI rk), .int dz, .int (nI su), .int (nI rd), .long hh])), (mp, .inl (cI, 56, .inl pg)), (mo, .inl (cI, 5, .inl Of)), (mv, .inl (cI, 4, .inl V)), (mn, .inl (cI, 5, .inl Nf)), (my, .inl (cI, 1024, .inl Yf)), (ml, .inl (cI, 32, .inl Lf))] (zcode R rc ln j) := by
  refine zr_ent (maxL := 2) (by decide) rfl (Nat.le_of_ble_eq_true rfl) (fun X C E => ?_)
  have C : zC X l D cI { frames := 0, cells := 0, slots := 0, locals := 0 } 2 false cX6_codeNow RX6 wsX6_codeNow := C
  refine zg_cv (lv' := [(0, .ref m0), (1, .int (nI j))]) rfl rfl rfl ?_
  obtain ⟨m1, m3, hO, hRb, hY, hL, e1, e2, e3, e4⟩ := hM h0l
  have q9 := zdm_le R rc ln (2 ^ ln)
  have q10 := zsu_le (ln := ln) (d := zdm R rc ln (2 ^ ln)) hln q9
  have q11 := (zrad_spec (zld R rc (2 ^ ln)) 32).1
  refine zg_iload_n C 1 dX6_codeNow_0 rfl ?_
  rcases (show j = 0 ∨ j = 1 ∨ j = 2 ∨ j = 3 ∨ j = 4 ∨ j = 5 ∨ j = 6 by omega) with rfl | rfl | rfl | rfl | rfl | rfl | rfl
  · skip
    refine zg_tabIn (off := 39) C 40 dX6_codeNow_1 (by rw [show (nI 0).toInt = 0 from by decide]; decide) (by rw [show (nI 0).toInt = 0 from by decide]; decide) (by rw [show (nI 0).toInt = 0 from by decide]; rfl) (by decide) ?_
    refine zg_aload_n C 0 dX6_codeNow_40 rfl ?_
    refine zg_get C 0 (ci := 6) (f := 3) rfl rfl uX6_codeNow_6 (by decide) fX6_codeNow_6_3 dX6_codeNow_41 rfl ?_
    exact zg_iret C E dX6_codeNow_44 (by rw [zcode_0])
  · skip
    refine zg_tabIn (off := 44) C 45 dX6_codeNow_1 (by rw [show (nI 1).toInt = 1 from by decide]; decide) (by rw [show (nI 1).toInt = 1 from by decide]; decide) (by rw [show (nI 1).toInt = 1 from by decide]; rfl) (by decide) ?_
    refine zg_aload_n C 0 dX6_codeNow_45 rfl ?_
    refine zg_get C 0 (ci := 6) (f := 2) rfl rfl uX6_codeNow_6 (by decide) fX6_codeNow_6_2 dX6_codeNow_46 rfl ?_
    exact zg_iret C E dX6_codeNow_49 (by rw [zcode_1])
  · skip
    refine zg_tabIn (off := 49) C 50 dX6_codeNow_1 (by rw [show (nI 2).toInt = 2 from by decide]; decide) (by rw [show (nI 2).toInt = 2 from by decide]; decide) (by rw [show (nI 2).toInt = 2 from by decide]; rfl) (by decide) ?_
    refine zg_aload_n C 0 dX6_codeNow_50 rfl ?_
    refine zg_get C 0 (ci := 6) (f := 16) rfl rfl uX6_codeNow_6 (by decide) fX6_codeNow_6_16 dX6_codeNow_51 rfl ?_
    exact zg_iret C E dX6_codeNow_54 (by rw [zcode_2, e1])
  · skip
    refine zg_tabIn (off := 54) C 55 dX6_codeNow_1 (by rw [show (nI 3).toInt = 3 from by decide]; decide) (by rw [show (nI 3).toInt = 3 from by decide]; decide) (by rw [show (nI 3).toInt = 3 from by decide]; rfl) (by decide) ?_
    refine zg_aload_n C 0 dX6_codeNow_55 rfl ?_
    refine zg_get C 0 (ci := 6) (f := 17) rfl rfl uX6_codeNow_6 (by decide) fX6_codeNow_6_17 dX6_codeNow_56 rfl ?_
    exact zg_iret C E dX6_codeNow_59 (by rw [zcode_3, e2])
  · skip
    refine zg_tabIn (off := 59) C 60 dX6_codeNow_1 (by rw [show (nI 4).toInt = 4 from by decide]; decide) (by rw [show (nI 4).toInt = 4 from by decide]; decide) (by rw [show (nI 4).toInt = 4 from by decide]; rfl) (by decide) ?_
    refine zg_aload_n C 0 dX6_codeNow_60 rfl ?_
    refine zg_get C 0 (ci := 6) (f := 18) rfl rfl uX6_codeNow_6 (by decide) fX6_codeNow_6_18 dX6_codeNow_61 rfl ?_
    exact zg_iret C E dX6_codeNow_64 (by rw [zcode_4, e3])
  · skip
    refine zg_tabIn (off := 64) C 65 dX6_codeNow_1 (by rw [show (nI 5).toInt = 5 from by decide]; decide) (by rw [show (nI 5).toInt = 5 from by decide]; decide) (by rw [show (nI 5).toInt = 5 from by decide]; rfl) (by decide) ?_
    refine zg_aload_n C 0 dX6_codeNow_65 rfl ?_
    refine zg_get C 0 (ci := 6) (f := 19) rfl rfl uX6_codeNow_6 (by decide) fX6_codeNow_6_19 dX6_codeNow_66 rfl ?_
    exact zg_iret C E dX6_codeNow_69 (by rw [zcode_5, e4])
  · skip
    refine zg_tabOut C 70 dX6_codeNow_1 (Or.inr (by decide)) (by decide) ?_
    refine zg_aload_n C 0 dX6_codeNow_70 rfl ?_
    refine zg_get C 0 (ci := 6) (f := 19) rfl rfl uX6_codeNow_6 (by decide) fX6_codeNow_6_19 dX6_codeNow_71 rfl ?_
    refine zg_aload_n C 0 dX6_codeNow_74 rfl ?_
    refine zg_get C 0 (ci := 6) (f := 18) rfl rfl uX6_codeNow_6 (by decide) fX6_codeNow_6_18 dX6_codeNow_75 rfl ?_
    refine zn_icmp_ne C 85 (by omega) (by omega) dX6_codeNow_78 (by decide) (fun c_78 => ?_) (fun c_78 => ?_)
    · skip
      refine zg_iconst (v := nI 0) C dX6_codeNow_85 (by decide) ?_
      exact zg_iret C E dX6_codeNow_86 (by rw [zcode_6, ← e3, ← e4, if_neg c_78])
    · skip
      refine zg_iconst (v := nI 1) C dX6_codeNow_81 (by decide) ?_
      refine zg_goto C 86 dX6_codeNow_82 (by decide) ?_
      exact zg_iret C E dX6_codeNow_86 (by rw [zcode_6, ← e3, ← e4, if_pos c_78])
set_option maxHeartbeats 1000000 in
set_option maxRecDepth 100000 in
theorem c_X6_code (l : Launch) (D : va_G) (cI : ClassId) (m0 mp mo mv mn my ml : Nat) (pg Of V Nf Yf Lf : Nat → Int32) (pn rc ln rk su rd : Nat) (sd bs bp sr y1 y2 y3 dz : Int32) (hh : Int64) (R : Nat → Nat) (x : Int32) (hM : zMm R Of Yf Lf rc ln rk dz su rd) (hln : ln ≤ 10) (hrc : rc ≤ 5) (hrl : 0 < rc ↔ 0 < ln) : zMr l D cI yX6_code wsX6_code { frames := 1, cells := 0, slots := 0, locals := 22 } [.ref m0, .int x] [(m0, .inr (6, [.int (nI pn), .ref mp, .int (nI rc), .int (nI ln), .ref mo, .int sd, .ref mv, .int bs, .int bp, .int sr, .int y1, .int y2, .int y3, .ref mn, .ref my, .ref ml, .int (nI rk), .int dz, .int (nI su), .int (nI rd), .long hh])), (mp, .inl (cI, 56, .inl pg)), (mo, .inl (cI, 5, .inl Of)), (mv, .inl (cI, 4, .inl V)), (mn, .inl (cI, 5, .inl Nf)), (my, .inl (cI, 1024, .inl Yf)), (ml, .inl (cI, 32, .inl Lf))] (zAcode R rc ln x) := by
  refine zr_ent (maxL := 2) (by decide) rfl (Nat.le_of_ble_eq_true rfl) (fun X C E => ?_)
  have C : zC X l D cI { frames := 1, cells := 0, slots := 0, locals := 22 } 2 false cX6_code RX6 wsX6_code := C
  refine zg_cv (lv' := [(0, .ref m0), (1, .int x)]) rfl rfl rfl ?_
  refine zg_iload_n C 1 dX6_code_0 rfl ?_
  refine zg_iconst (v := nI 0) C dX6_code_1 (by decide) ?_
  refine zg_bipush (v := nI 6) C dX6_code_2 (by decide) ?_
  refine zg_calls (As := [.int x, .int (nI 0), .int (nI 6)]) (st := []) C [] 3 (c_X6_within l D cI x (nI 0) (nI 6) ) gX6_code_X6_within (by decide +kernel) rfl ⟨rfl, rfl⟩ ⟨Nat.le_of_ble_eq_true rfl, Nat.le_of_ble_eq_true rfl⟩ rfl rfl rfl (Nat.le_of_ble_eq_true rfl) ⟨Nat.le_of_ble_eq_true rfl, Nat.le_of_ble_eq_true rfl⟩ dX6_code_4 ?_
  refine zp_if_ne C 14 dX6_code_7 (by decide) (fun c_7 => ?_) (fun c_7 => ?_)
  · skip
    have hx : zin x 7 := (zin_le (N := 7) (by decide) (by decide)).mp c_7
    refine zg_aload_n C 0 dX6_code_14 rfl ?_
    refine zg_callr (As := []) (st := []) C [0, 1, 2, 3, 4, 5, 6] 0 0 (c_X6_isThere l D cI m0 mp mo mv mn my ml pg Of V Nf Yf Lf pn rc ln rk su rd sd bs bp sr y1 y2 y3 dz hh hrc) gX6_code_X6_isThere (by decide +kernel) rfl ⟨rfl, rfl⟩ ⟨Nat.le_of_ble_eq_true rfl, Nat.le_of_ble_eq_true rfl⟩ rfl (ci := 6) rfl rfl rfl rfl (Nat.le_of_ble_eq_true rfl) ⟨Nat.le_of_ble_eq_true rfl, Nat.le_of_ble_eq_true rfl⟩ dX6_code_15 ?_
    refine zp_if_eq C 29 dX6_code_18 (by decide) (fun c_18 => ?_) (fun c_18 => ?_)
    · skip
      refine zg_sipush (v := (-1003)) C dX6_code_29 (by decide) ?_
      exact zg_iret C E dX6_code_32 (by rw [zAcode, if_pos hx, if_neg (fun q => c_18 (hrl.mpr q))])
    · skip
      have h0l := hrl.mp c_18
      obtain ⟨j, hj, rfl⟩ := zin_of hx (by decide)
      refine zg_aload_n C 0 dX6_code_21 rfl ?_
      refine zg_iload_n C 1 dX6_code_22 rfl ?_
      refine zg_callr (As := [.int (nI j)]) (st := []) C [0, 1, 2, 3, 4, 5, 6] 0 1 (c_X6_codeNow l D cI m0 mp mo mv mn my ml pg Of V Nf Yf Lf pn rc ln rk su rd sd bs bp sr y1 y2 y3 dz hh R j (hM) hln hrc (h0l) (by omega)) gX6_code_X6_codeNow (by decide +kernel) rfl ⟨rfl, rfl⟩ ⟨Nat.le_of_ble_eq_true rfl, Nat.le_of_ble_eq_true rfl⟩ rfl (ci := 6) rfl rfl rfl rfl (Nat.le_of_ble_eq_true rfl) ⟨Nat.le_of_ble_eq_true rfl, Nat.le_of_ble_eq_true rfl⟩ dX6_code_23 ?_
      refine zg_goto C 32 dX6_code_26 (by decide) ?_
      exact zg_iret C E dX6_code_32 (zAcode_y hj h0l)
  · skip
    refine zg_sipush (v := (-1002)) C dX6_code_10 (by decide) ?_
    exact zg_iret C E dX6_code_13 (by rw [zAcode, if_neg (fun q => c_7 ((zin_le (N := 7) (by decide) (by decide)).mpr q))])
set_option maxHeartbeats 1000000 in
set_option maxRecDepth 100000 in
theorem c_X6_isWord (l : Launch) (D : va_G) (cI : ClassId) (m0 mp mo mv mn my ml : Nat) (pg Of V Nf Yf Lf : Nat → Int32) (pn rc ln rk su rd : Nat) (sd bs bp sr y1 y2 y3 dz : Int32) (hh : Int64) (x : Int32) (hln : ln ≤ 10) : zMr l D cI yX6_isWord wsX6_isWord { frames := 1, cells := 0, slots := 0, locals := 22 } [.ref m0, .int x] [(m0, .inr (6, [.int (nI pn), .ref mp, .int (nI rc), .int (nI ln), .ref mo, .int sd, .ref mv, .int bs, .int bp, .int sr, .int y1, .int y2, .int y3, .ref mn, .ref my, .ref ml, .int (nI rk), .int dz, .int (nI su), .int (nI rd), .long hh])), (mp, .inl (cI, 56, .inl pg)), (mo, .inl (cI, 5, .inl Of)), (mv, .inl (cI, 4, .inl V)), (mn, .inl (cI, 5, .inl Nf)), (my, .inl (cI, 1024, .inl Yf)), (ml, .inl (cI, 32, .inl Lf))] (zb (decide (zin x (2 ^ ln)))) := by
  refine zr_ent (maxL := 2) (by decide) rfl (Nat.le_of_ble_eq_true rfl) (fun X C E => ?_)
  have C : zC X l D cI { frames := 1, cells := 0, slots := 0, locals := 22 } 2 false cX6_isWord RX6 wsX6_isWord := C
  refine zg_cv (lv' := [(0, .ref m0), (1, .int x)]) rfl rfl rfl ?_
  have q0 := zpw hln
  have q1 := zpw0 ln
  refine zg_iload_n C 1 dX6_isWord_0 rfl ?_
  refine zg_iconst (v := nI 0) C dX6_isWord_1 (by decide) ?_
  refine zg_aload_n C 0 dX6_isWord_2 rfl ?_
  refine zg_callr (As := []) (st := [.int (nI 0), .int x]) C [0, 1, 2, 3, 4, 5, 6] 0 0 (c_X6_words l D cI m0 mp mo mv mn my ml pg Of V Nf Yf Lf pn rc ln rk su rd sd bs bp sr y1 y2 y3 dz hh hln) gX6_isWord_X6_words (by decide +kernel) rfl ⟨rfl, rfl⟩ ⟨Nat.le_of_ble_eq_true rfl, Nat.le_of_ble_eq_true rfl⟩ rfl (ci := 6) rfl rfl rfl rfl (Nat.le_of_ble_eq_true rfl) ⟨Nat.le_of_ble_eq_true rfl, Nat.le_of_ble_eq_true rfl⟩ dX6_isWord_3 ?_
  refine zg_iconst (v := nI 1) C dX6_isWord_6 (by decide) ?_
  refine zg_isub C dX6_isWord_7 (nI ((2 ^ ln) - 1)) (pk_sub (by omega)) ?_
  refine zg_calls (As := [.int x, .int (nI 0), .int (nI ((2 ^ ln) - 1))]) (st := []) C [] 3 (c_X6_within l D cI x (nI 0) (nI ((2 ^ ln) - 1)) ) gX6_isWord_X6_within (by decide +kernel) rfl ⟨rfl, rfl⟩ ⟨Nat.le_of_ble_eq_true rfl, Nat.le_of_ble_eq_true rfl⟩ rfl rfl rfl (Nat.le_of_ble_eq_true rfl) ⟨Nat.le_of_ble_eq_true rfl, Nat.le_of_ble_eq_true rfl⟩ dX6_isWord_8 ?_
  exact zg_zret C E dX6_isWord_11 (zb_congr (zin_le (by omega) (by omega)))
theorem uX6_isSyndrome_6 : ∀ w ∈ u_ws RX6 TX6 21, w ∈ wsX6_isSyndrome := fun w h => List.mem_cons_of_mem _ (List.mem_append_right _ h)
theorem fX6_isSyndrome_6_2 : Cond.fieldLink RX6 56 (TX6 2).1 (TX6 2).2.1 (TX6 2).2.2.1 ∈ wsX6_isSyndrome := by decide +kernel
set_option maxHeartbeats 1000000 in
set_option maxRecDepth 100000 in
theorem c_X6_isSyndrome (l : Launch) (D : va_G) (cI : ClassId) (m0 mp mo mv mn my ml : Nat) (pg Of V Nf Yf Lf : Nat → Int32) (pn rc ln rk su rd : Nat) (sd bs bp sr y1 y2 y3 dz : Int32) (hh : Int64) (x : Int32) (hrc : rc ≤ 5) : zMr l D cI yX6_isSyndrome wsX6_isSyndrome { frames := 1, cells := 0, slots := 0, locals := 22 } [.ref m0, .int x] [(m0, .inr (6, [.int (nI pn), .ref mp, .int (nI rc), .int (nI ln), .ref mo, .int sd, .ref mv, .int bs, .int bp, .int sr, .int y1, .int y2, .int y3, .ref mn, .ref my, .ref ml, .int (nI rk), .int dz, .int (nI su), .int (nI rd), .long hh])), (mp, .inl (cI, 56, .inl pg)), (mo, .inl (cI, 5, .inl Of)), (mv, .inl (cI, 4, .inl V)), (mn, .inl (cI, 5, .inl Nf)), (my, .inl (cI, 1024, .inl Yf)), (ml, .inl (cI, 32, .inl Lf))] (zb (decide (zin x (2 ^ rc)))) := by
  refine zr_ent (maxL := 2) (by decide) rfl (Nat.le_of_ble_eq_true rfl) (fun X C E => ?_)
  have C : zC X l D cI { frames := 1, cells := 0, slots := 0, locals := 22 } 2 false cX6_isSyndrome RX6 wsX6_isSyndrome := C
  refine zg_cv (lv' := [(0, .ref m0), (1, .int x)]) rfl rfl rfl ?_
  have q0 := zpw5 hrc
  have q1 := zpw0 rc
  refine zg_iload_n C 1 dX6_isSyndrome_0 rfl ?_
  refine zg_iconst (v := nI 0) C dX6_isSyndrome_1 (by decide) ?_
  refine zg_iconst (v := nI 1) C dX6_isSyndrome_2 (by decide) ?_
  refine zg_aload_n C 0 dX6_isSyndrome_3 rfl ?_
  refine zg_get C 0 (ci := 6) (f := 2) rfl rfl uX6_isSyndrome_6 (by decide) fX6_isSyndrome_6_2 dX6_isSyndrome_4 rfl ?_
  refine zg_ishl C dX6_isSyndrome_7 (nI (2 ^ rc)) (zi_shl1 (by omega)) ?_
  refine zg_iconst (v := nI 1) C dX6_isSyndrome_8 (by decide) ?_
  refine zg_isub C dX6_isSyndrome_9 (nI ((2 ^ rc) - 1)) (pk_sub (by omega)) ?_
  refine zg_calls (As := [.int x, .int (nI 0), .int (nI ((2 ^ rc) - 1))]) (st := []) C [] 3 (c_X6_within l D cI x (nI 0) (nI ((2 ^ rc) - 1)) ) gX6_isSyndrome_X6_within (by decide +kernel) rfl ⟨rfl, rfl⟩ ⟨Nat.le_of_ble_eq_true rfl, Nat.le_of_ble_eq_true rfl⟩ rfl rfl rfl (Nat.le_of_ble_eq_true rfl) ⟨Nat.le_of_ble_eq_true rfl, Nat.le_of_ble_eq_true rfl⟩ dX6_isSyndrome_10 ?_
  exact zg_zret C E dX6_isSyndrome_13 (zb_congr (zin_le (by omega) (by omega)))
theorem uX6_row_6 : ∀ w ∈ u_ws RX6 TX6 21, w ∈ wsX6_row := fun w h => List.mem_cons_of_mem _ (List.mem_append_right _ h)
theorem fX6_row_6_2 : Cond.fieldLink RX6 56 (TX6 2).1 (TX6 2).2.1 (TX6 2).2.2.1 ∈ wsX6_row := by decide +kernel
theorem fX6_row_6_4 : Cond.fieldLink RX6 13 (TX6 4).1 (TX6 4).2.1 (TX6 4).2.2.1 ∈ wsX6_row := by decide +kernel
set_option maxHeartbeats 1000000 in
set_option maxRecDepth 100000 in
theorem c_X6_row (l : Launch) (D : va_G) (cI : ClassId) (m0 mp mo mv mn my ml : Nat) (pg Of V Nf Yf Lf : Nat → Int32) (pn rc ln rk su rd : Nat) (sd bs bp sr y1 y2 y3 dz : Int32) (hh : Int64) (R : Nat → Nat) (x : Int32) (hM : zMm R Of Yf Lf rc ln rk dz su rd) (hln : ln ≤ 10) (hrc : rc ≤ 5) (hrl : 0 < rc ↔ 0 < ln) : zMr l D cI yX6_row wsX6_row { frames := 1, cells := 0, slots := 0, locals := 22 } [.ref m0, .int x] [(m0, .inr (6, [.int (nI pn), .ref mp, .int (nI rc), .int (nI ln), .ref mo, .int sd, .ref mv, .int bs, .int bp, .int sr, .int y1, .int y2, .int y3, .ref mn, .ref my, .ref ml, .int (nI rk), .int dz, .int (nI su), .int (nI rd), .long hh])), (mp, .inl (cI, 56, .inl pg)), (mo, .inl (cI, 5, .inl Of)), (mv, .inl (cI, 4, .inl V)), (mn, .inl (cI, 5, .inl Nf)), (my, .inl (cI, 1024, .inl Yf)), (ml, .inl (cI, 32, .inl Lf))] (zA ln (zin x rc) (nI (R (zn x)))) := by
  refine zr_ent (maxL := 2) (by decide) rfl (Nat.le_of_ble_eq_true rfl) (fun X C E => ?_)
  have C : zC X l D cI { frames := 1, cells := 0, slots := 0, locals := 22 } 2 false cX6_row RX6 wsX6_row := C
  refine zg_cv (lv' := [(0, .ref m0), (1, .int x)]) rfl rfl rfl ?_
  refine zg_aload_n C 0 dX6_row_0 rfl ?_
  refine zg_callr (As := []) (st := []) C [0, 1, 2, 3, 4, 5, 6] 0 0 (c_X6_isThere l D cI m0 mp mo mv mn my ml pg Of V Nf Yf Lf pn rc ln rk su rd sd bs bp sr y1 y2 y3 dz hh hrc) gX6_row_X6_isThere (by decide +kernel) rfl ⟨rfl, rfl⟩ ⟨Nat.le_of_ble_eq_true rfl, Nat.le_of_ble_eq_true rfl⟩ rfl (ci := 6) rfl rfl rfl rfl (Nat.le_of_ble_eq_true rfl) ⟨Nat.le_of_ble_eq_true rfl, Nat.le_of_ble_eq_true rfl⟩ dX6_row_1 ?_
  refine zp_if_ne C 11 dX6_row_4 (by decide) (fun c_4 => ?_) (fun c_4 => ?_)
  · skip
    have hl0 := hrl.mp c_4
    obtain ⟨m1, m3, hO, hRb, hY, hL, e1, e2, e3, e4⟩ := hM hl0
    have q0 := zpw hln
    have q1 := zpw0 ln
    have q5 := zpw5 hrc
    refine zg_iload_n C 1 dX6_row_11 rfl ?_
    refine zg_iconst (v := nI 0) C dX6_row_12 (by decide) ?_
    refine zg_aload_n C 0 dX6_row_13 rfl ?_
    refine zg_get C 0 (ci := 6) (f := 2) rfl rfl uX6_row_6 (by decide) fX6_row_6_2 dX6_row_14 rfl ?_
    refine zg_iconst (v := nI 1) C dX6_row_17 (by decide) ?_
    refine zg_isub C dX6_row_18 (nI (rc - 1)) (pk_sub (by omega)) ?_
    refine zg_calls (As := [.int x, .int (nI 0), .int (nI (rc - 1))]) (st := []) C [] 3 (c_X6_within l D cI x (nI 0) (nI (rc - 1)) ) gX6_row_X6_within (by decide +kernel) rfl ⟨rfl, rfl⟩ ⟨Nat.le_of_ble_eq_true rfl, Nat.le_of_ble_eq_true rfl⟩ rfl rfl rfl (Nat.le_of_ble_eq_true rfl) ⟨Nat.le_of_ble_eq_true rfl, Nat.le_of_ble_eq_true rfl⟩ dX6_row_19 ?_
    refine zp_if_eq C 34 dX6_row_22 (by decide) (fun c_22 => ?_) (fun c_22 => ?_)
    · skip
      refine zg_sipush (v := (-1002)) C dX6_row_34 (by decide) ?_
      exact zg_iret C E dX6_row_37 ((zA_o hl0 (fun q => c_22 ((zin_le (by omega) (by omega)).mpr q))).symm)
    · skip
      have hzi : zin x rc := (zin_le (by omega) (by omega)).mp c_22
      obtain ⟨i, hi, rfl⟩ := zin_of hzi (by omega)
      refine zg_aload_n C 0 dX6_row_25 rfl ?_
      refine zg_get C 0 (ci := 6) (f := 4) rfl rfl uX6_row_6 (by decide) fX6_row_6_4 dX6_row_26 rfl ?_
      refine zg_iload_n C 1 dX6_row_29 rfl ?_
      refine zg_iald C 2 rfl (by omega) (by decide) dX6_row_30 (nI (R i)) (hO i hi) ?_
      refine zg_goto C 37 dX6_row_31 (by decide) ?_
      exact zg_iret C E dX6_row_37 (by rw [zA_y hl0 hzi, zn_nI (by omega)])
  · skip
    refine zg_sipush (v := (-1003)) C dX6_row_7 (by decide) ?_
    exact zg_iret C E dX6_row_10 ((zA_n (fun q => c_4 (hrl.mpr q))).symm)
theorem uX6_syndrome_6 : ∀ w ∈ u_ws RX6 TX6 21, w ∈ wsX6_syndrome := fun w h => List.mem_cons_of_mem _ (List.mem_append_right _ h)
theorem fX6_syndrome_6_14 : Cond.fieldLink RX6 26 (TX6 14).1 (TX6 14).2.1 (TX6 14).2.2.1 ∈ wsX6_syndrome := by decide +kernel
set_option maxHeartbeats 1000000 in
set_option maxRecDepth 100000 in
theorem c_X6_syndrome (l : Launch) (D : va_G) (cI : ClassId) (m0 mp mo mv mn my ml : Nat) (pg Of V Nf Yf Lf : Nat → Int32) (pn rc ln rk su rd : Nat) (sd bs bp sr y1 y2 y3 dz : Int32) (hh : Int64) (R : Nat → Nat) (x : Int32) (hM : zMm R Of Yf Lf rc ln rk dz su rd) (hln : ln ≤ 10) (hrc : rc ≤ 5) (hrl : 0 < rc ↔ 0 < ln) : zMr l D cI yX6_syndrome wsX6_syndrome { frames := 2, cells := 0, slots := 0, locals := 43 } [.ref m0, .int x] [(m0, .inr (6, [.int (nI pn), .ref mp, .int (nI rc), .int (nI ln), .ref mo, .int sd, .ref mv, .int bs, .int bp, .int sr, .int y1, .int y2, .int y3, .ref mn, .ref my, .ref ml, .int (nI rk), .int dz, .int (nI su), .int (nI rd), .long hh])), (mp, .inl (cI, 56, .inl pg)), (mo, .inl (cI, 5, .inl Of)), (mv, .inl (cI, 4, .inl V)), (mn, .inl (cI, 5, .inl Nf)), (my, .inl (cI, 1024, .inl Yf)), (ml, .inl (cI, 32, .inl Lf))] (zA ln (zin x (2 ^ ln)) (nI (zsk R (zn x) rc))) := by
  refine zr_ent (maxL := 2) (by decide) rfl (Nat.le_of_ble_eq_true rfl) (fun X C E => ?_)
  have C : zC X l D cI { frames := 2, cells := 0, slots := 0, locals := 43 } 2 false cX6_syndrome RX6 wsX6_syndrome := C
  refine zg_cv (lv' := [(0, .ref m0), (1, .int x)]) rfl rfl rfl ?_
  refine zg_aload_n C 0 dX6_syndrome_0 rfl ?_
  refine zg_callr (As := []) (st := []) C [0, 1, 2, 3, 4, 5, 6] 0 0 (c_X6_isThere l D cI m0 mp mo mv mn my ml pg Of V Nf Yf Lf pn rc ln rk su rd sd bs bp sr y1 y2 y3 dz hh hrc) gX6_syndrome_X6_isThere (by decide +kernel) rfl ⟨rfl, rfl⟩ ⟨Nat.le_of_ble_eq_true rfl, Nat.le_of_ble_eq_true rfl⟩ rfl (ci := 6) rfl rfl rfl rfl (Nat.le_of_ble_eq_true rfl) ⟨Nat.le_of_ble_eq_true rfl, Nat.le_of_ble_eq_true rfl⟩ dX6_syndrome_1 ?_
  refine zp_if_ne C 11 dX6_syndrome_4 (by decide) (fun c_4 => ?_) (fun c_4 => ?_)
  · skip
    have hl0 := hrl.mp c_4
    obtain ⟨m1, m3, hO, hRb, hY, hL, e1, e2, e3, e4⟩ := hM hl0
    have q0 := zpw hln
    have q1 := zpw0 ln
    have q5 := zpw5 hrc
    refine zg_aload_n C 0 dX6_syndrome_11 rfl ?_
    refine zg_iload_n C 1 dX6_syndrome_12 rfl ?_
    refine zg_callr (As := [.int x]) (st := []) C [0, 1, 2, 3, 4, 5, 6] 0 1 (c_X6_isWord l D cI m0 mp mo mv mn my ml pg Of V Nf Yf Lf pn rc ln rk su rd sd bs bp sr y1 y2 y3 dz hh x hln) gX6_syndrome_X6_isWord (by decide +kernel) rfl ⟨rfl, rfl⟩ ⟨Nat.le_of_ble_eq_true rfl, Nat.le_of_ble_eq_true rfl⟩ rfl (ci := 6) rfl rfl rfl rfl (Nat.le_of_ble_eq_true rfl) ⟨Nat.le_of_ble_eq_true rfl, Nat.le_of_ble_eq_true rfl⟩ dX6_syndrome_13 ?_
    refine zp_if_eq C 28 dX6_syndrome_16 (by decide) (fun c_16 => ?_) (fun c_16 => ?_)
    · skip
      refine zg_sipush (v := (-1002)) C dX6_syndrome_28 (by decide) ?_
      exact zg_iret C E dX6_syndrome_31 ((zA_o hl0 (fun q => c_16 q)).symm)
    · skip
      have hzi : zin x (2 ^ ln) := c_16
      obtain ⟨i, hi, rfl⟩ := zin_of hzi (by omega)
      refine zg_aload_n C 0 dX6_syndrome_19 rfl ?_
      refine zg_get C 0 (ci := 6) (f := 14) rfl rfl uX6_syndrome_6 (by decide) fX6_syndrome_6_14 dX6_syndrome_20 rfl ?_
      refine zg_iload_n C 1 dX6_syndrome_23 rfl ?_
      refine zg_iald C 5 rfl (by omega) (by decide) dX6_syndrome_24 (nI (zsk R i rc)) (hY i hi) ?_
      refine zg_goto C 31 dX6_syndrome_25 (by decide) ?_
      exact zg_iret C E dX6_syndrome_31 (by rw [zA_y hl0 hzi, zn_nI (by omega)])
  · skip
    refine zg_sipush (v := (-1003)) C dX6_syndrome_7 (by decide) ?_
    exact zg_iret C E dX6_syndrome_10 ((zA_n (fun q => c_4 (hrl.mpr q))).symm)
theorem uX6_leader_6 : ∀ w ∈ u_ws RX6 TX6 21, w ∈ wsX6_leader := fun w h => List.mem_cons_of_mem _ (List.mem_append_right _ h)
theorem fX6_leader_6_15 : Cond.fieldLink RX6 29 (TX6 15).1 (TX6 15).2.1 (TX6 15).2.2.1 ∈ wsX6_leader := by decide +kernel
set_option maxHeartbeats 1000000 in
set_option maxRecDepth 100000 in
theorem c_X6_leader (l : Launch) (D : va_G) (cI : ClassId) (m0 mp mo mv mn my ml : Nat) (pg Of V Nf Yf Lf : Nat → Int32) (pn rc ln rk su rd : Nat) (sd bs bp sr y1 y2 y3 dz : Int32) (hh : Int64) (R : Nat → Nat) (x : Int32) (hM : zMm R Of Yf Lf rc ln rk dz su rd) (hln : ln ≤ 10) (hrc : rc ≤ 5) (hrl : 0 < rc ↔ 0 < ln) : zMr l D cI yX6_leader wsX6_leader { frames := 2, cells := 0, slots := 0, locals := 43 } [.ref m0, .int x] [(m0, .inr (6, [.int (nI pn), .ref mp, .int (nI rc), .int (nI ln), .ref mo, .int sd, .ref mv, .int bs, .int bp, .int sr, .int y1, .int y2, .int y3, .ref mn, .ref my, .ref ml, .int (nI rk), .int dz, .int (nI su), .int (nI rd), .long hh])), (mp, .inl (cI, 56, .inl pg)), (mo, .inl (cI, 5, .inl Of)), (mv, .inl (cI, 4, .inl V)), (mn, .inl (cI, 5, .inl Nf)), (my, .inl (cI, 1024, .inl Yf)), (ml, .inl (cI, 32, .inl Lf))] (zA ln (zin x (2 ^ rc)) (zo (zld R rc (2 ^ ln) (zn x)))) := by
  refine zr_ent (maxL := 2) (by decide) rfl (Nat.le_of_ble_eq_true rfl) (fun X C E => ?_)
  have C : zC X l D cI { frames := 2, cells := 0, slots := 0, locals := 43 } 2 false cX6_leader RX6 wsX6_leader := C
  refine zg_cv (lv' := [(0, .ref m0), (1, .int x)]) rfl rfl rfl ?_
  refine zg_aload_n C 0 dX6_leader_0 rfl ?_
  refine zg_callr (As := []) (st := []) C [0, 1, 2, 3, 4, 5, 6] 0 0 (c_X6_isThere l D cI m0 mp mo mv mn my ml pg Of V Nf Yf Lf pn rc ln rk su rd sd bs bp sr y1 y2 y3 dz hh hrc) gX6_leader_X6_isThere (by decide +kernel) rfl ⟨rfl, rfl⟩ ⟨Nat.le_of_ble_eq_true rfl, Nat.le_of_ble_eq_true rfl⟩ rfl (ci := 6) rfl rfl rfl rfl (Nat.le_of_ble_eq_true rfl) ⟨Nat.le_of_ble_eq_true rfl, Nat.le_of_ble_eq_true rfl⟩ dX6_leader_1 ?_
  refine zp_if_ne C 11 dX6_leader_4 (by decide) (fun c_4 => ?_) (fun c_4 => ?_)
  · skip
    have hl0 := hrl.mp c_4
    obtain ⟨m1, m3, hO, hRb, hY, hL, e1, e2, e3, e4⟩ := hM hl0
    have q0 := zpw hln
    have q1 := zpw0 ln
    have q5 := zpw5 hrc
    refine zg_aload_n C 0 dX6_leader_11 rfl ?_
    refine zg_iload_n C 1 dX6_leader_12 rfl ?_
    refine zg_callr (As := [.int x]) (st := []) C [0, 1, 2, 3, 4, 5, 6] 0 1 (c_X6_isSyndrome l D cI m0 mp mo mv mn my ml pg Of V Nf Yf Lf pn rc ln rk su rd sd bs bp sr y1 y2 y3 dz hh x hrc) gX6_leader_X6_isSyndrome (by decide +kernel) rfl ⟨rfl, rfl⟩ ⟨Nat.le_of_ble_eq_true rfl, Nat.le_of_ble_eq_true rfl⟩ rfl (ci := 6) rfl rfl rfl rfl (Nat.le_of_ble_eq_true rfl) ⟨Nat.le_of_ble_eq_true rfl, Nat.le_of_ble_eq_true rfl⟩ dX6_leader_13 ?_
    refine zp_if_eq C 28 dX6_leader_16 (by decide) (fun c_16 => ?_) (fun c_16 => ?_)
    · skip
      refine zg_sipush (v := (-1002)) C dX6_leader_28 (by decide) ?_
      exact zg_iret C E dX6_leader_31 ((zA_o hl0 (fun q => c_16 q)).symm)
    · skip
      have hzi : zin x (2 ^ rc) := c_16
      obtain ⟨i, hi, rfl⟩ := zin_of hzi (by omega)
      refine zg_aload_n C 0 dX6_leader_19 rfl ?_
      refine zg_get C 0 (ci := 6) (f := 15) rfl rfl uX6_leader_6 (by decide) fX6_leader_6_15 dX6_leader_20 rfl ?_
      refine zg_iload_n C 1 dX6_leader_23 rfl ?_
      refine zg_iald C 6 rfl (by omega) (by decide) dX6_leader_24 (zo (zld R rc (2 ^ ln) i)) (hL i (by omega)) ?_
      refine zg_goto C 31 dX6_leader_25 (by decide) ?_
      exact zg_iret C E dX6_leader_31 (by rw [zA_y hl0 hzi, zn_nI (by omega)])
  · skip
    refine zg_sipush (v := (-1003)) C dX6_leader_7 (by decide) ?_
    exact zg_iret C E dX6_leader_10 ((zA_n (fun q => c_4 (hrl.mpr q))).symm)
theorem zneg (x : Int32) : x < 0 ∨ ∃ j : Nat, j < 2 ^ 31 ∧ x = nI j := by
  by_cases h : x < 0
  · exact Or.inl h
  · exact Or.inr (nI_of h)
theorem uX6_cosetNow_6 : ∀ w ∈ u_ws RX6 TX6 21, w ∈ wsX6_cosetNow := fun w h => List.mem_cons_of_mem _ (List.mem_append_right _ h)
theorem fX6_cosetNow_6_14 : Cond.fieldLink RX6 26 (TX6 14).1 (TX6 14).2.1 (TX6 14).2.2.1 ∈ wsX6_cosetNow := by decide +kernel
set_option maxHeartbeats 1000000 in
set_option maxRecDepth 100000 in
theorem c_X6_cosetNow (l : Launch) (D : va_G) (cI : ClassId) (m0 mp mo mv mn my ml : Nat) (pg Of V Nf Yf Lf : Nat → Int32) (pn rc ln rk su rd : Nat) (sd bs bp sr y1 y2 y3 dz : Int32) (hh : Int64) (R : Nat → Nat) (y : Nat) (x : Int32) (hrc : rc ≤ 5) (hln : ln ≤ 10) (hY : ∀ w, w < 2 ^ ln → Yf w = nI (zsk R w rc)) (hy : y < 2 ^ rc) : zMr l D cI yX6_cosetNow wsX6_cosetNow { frames := 1, cells := 0, slots := 0, locals := 20 } [.ref m0, .int (nI y), .int x] [(m0, .inr (6, [.int (nI pn), .ref mp, .int (nI rc), .int (nI ln), .ref mo, .int sd, .ref mv, .int bs, .int bp, .int sr, .int y1, .int y2, .int y3, .ref mn, .ref my, .ref ml, .int (nI rk), .int dz, .int (nI su), .int (nI rd), .long hh])), (mp, .inl (cI, 56, .inl pg)), (mo, .inl (cI, 5, .inl Of)), (mv, .inl (cI, 4, .inl V)), (mn, .inl (cI, 5, .inl Nf)), (my, .inl (cI, 1024, .inl Yf)), (ml, .inl (cI, 32, .inl Lf))] (zco (fun w => decide (zsk R w rc = y)) x (2 ^ ln) 0 0) := by
  refine zr_ent (maxL := 5) (by decide) rfl (Nat.le_of_ble_eq_true rfl) (fun X C E => ?_)
  have C : zC X l D cI { frames := 1, cells := 0, slots := 0, locals := 20 } 5 false cX6_cosetNow RX6 wsX6_cosetNow := C
  refine zg_cv (lv' := [(0, .ref m0), (1, .int (nI y)), (2, .int x)]) rfl rfl rfl ?_
  have q0 := zpw hln
  have q1 := zpw0 ln
  have q5 := zpw5 hrc
  refine zg_iload_n C 2 dX6_cosetNow_0 rfl ?_
  refine zg_istore_n C [1, 2, 3, 0] (lv' := [(0, .ref m0), (1, .int (nI y)), (2, .int x), (3, .int x)]) dX6_cosetNow_1 (by decide) rfl ?_
  rcases zneg x with hneg | ⟨j, hj31, rfl⟩
  · skip
    refine zg_iconst (v := nI 0) C dX6_cosetNow_2 (by decide) ?_
    refine zg_istore C [1, 2, 3, 4, 0] (lv' := [(0, .ref m0), (1, .int (nI y)), (2, .int x), (3, .int x), (4, .int (nI 0))]) dX6_cosetNow_3 (by decide) rfl ?_
    refine zg_iload C 4 dX6_cosetNow_5 rfl ?_
    refine zg_aload_n C 0 dX6_cosetNow_7 rfl ?_
    refine zg_callr (As := []) (st := [.int (nI 0)]) C [0, 1, 2, 3, 4, 5, 6] 0 0 (c_X6_words l D cI m0 mp mo mv mn my ml pg Of V Nf Yf Lf pn rc ln rk su rd sd bs bp sr y1 y2 y3 dz hh hln) gX6_cosetNow_X6_words (by decide +kernel) rfl ⟨rfl, rfl⟩ ⟨Nat.le_of_ble_eq_true rfl, Nat.le_of_ble_eq_true rfl⟩ rfl (ci := 6) rfl rfl rfl rfl (Nat.le_of_ble_eq_true rfl) ⟨Nat.le_of_ble_eq_true rfl, Nat.le_of_ble_eq_true rfl⟩ dX6_cosetNow_8 ?_
    refine zn_icmp_ge C 45 (by omega) (by omega) dX6_cosetNow_11 (by decide) (fun c_11 => by omega) (fun c_11 => ?_)
    refine zg_iload_n C 3 dX6_cosetNow_14 rfl ?_
    refine zg_if_lt C 45 dX6_cosetNow_15 (by decide) (fun c_15 => ?_) (fun c_15 => by exact absurd hneg c_15)
    refine zg_sipush (v := (-1001)) C dX6_cosetNow_45 (by decide) ?_
    exact zg_iret C E dX6_cosetNow_48 ((zco_neg hneg _ _ _ (by omega)).symm)
  · skip
    refine zg_iconst (v := nI 0) C dX6_cosetNow_2 (by decide) ?_
    refine zg_istore C [1, 2, 3, 4, 0] (lv' := [(0, .ref m0), (1, .int (nI y)), (2, .int (nI j)), (3, .int (nI j)), (4, .int (nI 0))]) dX6_cosetNow_3 (by decide) rfl ?_
    have L_5 : ∀ i, i ≤ 2 ^ ln → ∀ (a : Nat), (a ≤ j) → (zco (fun w => decide (zsk R w rc = y)) (nI j) (2 ^ ln - i) i a = zco (fun w => decide (zsk R w rc = y)) (nI j) (2 ^ ln) 0 0) → zG X 0 0 [(0, .ref m0), (1, .int (nI y)), (2, .int (nI j)), (3, .int (nI (j - a))), (4, .int (nI i))] [] [(m0, .inr (6, [.int (nI pn), .ref mp, .int (nI rc), .int (nI ln), .ref mo, .int sd, .ref mv, .int bs, .int bp, .int sr, .int y1, .int y2, .int y3, .ref mn, .ref my, .ref ml, .int (nI rk), .int dz, .int (nI su), .int (nI rd), .long hh])), (mp, .inl (cI, 56, .inl pg)), (mo, .inl (cI, 5, .inl Of)), (mv, .inl (cI, 4, .inl V)), (mn, .inl (cI, 5, .inl Nf)), (my, .inl (cI, 1024, .inl Yf)), (ml, .inl (cI, 32, .inl Lf))] 5 := by
      refine zg_dn (fun i hi ih_5 a ha hz => ?_)
      refine zg_iload C 4 dX6_cosetNow_5 rfl ?_
      refine zg_aload_n C 0 dX6_cosetNow_7 rfl ?_
      refine zg_callr (As := []) (st := [.int (nI i)]) C [0, 1, 2, 3, 4, 5, 6] 0 0 (c_X6_words l D cI m0 mp mo mv mn my ml pg Of V Nf Yf Lf pn rc ln rk su rd sd bs bp sr y1 y2 y3 dz hh hln) gX6_cosetNow_X6_words (by decide +kernel) rfl ⟨rfl, rfl⟩ ⟨Nat.le_of_ble_eq_true rfl, Nat.le_of_ble_eq_true rfl⟩ rfl (ci := 6) rfl rfl rfl rfl (Nat.le_of_ble_eq_true rfl) ⟨Nat.le_of_ble_eq_true rfl, Nat.le_of_ble_eq_true rfl⟩ dX6_cosetNow_8 ?_
      refine zn_icmp_ge C 45 (by omega) (by omega) dX6_cosetNow_11 (by decide) (fun c_11 => ?_) (fun c_11 => ?_)
      · skip
        refine zg_sipush (v := (-1001)) C dX6_cosetNow_45 (by decide) ?_
        exact zg_iret C E dX6_cosetNow_48 ((zco_end (by omega)).symm.trans hz)
      · skip
        refine zg_iload_n C 3 dX6_cosetNow_14 rfl ?_
        refine zn_if_lt C 45 (by omega) dX6_cosetNow_15 (by decide) ?_
        refine zg_aload_n C 0 dX6_cosetNow_18 rfl ?_
        refine zg_get C 0 (ci := 6) (f := 14) rfl rfl uX6_cosetNow_6 (by decide) fX6_cosetNow_6_14 dX6_cosetNow_19 rfl ?_
        refine zg_iload C 4 dX6_cosetNow_22 rfl ?_
        refine zg_iald C 5 rfl (by omega) (by decide) dX6_cosetNow_24 (nI (zsk R i rc)) (hY i (by omega)) ?_
        refine zg_iload_n C 1 dX6_cosetNow_25 rfl ?_
        have q4 := zsk_lt R i rc
        refine zn_icmp_ne C 39 (by omega) (by omega) dX6_cosetNow_26 (by decide) (fun c_26 => ?_) (fun c_26 => ?_)
        · skip
          refine zg_iinc C 4 [1, 2, 3, 4, 0] (lv' := [(0, .ref m0), (1, .int (nI y)), (2, .int (nI j)), (3, .int (nI (j - a))), (4, .int (nI (i + 1)))]) (nI (i + 1)) dX6_cosetNow_39 rfl (zi_inc _) (by decide) rfl ?_
          refine zg_goto C 5 dX6_cosetNow_42 (by decide) ?_
          exact zg_cv (lv' := [(0, .ref m0), (1, .int (nI y)), (2, .int (nI j)), (3, .int (nI (j - a))), (4, .int (nI (i + 1)))]) (rfl) rfl (rfl) (ih_5 (by omega) a (ha) ((zco_skip (p := (fun w => decide (zsk R w rc = y))) (by omega) (fun q => c_26 (of_decide_eq_true q))).symm.trans hz))
        · skip
          refine zg_iload_n C 3 dX6_cosetNow_29 rfl ?_
          refine zn_if_ne C 36 (by omega) dX6_cosetNow_30 (by decide) (fun c_30 => ?_) (fun c_30 => ?_)
          · skip
            refine zg_iinc C 3 [1, 2, 3, 0, 4] (lv' := [(0, .ref m0), (1, .int (nI y)), (2, .int (nI j)), (3, .int (nI (j - a - 1))), (4, .int (nI i))]) (nI (j - a - 1)) dX6_cosetNow_36 rfl (zi_m1 (by omega)) (by decide) rfl ?_
            refine zg_iinc C 4 [1, 2, 3, 4, 0] (lv' := [(0, .ref m0), (1, .int (nI y)), (2, .int (nI j)), (3, .int (nI (j - a - 1))), (4, .int (nI (i + 1)))]) (nI (i + 1)) dX6_cosetNow_39 rfl (zi_inc _) (by decide) rfl ?_
            refine zg_goto C 5 dX6_cosetNow_42 (by decide) ?_
            exact zg_cv (lv' := [(0, .ref m0), (1, .int (nI y)), (2, .int (nI j)), (3, .int (nI (j - (a + 1)))), (4, .int (nI (i + 1)))]) (by rw [Nat.sub_sub]) rfl (rfl) (ih_5 (by omega) (a + 1) (by omega) ((zco_go (p := (fun w => decide (zsk R w rc = y))) (by omega) (decide_eq_true c_26) (fun q => by have := (nI_eq (by omega) hj31).mp q; omega)).symm.trans hz))
          · skip
            refine zg_iload C 4 dX6_cosetNow_33 rfl ?_
            exact zg_iret C E dX6_cosetNow_35 ((zco_hit (p := (fun w => decide (zsk R w rc = y))) (by omega) (decide_eq_true c_26) (congrArg nI (by omega))).symm.trans hz)
    exact zg_cv (lv' := [(0, .ref m0), (1, .int (nI y)), (2, .int (nI j)), (3, .int (nI (j - 0))), (4, .int (nI 0))]) (rfl) rfl (rfl) (L_5 0 (Nat.zero_le _) 0 (Nat.zero_le _) (rfl))
set_option maxHeartbeats 1000000 in
set_option maxRecDepth 100000 in
theorem c_X6_coset (l : Launch) (D : va_G) (cI : ClassId) (m0 mp mo mv mn my ml : Nat) (pg Of V Nf Yf Lf : Nat → Int32) (pn rc ln rk su rd : Nat) (sd bs bp sr y1 y2 y3 dz : Int32) (hh : Int64) (R : Nat → Nat) (x y : Int32) (hM : zMm R Of Yf Lf rc ln rk dz su rd) (hln : ln ≤ 10) (hrc : rc ≤ 5) (hrl : 0 < rc ↔ 0 < ln) : zMr l D cI yX6_coset wsX6_coset { frames := 2, cells := 0, slots := 0, locals := 44 } [.ref m0, .int x, .int y] [(m0, .inr (6, [.int (nI pn), .ref mp, .int (nI rc), .int (nI ln), .ref mo, .int sd, .ref mv, .int bs, .int bp, .int sr, .int y1, .int y2, .int y3, .ref mn, .ref my, .ref ml, .int (nI rk), .int dz, .int (nI su), .int (nI rd), .long hh])), (mp, .inl (cI, 56, .inl pg)), (mo, .inl (cI, 5, .inl Of)), (mv, .inl (cI, 4, .inl V)), (mn, .inl (cI, 5, .inl Nf)), (my, .inl (cI, 1024, .inl Yf)), (ml, .inl (cI, 32, .inl Lf))] (zA ln (zin x (2 ^ rc)) (zco (fun w => decide (zsk R w rc = zn x)) y (2 ^ ln) 0 0)) := by
  refine zr_ent (maxL := 3) (by decide) rfl (Nat.le_of_ble_eq_true rfl) (fun X C E => ?_)
  have C : zC X l D cI { frames := 2, cells := 0, slots := 0, locals := 44 } 3 false cX6_coset RX6 wsX6_coset := C
  refine zg_cv (lv' := [(0, .ref m0), (1, .int x), (2, .int y)]) rfl rfl rfl ?_
  refine zg_aload_n C 0 dX6_coset_0 rfl ?_
  refine zg_callr (As := []) (st := []) C [0, 1, 2, 3, 4, 5, 6] 0 0 (c_X6_isThere l D cI m0 mp mo mv mn my ml pg Of V Nf Yf Lf pn rc ln rk su rd sd bs bp sr y1 y2 y3 dz hh hrc) gX6_coset_X6_isThere (by decide +kernel) rfl ⟨rfl, rfl⟩ ⟨Nat.le_of_ble_eq_true rfl, Nat.le_of_ble_eq_true rfl⟩ rfl (ci := 6) rfl rfl rfl rfl (Nat.le_of_ble_eq_true rfl) ⟨Nat.le_of_ble_eq_true rfl, Nat.le_of_ble_eq_true rfl⟩ dX6_coset_1 ?_
  refine zp_if_ne C 11 dX6_coset_4 (by decide) (fun c_4 => ?_) (fun c_4 => ?_)
  · skip
    have hl0 := hrl.mp c_4
    obtain ⟨m1, m3, hO, hRb, hY, hL, e1, e2, e3, e4⟩ := hM hl0
    have q0 := zpw hln
    have q1 := zpw0 ln
    have q5 := zpw5 hrc
    refine zg_aload_n C 0 dX6_coset_11 rfl ?_
    refine zg_iload_n C 1 dX6_coset_12 rfl ?_
    refine zg_callr (As := [.int x]) (st := []) C [0, 1, 2, 3, 4, 5, 6] 0 1 (c_X6_isSyndrome l D cI m0 mp mo mv mn my ml pg Of V Nf Yf Lf pn rc ln rk su rd sd bs bp sr y1 y2 y3 dz hh x hrc) gX6_coset_X6_isSyndrome (by decide +kernel) rfl ⟨rfl, rfl⟩ ⟨Nat.le_of_ble_eq_true rfl, Nat.le_of_ble_eq_true rfl⟩ rfl (ci := 6) rfl rfl rfl rfl (Nat.le_of_ble_eq_true rfl) ⟨Nat.le_of_ble_eq_true rfl, Nat.le_of_ble_eq_true rfl⟩ dX6_coset_13 ?_
    refine zp_if_eq C 28 dX6_coset_16 (by decide) (fun c_16 => ?_) (fun c_16 => ?_)
    · skip
      refine zg_sipush (v := (-1002)) C dX6_coset_28 (by decide) ?_
      exact zg_iret C E dX6_coset_31 ((zA_o hl0 (fun q => c_16 q)).symm)
    · skip
      have hzi : zin x (2 ^ rc) := c_16
      obtain ⟨i, hi, rfl⟩ := zin_of hzi (by omega)
      refine zg_aload_n C 0 dX6_coset_19 rfl ?_
      refine zg_iload_n C 1 dX6_coset_20 rfl ?_
      refine zg_iload_n C 2 dX6_coset_21 rfl ?_
      refine zg_callr (As := [.int (nI i), .int y]) (st := []) C [0, 1, 2, 3, 4, 5, 6] 0 2 (c_X6_cosetNow l D cI m0 mp mo mv mn my ml pg Of V Nf Yf Lf pn rc ln rk su rd sd bs bp sr y1 y2 y3 dz hh R i y hrc hln hY (by omega)) gX6_coset_X6_cosetNow (by decide +kernel) rfl ⟨rfl, rfl⟩ ⟨Nat.le_of_ble_eq_true rfl, Nat.le_of_ble_eq_true rfl⟩ rfl (ci := 6) rfl rfl rfl rfl (Nat.le_of_ble_eq_true rfl) ⟨Nat.le_of_ble_eq_true rfl, Nat.le_of_ble_eq_true rfl⟩ dX6_coset_22 ?_
      refine zg_goto C 31 dX6_coset_25 (by decide) ?_
      exact zg_iret C E dX6_coset_31 (by rw [zA_y hl0 hzi, zn_nI (by omega)])
  · skip
    refine zg_sipush (v := (-1003)) C dX6_coset_7 (by decide) ?_
    exact zg_iret C E dX6_coset_10 ((zA_n (fun q => c_4 (hrl.mpr q))).symm)
theorem uX6_leadersNow_6 : ∀ w ∈ u_ws RX6 TX6 21, w ∈ wsX6_leadersNow := fun w h => List.mem_cons_of_mem _ (List.mem_append_right _ h)
theorem fX6_leadersNow_6_15 : Cond.fieldLink RX6 29 (TX6 15).1 (TX6 15).2.1 (TX6 15).2.2.1 ∈ wsX6_leadersNow := by decide +kernel
set_option maxHeartbeats 1000000 in
set_option maxRecDepth 100000 in
theorem c_X6_leadersNow (l : Launch) (D : va_G) (cI : ClassId) (m0 mp mo mv mn my ml : Nat) (pg Of V Nf Yf Lf : Nat → Int32) (pn rc ln rk su rd : Nat) (sd bs bp sr y1 y2 y3 dz : Int32) (hh : Int64) (Lo : Nat → Option Nat) (wt : Nat) (hL : ∀ y, y < 32 → Lf y = zo (Lo y)) (hLo : ∀ y v, Lo y = some v → v < 1024) (hwt : wt ≤ 10) : zMr l D cI yX6_leadersNow wsX6_leadersNow { frames := 1, cells := 0, slots := 0, locals := 22 } [.ref m0, .int (nI wt)] [(m0, .inr (6, [.int (nI pn), .ref mp, .int (nI rc), .int (nI ln), .ref mo, .int sd, .ref mv, .int bs, .int bp, .int sr, .int y1, .int y2, .int y3, .ref mn, .ref my, .ref ml, .int (nI rk), .int dz, .int (nI su), .int (nI rd), .long hh])), (mp, .inl (cI, 56, .inl pg)), (mo, .inl (cI, 5, .inl Of)), (mv, .inl (cI, 4, .inl V)), (mn, .inl (cI, 5, .inl Nf)), (my, .inl (cI, 1024, .inl Yf)), (ml, .inl (cI, 32, .inl Lf))] (nI (zct (zhw Lo wt) 32)) := by
  refine zr_ent (maxL := 4) (by decide) rfl (Nat.le_of_ble_eq_true rfl) (fun X C E => ?_)
  have C : zC X l D cI { frames := 1, cells := 0, slots := 0, locals := 22 } 4 false cX6_leadersNow RX6 wsX6_leadersNow := C
  refine zg_cv (lv' := [(0, .ref m0), (1, .int (nI wt))]) rfl rfl rfl ?_
  refine zg_iconst (v := nI 0) C dX6_leadersNow_0 (by decide) ?_
  refine zg_istore_n C [1, 2, 0] (lv' := [(0, .ref m0), (1, .int (nI wt)), (2, .int (nI 0))]) dX6_leadersNow_1 (by decide) rfl ?_
  refine zg_iconst (v := nI 0) C dX6_leadersNow_2 (by decide) ?_
  refine zg_istore_n C [1, 2, 3, 0] (lv' := [(0, .ref m0), (1, .int (nI wt)), (2, .int (nI 0)), (3, .int (nI 0))]) dX6_leadersNow_3 (by decide) rfl ?_
  have L_4 : ∀ i, i ≤ 32 → zG X 0 0 [(0, .ref m0), (1, .int (nI wt)), (2, .int (nI (zct (zhw Lo wt) i))), (3, .int (nI i))] [] [(m0, .inr (6, [.int (nI pn), .ref mp, .int (nI rc), .int (nI ln), .ref mo, .int sd, .ref mv, .int bs, .int bp, .int sr, .int y1, .int y2, .int y3, .ref mn, .ref my, .ref ml, .int (nI rk), .int dz, .int (nI su), .int (nI rd), .long hh])), (mp, .inl (cI, 56, .inl pg)), (mo, .inl (cI, 5, .inl Of)), (mv, .inl (cI, 4, .inl V)), (mn, .inl (cI, 5, .inl Nf)), (my, .inl (cI, 1024, .inl Yf)), (ml, .inl (cI, 32, .inl Lf))] 4 := by
    refine zg_dn (fun i hi ih_4  => ?_)
    refine zg_iload_n C 3 dX6_leadersNow_4 rfl ?_
    refine zg_bipush (v := nI 32) C dX6_leadersNow_5 (by decide) ?_
    refine zn_icmp_ge C 49 (by omega) (by omega) dX6_leadersNow_7 (by decide) (fun c_7 => ?_) (fun c_7 => ?_)
    · skip
      refine zg_iload_n C 2 dX6_leadersNow_49 rfl ?_
      exact zg_iret C E dX6_leadersNow_50 (by rw [show i = 32 by omega])
    · skip
      refine zg_iload_n C 2 dX6_leadersNow_10 rfl ?_
      refine zg_aload_n C 0 dX6_leadersNow_11 rfl ?_
      refine zg_get C 0 (ci := 6) (f := 15) rfl rfl uX6_leadersNow_6 (by decide) fX6_leadersNow_6_15 dX6_leadersNow_12 rfl ?_
      refine zg_iload_n C 3 dX6_leadersNow_15 rfl ?_
      refine zg_iald C 6 rfl (by omega) (by decide) dX6_leadersNow_16 (zo (Lo i)) (hL i (by omega)) ?_
      rcases zopt (Lo i) with hz | ⟨v, hz⟩
      · skip
        refine zg_cv (st' := [.int (-1001), .int (nI (zct (zhw Lo wt) i))]) rfl (congrArg (fun q9 => ([.int q9, .int (nI (zct (zhw Lo wt) i))] : List Value)) (show zo (Lo i) = -1001 from (by rw [hz]; rfl))) rfl ?_
        refine zg_sipush (v := (-1001)) C dX6_leadersNow_17 (by decide) ?_
        refine zg_icmp_eq C 40 dX6_leadersNow_20 (by decide) (fun c_20 => ?_) (fun c_20 => by exact absurd rfl c_20)
        refine zg_iconst (v := nI 0) C dX6_leadersNow_40 (by decide) ?_
        refine zg_iadd C dX6_leadersNow_41 (nI ((zct (zhw Lo wt) i) + 0)) (nI_add _ _) ?_
        refine zg_istore_n C [1, 2, 0, 3] (lv' := [(0, .ref m0), (1, .int (nI wt)), (2, .int (nI ((zct (zhw Lo wt) i) + 0))), (3, .int (nI i))]) dX6_leadersNow_42 (by decide) rfl ?_
        refine zg_iinc C 3 [1, 2, 3, 0] (lv' := [(0, .ref m0), (1, .int (nI wt)), (2, .int (nI ((zct (zhw Lo wt) i) + 0))), (3, .int (nI (i + 1)))]) (nI (i + 1)) dX6_leadersNow_43 rfl (zi_inc _) (by decide) rfl ?_
        refine zg_goto C 4 dX6_leadersNow_46 (by decide) ?_
        exact zg_cv (lv' := [(0, .ref m0), (1, .int (nI wt)), (2, .int (nI (zct (zhw Lo wt) (i + 1)))), (3, .int (nI (i + 1)))]) (by rw [zct_f (zhw_none hz)]; rfl) rfl (rfl) (ih_4 (by omega) )
      · have hv := hLo i v hz
        have q3 := zpc_le v
        refine zg_cv (st' := [.int (nI v), .int (nI (zct (zhw Lo wt) i))]) rfl (congrArg (fun q9 => ([.int q9, .int (nI (zct (zhw Lo wt) i))] : List Value)) (show zo (Lo i) = nI v from (by rw [hz]; rfl))) rfl ?_
        refine zg_sipush (v := (-1001)) C dX6_leadersNow_17 (by decide) ?_
        refine zg_icmp_eq C 40 dX6_leadersNow_20 (by decide) (fun c_20 => by exact absurd c_20 (zo_ne (by omega))) (fun c_20 => ?_)
        refine zg_aload_n C 0 dX6_leadersNow_23 rfl ?_
        refine zg_get C 0 (ci := 6) (f := 15) rfl rfl uX6_leadersNow_6 (by decide) fX6_leadersNow_6_15 dX6_leadersNow_24 rfl ?_
        refine zg_iload_n C 3 dX6_leadersNow_27 rfl ?_
        refine zg_iald C 6 rfl (by omega) (by decide) dX6_leadersNow_28 (nI v) ((hL i (by omega)).trans (by rw [hz]; rfl)) ?_
        refine zg_calls (As := [.int (nI v)]) (st := [.int (nI (zct (zhw Lo wt) i))]) C [] 1 (c_X6_ones l D cI v (by omega)) gX6_leadersNow_X6_ones (by decide +kernel) rfl ⟨rfl, rfl⟩ ⟨Nat.le_of_ble_eq_true rfl, Nat.le_of_ble_eq_true rfl⟩ rfl rfl rfl (Nat.le_of_ble_eq_true rfl) ⟨Nat.le_of_ble_eq_true rfl, Nat.le_of_ble_eq_true rfl⟩ dX6_leadersNow_29 ?_
        refine zg_iload_n C 1 dX6_leadersNow_32 rfl ?_
        refine zn_icmp_ne C 40 (by omega) (by omega) dX6_leadersNow_33 (by decide) (fun c_33 => ?_) (fun c_33 => ?_)
        · skip
          refine zg_iconst (v := nI 0) C dX6_leadersNow_40 (by decide) ?_
          refine zg_iadd C dX6_leadersNow_41 (nI ((zct (zhw Lo wt) i) + 0)) (nI_add _ _) ?_
          refine zg_istore_n C [1, 2, 0, 3] (lv' := [(0, .ref m0), (1, .int (nI wt)), (2, .int (nI ((zct (zhw Lo wt) i) + 0))), (3, .int (nI i))]) dX6_leadersNow_42 (by decide) rfl ?_
          refine zg_iinc C 3 [1, 2, 3, 0] (lv' := [(0, .ref m0), (1, .int (nI wt)), (2, .int (nI ((zct (zhw Lo wt) i) + 0))), (3, .int (nI (i + 1)))]) (nI (i + 1)) dX6_leadersNow_43 rfl (zi_inc _) (by decide) rfl ?_
          refine zg_goto C 4 dX6_leadersNow_46 (by decide) ?_
          exact zg_cv (lv' := [(0, .ref m0), (1, .int (nI wt)), (2, .int (nI (zct (zhw Lo wt) (i + 1)))), (3, .int (nI (i + 1)))]) (by rw [zct_f (show zhw Lo wt i = false by rw [zhw_some hz]; exact decide_eq_false c_33)]; rfl) rfl (rfl) (ih_4 (by omega) )
        · skip
          refine zg_iconst (v := nI 1) C dX6_leadersNow_36 (by decide) ?_
          refine zg_goto C 41 dX6_leadersNow_37 (by decide) ?_
          refine zg_iadd C dX6_leadersNow_41 (nI ((zct (zhw Lo wt) i) + 1)) (nI_add _ _) ?_
          refine zg_istore_n C [1, 2, 0, 3] (lv' := [(0, .ref m0), (1, .int (nI wt)), (2, .int (nI ((zct (zhw Lo wt) i) + 1))), (3, .int (nI i))]) dX6_leadersNow_42 (by decide) rfl ?_
          refine zg_iinc C 3 [1, 2, 3, 0] (lv' := [(0, .ref m0), (1, .int (nI wt)), (2, .int (nI ((zct (zhw Lo wt) i) + 1))), (3, .int (nI (i + 1)))]) (nI (i + 1)) dX6_leadersNow_43 rfl (zi_inc _) (by decide) rfl ?_
          refine zg_goto C 4 dX6_leadersNow_46 (by decide) ?_
          exact zg_cv (lv' := [(0, .ref m0), (1, .int (nI wt)), (2, .int (nI (zct (zhw Lo wt) (i + 1)))), (3, .int (nI (i + 1)))]) (by rw [zct_t (show zhw Lo wt i = true by rw [zhw_some hz]; exact decide_eq_true c_33)]) rfl (rfl) (ih_4 (by omega) )
  exact zg_cv (lv' := [(0, .ref m0), (1, .int (nI wt)), (2, .int (nI (zct (zhw Lo wt) 0))), (3, .int (nI 0))]) (rfl) rfl (rfl) (L_4 0 (Nat.zero_le _) )
theorem uX6_leaders_6 : ∀ w ∈ u_ws RX6 TX6 21, w ∈ wsX6_leaders := fun w h => List.mem_cons_of_mem _ (List.mem_append_right _ h)
theorem fX6_leaders_6_3 : Cond.fieldLink RX6 59 (TX6 3).1 (TX6 3).2.1 (TX6 3).2.2.1 ∈ wsX6_leaders := by decide +kernel
set_option maxHeartbeats 1000000 in
set_option maxRecDepth 100000 in
theorem c_X6_leaders (l : Launch) (D : va_G) (cI : ClassId) (m0 mp mo mv mn my ml : Nat) (pg Of V Nf Yf Lf : Nat → Int32) (pn rc ln rk su rd : Nat) (sd bs bp sr y1 y2 y3 dz : Int32) (hh : Int64) (R : Nat → Nat) (x : Int32) (hM : zMm R Of Yf Lf rc ln rk dz su rd) (hln : ln ≤ 10) (hrc : rc ≤ 5) (hrl : 0 < rc ↔ 0 < ln) : zMr l D cI yX6_leaders wsX6_leaders { frames := 2, cells := 0, slots := 0, locals := 45 } [.ref m0, .int x] [(m0, .inr (6, [.int (nI pn), .ref mp, .int (nI rc), .int (nI ln), .ref mo, .int sd, .ref mv, .int bs, .int bp, .int sr, .int y1, .int y2, .int y3, .ref mn, .ref my, .ref ml, .int (nI rk), .int dz, .int (nI su), .int (nI rd), .long hh])), (mp, .inl (cI, 56, .inl pg)), (mo, .inl (cI, 5, .inl Of)), (mv, .inl (cI, 4, .inl V)), (mn, .inl (cI, 5, .inl Nf)), (my, .inl (cI, 1024, .inl Yf)), (ml, .inl (cI, 32, .inl Lf))] (zA ln (zin x (ln + 1)) (nI (zct (zhw (zld R rc (2 ^ ln)) (zn x)) 32))) := by
  refine zr_ent (maxL := 2) (by decide) rfl (Nat.le_of_ble_eq_true rfl) (fun X C E => ?_)
  have C : zC X l D cI { frames := 2, cells := 0, slots := 0, locals := 45 } 2 false cX6_leaders RX6 wsX6_leaders := C
  refine zg_cv (lv' := [(0, .ref m0), (1, .int x)]) rfl rfl rfl ?_
  refine zg_aload_n C 0 dX6_leaders_0 rfl ?_
  refine zg_callr (As := []) (st := []) C [0, 1, 2, 3, 4, 5, 6] 0 0 (c_X6_isThere l D cI m0 mp mo mv mn my ml pg Of V Nf Yf Lf pn rc ln rk su rd sd bs bp sr y1 y2 y3 dz hh hrc) gX6_leaders_X6_isThere (by decide +kernel) rfl ⟨rfl, rfl⟩ ⟨Nat.le_of_ble_eq_true rfl, Nat.le_of_ble_eq_true rfl⟩ rfl (ci := 6) rfl rfl rfl rfl (Nat.le_of_ble_eq_true rfl) ⟨Nat.le_of_ble_eq_true rfl, Nat.le_of_ble_eq_true rfl⟩ dX6_leaders_1 ?_
  refine zp_if_ne C 11 dX6_leaders_4 (by decide) (fun c_4 => ?_) (fun c_4 => ?_)
  · skip
    have hl0 := hrl.mp c_4
    obtain ⟨m1, m3, hO, hRb, hY, hL, e1, e2, e3, e4⟩ := hM hl0
    have q0 := zpw hln
    have q1 := zpw0 ln
    have q5 := zpw5 hrc
    refine zg_iload_n C 1 dX6_leaders_11 rfl ?_
    refine zg_iconst (v := nI 0) C dX6_leaders_12 (by decide) ?_
    refine zg_aload_n C 0 dX6_leaders_13 rfl ?_
    refine zg_get C 0 (ci := 6) (f := 3) rfl rfl uX6_leaders_6 (by decide) fX6_leaders_6_3 dX6_leaders_14 rfl ?_
    refine zg_calls (As := [.int x, .int (nI 0), .int (nI ln)]) (st := []) C [] 3 (c_X6_within l D cI x (nI 0) (nI ln) ) gX6_leaders_X6_within (by decide +kernel) rfl ⟨rfl, rfl⟩ ⟨Nat.le_of_ble_eq_true rfl, Nat.le_of_ble_eq_true rfl⟩ rfl rfl rfl (Nat.le_of_ble_eq_true rfl) ⟨Nat.le_of_ble_eq_true rfl, Nat.le_of_ble_eq_true rfl⟩ dX6_leaders_17 ?_
    refine zp_if_eq C 31 dX6_leaders_20 (by decide) (fun c_20 => ?_) (fun c_20 => ?_)
    · skip
      refine zg_sipush (v := (-1002)) C dX6_leaders_31 (by decide) ?_
      exact zg_iret C E dX6_leaders_34 ((zA_o hl0 (fun q => c_20 ((zin_le (N := ln + 1) (by omega) (by omega)).mpr q))).symm)
    · skip
      have hzi : zin x (ln + 1) := (zin_le (N := ln + 1) (by omega) (by omega)).mp c_20
      obtain ⟨i, hi, rfl⟩ := zin_of hzi (by omega)
      refine zg_aload_n C 0 dX6_leaders_23 rfl ?_
      refine zg_iload_n C 1 dX6_leaders_24 rfl ?_
      refine zg_callr (As := [.int (nI i)]) (st := []) C [0, 1, 2, 3, 4, 5, 6] 0 1 (c_X6_leadersNow l D cI m0 mp mo mv mn my ml pg Of V Nf Yf Lf pn rc ln rk su rd sd bs bp sr y1 y2 y3 dz hh (zld R rc (2 ^ ln)) i (hL) (fun y v h => by have := (zld_some h).1; omega) (by omega)) gX6_leaders_X6_leadersNow (by decide +kernel) rfl ⟨rfl, rfl⟩ ⟨Nat.le_of_ble_eq_true rfl, Nat.le_of_ble_eq_true rfl⟩ rfl (ci := 6) rfl rfl rfl rfl (Nat.le_of_ble_eq_true rfl) ⟨Nat.le_of_ble_eq_true rfl, Nat.le_of_ble_eq_true rfl⟩ dX6_leaders_25 ?_
      refine zg_goto C 34 dX6_leaders_28 (by decide) ?_
      exact zg_iret C E dX6_leaders_34 (by rw [zA_y hl0 hzi, zn_nI (by omega)])
  · skip
    refine zg_sipush (v := (-1003)) C dX6_leaders_7 (by decide) ?_
    exact zg_iret C E dX6_leaders_10 ((zA_n (fun q => c_4 (hrl.mpr q))).symm)
theorem uX6_counted_6 : ∀ w ∈ u_ws RX6 TX6 21, w ∈ wsX6_counted := fun w h => List.mem_cons_of_mem _ (List.mem_append_right _ h)
theorem fX6_counted_6_3 : Cond.fieldLink RX6 59 (TX6 3).1 (TX6 3).2.1 (TX6 3).2.2.1 ∈ wsX6_counted := by decide +kernel
set_option maxHeartbeats 1000000 in
set_option maxRecDepth 100000 in
theorem c_X6_counted (l : Launch) (D : va_G) (cI : ClassId) (m0 mp mo mv mn my ml : Nat) (pg Of V Nf Yf Lf : Nat → Int32) (pn rc ln rk su rd : Nat) (sd bs bp sr y1 y2 y3 dz : Int32) (hh : Int64) (d : Nat) (hln : ln ≤ 10) (hd : d ≤ ln + 1) : zMr l D cI yX6_counted wsX6_counted { frames := 0, cells := 0, slots := 0, locals := 0 } [.ref m0, .int (zdn ln d)] [(m0, .inr (6, [.int (nI pn), .ref mp, .int (nI rc), .int (nI ln), .ref mo, .int sd, .ref mv, .int bs, .int bp, .int sr, .int y1, .int y2, .int y3, .ref mn, .ref my, .ref ml, .int (nI rk), .int dz, .int (nI su), .int (nI rd), .long hh])), (mp, .inl (cI, 56, .inl pg)), (mo, .inl (cI, 5, .inl Of)), (mv, .inl (cI, 4, .inl V)), (mn, .inl (cI, 5, .inl Nf)), (my, .inl (cI, 1024, .inl Yf)), (ml, .inl (cI, 32, .inl Lf))] (nI d) := by
  refine zr_ent (maxL := 2) (by decide) rfl (Nat.le_of_ble_eq_true rfl) (fun X C E => ?_)
  have C : zC X l D cI { frames := 0, cells := 0, slots := 0, locals := 0 } 2 false cX6_counted RX6 wsX6_counted := C
  refine zg_cv (lv' := [(0, .ref m0), (1, .int (zdn ln d))]) rfl rfl rfl ?_
  rcases Nat.lt_or_ge ln d with hz | hz
  · skip
    refine zg_cv (lv' := [(0, .ref m0), (1, .int (-1001))]) (congrArg (fun q9 => ([(0, .ref m0), (1, .int q9)] : List (Nat × Value))) (zdn_1 hz)) rfl rfl ?_
    refine zg_iload_n C 1 dX6_counted_0 rfl ?_
    refine zg_sipush (v := (-1001)) C dX6_counted_1 (by decide) ?_
    refine zg_icmp_ne C 16 dX6_counted_4 (by decide) (fun c_4 => by exact absurd rfl c_4) (fun c_4 => ?_)
    refine zg_aload_n C 0 dX6_counted_7 rfl ?_
    refine zg_get C 0 (ci := 6) (f := 3) rfl rfl uX6_counted_6 (by decide) fX6_counted_6_3 dX6_counted_8 rfl ?_
    refine zg_iconst (v := nI 1) C dX6_counted_11 (by decide) ?_
    refine zg_iadd C dX6_counted_12 (nI (ln + 1)) (nI_add _ _) ?_
    refine zg_goto C 17 dX6_counted_13 (by decide) ?_
    exact zg_iret C E dX6_counted_17 (congrArg nI (by omega))
  · skip
    refine zg_cv (lv' := [(0, .ref m0), (1, .int (nI d))]) (congrArg (fun q9 => ([(0, .ref m0), (1, .int q9)] : List (Nat × Value))) (zdn_2 hz)) rfl rfl ?_
    refine zg_iload_n C 1 dX6_counted_0 rfl ?_
    refine zg_sipush (v := (-1001)) C dX6_counted_1 (by decide) ?_
    refine zg_icmp_ne C 16 dX6_counted_4 (by decide) (fun c_4 => ?_) (fun c_4 => by exact absurd c_4 (zo_ne (by omega)))
    refine zg_iload_n C 1 dX6_counted_16 rfl ?_
    exact zg_iret C E dX6_counted_17 (rfl)
theorem uX6_betterNow_6 : ∀ w ∈ u_ws RX6 TX6 21, w ∈ wsX6_betterNow := fun w h => List.mem_cons_of_mem _ (List.mem_append_right _ h)
theorem fX6_betterNow_6_4 : Cond.fieldLink RX6 13 (TX6 4).1 (TX6 4).2.1 (TX6 4).2.2.1 ∈ wsX6_betterNow := by decide +kernel
theorem fX6_betterNow_6_17 : Cond.fieldLink RX6 84 (TX6 17).1 (TX6 17).2.1 (TX6 17).2.2.1 ∈ wsX6_betterNow := by decide +kernel
set_option maxHeartbeats 1000000 in
set_option maxRecDepth 100000 in
theorem c_X6_betterNow (l : Launch) (D : va_G) (cI : ClassId) (m0 mp mo mv mn my ml : Nat) (pg Of V Nf Yf Lf : Nat → Int32) (pn rc ln rk su rd : Nat) (sd bs bp sr y1 y2 y3 dz : Int32) (hh : Int64) (R : Nat → Nat) (i v : Nat) (hrc : rc ≤ 5) (hln : ln ≤ 10) (hO : ∀ i, i < rc → Of i = nI (R i)) (hRb : ∀ i, i < rc → R i < 1024) (e2 : dz = zdn ln (zdm R rc ln (2 ^ ln))) (hi : i < rc) (hv : v < 1024) : zMw l D cI yX6_betterNow wsX6_betterNow { frames := 3, cells := 0, slots := 0, locals := 67 } [.ref m0, .int (nI i), .int (nI v)] [(m0, .inr (6, [.int (nI pn), .ref mp, .int (nI rc), .int (nI ln), .ref mo, .int sd, .ref mv, .int bs, .int bp, .int sr, .int y1, .int y2, .int y3, .ref mn, .ref my, .ref ml, .int (nI rk), .int dz, .int (nI su), .int (nI rd), .long hh])), (mp, .inl (cI, 56, .inl pg)), (mo, .inl (cI, 5, .inl Of)), (mv, .inl (cI, 4, .inl V)), (mn, .inl (cI, 5, .inl Nf)), (my, .inl (cI, 1024, .inl Yf)), (ml, .inl (cI, 32, .inl Lf))] (fun v9 w9 => v9 = some (.int (nI (zdm (zset R i v) rc ln (2 ^ ln)) - nI (zdm R rc ln (2 ^ ln)))) ∧ w9 = [(m0, .inr (6, [.int (nI pn), .ref mp, .int (nI rc), .int (nI ln), .ref mo, .int sd, .ref mv, .int bs, .int bp, .int sr, .int y1, .int y2, .int y3, .ref mn, .ref my, .ref ml, .int (nI rk), .int dz, .int (nI su), .int (nI rd), .long hh])), (mp, .inl (cI, 56, .inl pg)), (mo, .inl (cI, 5, .inl Of)), (mv, .inl (cI, 4, .inl V)), (mn, .inl (cI, 5, .inl Nf)), (my, .inl (cI, 1024, .inl Yf)), (ml, .inl (cI, 32, .inl Lf))]) 0 0 := by
  refine zw_ent (maxL := 5) (by decide) rfl (Nat.le_of_ble_eq_true rfl) (fun X C E hin9 => ?_)
  have C : zC X l D cI { frames := 3, cells := 0, slots := 0, locals := 67 } 5 true cX6_betterNow RX6 wsX6_betterNow := C
  refine zg_cv (lv' := [(0, .ref m0), (1, .int (nI i)), (2, .int (nI v))]) rfl rfl rfl ?_
  refine zg_aload_n C 0 dX6_betterNow_0 rfl ?_
  refine zg_get C 0 (ci := 6) (f := 4) rfl rfl uX6_betterNow_6 (by decide) fX6_betterNow_6_4 dX6_betterNow_1 rfl ?_
  refine zg_iload_n C 1 dX6_betterNow_4 rfl ?_
  refine zg_iald C 2 rfl (by omega) (by decide) dX6_betterNow_5 (Of i) (rfl) ?_
  refine zg_istore_n C [1, 2, 3, 0] (lv' := [(0, .ref m0), (1, .int (nI i)), (2, .int (nI v)), (3, .int (Of i))]) dX6_betterNow_6 (by decide) rfl ?_
  refine zg_aload_n C 0 dX6_betterNow_7 rfl ?_
  refine zg_get C 0 (ci := 6) (f := 4) rfl rfl uX6_betterNow_6 (by decide) fX6_betterNow_6_4 dX6_betterNow_8 rfl ?_
  refine zg_iload_n C 1 dX6_betterNow_11 rfl ?_
  refine zg_iload_n C 2 dX6_betterNow_12 rfl ?_
  refine zg_iast C 2 (ws' := [(m0, .inr (6, [.int (nI pn), .ref mp, .int (nI rc), .int (nI ln), .ref mo, .int sd, .ref mv, .int bs, .int bp, .int sr, .int y1, .int y2, .int y3, .ref mn, .ref my, .ref ml, .int (nI rk), .int dz, .int (nI su), .int (nI rd), .long hh])), (mp, .inl (cI, 56, .inl pg)), (mo, .inl (cI, 5, .inl (upd Of i (nI v)))), (mv, .inl (cI, 4, .inl V)), (mn, .inl (cI, 5, .inl Nf)), (my, .inl (cI, 1024, .inl Yf)), (ml, .inl (cI, 32, .inl Lf))]) rfl (by omega) (by decide) dX6_betterNow_13 rfl ?_
  refine zg_aload_n C 0 dX6_betterNow_14 rfl ?_
  refine zg_callr (As := []) (st := []) C [0, 1, 2, 3, 4, 5, 6] 0 0 (c_X6_distanceNow l D cI m0 mp mo mv mn my ml pg (upd Of i (nI v)) V Nf Yf Lf pn rc ln rk su rd sd bs bp sr y1 y2 y3 dz hh (zset R i v) hrc hln (fun j hj => zset_arr hO j hj) (fun j hj => zset_b hRb hv j hj)) gX6_betterNow_X6_distanceNow (by decide +kernel) rfl ⟨rfl, rfl⟩ ⟨Nat.le_of_ble_eq_true rfl, Nat.le_of_ble_eq_true rfl⟩ rfl (ci := 6) rfl rfl rfl rfl (Nat.le_of_ble_eq_true rfl) ⟨Nat.le_of_ble_eq_true rfl, Nat.le_of_ble_eq_true rfl⟩ dX6_betterNow_15 ?_
  refine zg_istore C [1, 2, 3, 4, 0] (lv' := [(0, .ref m0), (1, .int (nI i)), (2, .int (nI v)), (3, .int (Of i)), (4, .int (zdn ln (zdm (zset R i v) rc ln (2 ^ ln))))]) dX6_betterNow_18 (by decide) rfl ?_
  refine zg_aload_n C 0 dX6_betterNow_20 rfl ?_
  refine zg_get C 0 (ci := 6) (f := 4) rfl rfl uX6_betterNow_6 (by decide) fX6_betterNow_6_4 dX6_betterNow_21 rfl ?_
  refine zg_iload_n C 1 dX6_betterNow_24 rfl ?_
  refine zg_iload_n C 3 dX6_betterNow_25 rfl ?_
  refine zg_iast C 2 (ws' := [(m0, .inr (6, [.int (nI pn), .ref mp, .int (nI rc), .int (nI ln), .ref mo, .int sd, .ref mv, .int bs, .int bp, .int sr, .int y1, .int y2, .int y3, .ref mn, .ref my, .ref ml, .int (nI rk), .int dz, .int (nI su), .int (nI rd), .long hh])), (mp, .inl (cI, 56, .inl pg)), (mo, .inl (cI, 5, .inl (upd (upd Of i (nI v)) i (Of i)))), (mv, .inl (cI, 4, .inl V)), (mn, .inl (cI, 5, .inl Nf)), (my, .inl (cI, 1024, .inl Yf)), (ml, .inl (cI, 32, .inl Lf))]) rfl (by omega) (by decide) dX6_betterNow_26 rfl ?_
  refine zg_cell 2 (ws' := [(m0, .inr (6, [.int (nI pn), .ref mp, .int (nI rc), .int (nI ln), .ref mo, .int sd, .ref mv, .int bs, .int bp, .int sr, .int y1, .int y2, .int y3, .ref mn, .ref my, .ref ml, .int (nI rk), .int dz, .int (nI su), .int (nI rd), .long hh])), (mp, .inl (cI, 56, .inl pg)), (mo, .inl (cI, 5, .inl Of)), (mv, .inl (cI, 4, .inl V)), (mn, .inl (cI, 5, .inl Nf)), (my, .inl (cI, 1024, .inl Yf)), (ml, .inl (cI, 32, .inl Lf))]) Of rfl (fun j _ => zback j) rfl ?_
  refine zg_aload_n C 0 dX6_betterNow_27 rfl ?_
  refine zg_iload C 4 dX6_betterNow_28 rfl ?_
  refine zg_callr (As := [.int (zdn ln (zdm (zset R i v) rc ln (2 ^ ln)))]) (st := []) C [0, 1, 2, 3, 4, 5, 6] 0 1 (c_X6_counted l D cI m0 mp mo mv mn my ml pg Of V Nf Yf Lf pn rc ln rk su rd sd bs bp sr y1 y2 y3 dz hh (zdm (zset R i v) rc ln (2 ^ ln)) hln (zdm_le _ _ _ _)) gX6_betterNow_X6_counted (by decide +kernel) rfl ⟨rfl, rfl⟩ ⟨Nat.le_of_ble_eq_true rfl, Nat.le_of_ble_eq_true rfl⟩ rfl (ci := 6) rfl rfl rfl rfl (Nat.le_of_ble_eq_true rfl) ⟨Nat.le_of_ble_eq_true rfl, Nat.le_of_ble_eq_true rfl⟩ dX6_betterNow_30 ?_
  refine zg_aload_n C 0 dX6_betterNow_33 rfl ?_
  refine zg_aload_n C 0 dX6_betterNow_34 rfl ?_
  refine zg_get C 0 (ci := 6) (f := 17) rfl rfl uX6_betterNow_6 (by decide) fX6_betterNow_6_17 dX6_betterNow_35 rfl ?_
  refine zg_cv (st' := [.int (zdn ln (zdm R rc ln (2 ^ ln))), .ref m0, .int (nI (zdm (zset R i v) rc ln (2 ^ ln)))]) rfl (congrArg (fun q9 => ([.int q9, .ref m0, .int (nI (zdm (zset R i v) rc ln (2 ^ ln)))] : List Value)) (e2)) rfl ?_
  refine zg_callr (As := [.int (zdn ln (zdm R rc ln (2 ^ ln)))]) (st := [.int (nI (zdm (zset R i v) rc ln (2 ^ ln)))]) C [0, 1, 2, 3, 4, 5, 6] 0 1 (c_X6_counted l D cI m0 mp mo mv mn my ml pg Of V Nf Yf Lf pn rc ln rk su rd sd bs bp sr y1 y2 y3 dz hh (zdm R rc ln (2 ^ ln)) hln (zdm_le _ _ _ _)) gX6_betterNow_X6_counted (by decide +kernel) rfl ⟨rfl, rfl⟩ ⟨Nat.le_of_ble_eq_true rfl, Nat.le_of_ble_eq_true rfl⟩ rfl (ci := 6) rfl rfl rfl rfl (Nat.le_of_ble_eq_true rfl) ⟨Nat.le_of_ble_eq_true rfl, Nat.le_of_ble_eq_true rfl⟩ dX6_betterNow_38 ?_
  refine zg_isub C dX6_betterNow_41 (nI (zdm (zset R i v) rc ln (2 ^ ln)) - nI (zdm R rc ln (2 ^ ln))) (rfl) ?_
  exact zg_wiret C E dX6_betterNow_42 (⟨rfl, rfl⟩)
theorem uX6_better_6 : ∀ w ∈ u_ws RX6 TX6 21, w ∈ wsX6_better := fun w h => List.mem_cons_of_mem _ (List.mem_append_right _ h)
theorem fX6_better_6_2 : Cond.fieldLink RX6 56 (TX6 2).1 (TX6 2).2.1 (TX6 2).2.2.1 ∈ wsX6_better := by decide +kernel
set_option maxHeartbeats 1000000 in
set_option maxRecDepth 100000 in
theorem c_X6_better (l : Launch) (D : va_G) (cI : ClassId) (m0 mp mo mv mn my ml : Nat) (pg Of V Nf Yf Lf : Nat → Int32) (pn rc ln rk su rd : Nat) (sd bs bp sr y1 y2 y3 dz : Int32) (hh : Int64) (R : Nat → Nat) (x y : Int32) (hM : zMm R Of Yf Lf rc ln rk dz su rd) (hln : ln ≤ 10) (hrc : rc ≤ 5) (hrl : 0 < rc ↔ 0 < ln) : zMw l D cI yX6_better wsX6_better { frames := 4, cells := 0, slots := 0, locals := 91 } [.ref m0, .int x, .int y] [(m0, .inr (6, [.int (nI pn), .ref mp, .int (nI rc), .int (nI ln), .ref mo, .int sd, .ref mv, .int bs, .int bp, .int sr, .int y1, .int y2, .int y3, .ref mn, .ref my, .ref ml, .int (nI rk), .int dz, .int (nI su), .int (nI rd), .long hh])), (mp, .inl (cI, 56, .inl pg)), (mo, .inl (cI, 5, .inl Of)), (mv, .inl (cI, 4, .inl V)), (mn, .inl (cI, 5, .inl Nf)), (my, .inl (cI, 1024, .inl Yf)), (ml, .inl (cI, 32, .inl Lf))] (fun v9 w9 => v9 = some (.int (zA ln (zin x rc ∧ zin y (2 ^ ln)) (nI (zdm (zset R (zn x) (zn y)) rc ln (2 ^ ln)) - nI (zdm R rc ln (2 ^ ln))))) ∧ w9 = [(m0, .inr (6, [.int (nI pn), .ref mp, .int (nI rc), .int (nI ln), .ref mo, .int sd, .ref mv, .int bs, .int bp, .int sr, .int y1, .int y2, .int y3, .ref mn, .ref my, .ref ml, .int (nI rk), .int dz, .int (nI su), .int (nI rd), .long hh])), (mp, .inl (cI, 56, .inl pg)), (mo, .inl (cI, 5, .inl Of)), (mv, .inl (cI, 4, .inl V)), (mn, .inl (cI, 5, .inl Nf)), (my, .inl (cI, 1024, .inl Yf)), (ml, .inl (cI, 32, .inl Lf))]) 0 0 := by
  refine zw_ent (maxL := 3) (by decide) rfl (Nat.le_of_ble_eq_true rfl) (fun X C E hin9 => ?_)
  have C : zC X l D cI { frames := 4, cells := 0, slots := 0, locals := 91 } 3 true cX6_better RX6 wsX6_better := C
  refine zg_cv (lv' := [(0, .ref m0), (1, .int x), (2, .int y)]) rfl rfl rfl ?_
  refine zg_aload_n C 0 dX6_better_0 rfl ?_
  refine zg_callr (As := []) (st := []) C [0, 1, 2, 3, 4, 5, 6] 0 0 (c_X6_isThere l D cI m0 mp mo mv mn my ml pg Of V Nf Yf Lf pn rc ln rk su rd sd bs bp sr y1 y2 y3 dz hh hrc) gX6_better_X6_isThere (by decide +kernel) rfl ⟨rfl, rfl⟩ ⟨Nat.le_of_ble_eq_true rfl, Nat.le_of_ble_eq_true rfl⟩ rfl (ci := 6) rfl rfl rfl rfl (Nat.le_of_ble_eq_true rfl) ⟨Nat.le_of_ble_eq_true rfl, Nat.le_of_ble_eq_true rfl⟩ dX6_better_1 ?_
  refine zp_if_ne C 11 dX6_better_4 (by decide) (fun c_4 => ?_) (fun c_4 => ?_)
  · skip
    have hl0 := hrl.mp c_4
    obtain ⟨m1, m3, hO, hRb, hY, hL, e1, e2, e3, e4⟩ := hM hl0
    have q0 := zpw hln
    have q1 := zpw0 ln
    have q5 := zpw5 hrc
    refine zg_iload_n C 1 dX6_better_11 rfl ?_
    refine zg_iconst (v := nI 0) C dX6_better_12 (by decide) ?_
    refine zg_aload_n C 0 dX6_better_13 rfl ?_
    refine zg_get C 0 (ci := 6) (f := 2) rfl rfl uX6_better_6 (by decide) fX6_better_6_2 dX6_better_14 rfl ?_
    refine zg_iconst (v := nI 1) C dX6_better_17 (by decide) ?_
    refine zg_isub C dX6_better_18 (nI (rc - 1)) (pk_sub (by omega)) ?_
    refine zg_calls (As := [.int x, .int (nI 0), .int (nI (rc - 1))]) (st := []) C [] 3 (c_X6_within l D cI x (nI 0) (nI (rc - 1)) ) gX6_better_X6_within (by decide +kernel) rfl ⟨rfl, rfl⟩ ⟨Nat.le_of_ble_eq_true rfl, Nat.le_of_ble_eq_true rfl⟩ rfl rfl rfl (Nat.le_of_ble_eq_true rfl) ⟨Nat.le_of_ble_eq_true rfl, Nat.le_of_ble_eq_true rfl⟩ dX6_better_19 ?_
    refine zp_if_eq C 42 dX6_better_22 (by decide) (fun c_22 => ?_) (fun c_22 => ?_)
    · skip
      refine zg_sipush (v := (-1002)) C dX6_better_42 (by decide) ?_
      exact zg_wiret C E dX6_better_45 (⟨by rw [zA_o hl0 (fun q => c_22 ((zin_le (by omega) (by omega)).mpr q.1))], rfl⟩)
    · skip
      refine zg_aload_n C 0 dX6_better_25 rfl ?_
      refine zg_iload_n C 2 dX6_better_26 rfl ?_
      refine zg_callr (As := [.int y]) (st := []) C [0, 1, 2, 3, 4, 5, 6] 0 1 (c_X6_isWord l D cI m0 mp mo mv mn my ml pg Of V Nf Yf Lf pn rc ln rk su rd sd bs bp sr y1 y2 y3 dz hh y hln) gX6_better_X6_isWord (by decide +kernel) rfl ⟨rfl, rfl⟩ ⟨Nat.le_of_ble_eq_true rfl, Nat.le_of_ble_eq_true rfl⟩ rfl (ci := 6) rfl rfl rfl rfl (Nat.le_of_ble_eq_true rfl) ⟨Nat.le_of_ble_eq_true rfl, Nat.le_of_ble_eq_true rfl⟩ dX6_better_27 ?_
      refine zp_if_eq C 42 dX6_better_30 (by decide) (fun c_30 => ?_) (fun c_30 => ?_)
      · skip
        refine zg_sipush (v := (-1002)) C dX6_better_42 (by decide) ?_
        exact zg_wiret C E dX6_better_45 (⟨by rw [zA_o hl0 (fun q => c_30 q.2)], rfl⟩)
      · skip
        have hzi : zin x rc := (zin_le (by omega) (by omega)).mp c_22
        obtain ⟨i, hi, rfl⟩ := zin_of hzi (by omega)
        obtain ⟨w, hw, rfl⟩ := zin_of c_30 (by omega)
        refine zg_aload_n C 0 dX6_better_33 rfl ?_
        refine zg_iload_n C 1 dX6_better_34 rfl ?_
        refine zg_iload_n C 2 dX6_better_35 rfl ?_
        refine zg_callw (As := [.int (nI i), .int (nI w)]) (st := []) (wo := []) C [0, 1, 2, 3, 4, 5, 6] [] 0 2 (c_X6_betterNow l D cI m0 mp mo mv mn my ml pg Of V Nf Yf Lf pn rc ln rk su rd sd bs bp sr y1 y2 y3 dz hh R i w hrc hln hO hRb (e2) (by omega) (by omega)) gX6_better_X6_betterNow (by decide +kernel) rfl ⟨rfl, rfl⟩ ⟨Nat.le_of_ble_eq_true rfl, Nat.le_of_ble_eq_true rfl⟩ rfl rfl rfl rfl (by decide) (ci := 6) rfl rfl rfl rfl (Nat.le_of_ble_eq_true rfl) ⟨Nat.le_of_ble_eq_true rfl, Nat.le_of_ble_eq_true rfl⟩ dX6_better_36 (fun v9 w9 hw9 => ?_)
        obtain ⟨rfl, rfl⟩ := hw9
        refine zg_cv (k' := 0) (n' := 0) (st' := [.int (nI (zdm (zset R i w) rc ln (2 ^ ln)) - nI (zdm R rc ln (2 ^ ln)))]) (ws' := [(m0, .inr (6, [.int (nI pn), .ref mp, .int (nI rc), .int (nI ln), .ref mo, .int sd, .ref mv, .int bs, .int bp, .int sr, .int y1, .int y2, .int y3, .ref mn, .ref my, .ref ml, .int (nI rk), .int dz, .int (nI su), .int (nI rd), .long hh])), (mp, .inl (cI, 56, .inl pg)), (mo, .inl (cI, 5, .inl Of)), (mv, .inl (cI, 4, .inl V)), (mn, .inl (cI, 5, .inl Nf)), (my, .inl (cI, 1024, .inl Yf)), (ml, .inl (cI, 32, .inl Lf))]) rfl rfl rfl ?_
        refine zg_goto C 45 dX6_better_39 (by decide) ?_
        exact zg_wiret C E dX6_better_45 (⟨by rw [zA_y hl0 ⟨hzi, c_30⟩, zn_nI (by omega), zn_nI (by omega)], rfl⟩)
  · skip
    refine zg_sipush (v := (-1003)) C dX6_better_7 (by decide) ?_
    exact zg_wiret C E dX6_better_10 (⟨by rw [zA_n (fun q => c_4 (hrl.mpr q))], rfl⟩)
