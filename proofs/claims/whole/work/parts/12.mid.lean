/-! SUMS made new; the constructors -/
theorem uX3_become_3 : ∀ w ∈ u_ws RX3 TX3 9, w ∈ wsX3_become := fun w h => List.mem_cons_of_mem _ (List.mem_append_left _ (List.mem_append_right _ h))
theorem fX3_become_3_3 : Cond.fieldLink RX3 21 (TX3 3).1 (TX3 3).2.1 (TX3 3).2.2.1 ∈ wsX3_become := by decide +kernel
theorem fX3_become_3_4 : Cond.fieldLink RX3 25 (TX3 4).1 (TX3 4).2.1 (TX3 4).2.2.1 ∈ wsX3_become := by decide +kernel
theorem fX3_become_3_0 : Cond.fieldLink RX3 9 (TX3 0).1 (TX3 0).2.1 (TX3 0).2.2.1 ∈ wsX3_become := by decide +kernel
theorem fX3_become_3_6 : Cond.fieldLink RX3 31 (TX3 6).1 (TX3 6).2.1 (TX3 6).2.2.1 ∈ wsX3_become := by decide +kernel
theorem fX3_become_3_7 : Cond.fieldLink RX3 34 (TX3 7).1 (TX3 7).2.1 (TX3 7).2.2.1 ∈ wsX3_become := by decide +kernel
set_option maxHeartbeats 1000000 in
set_option maxRecDepth 100000 in
theorem c_X3_become (l : Launch) (D : va_G) (cI : ClassId) (h0 a0 a1 a2 : Nat) (Rf Lf Wf : Nat → Int32) (rc ln rk ds su rd : Nat) (r0 b0 : Nat) (rw sg lg : Nat) (R : Nat → Nat) (hk : zrok (rw, sg, lg, R)) (hw : zwh rw sg lg = true) : zMw l D cI yX3_become wsX3_become { frames := 4, cells := 0, slots := 0, locals := 85 } [.ref h0, .ref r0] [(h0, .inr (3, [.ref a0, .ref a1, .ref a2, .int (nI rc), .int (nI ln), .int (nI rk), .int (nI ds), .int (nI su), .int (nI rd)])), (a0, .inl (cI, 5, .inl Rf)), (a1, .inl (cI, 32, .inl Lf)), (a2, .inl (cI, 11, .inl Wf)), (r0, .inr (2, [.ref b0, .int (nI rw), .int (nI sg), .int (nI lg)])), (b0, .inl (cI, 5, .inl (fun j => nI (R j))))] (fun v9 w9 => v9 = none ∧ w9 = [(h0, .inr (3, [.ref a0, .ref a1, .ref a2, .int (nI (rw + 1)), .int (nI sg), .int (nI (zrk R (rw + 1) sg)), .int (nI (zdm R (rw + 1) sg (2 ^ sg))), .int (nI (zsu sg (zdm R (rw + 1) sg (2 ^ sg)))), .int (nI (zrad (zld R (rw + 1) (2 ^ sg)) 32))])), (a0, .inl (cI, 5, .inl (fun j => nI (R j)))), (a1, .inl (cI, 32, .inl (fun s => zo (zld R (rw + 1) (2 ^ sg) s)))), (a2, .inl (cI, 11, .inl (fun j => nI (zct (zhw (zld R (rw + 1) (2 ^ sg)) j) 32)))), (r0, .inr (2, [.ref b0, .int (nI rw), .int (nI sg), .int (nI lg)])), (b0, .inl (cI, 5, .inl (fun j => nI (R j))))]) 0 0 := by
  refine zw_ent (maxL := 3) (by decide) rfl (Nat.le_of_ble_eq_true rfl) (fun X C E hin9 => ?_)
  have C : zC X l D cI { frames := 4, cells := 0, slots := 0, locals := 85 } 3 true cX3_become RX3 wsX3_become := C
  refine zg_cv (lv' := [(0, .ref h0), (1, .ref r0)]) rfl rfl rfl ?_
  obtain ⟨g1, hln, hrc, hRw⟩ := zrok_whole hk hw
  have q0 := zpw hln
  have q5 := zpw5 hrc
  have hRb : ∀ i, i < rw + 1 → R i < 1024 := fun i hi => Nat.lt_of_lt_of_le (hRw i hi) q0
  refine zg_aload_n C 0 dX3_become_0 rfl ?_
  refine zg_aload_n C 1 dX3_become_1 rfl ?_
  refine zg_callr (As := []) (st := [.ref h0]) C [4, 5] 4 0 (c_X2_rowsRead l D cI r0 b0 rw sg lg R ) gX3_become_X2_rowsRead (by decide +kernel) rfl ⟨rfl, rfl⟩ ⟨Nat.le_of_ble_eq_true rfl, Nat.le_of_ble_eq_true rfl⟩ rfl (ci := 2) rfl rfl rfl rfl (Nat.le_of_ble_eq_true rfl) ⟨Nat.le_of_ble_eq_true rfl, Nat.le_of_ble_eq_true rfl⟩ dX3_become_2 ?_
  refine zg_put C 0 (ci := 3) (f := 3) (ws' := [(h0, .inr (3, [.ref a0, .ref a1, .ref a2, .int (nI (rw + 1)), .int (nI ln), .int (nI rk), .int (nI ds), .int (nI su), .int (nI rd)])), (a0, .inl (cI, 5, .inl Rf)), (a1, .inl (cI, 32, .inl Lf)), (a2, .inl (cI, 11, .inl Wf)), (r0, .inr (2, [.ref b0, .int (nI rw), .int (nI sg), .int (nI lg)])), (b0, .inl (cI, 5, .inl (fun j => nI (R j))))]) rfl rfl uX3_become_3 tyX3_ok nmX3 (by decide) fX3_become_3_3 rfl rfl rfl rfl (Nat.le_of_ble_eq_true rfl) dX3_become_5 rfl ?_
  refine zg_aload_n C 0 dX3_become_8 rfl ?_
  refine zg_aload_n C 1 dX3_become_9 rfl ?_
  refine zg_callr (As := []) (st := [.ref h0]) C [4, 5] 4 0 (c_X2_signsOfRow l D cI r0 b0 rw sg lg R ) gX3_become_X2_signsOfRow (by decide +kernel) rfl ⟨rfl, rfl⟩ ⟨Nat.le_of_ble_eq_true rfl, Nat.le_of_ble_eq_true rfl⟩ rfl (ci := 2) rfl rfl rfl rfl (Nat.le_of_ble_eq_true rfl) ⟨Nat.le_of_ble_eq_true rfl, Nat.le_of_ble_eq_true rfl⟩ dX3_become_10 ?_
  refine zg_put C 0 (ci := 3) (f := 4) (ws' := [(h0, .inr (3, [.ref a0, .ref a1, .ref a2, .int (nI (rw + 1)), .int (nI sg), .int (nI rk), .int (nI ds), .int (nI su), .int (nI rd)])), (a0, .inl (cI, 5, .inl Rf)), (a1, .inl (cI, 32, .inl Lf)), (a2, .inl (cI, 11, .inl Wf)), (r0, .inr (2, [.ref b0, .int (nI rw), .int (nI sg), .int (nI lg)])), (b0, .inl (cI, 5, .inl (fun j => nI (R j))))]) rfl rfl uX3_become_3 tyX3_ok nmX3 (by decide) fX3_become_3_4 rfl rfl rfl rfl (Nat.le_of_ble_eq_true rfl) dX3_become_13 rfl ?_
  refine zg_cell 1 (ws' := [(h0, .inr (3, [.ref a0, .ref a1, .ref a2, .int (nI (rw + 1)), .int (nI sg), .int (nI rk), .int (nI ds), .int (nI su), .int (nI rd)])), (a0, .inl (cI, 5, .inl (fun j => if j < 0 then nI (R j) else Rf j))), (a1, .inl (cI, 32, .inl Lf)), (a2, .inl (cI, 11, .inl Wf)), (r0, .inr (2, [.ref b0, .int (nI rw), .int (nI sg), .int (nI lg)])), (b0, .inl (cI, 5, .inl (fun j => nI (R j))))]) (fun j => if j < 0 then nI (R j) else Rf j) rfl (fun j _ => by rw [if_neg (Nat.not_lt_zero j)]) rfl ?_
  refine zg_iconst (v := nI 0) C dX3_become_16 (by decide) ?_
  refine zg_istore_n C [1, 2, 0] (lv' := [(0, .ref h0), (1, .ref r0), (2, .int (nI 0))]) dX3_become_17 (by decide) rfl ?_
  have L_18 : ∀ i, i ≤ 5 → zG X 0 0 [(0, .ref h0), (1, .ref r0), (2, .int (nI i))] [] [(h0, .inr (3, [.ref a0, .ref a1, .ref a2, .int (nI (rw + 1)), .int (nI sg), .int (nI rk), .int (nI ds), .int (nI su), .int (nI rd)])), (a0, .inl (cI, 5, .inl (fun j => if j < i then nI (R j) else Rf j))), (a1, .inl (cI, 32, .inl Lf)), (a2, .inl (cI, 11, .inl Wf)), (r0, .inr (2, [.ref b0, .int (nI rw), .int (nI sg), .int (nI lg)])), (b0, .inl (cI, 5, .inl (fun j => nI (R j))))] 18 := by
    refine zg_dn (fun i hi ih_18  => ?_)
    refine zg_iload_n C 2 dX3_become_18 rfl ?_
    refine zg_aload_n C 0 dX3_become_19 rfl ?_
    refine zg_get C 0 (ci := 3) (f := 0) rfl rfl uX3_become_3 (by decide) fX3_become_3_0 dX3_become_20 rfl ?_
    refine zg_alen C 1 rfl dX3_become_23 ?_
    refine zn_icmp_ge C 44 (by omega) (by omega) dX3_become_24 (by decide) (fun c_24 => ?_) (fun c_24 => ?_)
    · skip
      have e9_44 : 5 = i := by omega
      subst e9_44
      refine zg_cell 1 (ws' := [(h0, .inr (3, [.ref a0, .ref a1, .ref a2, .int (nI (rw + 1)), .int (nI sg), .int (nI rk), .int (nI ds), .int (nI su), .int (nI rd)])), (a0, .inl (cI, 5, .inl (fun j => nI (R j)))), (a1, .inl (cI, 32, .inl Lf)), (a2, .inl (cI, 11, .inl Wf)), (r0, .inr (2, [.ref b0, .int (nI rw), .int (nI sg), .int (nI lg)])), (b0, .inl (cI, 5, .inl (fun j => nI (R j))))]) (fun j => nI (R j)) rfl (fun j hj => by show (if j < 5 then nI (R j) else Rf j) = nI (R j); rw [if_pos hj]) rfl ?_
      refine zg_aload_n C 0 dX3_become_44 rfl ?_
      refine zg_callw (As := []) (st := []) (wo := [(r0, .inr (2, [.ref b0, .int (nI rw), .int (nI sg), .int (nI lg)])), (b0, .inl (cI, 5, .inl (fun j => nI (R j))))]) C [0, 1, 2, 3] [4, 5] 0 0 (c_X3_findLeaders l D cI h0 a0 a1 a2 (fun j => nI (R j)) Lf Wf (rw + 1) sg rk ds su rd R (by omega) (by omega) (fun i _ => rfl) (hRb)) gX3_become_X3_findLeaders (by decide +kernel) rfl ⟨rfl, rfl⟩ ⟨Nat.le_of_ble_eq_true rfl, Nat.le_of_ble_eq_true rfl⟩ rfl rfl rfl rfl (by decide) (ci := 3) rfl rfl rfl rfl (Nat.le_of_ble_eq_true rfl) ⟨Nat.le_of_ble_eq_true rfl, Nat.le_of_ble_eq_true rfl⟩ dX3_become_45 (fun v9 w9 hw9 => ?_)
      obtain ⟨rfl, rfl⟩ := hw9
      refine zg_cv (k' := 0) (n' := 0) (st' := []) (ws' := [(r0, .inr (2, [.ref b0, .int (nI rw), .int (nI sg), .int (nI lg)])), (b0, .inl (cI, 5, .inl (fun j => nI (R j)))), (h0, .inr (3, [.ref a0, .ref a1, .ref a2, .int (nI (rw + 1)), .int (nI sg), .int (nI rk), .int (nI ds), .int (nI su), .int (nI rd)])), (a0, .inl (cI, 5, .inl (fun j => nI (R j)))), (a1, .inl (cI, 32, .inl (fun s => zo (zld R (rw + 1) (2 ^ sg) s)))), (a2, .inl (cI, 11, .inl Wf))]) rfl rfl rfl ?_
      refine zg_perm [2, 3, 4, 5, 0, 1] (ws' := [(h0, .inr (3, [.ref a0, .ref a1, .ref a2, .int (nI (rw + 1)), .int (nI sg), .int (nI rk), .int (nI ds), .int (nI su), .int (nI rd)])), (a0, .inl (cI, 5, .inl (fun j => nI (R j)))), (a1, .inl (cI, 32, .inl (fun s => zo (zld R (rw + 1) (2 ^ sg) s)))), (a2, .inl (cI, 11, .inl Wf)), (r0, .inr (2, [.ref b0, .int (nI rw), .int (nI sg), .int (nI lg)])), (b0, .inl (cI, 5, .inl (fun j => nI (R j))))]) rfl rfl ?_
      refine zg_aload_n C 0 dX3_become_48 rfl ?_
      refine zg_callw (As := []) (st := []) (wo := [(r0, .inr (2, [.ref b0, .int (nI rw), .int (nI sg), .int (nI lg)])), (b0, .inl (cI, 5, .inl (fun j => nI (R j))))]) C [0, 1, 2, 3] [4, 5] 0 0 (c_X3_countLeaders l D cI h0 a0 a1 a2 (fun j => nI (R j)) (fun s => zo (zld R (rw + 1) (2 ^ sg) s)) Wf (rw + 1) sg rk ds su rd (zld R (rw + 1) (2 ^ sg)) (fun y _ => rfl) (fun y v h => by have := (zld_some h).1; omega) (show 0 < zct (zim R (rw + 1) (2 ^ sg)) 32 from by rw [(zrk_pow R sg hrc).1]; exact zpw0 _)) gX3_become_X3_countLeaders (by decide +kernel) rfl ⟨rfl, rfl⟩ ⟨Nat.le_of_ble_eq_true rfl, Nat.le_of_ble_eq_true rfl⟩ rfl rfl rfl rfl (by decide) (ci := 3) rfl rfl rfl rfl (Nat.le_of_ble_eq_true rfl) ⟨Nat.le_of_ble_eq_true rfl, Nat.le_of_ble_eq_true rfl⟩ dX3_become_49 (fun v9 w9 hw9 => ?_)
      obtain ⟨rfl, rfl⟩ := hw9
      refine zg_cv (k' := 0) (n' := 0) (st' := []) (ws' := [(r0, .inr (2, [.ref b0, .int (nI rw), .int (nI sg), .int (nI lg)])), (b0, .inl (cI, 5, .inl (fun j => nI (R j)))), (h0, .inr (3, [.ref a0, .ref a1, .ref a2, .int (nI (rw + 1)), .int (nI sg), .int (nI (zpc (zct (fun s => ((zld R (rw + 1) (2 ^ sg)) s).isSome) 32 - 1))), .int (nI ds), .int (nI su), .int (nI (zrad (zld R (rw + 1) (2 ^ sg)) 32))])), (a0, .inl (cI, 5, .inl (fun j => nI (R j)))), (a1, .inl (cI, 32, .inl (fun s => zo (zld R (rw + 1) (2 ^ sg) s)))), (a2, .inl (cI, 11, .inl (fun j => nI (zct (zhw (zld R (rw + 1) (2 ^ sg)) j) 32))))]) rfl rfl rfl ?_
      refine zg_perm [2, 3, 4, 5, 0, 1] (ws' := [(h0, .inr (3, [.ref a0, .ref a1, .ref a2, .int (nI (rw + 1)), .int (nI sg), .int (nI (zpc (zct (fun s => ((zld R (rw + 1) (2 ^ sg)) s).isSome) 32 - 1))), .int (nI ds), .int (nI su), .int (nI (zrad (zld R (rw + 1) (2 ^ sg)) 32))])), (a0, .inl (cI, 5, .inl (fun j => nI (R j)))), (a1, .inl (cI, 32, .inl (fun s => zo (zld R (rw + 1) (2 ^ sg) s)))), (a2, .inl (cI, 11, .inl (fun j => nI (zct (zhw (zld R (rw + 1) (2 ^ sg)) j) 32)))), (r0, .inr (2, [.ref b0, .int (nI rw), .int (nI sg), .int (nI lg)])), (b0, .inl (cI, 5, .inl (fun j => nI (R j))))]) rfl rfl ?_
      refine zg_cv (ws' := [(h0, .inr (3, [.ref a0, .ref a1, .ref a2, .int (nI (rw + 1)), .int (nI sg), .int (nI (zrk R (rw + 1) sg)), .int (nI ds), .int (nI su), .int (nI (zrad (zld R (rw + 1) (2 ^ sg)) 32))])), (a0, .inl (cI, 5, .inl (fun j => nI (R j)))), (a1, .inl (cI, 32, .inl (fun s => zo (zld R (rw + 1) (2 ^ sg) s)))), (a2, .inl (cI, 11, .inl (fun j => nI (zct (zhw (zld R (rw + 1) (2 ^ sg)) j) 32)))), (r0, .inr (2, [.ref b0, .int (nI rw), .int (nI sg), .int (nI lg)])), (b0, .inl (cI, 5, .inl (fun j => nI (R j))))]) rfl rfl (rfl) ?_
      refine zg_aload_n C 0 dX3_become_52 rfl ?_
      refine zg_aload_n C 0 dX3_become_53 rfl ?_
      refine zg_callr (As := []) (st := [.ref h0]) C [0, 1, 2, 3] 0 0 (c_X3_leastWeightWithoutSyndrome l D cI h0 a0 a1 a2 (fun j => nI (R j)) (fun s => zo (zld R (rw + 1) (2 ^ sg) s)) (fun j => nI (zct (zhw (zld R (rw + 1) (2 ^ sg)) j) 32)) (rw + 1) sg (zrk R (rw + 1) sg) ds su (zrad (zld R (rw + 1) (2 ^ sg)) 32) R (by omega) (by omega) (fun i _ => rfl) (hRb)) gX3_become_X3_leastWeightWithoutSyndrome (by decide +kernel) rfl ⟨rfl, rfl⟩ ⟨Nat.le_of_ble_eq_true rfl, Nat.le_of_ble_eq_true rfl⟩ rfl (ci := 3) rfl rfl rfl rfl (Nat.le_of_ble_eq_true rfl) ⟨Nat.le_of_ble_eq_true rfl, Nat.le_of_ble_eq_true rfl⟩ dX3_become_54 ?_
      have q7 := zdm_le R (rw + 1) sg (2 ^ sg)
      have q8 := zdm_pos R (rw + 1) hln
      refine zg_put C 0 (ci := 3) (f := 6) (ws' := [(h0, .inr (3, [.ref a0, .ref a1, .ref a2, .int (nI (rw + 1)), .int (nI sg), .int (nI (zrk R (rw + 1) sg)), .int (nI (zdm R (rw + 1) sg (2 ^ sg))), .int (nI su), .int (nI (zrad (zld R (rw + 1) (2 ^ sg)) 32))])), (a0, .inl (cI, 5, .inl (fun j => nI (R j)))), (a1, .inl (cI, 32, .inl (fun s => zo (zld R (rw + 1) (2 ^ sg) s)))), (a2, .inl (cI, 11, .inl (fun j => nI (zct (zhw (zld R (rw + 1) (2 ^ sg)) j) 32)))), (r0, .inr (2, [.ref b0, .int (nI rw), .int (nI sg), .int (nI lg)])), (b0, .inl (cI, 5, .inl (fun j => nI (R j))))]) rfl rfl uX3_become_3 tyX3_ok nmX3 (by decide) fX3_become_3_6 rfl rfl rfl rfl (Nat.le_of_ble_eq_true rfl) dX3_become_57 rfl ?_
      refine zg_aload_n C 0 dX3_become_60 rfl ?_
      refine zg_aload_n C 0 dX3_become_61 rfl ?_
      refine zg_get C 0 (ci := 3) (f := 6) rfl rfl uX3_become_3 (by decide) fX3_become_3_6 dX3_become_62 rfl ?_
      refine zg_aload_n C 0 dX3_become_65 rfl ?_
      refine zg_get C 0 (ci := 3) (f := 4) rfl rfl uX3_become_3 (by decide) fX3_become_3_4 dX3_become_66 rfl ?_
      refine zn_icmp_le C 79 (by omega) (by omega) dX3_become_69 (by decide) (fun c_69 => ?_) (fun c_69 => ?_)
      · skip
        refine zg_aload_n C 0 dX3_become_79 rfl ?_
        refine zg_get C 0 (ci := 3) (f := 6) rfl rfl uX3_become_3 (by decide) fX3_become_3_6 dX3_become_80 rfl ?_
        refine zg_iconst (v := nI 1) C dX3_become_83 (by decide) ?_
        refine zg_isub C dX3_become_84 (nI ((zdm R (rw + 1) sg (2 ^ sg)) - 1)) (pk_sub (by omega)) ?_
        refine zg_iconst (v := nI 2) C dX3_become_85 (by decide) ?_
        refine zg_idiv C dX3_become_86 (by decide) (nI ((zdm R (rw + 1) sg (2 ^ sg) - 1) / 2)) (zi_div2 (by omega)) ?_
        refine zg_cv (st' := [.int (nI (zsu sg (zdm R (rw + 1) sg (2 ^ sg)))), .ref h0]) rfl (congrArg (fun q9 => ([.int (nI q9), .ref h0] : List Value)) (zsu_2 (by omega))) rfl ?_
        refine zg_put C 0 (ci := 3) (f := 7) (ws' := [(h0, .inr (3, [.ref a0, .ref a1, .ref a2, .int (nI (rw + 1)), .int (nI sg), .int (nI (zrk R (rw + 1) sg)), .int (nI (zdm R (rw + 1) sg (2 ^ sg))), .int (nI (zsu sg (zdm R (rw + 1) sg (2 ^ sg)))), .int (nI (zrad (zld R (rw + 1) (2 ^ sg)) 32))])), (a0, .inl (cI, 5, .inl (fun j => nI (R j)))), (a1, .inl (cI, 32, .inl (fun s => zo (zld R (rw + 1) (2 ^ sg) s)))), (a2, .inl (cI, 11, .inl (fun j => nI (zct (zhw (zld R (rw + 1) (2 ^ sg)) j) 32)))), (r0, .inr (2, [.ref b0, .int (nI rw), .int (nI sg), .int (nI lg)])), (b0, .inl (cI, 5, .inl (fun j => nI (R j))))]) rfl rfl uX3_become_3 tyX3_ok nmX3 (by decide) fX3_become_3_7 rfl rfl rfl rfl (Nat.le_of_ble_eq_true rfl) dX3_become_87 rfl ?_
        exact zg_wvret C E dX3_become_90 (⟨rfl, rfl⟩)
      · skip
        refine zg_aload_n C 0 dX3_become_72 rfl ?_
        refine zg_get C 0 (ci := 3) (f := 4) rfl rfl uX3_become_3 (by decide) fX3_become_3_4 dX3_become_73 rfl ?_
        refine zg_goto C 87 dX3_become_76 (by decide) ?_
        refine zg_cv (st' := [.int (nI (zsu sg (zdm R (rw + 1) sg (2 ^ sg)))), .ref h0]) rfl (congrArg (fun q9 => ([.int (nI q9), .ref h0] : List Value)) (zsu_1 c_69)) rfl ?_
        refine zg_put C 0 (ci := 3) (f := 7) (ws' := [(h0, .inr (3, [.ref a0, .ref a1, .ref a2, .int (nI (rw + 1)), .int (nI sg), .int (nI (zrk R (rw + 1) sg)), .int (nI (zdm R (rw + 1) sg (2 ^ sg))), .int (nI (zsu sg (zdm R (rw + 1) sg (2 ^ sg)))), .int (nI (zrad (zld R (rw + 1) (2 ^ sg)) 32))])), (a0, .inl (cI, 5, .inl (fun j => nI (R j)))), (a1, .inl (cI, 32, .inl (fun s => zo (zld R (rw + 1) (2 ^ sg) s)))), (a2, .inl (cI, 11, .inl (fun j => nI (zct (zhw (zld R (rw + 1) (2 ^ sg)) j) 32)))), (r0, .inr (2, [.ref b0, .int (nI rw), .int (nI sg), .int (nI lg)])), (b0, .inl (cI, 5, .inl (fun j => nI (R j))))]) rfl rfl uX3_become_3 tyX3_ok nmX3 (by decide) fX3_become_3_7 rfl rfl rfl rfl (Nat.le_of_ble_eq_true rfl) dX3_become_87 rfl ?_
        exact zg_wvret C E dX3_become_90 (⟨rfl, rfl⟩)
    · skip
      refine zg_aload_n C 0 dX3_become_27 rfl ?_
      refine zg_get C 0 (ci := 3) (f := 0) rfl rfl uX3_become_3 (by decide) fX3_become_3_0 dX3_become_28 rfl ?_
      refine zg_iload_n C 2 dX3_become_31 rfl ?_
      refine zg_aload_n C 1 dX3_become_32 rfl ?_
      refine zg_iload_n C 2 dX3_become_33 rfl ?_
      refine zg_callr (As := [.int (nI i)]) (st := [.int (nI i), .ref a0]) C [4, 5] 4 1 (c_X2_rowAt l D cI r0 b0 rw sg lg R i (by omega)) gX3_become_X2_rowAt (by decide +kernel) rfl ⟨rfl, rfl⟩ ⟨Nat.le_of_ble_eq_true rfl, Nat.le_of_ble_eq_true rfl⟩ rfl (ci := 2) rfl rfl rfl rfl (Nat.le_of_ble_eq_true rfl) ⟨Nat.le_of_ble_eq_true rfl, Nat.le_of_ble_eq_true rfl⟩ dX3_become_34 ?_
      refine zg_iast C 1 (ws' := [(h0, .inr (3, [.ref a0, .ref a1, .ref a2, .int (nI (rw + 1)), .int (nI sg), .int (nI rk), .int (nI ds), .int (nI su), .int (nI rd)])), (a0, .inl (cI, 5, .inl (upd (fun j => if j < i then nI (R j) else Rf j) i (nI (R i))))), (a1, .inl (cI, 32, .inl Lf)), (a2, .inl (cI, 11, .inl Wf)), (r0, .inr (2, [.ref b0, .int (nI rw), .int (nI sg), .int (nI lg)])), (b0, .inl (cI, 5, .inl (fun j => nI (R j))))]) rfl (by omega) (by decide) dX3_become_37 rfl ?_
      refine zg_cell 1 (ws' := [(h0, .inr (3, [.ref a0, .ref a1, .ref a2, .int (nI (rw + 1)), .int (nI sg), .int (nI rk), .int (nI ds), .int (nI su), .int (nI rd)])), (a0, .inl (cI, 5, .inl (fun j => if j < (i + 1) then nI (R j) else Rf j))), (a1, .inl (cI, 32, .inl Lf)), (a2, .inl (cI, 11, .inl Wf)), (r0, .inr (2, [.ref b0, .int (nI rw), .int (nI sg), .int (nI lg)])), (b0, .inl (cI, 5, .inl (fun j => nI (R j))))]) (fun j => if j < (i + 1) then nI (R j) else Rf j) rfl (fun j _ => zcopy (g := fun j => nI (R j)) j) rfl ?_
      refine zg_iinc C 2 [1, 2, 0] (lv' := [(0, .ref h0), (1, .ref r0), (2, .int (nI (i + 1)))]) (nI (i + 1)) dX3_become_38 rfl (zi_inc _) (by decide) rfl ?_
      refine zg_goto C 18 dX3_become_41 (by decide) ?_
      exact zg_cv (lv' := [(0, .ref h0), (1, .ref r0), (2, .int (nI (i + 1)))]) (rfl) rfl (rfl) (ih_18 (by omega) )
  exact zg_cv (lv' := [(0, .ref h0), (1, .ref r0), (2, .int (nI 0))]) (rfl) rfl (rfl) (L_18 0 (Nat.zero_le _) )
theorem wX0_init_0 : Cond.methodLink RX0 1 objectInit ∈ wsX0_init := by decide +kernel
theorem wX0_init_1 : Cond.instanceMethod objectInit ∈ wsX0_init := by decide +kernel
theorem wX0_init_2 : Cond.code objectInit ⟨#[0xb1]⟩ 1 none ∈ wsX0_init := by decide +kernel
theorem uX0_init_0 : ∀ w ∈ u_ws RX0 TX0 1, w ∈ wsX0_init := fun w h => List.mem_cons_of_mem _ (List.mem_append_right _ h)
theorem fX0_init_0_0 : Cond.fieldLink RX0 7 (TX0 0).1 (TX0 0).2.1 (TX0 0).2.2.1 ∈ wsX0_init := by decide +kernel
set_option maxHeartbeats 1000000 in
set_option maxRecDepth 100000 in
theorem c_X0_init (l : Launch) (D : va_G) (cI : ClassId) (d0 : Nat) (sd : Int32) : zMw l D cI yX0_init wsX0_init { frames := 1, cells := 0, slots := 0, locals := 12 } [.ref d0] [(d0, .inr (0, [.int sd]))] (fun v9 w9 => v9 = none ∧ w9 = [(d0, .inr (0, [.int (-1)]))]) 0 0 := by
  refine zw_ent (maxL := 1) (by decide) rfl (Nat.le_of_ble_eq_true rfl) (fun X C E hin9 => ?_)
  have C : zC X l D cI { frames := 1, cells := 0, slots := 0, locals := 12 } 1 true cX0_init RX0 wsX0_init := C
  refine zg_cv (lv' := [(0, .ref d0)]) rfl rfl rfl ?_
  refine zg_aload_n C 0 dX0_init_0 rfl ?_
  refine zg_objInit C wX0_init_0 wX0_init_1 wX0_init_2 dX0_init_1 (Nat.le_of_ble_eq_true rfl) (Nat.le_of_ble_eq_true rfl) ?_
  refine zg_aload_n C 0 dX0_init_4 rfl ?_
  refine zg_iconst (v := (-1)) C dX0_init_5 (by decide) ?_
  refine zg_put C 0 (ci := 0) (f := 0) (ws' := [(d0, .inr (0, [.int (-1)]))]) rfl rfl uX0_init_0 tyX0_ok nmX0 (by decide) fX0_init_0_0 rfl rfl rfl rfl (Nat.le_of_ble_eq_true rfl) dX0_init_6 rfl ?_
  exact zg_wvret C E dX0_init_9 (⟨rfl, rfl⟩)
theorem wX1_init_0 : Cond.methodLink RX1 3 objectInit ∈ wsX1_init := by decide +kernel
theorem wX1_init_1 : Cond.instanceMethod objectInit ∈ wsX1_init := by decide +kernel
theorem wX1_init_2 : Cond.code objectInit ⟨#[0xb1]⟩ 1 none ∈ wsX1_init := by decide +kernel
theorem wX1_init_3 : Cond.arrayClass .int ∈ wsX1_init := by decide +kernel
theorem uX1_init_1 : ∀ w ∈ u_ws RX1 TX1 2, w ∈ wsX1_init := fun w h => List.mem_cons_of_mem _ (List.mem_append_right _ h)
theorem fX1_init_1_0 : Cond.fieldLink RX1 9 (TX1 0).1 (TX1 0).2.1 (TX1 0).2.2.1 ∈ wsX1_init := by decide +kernel
theorem fX1_init_1_1 : Cond.fieldLink RX1 15 (TX1 1).1 (TX1 1).2.1 (TX1 1).2.2.1 ∈ wsX1_init := by decide +kernel
set_option maxHeartbeats 1000000 in
set_option maxRecDepth 100000 in
theorem c_X1_init (l : Launch) (D : va_G) (cI : ClassId) (p0 : Nat) : zMw l D cI yX1_init wsX1_init { frames := 1, cells := 1, slots := 56, locals := 12 } [.ref p0] [(p0, .inr (1, [.null, .int (nI 0)]))] (fun v9 w9 => ∃ (g0 : Nat), v9 = none ∧ w9 = [(p0, .inr (1, [.ref g0, .int (nI 0)])), (g0, .inl (cI, 56, .inl (fun _ => 0)))]) 1 56 := by
  refine zw_ent (maxL := 1) (by decide) rfl (Nat.le_of_ble_eq_true rfl) (fun X C E hin9 => ?_)
  have C : zC X l D cI { frames := 1, cells := 1, slots := 56, locals := 12 } 1 true cX1_init RX1 wsX1_init := C
  refine zg_cv (lv' := [(0, .ref p0)]) rfl rfl rfl ?_
  refine zg_aload_n C 0 dX1_init_0 rfl ?_
  refine zg_objInit C wX1_init_0 wX1_init_1 wX1_init_2 dX1_init_1 (Nat.le_of_ble_eq_true rfl) (Nat.le_of_ble_eq_true rfl) ?_
  refine zg_aload_n C 0 dX1_init_4 rfl ?_
  refine zg_bipush (v := nI 56) C dX1_init_5 (by decide) ?_
  refine zg_newarr C (by decide) wX1_init_3 (Nat.le_of_ble_eq_true rfl) (Nat.le_of_ble_eq_true rfl) dX1_init_7 (fun q7 => ?_)
  refine zg_cv (k' := 1) (n' := 56) (ws' := [(p0, .inr (1, [.null, .int (nI 0)])), (q7, .inl (cI, 56, .inl (fun _ => 0)))]) rfl rfl rfl ?_
  refine zg_putF C hin9 0 (ci := 1) (f := 0) (ws' := [(p0, .inr (1, [.ref q7, .int (nI 0)])), (q7, .inl (cI, 56, .inl (fun _ => 0)))]) rfl rfl uX1_init_1 tyX1_ok nmX1 (by decide) fX1_init_1_0 rfl rfl rfl rfl rfl (Nat.le_of_ble_eq_true rfl) dX1_init_9 rfl ?_
  refine zg_aload_n C 0 dX1_init_12 rfl ?_
  refine zg_iconst (v := nI 0) C dX1_init_13 (by decide) ?_
  refine zg_put C 0 (ci := 1) (f := 1) (ws' := [(p0, .inr (1, [.ref q7, .int (nI 0)])), (q7, .inl (cI, 56, .inl (fun _ => 0)))]) rfl rfl uX1_init_1 tyX1_ok nmX1 (by decide) fX1_init_1_1 rfl rfl rfl rfl (Nat.le_of_ble_eq_true rfl) dX1_init_14 rfl ?_
  exact zg_wvret C E dX1_init_17 (⟨_, rfl, rfl⟩)
theorem wX2_init_0 : Cond.methodLink RX2 3 objectInit ∈ wsX2_init := by decide +kernel
theorem wX2_init_1 : Cond.instanceMethod objectInit ∈ wsX2_init := by decide +kernel
theorem wX2_init_2 : Cond.code objectInit ⟨#[0xb1]⟩ 1 none ∈ wsX2_init := by decide +kernel
theorem wX2_init_3 : Cond.arrayClass .int ∈ wsX2_init := by decide +kernel
theorem uX2_init_2 : ∀ w ∈ u_ws RX2 TX2 4, w ∈ wsX2_init := fun w h => List.mem_cons_of_mem _ (List.mem_append_right _ h)
theorem fX2_init_2_0 : Cond.fieldLink RX2 9 (TX2 0).1 (TX2 0).2.1 (TX2 0).2.2.1 ∈ wsX2_init := by decide +kernel
theorem fX2_init_2_1 : Cond.fieldLink RX2 15 (TX2 1).1 (TX2 1).2.1 (TX2 1).2.2.1 ∈ wsX2_init := by decide +kernel
theorem fX2_init_2_2 : Cond.fieldLink RX2 19 (TX2 2).1 (TX2 2).2.1 (TX2 2).2.2.1 ∈ wsX2_init := by decide +kernel
theorem fX2_init_2_3 : Cond.fieldLink RX2 22 (TX2 3).1 (TX2 3).2.1 (TX2 3).2.2.1 ∈ wsX2_init := by decide +kernel
set_option maxHeartbeats 1000000 in
set_option maxRecDepth 100000 in
theorem c_X2_init (l : Launch) (D : va_G) (cI : ClassId) (r0 : Nat) : zMw l D cI yX2_init wsX2_init { frames := 1, cells := 1, slots := 5, locals := 12 } [.ref r0] [(r0, .inr (2, [.null, .int (nI 0), .int (nI 0), .int (nI 0)]))] (fun v9 w9 => ∃ (b0 : Nat), v9 = none ∧ w9 = [(r0, .inr (2, [.ref b0, .int (nI 0), .int (nI 0), .int (nI 0)])), (b0, .inl (cI, 5, .inl (fun _ => 0)))]) 1 5 := by
  refine zw_ent (maxL := 1) (by decide) rfl (Nat.le_of_ble_eq_true rfl) (fun X C E hin9 => ?_)
  have C : zC X l D cI { frames := 1, cells := 1, slots := 5, locals := 12 } 1 true cX2_init RX2 wsX2_init := C
  refine zg_cv (lv' := [(0, .ref r0)]) rfl rfl rfl ?_
  refine zg_aload_n C 0 dX2_init_0 rfl ?_
  refine zg_objInit C wX2_init_0 wX2_init_1 wX2_init_2 dX2_init_1 (Nat.le_of_ble_eq_true rfl) (Nat.le_of_ble_eq_true rfl) ?_
  refine zg_aload_n C 0 dX2_init_4 rfl ?_
  refine zg_iconst (v := nI 5) C dX2_init_5 (by decide) ?_
  refine zg_newarr C (by decide) wX2_init_3 (Nat.le_of_ble_eq_true rfl) (Nat.le_of_ble_eq_true rfl) dX2_init_6 (fun q6 => ?_)
  refine zg_cv (k' := 1) (n' := 5) (ws' := [(r0, .inr (2, [.null, .int (nI 0), .int (nI 0), .int (nI 0)])), (q6, .inl (cI, 5, .inl (fun _ => 0)))]) rfl rfl rfl ?_
  refine zg_putF C hin9 0 (ci := 2) (f := 0) (ws' := [(r0, .inr (2, [.ref q6, .int (nI 0), .int (nI 0), .int (nI 0)])), (q6, .inl (cI, 5, .inl (fun _ => 0)))]) rfl rfl uX2_init_2 tyX2_ok nmX2 (by decide) fX2_init_2_0 rfl rfl rfl rfl rfl (Nat.le_of_ble_eq_true rfl) dX2_init_8 rfl ?_
  refine zg_aload_n C 0 dX2_init_11 rfl ?_
  refine zg_iconst (v := nI 0) C dX2_init_12 (by decide) ?_
  refine zg_put C 0 (ci := 2) (f := 1) (ws' := [(r0, .inr (2, [.ref q6, .int (nI 0), .int (nI 0), .int (nI 0)])), (q6, .inl (cI, 5, .inl (fun _ => 0)))]) rfl rfl uX2_init_2 tyX2_ok nmX2 (by decide) fX2_init_2_1 rfl rfl rfl rfl (Nat.le_of_ble_eq_true rfl) dX2_init_13 rfl ?_
  refine zg_aload_n C 0 dX2_init_16 rfl ?_
  refine zg_iconst (v := nI 0) C dX2_init_17 (by decide) ?_
  refine zg_put C 0 (ci := 2) (f := 2) (ws' := [(r0, .inr (2, [.ref q6, .int (nI 0), .int (nI 0), .int (nI 0)])), (q6, .inl (cI, 5, .inl (fun _ => 0)))]) rfl rfl uX2_init_2 tyX2_ok nmX2 (by decide) fX2_init_2_2 rfl rfl rfl rfl (Nat.le_of_ble_eq_true rfl) dX2_init_18 rfl ?_
  refine zg_aload_n C 0 dX2_init_21 rfl ?_
  refine zg_iconst (v := nI 0) C dX2_init_22 (by decide) ?_
  refine zg_put C 0 (ci := 2) (f := 3) (ws' := [(r0, .inr (2, [.ref q6, .int (nI 0), .int (nI 0), .int (nI 0)])), (q6, .inl (cI, 5, .inl (fun _ => 0)))]) rfl rfl uX2_init_2 tyX2_ok nmX2 (by decide) fX2_init_2_3 rfl rfl rfl rfl (Nat.le_of_ble_eq_true rfl) dX2_init_23 rfl ?_
  exact zg_wvret C E dX2_init_26 (⟨_, rfl, rfl⟩)
theorem wX3_init_0 : Cond.methodLink RX3 3 objectInit ∈ wsX3_init := by decide +kernel
theorem wX3_init_1 : Cond.instanceMethod objectInit ∈ wsX3_init := by decide +kernel
theorem wX3_init_2 : Cond.code objectInit ⟨#[0xb1]⟩ 1 none ∈ wsX3_init := by decide +kernel
theorem wX3_init_3 : Cond.arrayClass .int ∈ wsX3_init := by decide +kernel
theorem uX3_init_3 : ∀ w ∈ u_ws RX3 TX3 9, w ∈ wsX3_init := fun w h => List.mem_cons_of_mem _ (List.mem_append_right _ h)
theorem fX3_init_3_0 : Cond.fieldLink RX3 9 (TX3 0).1 (TX3 0).2.1 (TX3 0).2.2.1 ∈ wsX3_init := by decide +kernel
theorem fX3_init_3_1 : Cond.fieldLink RX3 15 (TX3 1).1 (TX3 1).2.1 (TX3 1).2.2.1 ∈ wsX3_init := by decide +kernel
theorem fX3_init_3_2 : Cond.fieldLink RX3 18 (TX3 2).1 (TX3 2).2.1 (TX3 2).2.2.1 ∈ wsX3_init := by decide +kernel
theorem fX3_init_3_3 : Cond.fieldLink RX3 21 (TX3 3).1 (TX3 3).2.1 (TX3 3).2.2.1 ∈ wsX3_init := by decide +kernel
theorem fX3_init_3_4 : Cond.fieldLink RX3 25 (TX3 4).1 (TX3 4).2.1 (TX3 4).2.2.1 ∈ wsX3_init := by decide +kernel
theorem fX3_init_3_5 : Cond.fieldLink RX3 28 (TX3 5).1 (TX3 5).2.1 (TX3 5).2.2.1 ∈ wsX3_init := by decide +kernel
theorem fX3_init_3_6 : Cond.fieldLink RX3 31 (TX3 6).1 (TX3 6).2.1 (TX3 6).2.2.1 ∈ wsX3_init := by decide +kernel
theorem fX3_init_3_7 : Cond.fieldLink RX3 34 (TX3 7).1 (TX3 7).2.1 (TX3 7).2.2.1 ∈ wsX3_init := by decide +kernel
theorem fX3_init_3_8 : Cond.fieldLink RX3 37 (TX3 8).1 (TX3 8).2.1 (TX3 8).2.2.1 ∈ wsX3_init := by decide +kernel
set_option maxHeartbeats 1000000 in
set_option maxRecDepth 100000 in
theorem c_X3_init (l : Launch) (D : va_G) (cI : ClassId) (h0 : Nat) : zMw l D cI yX3_init wsX3_init { frames := 1, cells := 3, slots := 48, locals := 12 } [.ref h0] [(h0, .inr (3, [.null, .null, .null, .int (nI 0), .int (nI 0), .int (nI 0), .int (nI 0), .int (nI 0), .int (nI 0)]))] (fun v9 w9 => ∃ (a0 a1 a2 : Nat), v9 = none ∧ w9 = [(h0, .inr (3, [.ref a0, .ref a1, .ref a2, .int (nI 0), .int (nI 0), .int (nI 0), .int (nI 0), .int (nI 0), .int (nI 0)])), (a0, .inl (cI, 5, .inl (fun _ => 0))), (a1, .inl (cI, 32, .inl (fun _ => 0))), (a2, .inl (cI, 11, .inl (fun _ => 0)))]) 3 48 := by
  refine zw_ent (maxL := 1) (by decide) rfl (Nat.le_of_ble_eq_true rfl) (fun X C E hin9 => ?_)
  have C : zC X l D cI { frames := 1, cells := 3, slots := 48, locals := 12 } 1 true cX3_init RX3 wsX3_init := C
  refine zg_cv (lv' := [(0, .ref h0)]) rfl rfl rfl ?_
  refine zg_aload_n C 0 dX3_init_0 rfl ?_
  refine zg_objInit C wX3_init_0 wX3_init_1 wX3_init_2 dX3_init_1 (Nat.le_of_ble_eq_true rfl) (Nat.le_of_ble_eq_true rfl) ?_
  refine zg_aload_n C 0 dX3_init_4 rfl ?_
  refine zg_iconst (v := nI 5) C dX3_init_5 (by decide) ?_
  refine zg_newarr C (by decide) wX3_init_3 (Nat.le_of_ble_eq_true rfl) (Nat.le_of_ble_eq_true rfl) dX3_init_6 (fun q6 => ?_)
  refine zg_cv (k' := 1) (n' := 5) (ws' := [(h0, .inr (3, [.null, .null, .null, .int (nI 0), .int (nI 0), .int (nI 0), .int (nI 0), .int (nI 0), .int (nI 0)])), (q6, .inl (cI, 5, .inl (fun _ => 0)))]) rfl rfl rfl ?_
  refine zg_putF C hin9 0 (ci := 3) (f := 0) (ws' := [(h0, .inr (3, [.ref q6, .null, .null, .int (nI 0), .int (nI 0), .int (nI 0), .int (nI 0), .int (nI 0), .int (nI 0)])), (q6, .inl (cI, 5, .inl (fun _ => 0)))]) rfl rfl uX3_init_3 tyX3_ok nmX3 (by decide) fX3_init_3_0 rfl rfl rfl rfl rfl (Nat.le_of_ble_eq_true rfl) dX3_init_8 rfl ?_
  refine zg_aload_n C 0 dX3_init_11 rfl ?_
  refine zg_bipush (v := nI 32) C dX3_init_12 (by decide) ?_
  refine zg_newarr C (by decide) wX3_init_3 (Nat.le_of_ble_eq_true rfl) (Nat.le_of_ble_eq_true rfl) dX3_init_14 (fun q14 => ?_)
  refine zg_cv (k' := 2) (n' := 37) (ws' := [(h0, .inr (3, [.ref q6, .null, .null, .int (nI 0), .int (nI 0), .int (nI 0), .int (nI 0), .int (nI 0), .int (nI 0)])), (q6, .inl (cI, 5, .inl (fun _ => 0))), (q14, .inl (cI, 32, .inl (fun _ => 0)))]) rfl rfl rfl ?_
  refine zg_putF C hin9 0 (ci := 3) (f := 1) (ws' := [(h0, .inr (3, [.ref q6, .ref q14, .null, .int (nI 0), .int (nI 0), .int (nI 0), .int (nI 0), .int (nI 0), .int (nI 0)])), (q6, .inl (cI, 5, .inl (fun _ => 0))), (q14, .inl (cI, 32, .inl (fun _ => 0)))]) rfl rfl uX3_init_3 tyX3_ok nmX3 (by decide) fX3_init_3_1 rfl rfl rfl rfl rfl (Nat.le_of_ble_eq_true rfl) dX3_init_16 rfl ?_
  refine zg_aload_n C 0 dX3_init_19 rfl ?_
  refine zg_bipush (v := nI 11) C dX3_init_20 (by decide) ?_
  refine zg_newarr C (by decide) wX3_init_3 (Nat.le_of_ble_eq_true rfl) (Nat.le_of_ble_eq_true rfl) dX3_init_22 (fun q22 => ?_)
  refine zg_cv (k' := 3) (n' := 48) (ws' := [(h0, .inr (3, [.ref q6, .ref q14, .null, .int (nI 0), .int (nI 0), .int (nI 0), .int (nI 0), .int (nI 0), .int (nI 0)])), (q6, .inl (cI, 5, .inl (fun _ => 0))), (q14, .inl (cI, 32, .inl (fun _ => 0))), (q22, .inl (cI, 11, .inl (fun _ => 0)))]) rfl rfl rfl ?_
  refine zg_putF C hin9 0 (ci := 3) (f := 2) (ws' := [(h0, .inr (3, [.ref q6, .ref q14, .ref q22, .int (nI 0), .int (nI 0), .int (nI 0), .int (nI 0), .int (nI 0), .int (nI 0)])), (q6, .inl (cI, 5, .inl (fun _ => 0))), (q14, .inl (cI, 32, .inl (fun _ => 0))), (q22, .inl (cI, 11, .inl (fun _ => 0)))]) rfl rfl uX3_init_3 tyX3_ok nmX3 (by decide) fX3_init_3_2 rfl rfl rfl rfl rfl (Nat.le_of_ble_eq_true rfl) dX3_init_24 rfl ?_
  refine zg_aload_n C 0 dX3_init_27 rfl ?_
  refine zg_iconst (v := nI 0) C dX3_init_28 (by decide) ?_
  refine zg_put C 0 (ci := 3) (f := 3) (ws' := [(h0, .inr (3, [.ref q6, .ref q14, .ref q22, .int (nI 0), .int (nI 0), .int (nI 0), .int (nI 0), .int (nI 0), .int (nI 0)])), (q6, .inl (cI, 5, .inl (fun _ => 0))), (q14, .inl (cI, 32, .inl (fun _ => 0))), (q22, .inl (cI, 11, .inl (fun _ => 0)))]) rfl rfl uX3_init_3 tyX3_ok nmX3 (by decide) fX3_init_3_3 rfl rfl rfl rfl (Nat.le_of_ble_eq_true rfl) dX3_init_29 rfl ?_
  refine zg_aload_n C 0 dX3_init_32 rfl ?_
  refine zg_iconst (v := nI 0) C dX3_init_33 (by decide) ?_
  refine zg_put C 0 (ci := 3) (f := 4) (ws' := [(h0, .inr (3, [.ref q6, .ref q14, .ref q22, .int (nI 0), .int (nI 0), .int (nI 0), .int (nI 0), .int (nI 0), .int (nI 0)])), (q6, .inl (cI, 5, .inl (fun _ => 0))), (q14, .inl (cI, 32, .inl (fun _ => 0))), (q22, .inl (cI, 11, .inl (fun _ => 0)))]) rfl rfl uX3_init_3 tyX3_ok nmX3 (by decide) fX3_init_3_4 rfl rfl rfl rfl (Nat.le_of_ble_eq_true rfl) dX3_init_34 rfl ?_
  refine zg_aload_n C 0 dX3_init_37 rfl ?_
  refine zg_iconst (v := nI 0) C dX3_init_38 (by decide) ?_
  refine zg_put C 0 (ci := 3) (f := 5) (ws' := [(h0, .inr (3, [.ref q6, .ref q14, .ref q22, .int (nI 0), .int (nI 0), .int (nI 0), .int (nI 0), .int (nI 0), .int (nI 0)])), (q6, .inl (cI, 5, .inl (fun _ => 0))), (q14, .inl (cI, 32, .inl (fun _ => 0))), (q22, .inl (cI, 11, .inl (fun _ => 0)))]) rfl rfl uX3_init_3 tyX3_ok nmX3 (by decide) fX3_init_3_5 rfl rfl rfl rfl (Nat.le_of_ble_eq_true rfl) dX3_init_39 rfl ?_
  refine zg_aload_n C 0 dX3_init_42 rfl ?_
  refine zg_iconst (v := nI 0) C dX3_init_43 (by decide) ?_
  refine zg_put C 0 (ci := 3) (f := 6) (ws' := [(h0, .inr (3, [.ref q6, .ref q14, .ref q22, .int (nI 0), .int (nI 0), .int (nI 0), .int (nI 0), .int (nI 0), .int (nI 0)])), (q6, .inl (cI, 5, .inl (fun _ => 0))), (q14, .inl (cI, 32, .inl (fun _ => 0))), (q22, .inl (cI, 11, .inl (fun _ => 0)))]) rfl rfl uX3_init_3 tyX3_ok nmX3 (by decide) fX3_init_3_6 rfl rfl rfl rfl (Nat.le_of_ble_eq_true rfl) dX3_init_44 rfl ?_
  refine zg_aload_n C 0 dX3_init_47 rfl ?_
  refine zg_iconst (v := nI 0) C dX3_init_48 (by decide) ?_
  refine zg_put C 0 (ci := 3) (f := 7) (ws' := [(h0, .inr (3, [.ref q6, .ref q14, .ref q22, .int (nI 0), .int (nI 0), .int (nI 0), .int (nI 0), .int (nI 0), .int (nI 0)])), (q6, .inl (cI, 5, .inl (fun _ => 0))), (q14, .inl (cI, 32, .inl (fun _ => 0))), (q22, .inl (cI, 11, .inl (fun _ => 0)))]) rfl rfl uX3_init_3 tyX3_ok nmX3 (by decide) fX3_init_3_7 rfl rfl rfl rfl (Nat.le_of_ble_eq_true rfl) dX3_init_49 rfl ?_
  refine zg_aload_n C 0 dX3_init_52 rfl ?_
  refine zg_iconst (v := nI 0) C dX3_init_53 (by decide) ?_
  refine zg_put C 0 (ci := 3) (f := 8) (ws' := [(h0, .inr (3, [.ref q6, .ref q14, .ref q22, .int (nI 0), .int (nI 0), .int (nI 0), .int (nI 0), .int (nI 0), .int (nI 0)])), (q6, .inl (cI, 5, .inl (fun _ => 0))), (q14, .inl (cI, 32, .inl (fun _ => 0))), (q22, .inl (cI, 11, .inl (fun _ => 0)))]) rfl rfl uX3_init_3 tyX3_ok nmX3 (by decide) fX3_init_3_8 rfl rfl rfl rfl (Nat.le_of_ble_eq_true rfl) dX3_init_54 rfl ?_
  exact zg_wvret C E dX3_init_57 (⟨_, _, _, rfl, rfl⟩)
theorem wX4_init_0 : Cond.methodLink RX4 3 objectInit ∈ wsX4_init := by decide +kernel
theorem wX4_init_1 : Cond.instanceMethod objectInit ∈ wsX4_init := by decide +kernel
theorem wX4_init_2 : Cond.code objectInit ⟨#[0xb1]⟩ 1 none ∈ wsX4_init := by decide +kernel
theorem wX4_init_3 : Cond.arrayClass .int ∈ wsX4_init := by decide +kernel
theorem uX4_init_4 : ∀ w ∈ u_ws RX4 TX4 4, w ∈ wsX4_init := fun w h => List.mem_cons_of_mem _ (List.mem_append_right _ h)
theorem fX4_init_4_0 : Cond.fieldLink RX4 9 (TX4 0).1 (TX4 0).2.1 (TX4 0).2.2.1 ∈ wsX4_init := by decide +kernel
theorem fX4_init_4_1 : Cond.fieldLink RX4 15 (TX4 1).1 (TX4 1).2.1 (TX4 1).2.2.1 ∈ wsX4_init := by decide +kernel
theorem fX4_init_4_2 : Cond.fieldLink RX4 19 (TX4 2).1 (TX4 2).2.1 (TX4 2).2.2.1 ∈ wsX4_init := by decide +kernel
theorem fX4_init_4_3 : Cond.fieldLink RX4 22 (TX4 3).1 (TX4 3).2.1 (TX4 3).2.2.1 ∈ wsX4_init := by decide +kernel
set_option maxHeartbeats 1000000 in
set_option maxRecDepth 100000 in
theorem c_X4_init (l : Launch) (D : va_G) (cI : ClassId) (t0 : Nat) : zMw l D cI yX4_init wsX4_init { frames := 1, cells := 1, slots := 4, locals := 12 } [.ref t0] [(t0, .inr (4, [.null, .int (nI 0), .int (nI 0), .int (nI 0)]))] (fun v9 w9 => ∃ (v0 : Nat), v9 = none ∧ w9 = [(t0, .inr (4, [.ref v0, .int (nI 0), .int (nI 0), .int (nI 0)])), (v0, .inl (cI, 4, .inl (fun _ => 0)))]) 1 4 := by
  refine zw_ent (maxL := 1) (by decide) rfl (Nat.le_of_ble_eq_true rfl) (fun X C E hin9 => ?_)
  have C : zC X l D cI { frames := 1, cells := 1, slots := 4, locals := 12 } 1 true cX4_init RX4 wsX4_init := C
  refine zg_cv (lv' := [(0, .ref t0)]) rfl rfl rfl ?_
  refine zg_aload_n C 0 dX4_init_0 rfl ?_
  refine zg_objInit C wX4_init_0 wX4_init_1 wX4_init_2 dX4_init_1 (Nat.le_of_ble_eq_true rfl) (Nat.le_of_ble_eq_true rfl) ?_
  refine zg_aload_n C 0 dX4_init_4 rfl ?_
  refine zg_iconst (v := nI 4) C dX4_init_5 (by decide) ?_
  refine zg_newarr C (by decide) wX4_init_3 (Nat.le_of_ble_eq_true rfl) (Nat.le_of_ble_eq_true rfl) dX4_init_6 (fun q6 => ?_)
  refine zg_cv (k' := 1) (n' := 4) (ws' := [(t0, .inr (4, [.null, .int (nI 0), .int (nI 0), .int (nI 0)])), (q6, .inl (cI, 4, .inl (fun _ => 0)))]) rfl rfl rfl ?_
  refine zg_putF C hin9 0 (ci := 4) (f := 0) (ws' := [(t0, .inr (4, [.ref q6, .int (nI 0), .int (nI 0), .int (nI 0)])), (q6, .inl (cI, 4, .inl (fun _ => 0)))]) rfl rfl uX4_init_4 tyX4_ok nmX4 (by decide) fX4_init_4_0 rfl rfl rfl rfl rfl (Nat.le_of_ble_eq_true rfl) dX4_init_8 rfl ?_
  refine zg_aload_n C 0 dX4_init_11 rfl ?_
  refine zg_iconst (v := nI 0) C dX4_init_12 (by decide) ?_
  refine zg_put C 0 (ci := 4) (f := 1) (ws' := [(t0, .inr (4, [.ref q6, .int (nI 0), .int (nI 0), .int (nI 0)])), (q6, .inl (cI, 4, .inl (fun _ => 0)))]) rfl rfl uX4_init_4 tyX4_ok nmX4 (by decide) fX4_init_4_1 rfl rfl rfl rfl (Nat.le_of_ble_eq_true rfl) dX4_init_13 rfl ?_
  refine zg_aload_n C 0 dX4_init_16 rfl ?_
  refine zg_iconst (v := nI 0) C dX4_init_17 (by decide) ?_
  refine zg_put C 0 (ci := 4) (f := 2) (ws' := [(t0, .inr (4, [.ref q6, .int (nI 0), .int (nI 0), .int (nI 0)])), (q6, .inl (cI, 4, .inl (fun _ => 0)))]) rfl rfl uX4_init_4 tyX4_ok nmX4 (by decide) fX4_init_4_2 rfl rfl rfl rfl (Nat.le_of_ble_eq_true rfl) dX4_init_18 rfl ?_
  refine zg_aload_n C 0 dX4_init_21 rfl ?_
  refine zg_iconst (v := nI 0) C dX4_init_22 (by decide) ?_
  refine zg_put C 0 (ci := 4) (f := 3) (ws' := [(t0, .inr (4, [.ref q6, .int (nI 0), .int (nI 0), .int (nI 0)])), (q6, .inl (cI, 4, .inl (fun _ => 0)))]) rfl rfl uX4_init_4 tyX4_ok nmX4 (by decide) fX4_init_4_3 rfl rfl rfl rfl (Nat.le_of_ble_eq_true rfl) dX4_init_23 rfl ?_
  exact zg_wvret C E dX4_init_26 (⟨_, rfl, rfl⟩)
theorem wX5_init_0 : Cond.methodLink RX5 1 objectInit ∈ wsX5_init := by decide +kernel
theorem wX5_init_1 : Cond.instanceMethod objectInit ∈ wsX5_init := by decide +kernel
theorem wX5_init_2 : Cond.code objectInit ⟨#[0xb1]⟩ 1 none ∈ wsX5_init := by decide +kernel
theorem uX5_init_1 : ∀ w ∈ u_ws RX1 TX1 2, w ∈ wsX5_init := fun w h => List.mem_cons_of_mem _ (List.mem_append_left _ (List.mem_append_left _ (List.mem_append_left _ (List.mem_append_left _ (List.mem_append_left _ (List.mem_append_right _ h))))))
theorem wX5_init_3 : Cond.classLink RX5 7 RX1 ∈ wsX5_init := by decide +kernel
theorem wX5_init_4 : Cond.instantiable RX1 2 ∈ wsX5_init := by decide +kernel
theorem wX5_init_5 : Cond.initialized RX1 ∈ wsX5_init := by decide +kernel
theorem wX5_init_6 : Cond.methodLink RX5 9 yX1_init ∈ wsX5_init := by decide +kernel
theorem wX5_init_7 : Cond.instanceMethod yX1_init ∈ wsX5_init := by decide +kernel
theorem uX5_init_5 : ∀ w ∈ u_ws RX5 TX5 5, w ∈ wsX5_init := fun w h => List.mem_cons_of_mem _ (List.mem_append_left _ (List.mem_append_left _ (List.mem_append_left _ (List.mem_append_left _ (List.mem_append_right _ h)))))
theorem fX5_init_5_0 : Cond.fieldLink RX5 10 (TX5 0).1 (TX5 0).2.1 (TX5 0).2.2.1 ∈ wsX5_init := by decide +kernel
theorem uX5_init_2 : ∀ w ∈ u_ws RX2 TX2 4, w ∈ wsX5_init := fun w h => List.mem_cons_of_mem _ (List.mem_append_left _ (List.mem_append_left _ (List.mem_append_left _ (List.mem_append_right _ h))))
theorem wX5_init_8 : Cond.classLink RX5 16 RX2 ∈ wsX5_init := by decide +kernel
theorem wX5_init_9 : Cond.instantiable RX2 4 ∈ wsX5_init := by decide +kernel
theorem wX5_init_10 : Cond.initialized RX2 ∈ wsX5_init := by decide +kernel
theorem wX5_init_11 : Cond.methodLink RX5 18 yX2_init ∈ wsX5_init := by decide +kernel
theorem wX5_init_12 : Cond.instanceMethod yX2_init ∈ wsX5_init := by decide +kernel
theorem fX5_init_5_1 : Cond.fieldLink RX5 19 (TX5 1).1 (TX5 1).2.1 (TX5 1).2.2.1 ∈ wsX5_init := by decide +kernel
theorem uX5_init_3 : ∀ w ∈ u_ws RX3 TX3 9, w ∈ wsX5_init := fun w h => List.mem_cons_of_mem _ (List.mem_append_left _ (List.mem_append_left _ (List.mem_append_right _ h)))
theorem wX5_init_13 : Cond.classLink RX5 23 RX3 ∈ wsX5_init := by decide +kernel
theorem wX5_init_14 : Cond.instantiable RX3 9 ∈ wsX5_init := by decide +kernel
theorem wX5_init_15 : Cond.initialized RX3 ∈ wsX5_init := by decide +kernel
theorem wX5_init_16 : Cond.methodLink RX5 25 yX3_init ∈ wsX5_init := by decide +kernel
theorem wX5_init_17 : Cond.instanceMethod yX3_init ∈ wsX5_init := by decide +kernel
theorem fX5_init_5_2 : Cond.fieldLink RX5 26 (TX5 2).1 (TX5 2).2.1 (TX5 2).2.2.1 ∈ wsX5_init := by decide +kernel
theorem uX5_init_4 : ∀ w ∈ u_ws RX4 TX4 4, w ∈ wsX5_init := fun w h => List.mem_cons_of_mem _ (List.mem_append_left _ (List.mem_append_right _ h))
theorem wX5_init_18 : Cond.classLink RX5 30 RX4 ∈ wsX5_init := by decide +kernel
theorem wX5_init_19 : Cond.instantiable RX4 4 ∈ wsX5_init := by decide +kernel
theorem wX5_init_20 : Cond.initialized RX4 ∈ wsX5_init := by decide +kernel
theorem wX5_init_21 : Cond.methodLink RX5 32 yX4_init ∈ wsX5_init := by decide +kernel
theorem wX5_init_22 : Cond.instanceMethod yX4_init ∈ wsX5_init := by decide +kernel
theorem fX5_init_5_3 : Cond.fieldLink RX5 33 (TX5 3).1 (TX5 3).2.1 (TX5 3).2.2.1 ∈ wsX5_init := by decide +kernel
theorem uX5_init_0 : ∀ w ∈ u_ws RX0 TX0 1, w ∈ wsX5_init := fun w h => List.mem_cons_of_mem _ (List.mem_append_right _ h)
theorem wX5_init_23 : Cond.classLink RX5 37 RX0 ∈ wsX5_init := by decide +kernel
theorem wX5_init_24 : Cond.instantiable RX0 1 ∈ wsX5_init := by decide +kernel
theorem wX5_init_25 : Cond.initialized RX0 ∈ wsX5_init := by decide +kernel
theorem wX5_init_26 : Cond.methodLink RX5 39 yX0_init ∈ wsX5_init := by decide +kernel
theorem wX5_init_27 : Cond.instanceMethod yX0_init ∈ wsX5_init := by decide +kernel
theorem fX5_init_5_4 : Cond.fieldLink RX5 40 (TX5 4).1 (TX5 4).2.1 (TX5 4).2.2.1 ∈ wsX5_init := by decide +kernel
set_option maxHeartbeats 1000000 in
set_option maxRecDepth 100000 in
theorem c_X5_init (l : Launch) (D : va_G) (cI : ClassId) (c0 : Nat) : zMw l D cI yX5_init wsX5_init { frames := 2, cells := 11, slots := 133, locals := 32 } [.ref c0] [(c0, .inr (5, [.null, .null, .null, .null, .null]))] (fun v9 w9 => ∃ (p0 g0 r0 b0 h0 a0 a1 a2 t0 v0 d0 : Nat), v9 = none ∧ w9 = [(c0, .inr (5, [.ref p0, .ref r0, .ref h0, .ref t0, .ref d0])), (p0, .inr (1, [.ref g0, .int (nI 0)])), (g0, .inl (cI, 56, .inl (fun _ => 0))), (r0, .inr (2, [.ref b0, .int (nI 0), .int (nI 0), .int (nI 0)])), (b0, .inl (cI, 5, .inl (fun _ => 0))), (h0, .inr (3, [.ref a0, .ref a1, .ref a2, .int (nI 0), .int (nI 0), .int (nI 0), .int (nI 0), .int (nI 0), .int (nI 0)])), (a0, .inl (cI, 5, .inl (fun _ => 0))), (a1, .inl (cI, 32, .inl (fun _ => 0))), (a2, .inl (cI, 11, .inl (fun _ => 0))), (t0, .inr (4, [.ref v0, .int (nI 0), .int (nI 0), .int (nI 0)])), (v0, .inl (cI, 4, .inl (fun _ => 0))), (d0, .inr (0, [.int (-1)]))]) 11 133 := by
  refine zw_ent (maxL := 1) (by decide) rfl (Nat.le_of_ble_eq_true rfl) (fun X C E hin9 => ?_)
  have C : zC X l D cI { frames := 2, cells := 11, slots := 133, locals := 32 } 1 true cX5_init RX5 wsX5_init := C
  refine zg_cv (lv' := [(0, .ref c0)]) rfl rfl rfl ?_
  refine zg_aload_n C 0 dX5_init_0 rfl ?_
  refine zg_objInit C wX5_init_0 wX5_init_1 wX5_init_2 dX5_init_1 (Nat.le_of_ble_eq_true rfl) (Nat.le_of_ble_eq_true rfl) ?_
  refine zg_aload_n C 0 dX5_init_4 rfl ?_
  refine zg_new C (ci := 1) (fs := [.null, .int (nI 0)]) uX5_init_1 tyX1_ok wX5_init_3 wX5_init_4 wX5_init_5 rfl (fun j hj => by rcases (show j = 0 ∨ j = 1 by omega) with rfl | rfl <;> rfl) (Nat.le_of_ble_eq_true rfl) (Nat.le_of_ble_eq_true rfl) dX5_init_5 (fun q5 => ?_)
  refine zg_cv (k' := 1) (n' := 2) (ws' := [(c0, .inr (5, [.null, .null, .null, .null, .null])), (q5, .inr (1, [.null, .int (nI 0)]))]) rfl rfl rfl ?_
  refine zg_dup C dX5_init_8 rfl ?_
  refine zg_callI (As := []) (st := [.ref q5, .ref c0]) (wo := [(c0, .inr (5, [.null, .null, .null, .null, .null]))]) C [1] [0] 0 (c_X1_init l D cI q5 ) gX5_init_X1_init wX5_init_5 wX5_init_6 wX5_init_7 rfl (by decide +kernel) rfl ⟨rfl, rfl⟩ ⟨Nat.le_of_ble_eq_true rfl, Nat.le_of_ble_eq_true rfl⟩ rfl rfl rfl rfl (by decide) rfl rfl (Nat.le_of_ble_eq_true rfl) ⟨Nat.le_of_ble_eq_true rfl, Nat.le_of_ble_eq_true rfl⟩ dX5_init_9 (fun v9 w9 hw9 => ?_)
  obtain ⟨g0_9, rfl, rfl⟩ := hw9
  refine zg_cv (k' := 2) (n' := 58) (st' := [.ref q5, .ref c0]) (ws' := [(c0, .inr (5, [.null, .null, .null, .null, .null])), (q5, .inr (1, [.ref g0_9, .int (nI 0)])), (g0_9, .inl (cI, 56, .inl (fun _ => 0)))]) rfl rfl rfl ?_
  refine zg_putF C hin9 0 (ci := 5) (f := 0) (ws' := [(c0, .inr (5, [.ref q5, .null, .null, .null, .null])), (q5, .inr (1, [.ref g0_9, .int (nI 0)])), (g0_9, .inl (cI, 56, .inl (fun _ => 0)))]) rfl rfl uX5_init_5 tyX5_ok nmX5 (by decide) fX5_init_5_0 rfl rfl rfl rfl rfl (Nat.le_of_ble_eq_true rfl) dX5_init_12 rfl ?_
  refine zg_aload_n C 0 dX5_init_15 rfl ?_
  refine zg_new C (ci := 2) (fs := [.null, .int (nI 0), .int (nI 0), .int (nI 0)]) uX5_init_2 tyX2_ok wX5_init_8 wX5_init_9 wX5_init_10 rfl (fun j hj => by rcases (show j = 0 ∨ j = 1 ∨ j = 2 ∨ j = 3 by omega) with rfl | rfl | rfl | rfl <;> rfl) (Nat.le_of_ble_eq_true rfl) (Nat.le_of_ble_eq_true rfl) dX5_init_16 (fun q16 => ?_)
  refine zg_cv (k' := 3) (n' := 62) (ws' := [(c0, .inr (5, [.ref q5, .null, .null, .null, .null])), (q5, .inr (1, [.ref g0_9, .int (nI 0)])), (g0_9, .inl (cI, 56, .inl (fun _ => 0))), (q16, .inr (2, [.null, .int (nI 0), .int (nI 0), .int (nI 0)]))]) rfl rfl rfl ?_
  refine zg_dup C dX5_init_19 rfl ?_
  refine zg_callI (As := []) (st := [.ref q16, .ref c0]) (wo := [(c0, .inr (5, [.ref q5, .null, .null, .null, .null])), (q5, .inr (1, [.ref g0_9, .int (nI 0)])), (g0_9, .inl (cI, 56, .inl (fun _ => 0)))]) C [3] [0, 1, 2] 0 (c_X2_init l D cI q16 ) gX5_init_X2_init wX5_init_10 wX5_init_11 wX5_init_12 rfl (by decide +kernel) rfl ⟨rfl, rfl⟩ ⟨Nat.le_of_ble_eq_true rfl, Nat.le_of_ble_eq_true rfl⟩ rfl rfl rfl rfl (by decide) rfl rfl (Nat.le_of_ble_eq_true rfl) ⟨Nat.le_of_ble_eq_true rfl, Nat.le_of_ble_eq_true rfl⟩ dX5_init_20 (fun v9 w9 hw9 => ?_)
  obtain ⟨b0_20, rfl, rfl⟩ := hw9
  refine zg_cv (k' := 4) (n' := 67) (st' := [.ref q16, .ref c0]) (ws' := [(c0, .inr (5, [.ref q5, .null, .null, .null, .null])), (q5, .inr (1, [.ref g0_9, .int (nI 0)])), (g0_9, .inl (cI, 56, .inl (fun _ => 0))), (q16, .inr (2, [.ref b0_20, .int (nI 0), .int (nI 0), .int (nI 0)])), (b0_20, .inl (cI, 5, .inl (fun _ => 0)))]) rfl rfl rfl ?_
  refine zg_putF C hin9 0 (ci := 5) (f := 1) (ws' := [(c0, .inr (5, [.ref q5, .ref q16, .null, .null, .null])), (q5, .inr (1, [.ref g0_9, .int (nI 0)])), (g0_9, .inl (cI, 56, .inl (fun _ => 0))), (q16, .inr (2, [.ref b0_20, .int (nI 0), .int (nI 0), .int (nI 0)])), (b0_20, .inl (cI, 5, .inl (fun _ => 0)))]) rfl rfl uX5_init_5 tyX5_ok nmX5 (by decide) fX5_init_5_1 rfl rfl rfl rfl rfl (Nat.le_of_ble_eq_true rfl) dX5_init_23 rfl ?_
  refine zg_aload_n C 0 dX5_init_26 rfl ?_
  refine zg_new C (ci := 3) (fs := [.null, .null, .null, .int (nI 0), .int (nI 0), .int (nI 0), .int (nI 0), .int (nI 0), .int (nI 0)]) uX5_init_3 tyX3_ok wX5_init_13 wX5_init_14 wX5_init_15 rfl (fun j hj => by rcases (show j = 0 ∨ j = 1 ∨ j = 2 ∨ j = 3 ∨ j = 4 ∨ j = 5 ∨ j = 6 ∨ j = 7 ∨ j = 8 by omega) with rfl | rfl | rfl | rfl | rfl | rfl | rfl | rfl | rfl <;> rfl) (Nat.le_of_ble_eq_true rfl) (Nat.le_of_ble_eq_true rfl) dX5_init_27 (fun q27 => ?_)
  refine zg_cv (k' := 5) (n' := 76) (ws' := [(c0, .inr (5, [.ref q5, .ref q16, .null, .null, .null])), (q5, .inr (1, [.ref g0_9, .int (nI 0)])), (g0_9, .inl (cI, 56, .inl (fun _ => 0))), (q16, .inr (2, [.ref b0_20, .int (nI 0), .int (nI 0), .int (nI 0)])), (b0_20, .inl (cI, 5, .inl (fun _ => 0))), (q27, .inr (3, [.null, .null, .null, .int (nI 0), .int (nI 0), .int (nI 0), .int (nI 0), .int (nI 0), .int (nI 0)]))]) rfl rfl rfl ?_
  refine zg_dup C dX5_init_30 rfl ?_
  refine zg_callI (As := []) (st := [.ref q27, .ref c0]) (wo := [(c0, .inr (5, [.ref q5, .ref q16, .null, .null, .null])), (q5, .inr (1, [.ref g0_9, .int (nI 0)])), (g0_9, .inl (cI, 56, .inl (fun _ => 0))), (q16, .inr (2, [.ref b0_20, .int (nI 0), .int (nI 0), .int (nI 0)])), (b0_20, .inl (cI, 5, .inl (fun _ => 0)))]) C [5] [0, 1, 2, 3, 4] 0 (c_X3_init l D cI q27 ) gX5_init_X3_init wX5_init_15 wX5_init_16 wX5_init_17 rfl (by decide +kernel) rfl ⟨rfl, rfl⟩ ⟨Nat.le_of_ble_eq_true rfl, Nat.le_of_ble_eq_true rfl⟩ rfl rfl rfl rfl (by decide) rfl rfl (Nat.le_of_ble_eq_true rfl) ⟨Nat.le_of_ble_eq_true rfl, Nat.le_of_ble_eq_true rfl⟩ dX5_init_31 (fun v9 w9 hw9 => ?_)
  obtain ⟨a0_31, a1_31, a2_31, rfl, rfl⟩ := hw9
  refine zg_cv (k' := 8) (n' := 124) (st' := [.ref q27, .ref c0]) (ws' := [(c0, .inr (5, [.ref q5, .ref q16, .null, .null, .null])), (q5, .inr (1, [.ref g0_9, .int (nI 0)])), (g0_9, .inl (cI, 56, .inl (fun _ => 0))), (q16, .inr (2, [.ref b0_20, .int (nI 0), .int (nI 0), .int (nI 0)])), (b0_20, .inl (cI, 5, .inl (fun _ => 0))), (q27, .inr (3, [.ref a0_31, .ref a1_31, .ref a2_31, .int (nI 0), .int (nI 0), .int (nI 0), .int (nI 0), .int (nI 0), .int (nI 0)])), (a0_31, .inl (cI, 5, .inl (fun _ => 0))), (a1_31, .inl (cI, 32, .inl (fun _ => 0))), (a2_31, .inl (cI, 11, .inl (fun _ => 0)))]) rfl rfl rfl ?_
  refine zg_putF C hin9 0 (ci := 5) (f := 2) (ws' := [(c0, .inr (5, [.ref q5, .ref q16, .ref q27, .null, .null])), (q5, .inr (1, [.ref g0_9, .int (nI 0)])), (g0_9, .inl (cI, 56, .inl (fun _ => 0))), (q16, .inr (2, [.ref b0_20, .int (nI 0), .int (nI 0), .int (nI 0)])), (b0_20, .inl (cI, 5, .inl (fun _ => 0))), (q27, .inr (3, [.ref a0_31, .ref a1_31, .ref a2_31, .int (nI 0), .int (nI 0), .int (nI 0), .int (nI 0), .int (nI 0), .int (nI 0)])), (a0_31, .inl (cI, 5, .inl (fun _ => 0))), (a1_31, .inl (cI, 32, .inl (fun _ => 0))), (a2_31, .inl (cI, 11, .inl (fun _ => 0)))]) rfl rfl uX5_init_5 tyX5_ok nmX5 (by decide) fX5_init_5_2 rfl rfl rfl rfl rfl (Nat.le_of_ble_eq_true rfl) dX5_init_34 rfl ?_
  refine zg_aload_n C 0 dX5_init_37 rfl ?_
  refine zg_new C (ci := 4) (fs := [.null, .int (nI 0), .int (nI 0), .int (nI 0)]) uX5_init_4 tyX4_ok wX5_init_18 wX5_init_19 wX5_init_20 rfl (fun j hj => by rcases (show j = 0 ∨ j = 1 ∨ j = 2 ∨ j = 3 by omega) with rfl | rfl | rfl | rfl <;> rfl) (Nat.le_of_ble_eq_true rfl) (Nat.le_of_ble_eq_true rfl) dX5_init_38 (fun q38 => ?_)
  refine zg_cv (k' := 9) (n' := 128) (ws' := [(c0, .inr (5, [.ref q5, .ref q16, .ref q27, .null, .null])), (q5, .inr (1, [.ref g0_9, .int (nI 0)])), (g0_9, .inl (cI, 56, .inl (fun _ => 0))), (q16, .inr (2, [.ref b0_20, .int (nI 0), .int (nI 0), .int (nI 0)])), (b0_20, .inl (cI, 5, .inl (fun _ => 0))), (q27, .inr (3, [.ref a0_31, .ref a1_31, .ref a2_31, .int (nI 0), .int (nI 0), .int (nI 0), .int (nI 0), .int (nI 0), .int (nI 0)])), (a0_31, .inl (cI, 5, .inl (fun _ => 0))), (a1_31, .inl (cI, 32, .inl (fun _ => 0))), (a2_31, .inl (cI, 11, .inl (fun _ => 0))), (q38, .inr (4, [.null, .int (nI 0), .int (nI 0), .int (nI 0)]))]) rfl rfl rfl ?_
  refine zg_dup C dX5_init_41 rfl ?_
  refine zg_callI (As := []) (st := [.ref q38, .ref c0]) (wo := [(c0, .inr (5, [.ref q5, .ref q16, .ref q27, .null, .null])), (q5, .inr (1, [.ref g0_9, .int (nI 0)])), (g0_9, .inl (cI, 56, .inl (fun _ => 0))), (q16, .inr (2, [.ref b0_20, .int (nI 0), .int (nI 0), .int (nI 0)])), (b0_20, .inl (cI, 5, .inl (fun _ => 0))), (q27, .inr (3, [.ref a0_31, .ref a1_31, .ref a2_31, .int (nI 0), .int (nI 0), .int (nI 0), .int (nI 0), .int (nI 0), .int (nI 0)])), (a0_31, .inl (cI, 5, .inl (fun _ => 0))), (a1_31, .inl (cI, 32, .inl (fun _ => 0))), (a2_31, .inl (cI, 11, .inl (fun _ => 0)))]) C [9] [0, 1, 2, 3, 4, 5, 6, 7, 8] 0 (c_X4_init l D cI q38 ) gX5_init_X4_init wX5_init_20 wX5_init_21 wX5_init_22 rfl (by decide +kernel) rfl ⟨rfl, rfl⟩ ⟨Nat.le_of_ble_eq_true rfl, Nat.le_of_ble_eq_true rfl⟩ rfl rfl rfl rfl (by decide) rfl rfl (Nat.le_of_ble_eq_true rfl) ⟨Nat.le_of_ble_eq_true rfl, Nat.le_of_ble_eq_true rfl⟩ dX5_init_42 (fun v9 w9 hw9 => ?_)
  obtain ⟨v0_42, rfl, rfl⟩ := hw9
  refine zg_cv (k' := 10) (n' := 132) (st' := [.ref q38, .ref c0]) (ws' := [(c0, .inr (5, [.ref q5, .ref q16, .ref q27, .null, .null])), (q5, .inr (1, [.ref g0_9, .int (nI 0)])), (g0_9, .inl (cI, 56, .inl (fun _ => 0))), (q16, .inr (2, [.ref b0_20, .int (nI 0), .int (nI 0), .int (nI 0)])), (b0_20, .inl (cI, 5, .inl (fun _ => 0))), (q27, .inr (3, [.ref a0_31, .ref a1_31, .ref a2_31, .int (nI 0), .int (nI 0), .int (nI 0), .int (nI 0), .int (nI 0), .int (nI 0)])), (a0_31, .inl (cI, 5, .inl (fun _ => 0))), (a1_31, .inl (cI, 32, .inl (fun _ => 0))), (a2_31, .inl (cI, 11, .inl (fun _ => 0))), (q38, .inr (4, [.ref v0_42, .int (nI 0), .int (nI 0), .int (nI 0)])), (v0_42, .inl (cI, 4, .inl (fun _ => 0)))]) rfl rfl rfl ?_
  refine zg_putF C hin9 0 (ci := 5) (f := 3) (ws' := [(c0, .inr (5, [.ref q5, .ref q16, .ref q27, .ref q38, .null])), (q5, .inr (1, [.ref g0_9, .int (nI 0)])), (g0_9, .inl (cI, 56, .inl (fun _ => 0))), (q16, .inr (2, [.ref b0_20, .int (nI 0), .int (nI 0), .int (nI 0)])), (b0_20, .inl (cI, 5, .inl (fun _ => 0))), (q27, .inr (3, [.ref a0_31, .ref a1_31, .ref a2_31, .int (nI 0), .int (nI 0), .int (nI 0), .int (nI 0), .int (nI 0), .int (nI 0)])), (a0_31, .inl (cI, 5, .inl (fun _ => 0))), (a1_31, .inl (cI, 32, .inl (fun _ => 0))), (a2_31, .inl (cI, 11, .inl (fun _ => 0))), (q38, .inr (4, [.ref v0_42, .int (nI 0), .int (nI 0), .int (nI 0)])), (v0_42, .inl (cI, 4, .inl (fun _ => 0)))]) rfl rfl uX5_init_5 tyX5_ok nmX5 (by decide) fX5_init_5_3 rfl rfl rfl rfl rfl (Nat.le_of_ble_eq_true rfl) dX5_init_45 rfl ?_
  refine zg_aload_n C 0 dX5_init_48 rfl ?_
  refine zg_new C (ci := 0) (fs := [.int (nI 0)]) uX5_init_0 tyX0_ok wX5_init_23 wX5_init_24 wX5_init_25 rfl (fun j hj => by rcases (show j = 0 by omega) with rfl <;> rfl) (Nat.le_of_ble_eq_true rfl) (Nat.le_of_ble_eq_true rfl) dX5_init_49 (fun q49 => ?_)
  refine zg_cv (k' := 11) (n' := 133) (ws' := [(c0, .inr (5, [.ref q5, .ref q16, .ref q27, .ref q38, .null])), (q5, .inr (1, [.ref g0_9, .int (nI 0)])), (g0_9, .inl (cI, 56, .inl (fun _ => 0))), (q16, .inr (2, [.ref b0_20, .int (nI 0), .int (nI 0), .int (nI 0)])), (b0_20, .inl (cI, 5, .inl (fun _ => 0))), (q27, .inr (3, [.ref a0_31, .ref a1_31, .ref a2_31, .int (nI 0), .int (nI 0), .int (nI 0), .int (nI 0), .int (nI 0), .int (nI 0)])), (a0_31, .inl (cI, 5, .inl (fun _ => 0))), (a1_31, .inl (cI, 32, .inl (fun _ => 0))), (a2_31, .inl (cI, 11, .inl (fun _ => 0))), (q38, .inr (4, [.ref v0_42, .int (nI 0), .int (nI 0), .int (nI 0)])), (v0_42, .inl (cI, 4, .inl (fun _ => 0))), (q49, .inr (0, [.int (nI 0)]))]) rfl rfl rfl ?_
  refine zg_dup C dX5_init_52 rfl ?_
  refine zg_callI (As := []) (st := [.ref q49, .ref c0]) (wo := [(c0, .inr (5, [.ref q5, .ref q16, .ref q27, .ref q38, .null])), (q5, .inr (1, [.ref g0_9, .int (nI 0)])), (g0_9, .inl (cI, 56, .inl (fun _ => 0))), (q16, .inr (2, [.ref b0_20, .int (nI 0), .int (nI 0), .int (nI 0)])), (b0_20, .inl (cI, 5, .inl (fun _ => 0))), (q27, .inr (3, [.ref a0_31, .ref a1_31, .ref a2_31, .int (nI 0), .int (nI 0), .int (nI 0), .int (nI 0), .int (nI 0), .int (nI 0)])), (a0_31, .inl (cI, 5, .inl (fun _ => 0))), (a1_31, .inl (cI, 32, .inl (fun _ => 0))), (a2_31, .inl (cI, 11, .inl (fun _ => 0))), (q38, .inr (4, [.ref v0_42, .int (nI 0), .int (nI 0), .int (nI 0)])), (v0_42, .inl (cI, 4, .inl (fun _ => 0)))]) C [11] [0, 1, 2, 3, 4, 5, 6, 7, 8, 9, 10] 0 (c_X0_init l D cI q49 (nI 0) ) gX5_init_X0_init wX5_init_25 wX5_init_26 wX5_init_27 rfl (by decide +kernel) rfl ⟨rfl, rfl⟩ ⟨Nat.le_of_ble_eq_true rfl, Nat.le_of_ble_eq_true rfl⟩ rfl rfl rfl rfl (by decide) rfl rfl (Nat.le_of_ble_eq_true rfl) ⟨Nat.le_of_ble_eq_true rfl, Nat.le_of_ble_eq_true rfl⟩ dX5_init_53 (fun v9 w9 hw9 => ?_)
  obtain ⟨rfl, rfl⟩ := hw9
  refine zg_cv (k' := 11) (n' := 133) (st' := [.ref q49, .ref c0]) (ws' := [(c0, .inr (5, [.ref q5, .ref q16, .ref q27, .ref q38, .null])), (q5, .inr (1, [.ref g0_9, .int (nI 0)])), (g0_9, .inl (cI, 56, .inl (fun _ => 0))), (q16, .inr (2, [.ref b0_20, .int (nI 0), .int (nI 0), .int (nI 0)])), (b0_20, .inl (cI, 5, .inl (fun _ => 0))), (q27, .inr (3, [.ref a0_31, .ref a1_31, .ref a2_31, .int (nI 0), .int (nI 0), .int (nI 0), .int (nI 0), .int (nI 0), .int (nI 0)])), (a0_31, .inl (cI, 5, .inl (fun _ => 0))), (a1_31, .inl (cI, 32, .inl (fun _ => 0))), (a2_31, .inl (cI, 11, .inl (fun _ => 0))), (q38, .inr (4, [.ref v0_42, .int (nI 0), .int (nI 0), .int (nI 0)])), (v0_42, .inl (cI, 4, .inl (fun _ => 0))), (q49, .inr (0, [.int (-1)]))]) rfl rfl rfl ?_
  refine zg_putF C hin9 0 (ci := 5) (f := 4) (ws' := [(c0, .inr (5, [.ref q5, .ref q16, .ref q27, .ref q38, .ref q49])), (q5, .inr (1, [.ref g0_9, .int (nI 0)])), (g0_9, .inl (cI, 56, .inl (fun _ => 0))), (q16, .inr (2, [.ref b0_20, .int (nI 0), .int (nI 0), .int (nI 0)])), (b0_20, .inl (cI, 5, .inl (fun _ => 0))), (q27, .inr (3, [.ref a0_31, .ref a1_31, .ref a2_31, .int (nI 0), .int (nI 0), .int (nI 0), .int (nI 0), .int (nI 0), .int (nI 0)])), (a0_31, .inl (cI, 5, .inl (fun _ => 0))), (a1_31, .inl (cI, 32, .inl (fun _ => 0))), (a2_31, .inl (cI, 11, .inl (fun _ => 0))), (q38, .inr (4, [.ref v0_42, .int (nI 0), .int (nI 0), .int (nI 0)])), (v0_42, .inl (cI, 4, .inl (fun _ => 0))), (q49, .inr (0, [.int (-1)]))]) rfl rfl uX5_init_5 tyX5_ok nmX5 (by decide) fX5_init_5_4 rfl rfl rfl rfl rfl (Nat.le_of_ble_eq_true rfl) dX5_init_56 rfl ?_
  exact zg_wvret C E dX5_init_59 (⟨_, _, _, _, _, _, _, _, _, _, _, rfl, rfl⟩)
