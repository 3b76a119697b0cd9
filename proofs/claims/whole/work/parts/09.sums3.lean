/-! Sums: its tables -/
theorem uX3_findLeaders_3 : ∀ w ∈ u_ws RX3 TX3 9, w ∈ wsX3_findLeaders := fun w h => List.mem_cons_of_mem _ (List.mem_append_right _ h)
theorem fX3_findLeaders_3_1 : Cond.fieldLink RX3 15 (TX3 1).1 (TX3 1).2.1 (TX3 1).2.2.1 ∈ wsX3_findLeaders := by decide +kernel
set_option maxHeartbeats 1000000 in
set_option maxRecDepth 100000 in
theorem c_X3_findLeaders (l : Launch) (D : va_G) (cI : ClassId) (h0 a0 a1 a2 : Nat) (Rf Lf Wf : Nat → Int32) (rc ln rk ds su rd : Nat) (R : Nat → Nat) (hrc : rc ≤ 5) (hln : ln ≤ 10) (hR : ∀ i, i < rc → Rf i = nI (R i)) (hRb : ∀ i, i < rc → R i < 1024) : zMw l D cI yX3_findLeaders wsX3_findLeaders { frames := 3, cells := 0, slots := 0, locals := 62 } [.ref h0] [(h0, .inr (3, [.ref a0, .ref a1, .ref a2, .int (nI rc), .int (nI ln), .int (nI rk), .int (nI ds), .int (nI su), .int (nI rd)])), (a0, .inl (cI, 5, .inl Rf)), (a1, .inl (cI, 32, .inl Lf)), (a2, .inl (cI, 11, .inl Wf))] (fun v9 w9 => v9 = none ∧ w9 = [(h0, .inr (3, [.ref a0, .ref a1, .ref a2, .int (nI rc), .int (nI ln), .int (nI rk), .int (nI ds), .int (nI su), .int (nI rd)])), (a0, .inl (cI, 5, .inl Rf)), (a1, .inl (cI, 32, .inl (fun s => zo (zld R rc (2 ^ ln) s)))), (a2, .inl (cI, 11, .inl Wf))]) 0 0 := by
  refine zw_ent (maxL := 4) (by decide) rfl (Nat.le_of_ble_eq_true rfl) (fun X C E hin9 => ?_)
  have C : zC X l D cI { frames := 3, cells := 0, slots := 0, locals := 62 } 4 true cX3_findLeaders RX3 wsX3_findLeaders := C
  refine zg_cv (lv' := [(0, .ref h0)]) rfl rfl rfl ?_
  have q0 := zpw hln
  have q1 := zpw0 ln
  have q5 := zpw5 hrc
  refine zg_cell 2 (ws' := [(h0, .inr (3, [.ref a0, .ref a1, .ref a2, .int (nI rc), .int (nI ln), .int (nI rk), .int (nI ds), .int (nI su), .int (nI rd)])), (a0, .inl (cI, 5, .inl Rf)), (a1, .inl (cI, 32, .inl (fun j => if j < 0 then -1001 else Lf j))), (a2, .inl (cI, 11, .inl Wf))]) (fun j => if j < 0 then -1001 else Lf j) rfl (fun j _ => by rw [if_neg (Nat.not_lt_zero j)]) rfl ?_
  refine zg_iconst (v := nI 0) C dX3_findLeaders_0 (by decide) ?_
  refine zg_istore_n C [1, 0] (lv' := [(0, .ref h0), (1, .int (nI 0))]) dX3_findLeaders_1 (by decide) rfl ?_
  have L_2 : ∀ i, i ≤ 32 → zG X 0 0 [(0, .ref h0), (1, .int (nI i))] [] [(h0, .inr (3, [.ref a0, .ref a1, .ref a2, .int (nI rc), .int (nI ln), .int (nI rk), .int (nI ds), .int (nI su), .int (nI rd)])), (a0, .inl (cI, 5, .inl Rf)), (a1, .inl (cI, 32, .inl (fun j => if j < i then -1001 else Lf j))), (a2, .inl (cI, 11, .inl Wf))] 2 := by
    refine zg_dn (fun i hi ih_2  => ?_)
    refine zg_iload_n C 1 dX3_findLeaders_2 rfl ?_
    refine zg_aload_n C 0 dX3_findLeaders_3 rfl ?_
    refine zg_get C 0 (ci := 3) (f := 1) rfl rfl uX3_findLeaders_3 (by decide) fX3_findLeaders_3_1 dX3_findLeaders_4 rfl ?_
    refine zg_alen C 2 rfl dX3_findLeaders_7 ?_
    refine zn_icmp_ge C 26 (by omega) (by omega) dX3_findLeaders_8 (by decide) (fun c_8 => ?_) (fun c_8 => ?_)
    · skip
      have e9_26 : 32 = i := by omega
      subst e9_26
      refine zg_cell 2 (ws' := [(h0, .inr (3, [.ref a0, .ref a1, .ref a2, .int (nI rc), .int (nI ln), .int (nI rk), .int (nI ds), .int (nI su), .int (nI rd)])), (a0, .inl (cI, 5, .inl Rf)), (a1, .inl (cI, 32, .inl (fun s => zo (zld R rc 0 s)))), (a2, .inl (cI, 11, .inl Wf))]) (fun s => zo (zld R rc 0 s)) rfl (fun s hs => by show (if s < 32 then (-1001 : Int32) else Lf s) = -1001; rw [if_pos hs]) rfl ?_
      refine zg_aload_n C 0 dX3_findLeaders_26 rfl ?_
      refine zg_callr (As := []) (st := []) C [0, 1, 2, 3] 0 0 (c_X3_words l D cI h0 a0 a1 a2 Rf (fun s => zo (zld R rc 0 s)) Wf rc ln rk ds su rd hln) gX3_findLeaders_X3_words (by decide +kernel) rfl ⟨rfl, rfl⟩ ⟨Nat.le_of_ble_eq_true rfl, Nat.le_of_ble_eq_true rfl⟩ rfl (ci := 3) rfl rfl rfl rfl (Nat.le_of_ble_eq_true rfl) ⟨Nat.le_of_ble_eq_true rfl, Nat.le_of_ble_eq_true rfl⟩ dX3_findLeaders_27 ?_
      refine zg_istore_n C [1, 0] (lv' := [(0, .ref h0), (1, .int (nI (2 ^ ln)))]) dX3_findLeaders_30 (by decide) rfl ?_
      refine zg_iconst (v := nI 0) C dX3_findLeaders_31 (by decide) ?_
      refine zg_istore_n C [1, 2, 0] (lv' := [(0, .ref h0), (1, .int (nI (2 ^ ln))), (2, .int (nI 0))]) dX3_findLeaders_32 (by decide) rfl ?_
      have L_33 : ∀ i, i ≤ 2 ^ ln → zG X 0 0 [(0, .ref h0), (1, .int (nI (2 ^ ln))), (2, .int (nI i))] [] [(h0, .inr (3, [.ref a0, .ref a1, .ref a2, .int (nI rc), .int (nI ln), .int (nI rk), .int (nI ds), .int (nI su), .int (nI rd)])), (a0, .inl (cI, 5, .inl Rf)), (a1, .inl (cI, 32, .inl (fun s => zo (zld R rc i s)))), (a2, .inl (cI, 11, .inl Wf))] 33 := by
        refine zg_dn (fun i hi ih_33  => ?_)
        refine zg_iload_n C 2 dX3_findLeaders_33 rfl ?_
        refine zg_iload_n C 1 dX3_findLeaders_34 rfl ?_
        refine zn_icmp_ge C 77 (by omega) (by omega) dX3_findLeaders_35 (by decide) (fun c_35 => ?_) (fun c_35 => ?_)
        · skip
          have e9_77 : 2 ^ ln = i := by omega
          subst e9_77
          exact zg_wvret C E dX3_findLeaders_77 (⟨rfl, rfl⟩)
        · skip
          refine zg_aload_n C 0 dX3_findLeaders_38 rfl ?_
          refine zg_iload_n C 2 dX3_findLeaders_39 rfl ?_
          refine zg_callr (As := [.int (nI i)]) (st := []) C [0, 1, 2, 3] 0 1 (c_X3_syndromeOf l D cI h0 a0 a1 a2 Rf (fun s => zo (zld R rc i s)) Wf rc ln rk ds su rd R i hrc hR hRb (by omega)) gX3_findLeaders_X3_syndromeOf (by decide +kernel) rfl ⟨rfl, rfl⟩ ⟨Nat.le_of_ble_eq_true rfl, Nat.le_of_ble_eq_true rfl⟩ rfl (ci := 3) rfl rfl rfl rfl (Nat.le_of_ble_eq_true rfl) ⟨Nat.le_of_ble_eq_true rfl, Nat.le_of_ble_eq_true rfl⟩ dX3_findLeaders_40 ?_
          refine zg_istore_n C [1, 2, 3, 0] (lv' := [(0, .ref h0), (1, .int (nI (2 ^ ln))), (2, .int (nI i)), (3, .int (nI (zsk R i rc)))]) dX3_findLeaders_43 (by decide) rfl ?_
          refine zg_aload_n C 0 dX3_findLeaders_44 rfl ?_
          refine zg_iload_n C 3 dX3_findLeaders_45 rfl ?_
          have q6 := zsk_lt R i rc
          refine zg_callr (As := [.int (nI (zsk R i rc))]) (st := []) C [0, 1, 2, 3] 0 1 (c_X3_isSyndrome l D cI h0 a0 a1 a2 Rf (fun s => zo (zld R rc i s)) Wf rc ln rk ds su rd (nI (zsk R i rc)) hrc) gX3_findLeaders_X3_isSyndrome (by decide +kernel) rfl ⟨rfl, rfl⟩ ⟨Nat.le_of_ble_eq_true rfl, Nat.le_of_ble_eq_true rfl⟩ rfl (ci := 3) rfl rfl rfl rfl (Nat.le_of_ble_eq_true rfl) ⟨Nat.le_of_ble_eq_true rfl, Nat.le_of_ble_eq_true rfl⟩ dX3_findLeaders_46 ?_
          refine zp_if_eq C 71 dX3_findLeaders_49 (by decide) (fun c_49 => by exact absurd (zin_nI q6 (by omega)) c_49) (fun c_49 => ?_)
          refine zg_iload_n C 2 dX3_findLeaders_52 rfl ?_
          refine zg_aload_n C 0 dX3_findLeaders_53 rfl ?_
          refine zg_iload_n C 3 dX3_findLeaders_54 rfl ?_
          refine zg_callr (As := [.int (nI (zsk R i rc))]) (st := [.int (nI i)]) C [0, 1, 2, 3] 0 1 (c_X3_leaderOf l D cI h0 a0 a1 a2 Rf (fun s => zo (zld R rc i s)) Wf rc ln rk ds su rd (zsk R i rc) hrc (by omega)) gX3_findLeaders_X3_leaderOf (by decide +kernel) rfl ⟨rfl, rfl⟩ ⟨Nat.le_of_ble_eq_true rfl, Nat.le_of_ble_eq_true rfl⟩ rfl (ci := 3) rfl rfl rfl rfl (Nat.le_of_ble_eq_true rfl) ⟨Nat.le_of_ble_eq_true rfl, Nat.le_of_ble_eq_true rfl⟩ dX3_findLeaders_55 ?_
          refine zg_calls (As := [.int (nI i), .int (zo (zld R rc i (zsk R i rc)))]) (st := []) C [] 2 (c_X3_isNearer l D cI i (zld R rc i (zsk R i rc)) (by omega) (fun v hv => by have := (zld_some hv).1; omega)) gX3_findLeaders_X3_isNearer (by decide +kernel) rfl ⟨rfl, rfl⟩ ⟨Nat.le_of_ble_eq_true rfl, Nat.le_of_ble_eq_true rfl⟩ rfl rfl rfl (Nat.le_of_ble_eq_true rfl) ⟨Nat.le_of_ble_eq_true rfl, Nat.le_of_ble_eq_true rfl⟩ dX3_findLeaders_58 ?_
          refine zb_if_eq C 71 dX3_findLeaders_61 (by decide) (fun c_61 => ?_) (fun c_61 => ?_)
          · skip
            refine zg_cell 2 (ws' := [(h0, .inr (3, [.ref a0, .ref a1, .ref a2, .int (nI rc), .int (nI ln), .int (nI rk), .int (nI ds), .int (nI su), .int (nI rd)])), (a0, .inl (cI, 5, .inl Rf)), (a1, .inl (cI, 32, .inl (fun s => zo (zld R rc (i + 1) s)))), (a2, .inl (cI, 11, .inl Wf))]) (fun s => zo (zld R rc (i + 1) s)) rfl (fun s _ => zld_miss c_61 s) rfl ?_
            refine zg_iinc C 2 [1, 2, 0, 3] (lv' := [(0, .ref h0), (1, .int (nI (2 ^ ln))), (2, .int (nI (i + 1))), (3, .int (nI (zsk R i rc)))]) (nI (i + 1)) dX3_findLeaders_71 rfl (zi_inc _) (by decide) rfl ?_
            refine zg_goto C 33 dX3_findLeaders_74 (by decide) ?_
            refine zg_lv [0, 1, 2] (lv' := [(0, .ref h0), (1, .int (nI (2 ^ ln))), (2, .int (nI (i + 1)))]) rfl ?_
            exact zg_cv (lv' := [(0, .ref h0), (1, .int (nI (2 ^ ln))), (2, .int (nI (i + 1)))]) (rfl) rfl (rfl) (ih_33 (by omega) )
          · skip
            refine zg_aload_n C 0 dX3_findLeaders_64 rfl ?_
            refine zg_get C 0 (ci := 3) (f := 1) rfl rfl uX3_findLeaders_3 (by decide) fX3_findLeaders_3_1 dX3_findLeaders_65 rfl ?_
            refine zg_iload_n C 3 dX3_findLeaders_68 rfl ?_
            refine zg_iload_n C 2 dX3_findLeaders_69 rfl ?_
            refine zg_iast C 2 (ws' := [(h0, .inr (3, [.ref a0, .ref a1, .ref a2, .int (nI rc), .int (nI ln), .int (nI rk), .int (nI ds), .int (nI su), .int (nI rd)])), (a0, .inl (cI, 5, .inl Rf)), (a1, .inl (cI, 32, .inl (upd (fun s => zo (zld R rc i s)) (zsk R i rc) (nI i)))), (a2, .inl (cI, 11, .inl Wf))]) rfl (by omega) (by decide) dX3_findLeaders_70 rfl ?_
            refine zg_cell 2 (ws' := [(h0, .inr (3, [.ref a0, .ref a1, .ref a2, .int (nI rc), .int (nI ln), .int (nI rk), .int (nI ds), .int (nI su), .int (nI rd)])), (a0, .inl (cI, 5, .inl Rf)), (a1, .inl (cI, 32, .inl (fun s => zo (zld R rc (i + 1) s)))), (a2, .inl (cI, 11, .inl Wf))]) (fun s => zo (zld R rc (i + 1) s)) rfl (fun s _ => zld_hit c_61 s) rfl ?_
            refine zg_iinc C 2 [1, 2, 0, 3] (lv' := [(0, .ref h0), (1, .int (nI (2 ^ ln))), (2, .int (nI (i + 1))), (3, .int (nI (zsk R i rc)))]) (nI (i + 1)) dX3_findLeaders_71 rfl (zi_inc _) (by decide) rfl ?_
            refine zg_goto C 33 dX3_findLeaders_74 (by decide) ?_
            refine zg_lv [0, 1, 2] (lv' := [(0, .ref h0), (1, .int (nI (2 ^ ln))), (2, .int (nI (i + 1)))]) rfl ?_
            exact zg_cv (lv' := [(0, .ref h0), (1, .int (nI (2 ^ ln))), (2, .int (nI (i + 1)))]) (rfl) rfl (rfl) (ih_33 (by omega) )
      exact zg_cv (lv' := [(0, .ref h0), (1, .int (nI (2 ^ ln))), (2, .int (nI 0))]) (rfl) rfl (rfl) (L_33 0 (Nat.zero_le _) )
    · skip
      refine zg_aload_n C 0 dX3_findLeaders_11 rfl ?_
      refine zg_get C 0 (ci := 3) (f := 1) rfl rfl uX3_findLeaders_3 (by decide) fX3_findLeaders_3_1 dX3_findLeaders_12 rfl ?_
      refine zg_iload_n C 1 dX3_findLeaders_15 rfl ?_
      refine zg_sipush (v := (-1001)) C dX3_findLeaders_16 (by decide) ?_
      refine zg_iast C 2 (ws' := [(h0, .inr (3, [.ref a0, .ref a1, .ref a2, .int (nI rc), .int (nI ln), .int (nI rk), .int (nI ds), .int (nI su), .int (nI rd)])), (a0, .inl (cI, 5, .inl Rf)), (a1, .inl (cI, 32, .inl (upd (fun j => if j < i then -1001 else Lf j) i (-1001)))), (a2, .inl (cI, 11, .inl Wf))]) rfl (by omega) (by decide) dX3_findLeaders_19 rfl ?_
      refine zg_cell 2 (ws' := [(h0, .inr (3, [.ref a0, .ref a1, .ref a2, .int (nI rc), .int (nI ln), .int (nI rk), .int (nI ds), .int (nI su), .int (nI rd)])), (a0, .inl (cI, 5, .inl Rf)), (a1, .inl (cI, 32, .inl (fun j => if j < (i + 1) then -1001 else Lf j))), (a2, .inl (cI, 11, .inl Wf))]) (fun j => if j < (i + 1) then -1001 else Lf j) rfl (fun j _ => zfill j) rfl ?_
      refine zg_iinc C 1 [1, 0] (lv' := [(0, .ref h0), (1, .int (nI (i + 1)))]) (nI (i + 1)) dX3_findLeaders_20 rfl (zi_inc _) (by decide) rfl ?_
      refine zg_goto C 2 dX3_findLeaders_23 (by decide) ?_
      exact zg_cv (lv' := [(0, .ref h0), (1, .int (nI (i + 1)))]) (rfl) rfl (rfl) (ih_2 (by omega) )
  exact zg_cv (lv' := [(0, .ref h0), (1, .int (nI 0))]) (rfl) rfl (rfl) (L_2 0 (Nat.zero_le _) )
theorem uX3_countLeaders_3 : ∀ w ∈ u_ws RX3 TX3 9, w ∈ wsX3_countLeaders := fun w h => List.mem_cons_of_mem _ (List.mem_append_right _ h)
theorem fX3_countLeaders_3_2 : Cond.fieldLink RX3 18 (TX3 2).1 (TX3 2).2.1 (TX3 2).2.2.1 ∈ wsX3_countLeaders := by decide +kernel
theorem fX3_countLeaders_3_8 : Cond.fieldLink RX3 37 (TX3 8).1 (TX3 8).2.1 (TX3 8).2.2.1 ∈ wsX3_countLeaders := by decide +kernel
theorem fX3_countLeaders_3_1 : Cond.fieldLink RX3 15 (TX3 1).1 (TX3 1).2.1 (TX3 1).2.2.1 ∈ wsX3_countLeaders := by decide +kernel
theorem fX3_countLeaders_3_5 : Cond.fieldLink RX3 28 (TX3 5).1 (TX3 5).2.1 (TX3 5).2.2.1 ∈ wsX3_countLeaders := by decide +kernel
theorem wX3_countLeaders_0 : Cond.methodLink RX3 84 Lib.Math.max.name ∈ wsX3_countLeaders := by decide +kernel
theorem wX3_countLeaders_1 : Cond.static Lib.Math.max.name ∈ wsX3_countLeaders := by decide +kernel
theorem wX3_countLeaders_2 : Cond.initialized "java/lang/Math" ∈ wsX3_countLeaders := by decide +kernel
theorem wX3_countLeaders_3 : Cond.code Lib.Math.max.name Lib.Math.max.code 2 (some .int) ∈ wsX3_countLeaders := by decide +kernel
set_option maxHeartbeats 1000000 in
set_option maxRecDepth 100000 in
theorem c_X3_countLeaders (l : Launch) (D : va_G) (cI : ClassId) (h0 a0 a1 a2 : Nat) (Rf Lf Wf : Nat → Int32) (rc ln rk ds su rd : Nat) (Lo : Nat → Option Nat) (hL : ∀ y, y < 32 → Lf y = zo (Lo y)) (hLo : ∀ y v, Lo y = some v → v < 1024) (hct : 0 < zct (fun s => (Lo s).isSome) 32) : zMw l D cI yX3_countLeaders wsX3_countLeaders { frames := 1, cells := 0, slots := 0, locals := 20 } [.ref h0] [(h0, .inr (3, [.ref a0, .ref a1, .ref a2, .int (nI rc), .int (nI ln), .int (nI rk), .int (nI ds), .int (nI su), .int (nI rd)])), (a0, .inl (cI, 5, .inl Rf)), (a1, .inl (cI, 32, .inl Lf)), (a2, .inl (cI, 11, .inl Wf))] (fun v9 w9 => v9 = none ∧ w9 = [(h0, .inr (3, [.ref a0, .ref a1, .ref a2, .int (nI rc), .int (nI ln), .int (nI (zpc (zct (fun s => (Lo s).isSome) 32 - 1))), .int (nI ds), .int (nI su), .int (nI (zrad Lo 32))])), (a0, .inl (cI, 5, .inl Rf)), (a1, .inl (cI, 32, .inl Lf)), (a2, .inl (cI, 11, .inl (fun j => nI (zct (zhw Lo j) 32))))]) 0 0 := by
  refine zw_ent (maxL := 4) (by decide) rfl (Nat.le_of_ble_eq_true rfl) (fun X C E hin9 => ?_)
  have C : zC X l D cI { frames := 1, cells := 0, slots := 0, locals := 20 } 4 true cX3_countLeaders RX3 wsX3_countLeaders := C
  refine zg_cv (lv' := [(0, .ref h0)]) rfl rfl rfl ?_
  refine zg_cell 3 (ws' := [(h0, .inr (3, [.ref a0, .ref a1, .ref a2, .int (nI rc), .int (nI ln), .int (nI rk), .int (nI ds), .int (nI su), .int (nI rd)])), (a0, .inl (cI, 5, .inl Rf)), (a1, .inl (cI, 32, .inl Lf)), (a2, .inl (cI, 11, .inl (fun j => if j < 0 then nI 0 else Wf j)))]) (fun j => if j < 0 then nI 0 else Wf j) rfl (fun j _ => by rw [if_neg (Nat.not_lt_zero j)]) rfl ?_
  refine zg_iconst (v := nI 0) C dX3_countLeaders_0 (by decide) ?_
  refine zg_istore_n C [1, 0] (lv' := [(0, .ref h0), (1, .int (nI 0))]) dX3_countLeaders_1 (by decide) rfl ?_
  have L_2 : ∀ i, i ≤ 11 → zG X 0 0 [(0, .ref h0), (1, .int (nI i))] [] [(h0, .inr (3, [.ref a0, .ref a1, .ref a2, .int (nI rc), .int (nI ln), .int (nI rk), .int (nI ds), .int (nI su), .int (nI rd)])), (a0, .inl (cI, 5, .inl Rf)), (a1, .inl (cI, 32, .inl Lf)), (a2, .inl (cI, 11, .inl (fun j => if j < i then nI 0 else Wf j)))] 2 := by
    refine zg_dn (fun i hi ih_2  => ?_)
    refine zg_iload_n C 1 dX3_countLeaders_2 rfl ?_
    refine zg_aload_n C 0 dX3_countLeaders_3 rfl ?_
    refine zg_get C 0 (ci := 3) (f := 2) rfl rfl uX3_countLeaders_3 (by decide) fX3_countLeaders_3_2 dX3_countLeaders_4 rfl ?_
    refine zg_alen C 3 rfl dX3_countLeaders_7 ?_
    refine zn_icmp_ge C 24 (by omega) (by omega) dX3_countLeaders_8 (by decide) (fun c_8 => ?_) (fun c_8 => ?_)
    · skip
      have e9_24 : 11 = i := by omega
      subst e9_24
      refine zg_cell 3 (ws' := [(h0, .inr (3, [.ref a0, .ref a1, .ref a2, .int (nI rc), .int (nI ln), .int (nI rk), .int (nI ds), .int (nI su), .int (nI rd)])), (a0, .inl (cI, 5, .inl Rf)), (a1, .inl (cI, 32, .inl Lf)), (a2, .inl (cI, 11, .inl (fun j => nI (zct (zhw Lo j) 0))))]) (fun j => nI (zct (zhw Lo j) 0)) rfl (fun j hj => by show (if j < 11 then nI 0 else Wf j) = nI 0; rw [if_pos hj]) rfl ?_
      refine zg_iconst (v := nI 0) C dX3_countLeaders_24 (by decide) ?_
      refine zg_istore_n C [1, 0] (lv' := [(0, .ref h0), (1, .int (nI 0))]) dX3_countLeaders_25 (by decide) rfl ?_
      refine zg_aload_n C 0 dX3_countLeaders_26 rfl ?_
      refine zg_iconst (v := nI 0) C dX3_countLeaders_27 (by decide) ?_
      refine zg_put C 0 (ci := 3) (f := 8) (ws' := [(h0, .inr (3, [.ref a0, .ref a1, .ref a2, .int (nI rc), .int (nI ln), .int (nI rk), .int (nI ds), .int (nI su), .int (nI 0)])), (a0, .inl (cI, 5, .inl Rf)), (a1, .inl (cI, 32, .inl Lf)), (a2, .inl (cI, 11, .inl (fun j => nI (zct (zhw Lo j) 0))))]) rfl rfl uX3_countLeaders_3 tyX3_ok nmX3 (by decide) fX3_countLeaders_3_8 rfl rfl rfl rfl (Nat.le_of_ble_eq_true rfl) dX3_countLeaders_28 rfl ?_
      refine zg_iconst (v := nI 0) C dX3_countLeaders_31 (by decide) ?_
      refine zg_istore_n C [1, 2, 0] (lv' := [(0, .ref h0), (1, .int (nI 0)), (2, .int (nI 0))]) dX3_countLeaders_32 (by decide) rfl ?_
      have L_33 : ∀ i, i ≤ 32 → zG X 0 0 [(0, .ref h0), (1, .int (nI (zct (fun s => (Lo s).isSome) i))), (2, .int (nI i))] [] [(h0, .inr (3, [.ref a0, .ref a1, .ref a2, .int (nI rc), .int (nI ln), .int (nI rk), .int (nI ds), .int (nI su), .int (nI (zrad Lo i))])), (a0, .inl (cI, 5, .inl Rf)), (a1, .inl (cI, 32, .inl Lf)), (a2, .inl (cI, 11, .inl (fun j => nI (zct (zhw Lo j) i))))] 33 := by
        refine zg_dn (fun i hi ih_33  => ?_)
        refine zg_iload_n C 2 dX3_countLeaders_33 rfl ?_
        refine zg_aload_n C 0 dX3_countLeaders_34 rfl ?_
        refine zg_get C 0 (ci := 3) (f := 1) rfl rfl uX3_countLeaders_3 (by decide) fX3_countLeaders_3_1 dX3_countLeaders_35 rfl ?_
        refine zg_alen C 2 rfl dX3_countLeaders_38 ?_
        refine zn_icmp_ge C 104 (by omega) (by omega) dX3_countLeaders_39 (by decide) (fun c_39 => ?_) (fun c_39 => ?_)
        · skip
          have e9_104 : 32 = i := by omega
          subst e9_104
          refine zg_aload_n C 0 dX3_countLeaders_104 rfl ?_
          refine zg_iload_n C 1 dX3_countLeaders_105 rfl ?_
          refine zg_iconst (v := nI 1) C dX3_countLeaders_106 (by decide) ?_
          have q6 := zct_le (fun s => (Lo s).isSome) 32
          refine zg_isub C dX3_countLeaders_107 (nI ((zct (fun s => (Lo s).isSome) 32) - 1)) (pk_sub (by omega)) ?_
          refine zg_calls (As := [.int (nI ((zct (fun s => (Lo s).isSome) 32) - 1))]) (st := [.ref h0]) C [] 1 (c_J6_bitCount_0f7a4 l D cI ((zct (fun s => (Lo s).isSome) 32) - 1) (by omega)) gX3_countLeaders_J6_bitCount_0f7a4 (by decide +kernel) rfl ⟨rfl, rfl⟩ ⟨Nat.le_of_ble_eq_true rfl, Nat.le_of_ble_eq_true rfl⟩ rfl rfl rfl (Nat.le_of_ble_eq_true rfl) ⟨Nat.le_of_ble_eq_true rfl, Nat.le_of_ble_eq_true rfl⟩ dX3_countLeaders_108 ?_
          refine zg_put C 0 (ci := 3) (f := 5) (ws' := [(h0, .inr (3, [.ref a0, .ref a1, .ref a2, .int (nI rc), .int (nI ln), .int (nI (zpc ((zct (fun s => (Lo s).isSome) 32) - 1))), .int (nI ds), .int (nI su), .int (nI (zrad Lo 32))])), (a0, .inl (cI, 5, .inl Rf)), (a1, .inl (cI, 32, .inl Lf)), (a2, .inl (cI, 11, .inl (fun j => nI (zct (zhw Lo j) 32))))]) rfl rfl uX3_countLeaders_3 tyX3_ok nmX3 (by decide) fX3_countLeaders_3_5 rfl rfl rfl rfl (Nat.le_of_ble_eq_true rfl) dX3_countLeaders_111 rfl ?_
          exact zg_wvret C E dX3_countLeaders_114 (⟨rfl, rfl⟩)
        · skip
          refine zg_aload_n C 0 dX3_countLeaders_42 rfl ?_
          refine zg_get C 0 (ci := 3) (f := 1) rfl rfl uX3_countLeaders_3 (by decide) fX3_countLeaders_3_1 dX3_countLeaders_43 rfl ?_
          refine zg_iload_n C 2 dX3_countLeaders_46 rfl ?_
          refine zg_iald C 2 rfl (by omega) (by decide) dX3_countLeaders_47 (zo (Lo i)) (hL i (by omega)) ?_
          rcases zopt (Lo i) with hz | ⟨v, hz⟩
          · skip
            refine zg_cv (st' := [.int (-1001)]) rfl (by rw [show zo (Lo i) = -1001 from (by rw [hz]; rfl)]) rfl ?_
            refine zg_sipush (v := (-1001)) C dX3_countLeaders_48 (by decide) ?_
            refine zg_icmp_eq C 98 dX3_countLeaders_51 (by decide) (fun c_51 => ?_) (fun c_51 => by exact absurd rfl c_51)
            refine zg_cell 3 (ws' := [(h0, .inr (3, [.ref a0, .ref a1, .ref a2, .int (nI rc), .int (nI ln), .int (nI rk), .int (nI ds), .int (nI su), .int (nI (zrad Lo i))])), (a0, .inl (cI, 5, .inl Rf)), (a1, .inl (cI, 32, .inl Lf)), (a2, .inl (cI, 11, .inl (fun j => nI (zct (zhw Lo j) (i + 1)))))]) (fun j => nI (zct (zhw Lo j) (i + 1))) rfl (fun j _ => zw_same hz j) rfl ?_
            refine zg_cv (lv' := [(0, .ref h0), (1, .int (nI (zct (fun s => (Lo s).isSome) (i + 1)))), (2, .int (nI i))]) (by rw [zct_f (zsome_f hz)]) rfl rfl ?_
            refine zg_cv (ws' := [(h0, .inr (3, [.ref a0, .ref a1, .ref a2, .int (nI rc), .int (nI ln), .int (nI rk), .int (nI ds), .int (nI su), .int (nI (zrad Lo (i + 1)))])), (a0, .inl (cI, 5, .inl Rf)), (a1, .inl (cI, 32, .inl Lf)), (a2, .inl (cI, 11, .inl (fun j => nI (zct (zhw Lo j) (i + 1)))))]) rfl rfl (by rw [zrad_none hz]) ?_
            refine zg_iinc C 2 [1, 2, 0] (lv' := [(0, .ref h0), (1, .int (nI (zct (fun s => (Lo s).isSome) (i + 1)))), (2, .int (nI (i + 1)))]) (nI (i + 1)) dX3_countLeaders_98 rfl (zi_inc _) (by decide) rfl ?_
            refine zg_goto C 33 dX3_countLeaders_101 (by decide) ?_
            exact zg_cv (lv' := [(0, .ref h0), (1, .int (nI (zct (fun s => (Lo s).isSome) (i + 1)))), (2, .int (nI (i + 1)))]) (rfl) rfl (rfl) (ih_33 (by omega) )
          · have hv := hLo i v hz
            have q3 := zpc_le v
            refine zg_cv (st' := [.int (nI v)]) rfl (by rw [show zo (Lo i) = nI v from (by rw [hz]; rfl)]) rfl ?_
            refine zg_sipush (v := (-1001)) C dX3_countLeaders_48 (by decide) ?_
            refine zg_icmp_eq C 98 dX3_countLeaders_51 (by decide) (fun c_51 => by exact absurd c_51 (zo_ne (by omega))) (fun c_51 => ?_)
            refine zg_aload_n C 0 dX3_countLeaders_54 rfl ?_
            refine zg_get C 0 (ci := 3) (f := 1) rfl rfl uX3_countLeaders_3 (by decide) fX3_countLeaders_3_1 dX3_countLeaders_55 rfl ?_
            refine zg_iload_n C 2 dX3_countLeaders_58 rfl ?_
            refine zg_iald C 2 rfl (by omega) (by decide) dX3_countLeaders_59 (nI v) ((hL i (by omega)).trans (by rw [hz]; rfl)) ?_
            refine zg_calls (As := [.int (nI v)]) (st := []) C [] 1 (c_J6_bitCount_0f7a4 l D cI v (by omega)) gX3_countLeaders_J6_bitCount_0f7a4 (by decide +kernel) rfl ⟨rfl, rfl⟩ ⟨Nat.le_of_ble_eq_true rfl, Nat.le_of_ble_eq_true rfl⟩ rfl rfl rfl (Nat.le_of_ble_eq_true rfl) ⟨Nat.le_of_ble_eq_true rfl, Nat.le_of_ble_eq_true rfl⟩ dX3_countLeaders_60 ?_
            refine zg_istore_n C [1, 2, 3, 0] (lv' := [(0, .ref h0), (1, .int (nI (zct (fun s => (Lo s).isSome) i))), (2, .int (nI i)), (3, .int (nI (zpc v)))]) dX3_countLeaders_63 (by decide) rfl ?_
            refine zg_iinc C 1 [1, 0, 2, 3] (lv' := [(0, .ref h0), (1, .int (nI (zct (fun s => (Lo s).isSome) i + 1))), (2, .int (nI i)), (3, .int (nI (zpc v)))]) (nI (zct (fun s => (Lo s).isSome) i + 1)) dX3_countLeaders_64 rfl (zi_inc _) (by decide) rfl ?_
            refine zg_aload_n C 0 dX3_countLeaders_67 rfl ?_
            refine zg_aload_n C 0 dX3_countLeaders_68 rfl ?_
            refine zg_get C 0 (ci := 3) (f := 8) rfl rfl uX3_countLeaders_3 (by decide) fX3_countLeaders_3_8 dX3_countLeaders_69 rfl ?_
            refine zg_iload_n C 3 dX3_countLeaders_72 rfl ?_
            have q4 := (zrad_spec Lo i).1
            refine zg_mmax C wX3_countLeaders_0 wX3_countLeaders_1 wX3_countLeaders_2 wX3_countLeaders_3 (Nat.le_of_ble_eq_true rfl) (Nat.le_of_ble_eq_true rfl) (Nat.le_of_ble_eq_true rfl) (Nat.le_of_ble_eq_true rfl) dX3_countLeaders_73 (nI (zrad Lo (i + 1))) ((zmx (by omega) (by omega)).trans (congrArg nI (zrad_some hz).symm)) ?_
            refine zg_put C 0 (ci := 3) (f := 8) (ws' := [(h0, .inr (3, [.ref a0, .ref a1, .ref a2, .int (nI rc), .int (nI ln), .int (nI rk), .int (nI ds), .int (nI su), .int (nI (zrad Lo (i + 1)))])), (a0, .inl (cI, 5, .inl Rf)), (a1, .inl (cI, 32, .inl Lf)), (a2, .inl (cI, 11, .inl (fun j => nI (zct (zhw Lo j) i))))]) rfl rfl uX3_countLeaders_3 tyX3_ok nmX3 (by decide) fX3_countLeaders_3_8 rfl rfl rfl rfl (Nat.le_of_ble_eq_true rfl) dX3_countLeaders_76 rfl ?_
            refine zg_iload_n C 3 dX3_countLeaders_79 rfl ?_
            refine zg_aload_n C 0 dX3_countLeaders_80 rfl ?_
            refine zg_get C 0 (ci := 3) (f := 2) rfl rfl uX3_countLeaders_3 (by decide) fX3_countLeaders_3_2 dX3_countLeaders_81 rfl ?_
            refine zg_alen C 3 rfl dX3_countLeaders_84 ?_
            refine zn_icmp_ge C 98 (by omega) (by omega) dX3_countLeaders_85 (by decide) (fun c_85 => by omega) (fun c_85 => ?_)
            refine zg_aload_n C 0 dX3_countLeaders_88 rfl ?_
            refine zg_get C 0 (ci := 3) (f := 2) rfl rfl uX3_countLeaders_3 (by decide) fX3_countLeaders_3_2 dX3_countLeaders_89 rfl ?_
            refine zg_iload_n C 3 dX3_countLeaders_92 rfl ?_
            refine zg_dup2 C dX3_countLeaders_93 rfl rfl ?_
            refine zg_iald C 3 rfl (by omega) (by decide) dX3_countLeaders_94 (nI (zct (zhw Lo (zpc v)) i)) (rfl) ?_
            refine zg_iconst (v := nI 1) C dX3_countLeaders_95 (by decide) ?_
            refine zg_iadd C dX3_countLeaders_96 (nI ((zct (zhw Lo (zpc v)) i) + 1)) (nI_add _ _) ?_
            refine zg_iast C 3 (ws' := [(h0, .inr (3, [.ref a0, .ref a1, .ref a2, .int (nI rc), .int (nI ln), .int (nI rk), .int (nI ds), .int (nI su), .int (nI (zrad Lo (i + 1)))])), (a0, .inl (cI, 5, .inl Rf)), (a1, .inl (cI, 32, .inl Lf)), (a2, .inl (cI, 11, .inl (upd (fun j => nI (zct (zhw Lo j) i)) (zpc v) (nI ((zct (zhw Lo (zpc v)) i) + 1)))))]) rfl (by omega) (by decide) dX3_countLeaders_97 rfl ?_
            refine zg_cell 3 (ws' := [(h0, .inr (3, [.ref a0, .ref a1, .ref a2, .int (nI rc), .int (nI ln), .int (nI rk), .int (nI ds), .int (nI su), .int (nI (zrad Lo (i + 1)))])), (a0, .inl (cI, 5, .inl Rf)), (a1, .inl (cI, 32, .inl Lf)), (a2, .inl (cI, 11, .inl (fun j => nI (zct (zhw Lo j) (i + 1)))))]) (fun j => nI (zct (zhw Lo j) (i + 1))) rfl (fun j _ => zw_add hz j) rfl ?_
            refine zg_cv (lv' := [(0, .ref h0), (1, .int (nI (zct (fun s => (Lo s).isSome) (i + 1)))), (2, .int (nI i)), (3, .int (nI (zpc v)))]) (by rw [zct_t (zsome_t hz)]) rfl rfl ?_
            refine zg_iinc C 2 [1, 2, 0, 3] (lv' := [(0, .ref h0), (1, .int (nI (zct (fun s => (Lo s).isSome) (i + 1)))), (2, .int (nI (i + 1))), (3, .int (nI (zpc v)))]) (nI (i + 1)) dX3_countLeaders_98 rfl (zi_inc _) (by decide) rfl ?_
            refine zg_goto C 33 dX3_countLeaders_101 (by decide) ?_
            refine zg_lv [0, 1, 2] (lv' := [(0, .ref h0), (1, .int (nI (zct (fun s => (Lo s).isSome) (i + 1)))), (2, .int (nI (i + 1)))]) rfl ?_
            exact zg_cv (lv' := [(0, .ref h0), (1, .int (nI (zct (fun s => (Lo s).isSome) (i + 1)))), (2, .int (nI (i + 1)))]) (rfl) rfl (rfl) (ih_33 (by omega) )
      exact zg_cv (lv' := [(0, .ref h0), (1, .int (nI (zct (fun s => (Lo s).isSome) 0))), (2, .int (nI 0))]) (rfl) rfl (rfl) (L_33 0 (Nat.zero_le _) )
    · skip
      refine zg_aload_n C 0 dX3_countLeaders_11 rfl ?_
      refine zg_get C 0 (ci := 3) (f := 2) rfl rfl uX3_countLeaders_3 (by decide) fX3_countLeaders_3_2 dX3_countLeaders_12 rfl ?_
      refine zg_iload_n C 1 dX3_countLeaders_15 rfl ?_
      refine zg_iconst (v := nI 0) C dX3_countLeaders_16 (by decide) ?_
      refine zg_iast C 3 (ws' := [(h0, .inr (3, [.ref a0, .ref a1, .ref a2, .int (nI rc), .int (nI ln), .int (nI rk), .int (nI ds), .int (nI su), .int (nI rd)])), (a0, .inl (cI, 5, .inl Rf)), (a1, .inl (cI, 32, .inl Lf)), (a2, .inl (cI, 11, .inl (upd (fun j => if j < i then nI 0 else Wf j) i (nI 0))))]) rfl (by omega) (by decide) dX3_countLeaders_17 rfl ?_
      refine zg_cell 3 (ws' := [(h0, .inr (3, [.ref a0, .ref a1, .ref a2, .int (nI rc), .int (nI ln), .int (nI rk), .int (nI ds), .int (nI su), .int (nI rd)])), (a0, .inl (cI, 5, .inl Rf)), (a1, .inl (cI, 32, .inl Lf)), (a2, .inl (cI, 11, .inl (fun j => if j < (i + 1) then nI 0 else Wf j)))]) (fun j => if j < (i + 1) then nI 0 else Wf j) rfl (fun j _ => zfill j) rfl ?_
      refine zg_iinc C 1 [1, 0] (lv' := [(0, .ref h0), (1, .int (nI (i + 1)))]) (nI (i + 1)) dX3_countLeaders_18 rfl (zi_inc _) (by decide) rfl ?_
      refine zg_goto C 2 dX3_countLeaders_21 (by decide) ?_
      exact zg_cv (lv' := [(0, .ref h0), (1, .int (nI (i + 1)))]) (rfl) rfl (rfl) (ih_2 (by omega) )
  exact zg_cv (lv' := [(0, .ref h0), (1, .int (nI 0))]) (rfl) rfl (rfl) (L_2 0 (Nat.zero_le _) )
theorem uX3_gainBy_3 : ∀ w ∈ u_ws RX3 TX3 9, w ∈ wsX3_gainBy := fun w h => List.mem_cons_of_mem _ (List.mem_append_right _ h)
theorem fX3_gainBy_3_0 : Cond.fieldLink RX3 9 (TX3 0).1 (TX3 0).2.1 (TX3 0).2.2.1 ∈ wsX3_gainBy := by decide +kernel
theorem fX3_gainBy_3_6 : Cond.fieldLink RX3 31 (TX3 6).1 (TX3 6).2.1 (TX3 6).2.2.1 ∈ wsX3_gainBy := by decide +kernel
set_option maxHeartbeats 1000000 in
set_option maxRecDepth 100000 in
theorem c_X3_gainBy (l : Launch) (D : va_G) (cI : ClassId) (h0 a0 a1 a2 : Nat) (Rf Lf Wf : Nat → Int32) (rc ln rk ds su rd : Nat) (R : Nat → Nat) (i v : Nat) (hrc : rc ≤ 5) (hln : ln ≤ 10) (hR : ∀ i, i < rc → Rf i = nI (R i)) (hRb : ∀ i, i < rc → R i < 1024) (hi : i < rc) (hv : v < 1024) : zMw l D cI yX3_gainBy wsX3_gainBy { frames := 3, cells := 0, slots := 0, locals := 67 } [.ref h0, .int (nI i), .int (nI v)] [(h0, .inr (3, [.ref a0, .ref a1, .ref a2, .int (nI rc), .int (nI ln), .int (nI rk), .int (nI ds), .int (nI su), .int (nI rd)])), (a0, .inl (cI, 5, .inl Rf)), (a1, .inl (cI, 32, .inl Lf)), (a2, .inl (cI, 11, .inl Wf))] (fun v9 w9 => v9 = some (.int (nI (zdm (zset R i v) rc ln (2 ^ ln)) - nI ds)) ∧ w9 = [(h0, .inr (3, [.ref a0, .ref a1, .ref a2, .int (nI rc), .int (nI ln), .int (nI rk), .int (nI ds), .int (nI su), .int (nI rd)])), (a0, .inl (cI, 5, .inl Rf)), (a1, .inl (cI, 32, .inl Lf)), (a2, .inl (cI, 11, .inl Wf))]) 0 0 := by
  refine zw_ent (maxL := 5) (by decide) rfl (Nat.le_of_ble_eq_true rfl) (fun X C E hin9 => ?_)
  have C : zC X l D cI { frames := 3, cells := 0, slots := 0, locals := 67 } 5 true cX3_gainBy RX3 wsX3_gainBy := C
  refine zg_cv (lv' := [(0, .ref h0), (1, .int (nI i)), (2, .int (nI v))]) rfl rfl rfl ?_
  refine zg_aload_n C 0 dX3_gainBy_0 rfl ?_
  refine zg_iload_n C 1 dX3_gainBy_1 rfl ?_
  refine zg_callr (As := [.int (nI i)]) (st := []) C [0, 1, 2, 3] 0 1 (c_X3_isRow l D cI h0 a0 a1 a2 Rf Lf Wf rc ln rk ds su rd (nI i) hrc) gX3_gainBy_X3_isRow (by decide +kernel) rfl ⟨rfl, rfl⟩ ⟨Nat.le_of_ble_eq_true rfl, Nat.le_of_ble_eq_true rfl⟩ rfl (ci := 3) rfl rfl rfl rfl (Nat.le_of_ble_eq_true rfl) ⟨Nat.le_of_ble_eq_true rfl, Nat.le_of_ble_eq_true rfl⟩ dX3_gainBy_2 ?_
  refine zp_if_ne C 10 dX3_gainBy_5 (by decide) (fun c_5 => ?_) (fun c_5 => by exact absurd (zin_nI hi (by omega)) c_5)
  refine zg_aload_n C 0 dX3_gainBy_10 rfl ?_
  refine zg_get C 0 (ci := 3) (f := 0) rfl rfl uX3_gainBy_3 (by decide) fX3_gainBy_3_0 dX3_gainBy_11 rfl ?_
  refine zg_iload_n C 1 dX3_gainBy_14 rfl ?_
  refine zg_iald C 1 rfl (by omega) (by decide) dX3_gainBy_15 (Rf i) (rfl) ?_
  refine zg_istore_n C [1, 2, 3, 0] (lv' := [(0, .ref h0), (1, .int (nI i)), (2, .int (nI v)), (3, .int (Rf i))]) dX3_gainBy_16 (by decide) rfl ?_
  refine zg_aload_n C 0 dX3_gainBy_17 rfl ?_
  refine zg_get C 0 (ci := 3) (f := 0) rfl rfl uX3_gainBy_3 (by decide) fX3_gainBy_3_0 dX3_gainBy_18 rfl ?_
  refine zg_iload_n C 1 dX3_gainBy_21 rfl ?_
  refine zg_iload_n C 2 dX3_gainBy_22 rfl ?_
  refine zg_iast C 1 (ws' := [(h0, .inr (3, [.ref a0, .ref a1, .ref a2, .int (nI rc), .int (nI ln), .int (nI rk), .int (nI ds), .int (nI su), .int (nI rd)])), (a0, .inl (cI, 5, .inl (upd Rf i (nI v)))), (a1, .inl (cI, 32, .inl Lf)), (a2, .inl (cI, 11, .inl Wf))]) rfl (by omega) (by decide) dX3_gainBy_23 rfl ?_
  refine zg_aload_n C 0 dX3_gainBy_24 rfl ?_
  refine zg_callr (As := []) (st := []) C [0, 1, 2, 3] 0 0 (c_X3_leastWeightWithoutSyndrome l D cI h0 a0 a1 a2 (upd Rf i (nI v)) Lf Wf rc ln rk ds su rd (zset R i v) hrc hln (fun j hj => zset_arr hR j hj) (fun j hj => zset_b hRb hv j hj)) gX3_gainBy_X3_leastWeightWithoutSyndrome (by decide +kernel) rfl ⟨rfl, rfl⟩ ⟨Nat.le_of_ble_eq_true rfl, Nat.le_of_ble_eq_true rfl⟩ rfl (ci := 3) rfl rfl rfl rfl (Nat.le_of_ble_eq_true rfl) ⟨Nat.le_of_ble_eq_true rfl, Nat.le_of_ble_eq_true rfl⟩ dX3_gainBy_25 ?_
  refine zg_istore C [1, 2, 3, 4, 0] (lv' := [(0, .ref h0), (1, .int (nI i)), (2, .int (nI v)), (3, .int (Rf i)), (4, .int (nI (zdm (zset R i v) rc ln (2 ^ ln))))]) dX3_gainBy_28 (by decide) rfl ?_
  refine zg_aload_n C 0 dX3_gainBy_30 rfl ?_
  refine zg_get C 0 (ci := 3) (f := 0) rfl rfl uX3_gainBy_3 (by decide) fX3_gainBy_3_0 dX3_gainBy_31 rfl ?_
  refine zg_iload_n C 1 dX3_gainBy_34 rfl ?_
  refine zg_iload_n C 3 dX3_gainBy_35 rfl ?_
  refine zg_iast C 1 (ws' := [(h0, .inr (3, [.ref a0, .ref a1, .ref a2, .int (nI rc), .int (nI ln), .int (nI rk), .int (nI ds), .int (nI su), .int (nI rd)])), (a0, .inl (cI, 5, .inl (upd (upd Rf i (nI v)) i (Rf i)))), (a1, .inl (cI, 32, .inl Lf)), (a2, .inl (cI, 11, .inl Wf))]) rfl (by omega) (by decide) dX3_gainBy_36 rfl ?_
  refine zg_cell 1 (ws' := [(h0, .inr (3, [.ref a0, .ref a1, .ref a2, .int (nI rc), .int (nI ln), .int (nI rk), .int (nI ds), .int (nI su), .int (nI rd)])), (a0, .inl (cI, 5, .inl Rf)), (a1, .inl (cI, 32, .inl Lf)), (a2, .inl (cI, 11, .inl Wf))]) Rf rfl (fun j _ => zback j) rfl ?_
  refine zg_iload C 4 dX3_gainBy_37 rfl ?_
  refine zg_aload_n C 0 dX3_gainBy_39 rfl ?_
  refine zg_get C 0 (ci := 3) (f := 6) rfl rfl uX3_gainBy_3 (by decide) fX3_gainBy_3_6 dX3_gainBy_40 rfl ?_
  refine zg_isub C dX3_gainBy_43 (nI (zdm (zset R i v) rc ln (2 ^ ln)) - nI ds) (rfl) ?_
  exact zg_wiret C E dX3_gainBy_44 (⟨rfl, rfl⟩)
