/-! Sums: its searches -/
theorem uX3_leastWeightWithoutSyndrome_3 : ∀ w ∈ u_ws RX3 TX3 9, w ∈ wsX3_leastWeightWithoutSyndrome := fun w h => List.mem_cons_of_mem _ (List.mem_append_right _ h)
theorem fX3_leastWeightWithoutSyndrome_3_4 : Cond.fieldLink RX3 25 (TX3 4).1 (TX3 4).2.1 (TX3 4).2.2.1 ∈ wsX3_leastWeightWithoutSyndrome := by decide +kernel
set_option maxHeartbeats 1000000 in
set_option maxRecDepth 100000 in
theorem c_X3_leastWeightWithoutSyndrome (l : Launch) (D : va_G) (cI : ClassId) (h0 a0 a1 a2 : Nat) (Rf Lf Wf : Nat → Int32) (rc ln rk ds su rd : Nat) (R : Nat → Nat) (hrc : rc ≤ 5) (hln : ln ≤ 10) (hR : ∀ i, i < rc → Rf i = nI (R i)) (hRb : ∀ i, i < rc → R i < 1024) : zMr l D cI yX3_leastWeightWithoutSyndrome wsX3_leastWeightWithoutSyndrome { frames := 2, cells := 0, slots := 0, locals := 43 } [.ref h0] [(h0, .inr (3, [.ref a0, .ref a1, .ref a2, .int (nI rc), .int (nI ln), .int (nI rk), .int (nI ds), .int (nI su), .int (nI rd)])), (a0, .inl (cI, 5, .inl Rf)), (a1, .inl (cI, 32, .inl Lf)), (a2, .inl (cI, 11, .inl Wf))] (nI (zdm R rc ln (2 ^ ln))) := by
  refine zr_ent (maxL := 5) (by decide) rfl (Nat.le_of_ble_eq_true rfl) (fun X C E => ?_)
  have C : zC X l D cI { frames := 2, cells := 0, slots := 0, locals := 43 } 5 false cX3_leastWeightWithoutSyndrome RX3 wsX3_leastWeightWithoutSyndrome := C
  refine zg_cv (lv' := [(0, .ref h0)]) rfl rfl rfl ?_
  have q0 := zpw hln
  have q1 := zpw0 ln
  refine zg_aload_n C 0 dX3_leastWeightWithoutSyndrome_0 rfl ?_
  refine zg_callr (As := []) (st := []) C [0, 1, 2, 3] 0 0 (c_X3_words l D cI h0 a0 a1 a2 Rf Lf Wf rc ln rk ds su rd hln) gX3_leastWeightWithoutSyndrome_X3_words (by decide +kernel) rfl ⟨rfl, rfl⟩ ⟨Nat.le_of_ble_eq_true rfl, Nat.le_of_ble_eq_true rfl⟩ rfl (ci := 3) rfl rfl rfl rfl (Nat.le_of_ble_eq_true rfl) ⟨Nat.le_of_ble_eq_true rfl, Nat.le_of_ble_eq_true rfl⟩ dX3_leastWeightWithoutSyndrome_1 ?_
  refine zg_istore_n C [1, 0] (lv' := [(0, .ref h0), (1, .int (nI (2 ^ ln)))]) dX3_leastWeightWithoutSyndrome_4 (by decide) rfl ?_
  refine zg_aload_n C 0 dX3_leastWeightWithoutSyndrome_5 rfl ?_
  refine zg_get C 0 (ci := 3) (f := 4) rfl rfl uX3_leastWeightWithoutSyndrome_3 (by decide) fX3_leastWeightWithoutSyndrome_3_4 dX3_leastWeightWithoutSyndrome_6 rfl ?_
  refine zg_iconst (v := nI 1) C dX3_leastWeightWithoutSyndrome_9 (by decide) ?_
  refine zg_iadd C dX3_leastWeightWithoutSyndrome_10 (nI (ln + 1)) (nI_add _ _) ?_
  refine zg_istore_n C [1, 2, 0] (lv' := [(0, .ref h0), (1, .int (nI (2 ^ ln))), (2, .int (nI (ln + 1)))]) dX3_leastWeightWithoutSyndrome_11 (by decide) rfl ?_
  refine zg_iconst (v := nI 1) C dX3_leastWeightWithoutSyndrome_12 (by decide) ?_
  refine zg_istore_n C [1, 2, 3, 0] (lv' := [(0, .ref h0), (1, .int (nI (2 ^ ln))), (2, .int (nI (ln + 1))), (3, .int (nI 1))]) dX3_leastWeightWithoutSyndrome_13 (by decide) rfl ?_
  have L_14 : ∀ i, i ≤ 2 ^ ln - 1 → zG X 0 0 [(0, .ref h0), (1, .int (nI (2 ^ ln))), (2, .int (nI (zdm R rc ln (i + 1)))), (3, .int (nI (i + 1)))] [] [(h0, .inr (3, [.ref a0, .ref a1, .ref a2, .int (nI rc), .int (nI ln), .int (nI rk), .int (nI ds), .int (nI su), .int (nI rd)])), (a0, .inl (cI, 5, .inl Rf)), (a1, .inl (cI, 32, .inl Lf)), (a2, .inl (cI, 11, .inl Wf))] 14 := by
    refine zg_dn (fun i hi ih_14  => ?_)
    refine zg_iload_n C 3 dX3_leastWeightWithoutSyndrome_14 rfl ?_
    refine zg_iload_n C 1 dX3_leastWeightWithoutSyndrome_15 rfl ?_
    have q2 := zdm_le R rc ln (i + 1)
    have q3 := zpc_le (i + 1)
    have q4 := zsk_lt R (i + 1) rc
    have q5 := zpw5 hrc
    refine zn_icmp_ge C 48 (by omega) (by omega) dX3_leastWeightWithoutSyndrome_16 (by decide) (fun c_16 => ?_) (fun c_16 => ?_)
    · skip
      refine zg_iload_n C 2 dX3_leastWeightWithoutSyndrome_48 rfl ?_
      exact zg_iret C E dX3_leastWeightWithoutSyndrome_49 (by rw [show i + 1 = 2 ^ ln by omega])
    · skip
      refine zg_iload_n C 3 dX3_leastWeightWithoutSyndrome_19 rfl ?_
      refine zg_calls (As := [.int (nI (i + 1))]) (st := []) C [] 1 (c_J6_bitCount_0f7a4 l D cI (i + 1) (by omega)) gX3_leastWeightWithoutSyndrome_J6_bitCount_0f7a4 (by decide +kernel) rfl ⟨rfl, rfl⟩ ⟨Nat.le_of_ble_eq_true rfl, Nat.le_of_ble_eq_true rfl⟩ rfl rfl rfl (Nat.le_of_ble_eq_true rfl) ⟨Nat.le_of_ble_eq_true rfl, Nat.le_of_ble_eq_true rfl⟩ dX3_leastWeightWithoutSyndrome_20 ?_
      refine zg_istore C [1, 2, 3, 4, 0] (lv' := [(0, .ref h0), (1, .int (nI (2 ^ ln))), (2, .int (nI (zdm R rc ln (i + 1)))), (3, .int (nI (i + 1))), (4, .int (nI (zpc (i + 1))))]) dX3_leastWeightWithoutSyndrome_23 (by decide) rfl ?_
      refine zg_iload C 4 dX3_leastWeightWithoutSyndrome_25 rfl ?_
      refine zg_iload_n C 2 dX3_leastWeightWithoutSyndrome_27 rfl ?_
      refine zn_icmp_ge C 42 (by omega) (by omega) dX3_leastWeightWithoutSyndrome_28 (by decide) (fun c_28 => ?_) (fun c_28 => ?_)
      · skip
        refine zg_iinc C 3 [1, 2, 3, 0, 4] (lv' := [(0, .ref h0), (1, .int (nI (2 ^ ln))), (2, .int (nI (zdm R rc ln (i + 1)))), (3, .int (nI (i + 1 + 1))), (4, .int (nI (zpc (i + 1))))]) (nI (i + 1 + 1)) dX3_leastWeightWithoutSyndrome_42 rfl (zi_inc _) (by decide) rfl ?_
        refine zg_goto C 14 dX3_leastWeightWithoutSyndrome_45 (by decide) ?_
        refine zg_lv [0, 1, 2, 3] (lv' := [(0, .ref h0), (1, .int (nI (2 ^ ln))), (2, .int (nI (zdm R rc ln (i + 1)))), (3, .int (nI (i + 1 + 1)))]) rfl ?_
        exact zg_cv (lv' := [(0, .ref h0), (1, .int (nI (2 ^ ln))), (2, .int (nI (zdm R rc ln ((i + 1) + 1)))), (3, .int (nI ((i + 1) + 1)))]) (by rw [zdm_miss (w := i + 1) (fun q => by omega)]) rfl (rfl) (ih_14 (by omega) )
      · skip
        refine zg_aload_n C 0 dX3_leastWeightWithoutSyndrome_31 rfl ?_
        refine zg_iload_n C 3 dX3_leastWeightWithoutSyndrome_32 rfl ?_
        refine zg_callr (As := [.int (nI (i + 1))]) (st := []) C [0, 1, 2, 3] 0 1 (c_X3_syndromeOf l D cI h0 a0 a1 a2 Rf Lf Wf rc ln rk ds su rd R (i + 1) hrc hR hRb (by omega)) gX3_leastWeightWithoutSyndrome_X3_syndromeOf (by decide +kernel) rfl ⟨rfl, rfl⟩ ⟨Nat.le_of_ble_eq_true rfl, Nat.le_of_ble_eq_true rfl⟩ rfl (ci := 3) rfl rfl rfl rfl (Nat.le_of_ble_eq_true rfl) ⟨Nat.le_of_ble_eq_true rfl, Nat.le_of_ble_eq_true rfl⟩ dX3_leastWeightWithoutSyndrome_33 ?_
        refine zn_if_ne C 42 (by omega) dX3_leastWeightWithoutSyndrome_36 (by decide) (fun c_36 => ?_) (fun c_36 => ?_)
        · skip
          refine zg_iinc C 3 [1, 2, 3, 0, 4] (lv' := [(0, .ref h0), (1, .int (nI (2 ^ ln))), (2, .int (nI (zdm R rc ln (i + 1)))), (3, .int (nI (i + 1 + 1))), (4, .int (nI (zpc (i + 1))))]) (nI (i + 1 + 1)) dX3_leastWeightWithoutSyndrome_42 rfl (zi_inc _) (by decide) rfl ?_
          refine zg_goto C 14 dX3_leastWeightWithoutSyndrome_45 (by decide) ?_
          refine zg_lv [0, 1, 2, 3] (lv' := [(0, .ref h0), (1, .int (nI (2 ^ ln))), (2, .int (nI (zdm R rc ln (i + 1)))), (3, .int (nI (i + 1 + 1)))]) rfl ?_
          exact zg_cv (lv' := [(0, .ref h0), (1, .int (nI (2 ^ ln))), (2, .int (nI (zdm R rc ln ((i + 1) + 1)))), (3, .int (nI ((i + 1) + 1)))]) (by rw [zdm_miss (w := i + 1) (fun q => by omega)]) rfl (rfl) (ih_14 (by omega) )
        · skip
          refine zg_iload C 4 dX3_leastWeightWithoutSyndrome_39 rfl ?_
          refine zg_istore_n C [1, 2, 0, 3, 4] (lv' := [(0, .ref h0), (1, .int (nI (2 ^ ln))), (2, .int (nI (zpc (i + 1)))), (3, .int (nI (i + 1))), (4, .int (nI (zpc (i + 1))))]) dX3_leastWeightWithoutSyndrome_41 (by decide) rfl ?_
          refine zg_iinc C 3 [1, 2, 3, 0, 4] (lv' := [(0, .ref h0), (1, .int (nI (2 ^ ln))), (2, .int (nI (zpc (i + 1)))), (3, .int (nI (i + 1 + 1))), (4, .int (nI (zpc (i + 1))))]) (nI (i + 1 + 1)) dX3_leastWeightWithoutSyndrome_42 rfl (zi_inc _) (by decide) rfl ?_
          refine zg_goto C 14 dX3_leastWeightWithoutSyndrome_45 (by decide) ?_
          refine zg_lv [0, 1, 2, 3] (lv' := [(0, .ref h0), (1, .int (nI (2 ^ ln))), (2, .int (nI (zpc (i + 1)))), (3, .int (nI (i + 1 + 1)))]) rfl ?_
          exact zg_cv (lv' := [(0, .ref h0), (1, .int (nI (2 ^ ln))), (2, .int (nI (zdm R rc ln ((i + 1) + 1)))), (3, .int (nI ((i + 1) + 1)))]) (by rw [zdm_hit (w := i + 1) c_28 c_36 (by omega)]) rfl (rfl) (ih_14 (by omega) )
  exact zg_cv (lv' := [(0, .ref h0), (1, .int (nI (2 ^ ln))), (2, .int (nI (zdm R rc ln (0 + 1)))), (3, .int (nI (0 + 1)))]) (by rw [zdm_1]) rfl (rfl) (L_14 0 (Nat.zero_le _) )
set_option maxHeartbeats 1000000 in
set_option maxRecDepth 100000 in
theorem c_X3_wordOfCoset (l : Launch) (D : va_G) (cI : ClassId) (h0 a0 a1 a2 : Nat) (Rf Lf Wf : Nat → Int32) (rc ln rk ds su rd : Nat) (R : Nat → Nat) (y : Nat) (x : Int32) (hrc : rc ≤ 5) (hln : ln ≤ 10) (hR : ∀ i, i < rc → Rf i = nI (R i)) (hRb : ∀ i, i < rc → R i < 1024) (hy : y < 2 ^ rc) : zMr l D cI yX3_wordOfCoset wsX3_wordOfCoset { frames := 2, cells := 0, slots := 0, locals := 43 } [.ref h0, .int (nI y), .int x] [(h0, .inr (3, [.ref a0, .ref a1, .ref a2, .int (nI rc), .int (nI ln), .int (nI rk), .int (nI ds), .int (nI su), .int (nI rd)])), (a0, .inl (cI, 5, .inl Rf)), (a1, .inl (cI, 32, .inl Lf)), (a2, .inl (cI, 11, .inl Wf))] (zco (fun w => decide (zsk R w rc = y)) x (2 ^ ln) 0 0) := by
  refine zr_ent (maxL := 6) (by decide) rfl (Nat.le_of_ble_eq_true rfl) (fun X C E => ?_)
  have C : zC X l D cI { frames := 2, cells := 0, slots := 0, locals := 43 } 6 false cX3_wordOfCoset RX3 wsX3_wordOfCoset := C
  refine zg_cv (lv' := [(0, .ref h0), (1, .int (nI y)), (2, .int x)]) rfl rfl rfl ?_
  have q0 := zpw hln
  have q1 := zpw0 ln
  have q5 := zpw5 hrc
  refine zg_aload_n C 0 dX3_wordOfCoset_0 rfl ?_
  refine zg_callr (As := []) (st := []) C [0, 1, 2, 3] 0 0 (c_X3_words l D cI h0 a0 a1 a2 Rf Lf Wf rc ln rk ds su rd hln) gX3_wordOfCoset_X3_words (by decide +kernel) rfl ⟨rfl, rfl⟩ ⟨Nat.le_of_ble_eq_true rfl, Nat.le_of_ble_eq_true rfl⟩ rfl (ci := 3) rfl rfl rfl rfl (Nat.le_of_ble_eq_true rfl) ⟨Nat.le_of_ble_eq_true rfl, Nat.le_of_ble_eq_true rfl⟩ dX3_wordOfCoset_1 ?_
  refine zg_istore_n C [1, 2, 3, 0] (lv' := [(0, .ref h0), (1, .int (nI y)), (2, .int x), (3, .int (nI (2 ^ ln)))]) dX3_wordOfCoset_4 (by decide) rfl ?_
  refine zg_iconst (v := nI 0) C dX3_wordOfCoset_5 (by decide) ?_
  refine zg_istore C [1, 2, 3, 4, 0] (lv' := [(0, .ref h0), (1, .int (nI y)), (2, .int x), (3, .int (nI (2 ^ ln))), (4, .int (nI 0))]) dX3_wordOfCoset_6 (by decide) rfl ?_
  refine zg_iconst (v := nI 0) C dX3_wordOfCoset_8 (by decide) ?_
  refine zg_istore C [1, 2, 3, 4, 5, 0] (lv' := [(0, .ref h0), (1, .int (nI y)), (2, .int x), (3, .int (nI (2 ^ ln))), (4, .int (nI 0)), (5, .int (nI 0))]) dX3_wordOfCoset_9 (by decide) rfl ?_
  have L_11 : ∀ i, i ≤ 2 ^ ln → ∀ (a : Nat), (zco (fun w => decide (zsk R w rc = y)) x (2 ^ ln - i) i a = zco (fun w => decide (zsk R w rc = y)) x (2 ^ ln) 0 0) → zG X 0 0 [(0, .ref h0), (1, .int (nI y)), (2, .int x), (3, .int (nI (2 ^ ln))), (4, .int (nI a)), (5, .int (nI i))] [] [(h0, .inr (3, [.ref a0, .ref a1, .ref a2, .int (nI rc), .int (nI ln), .int (nI rk), .int (nI ds), .int (nI su), .int (nI rd)])), (a0, .inl (cI, 5, .inl Rf)), (a1, .inl (cI, 32, .inl Lf)), (a2, .inl (cI, 11, .inl Wf))] 11 := by
    refine zg_dn (fun i hi ih_11 a hz => ?_)
    refine zg_iload C 5 dX3_wordOfCoset_11 rfl ?_
    refine zg_iload_n C 3 dX3_wordOfCoset_13 rfl ?_
    refine zn_icmp_ge C 45 (by omega) (by omega) dX3_wordOfCoset_14 (by decide) (fun c_14 => ?_) (fun c_14 => ?_)
    · skip
      refine zg_sipush (v := (-1001)) C dX3_wordOfCoset_45 (by decide) ?_
      exact zg_iret C E dX3_wordOfCoset_48 ((zco_end (by omega)).symm.trans hz)
    · skip
      refine zg_aload_n C 0 dX3_wordOfCoset_17 rfl ?_
      refine zg_iload C 5 dX3_wordOfCoset_18 rfl ?_
      refine zg_callr (As := [.int (nI i)]) (st := []) C [0, 1, 2, 3] 0 1 (c_X3_syndromeOf l D cI h0 a0 a1 a2 Rf Lf Wf rc ln rk ds su rd R i hrc hR hRb (by omega)) gX3_wordOfCoset_X3_syndromeOf (by decide +kernel) rfl ⟨rfl, rfl⟩ ⟨Nat.le_of_ble_eq_true rfl, Nat.le_of_ble_eq_true rfl⟩ rfl (ci := 3) rfl rfl rfl rfl (Nat.le_of_ble_eq_true rfl) ⟨Nat.le_of_ble_eq_true rfl, Nat.le_of_ble_eq_true rfl⟩ dX3_wordOfCoset_20 ?_
      refine zg_iload_n C 1 dX3_wordOfCoset_23 rfl ?_
      have q4 := zsk_lt R i rc
      refine zn_icmp_ne C 39 (by omega) (by omega) dX3_wordOfCoset_24 (by decide) (fun c_24 => ?_) (fun c_24 => ?_)
      · skip
        refine zg_iinc C 5 [1, 2, 3, 4, 5, 0] (lv' := [(0, .ref h0), (1, .int (nI y)), (2, .int x), (3, .int (nI (2 ^ ln))), (4, .int (nI a)), (5, .int (nI (i + 1)))]) (nI (i + 1)) dX3_wordOfCoset_39 rfl (zi_inc _) (by decide) rfl ?_
        refine zg_goto C 11 dX3_wordOfCoset_42 (by decide) ?_
        exact zg_cv (lv' := [(0, .ref h0), (1, .int (nI y)), (2, .int x), (3, .int (nI (2 ^ ln))), (4, .int (nI a)), (5, .int (nI (i + 1)))]) (rfl) rfl (rfl) (ih_11 (by omega) a ((zco_skip (p := (fun w => decide (zsk R w rc = y))) (by omega) (fun q => c_24 (of_decide_eq_true q))).symm.trans hz))
      · skip
        refine zg_iload C 4 dX3_wordOfCoset_27 rfl ?_
        refine zg_iload_n C 2 dX3_wordOfCoset_29 rfl ?_
        refine zg_icmp_ne C 36 dX3_wordOfCoset_30 (by decide) (fun c_30 => ?_) (fun c_30 => ?_)
        · skip
          refine zg_iinc C 4 [1, 2, 3, 4, 0, 5] (lv' := [(0, .ref h0), (1, .int (nI y)), (2, .int x), (3, .int (nI (2 ^ ln))), (4, .int (nI (a + 1))), (5, .int (nI i))]) (nI (a + 1)) dX3_wordOfCoset_36 rfl (zi_inc _) (by decide) rfl ?_
          refine zg_iinc C 5 [1, 2, 3, 4, 5, 0] (lv' := [(0, .ref h0), (1, .int (nI y)), (2, .int x), (3, .int (nI (2 ^ ln))), (4, .int (nI (a + 1))), (5, .int (nI (i + 1)))]) (nI (i + 1)) dX3_wordOfCoset_39 rfl (zi_inc _) (by decide) rfl ?_
          refine zg_goto C 11 dX3_wordOfCoset_42 (by decide) ?_
          exact zg_cv (lv' := [(0, .ref h0), (1, .int (nI y)), (2, .int x), (3, .int (nI (2 ^ ln))), (4, .int (nI (a + 1))), (5, .int (nI (i + 1)))]) (rfl) rfl (rfl) (ih_11 (by omega) (a + 1) ((zco_go (p := (fun w => decide (zsk R w rc = y))) (by omega) (decide_eq_true c_24) c_30).symm.trans hz))
        · skip
          refine zg_iload C 5 dX3_wordOfCoset_33 rfl ?_
          exact zg_iret C E dX3_wordOfCoset_35 ((zco_hit (p := (fun w => decide (zsk R w rc = y))) (by omega) (decide_eq_true c_24) c_30).symm.trans hz)
  exact zg_cv (lv' := [(0, .ref h0), (1, .int (nI y)), (2, .int x), (3, .int (nI (2 ^ ln))), (4, .int (nI 0)), (5, .int (nI 0))]) (rfl) rfl (rfl) (L_11 0 (Nat.zero_le _) 0 (rfl))
set_option maxHeartbeats 1000000 in
set_option maxRecDepth 100000 in
theorem c_X3_flipsOf (l : Launch) (D : va_G) (cI : ClassId) (h0 a0 a1 a2 : Nat) (Rf Lf Wf : Nat → Int32) (rc ln rk ds su rd : Nat) (R : Nat → Nat) (x y f : Nat) (hrc : rc ≤ 5) (hln : ln ≤ 10) (hR : ∀ i, i < rc → Rf i = nI (R i)) (hRb : ∀ i, i < rc → R i < 1024) (hL : ∀ y, y < 32 → Lf y = zo (zld R rc (2 ^ ln) y)) (hf : zld R rc (2 ^ ln) (zsk R (x ^^^ y) rc) = some f) (hx : x < 2 ^ ln) (hy : y < 2 ^ ln) : zMr l D cI yX3_flipsOf wsX3_flipsOf { frames := 3, cells := 0, slots := 0, locals := 62 } [.ref h0, .int (nI x), .int (nI y)] [(h0, .inr (3, [.ref a0, .ref a1, .ref a2, .int (nI rc), .int (nI ln), .int (nI rk), .int (nI ds), .int (nI su), .int (nI rd)])), (a0, .inl (cI, 5, .inl Rf)), (a1, .inl (cI, 32, .inl Lf)), (a2, .inl (cI, 11, .inl Wf))] (nI f) := by
  refine zr_ent (maxL := 3) (by decide) rfl (Nat.le_of_ble_eq_true rfl) (fun X C E => ?_)
  have C : zC X l D cI { frames := 3, cells := 0, slots := 0, locals := 62 } 3 false cX3_flipsOf RX3 wsX3_flipsOf := C
  refine zg_cv (lv' := [(0, .ref h0), (1, .int (nI x)), (2, .int (nI y))]) rfl rfl rfl ?_
  have q0 := zpw hln
  have q2 : x ^^^ y < 2 ^ ln := Nat.xor_lt_two_pow hx hy
  have q3 := zsk_lt R (x ^^^ y) rc
  have q5 := zpw5 hrc
  refine zg_aload_n C 0 dX3_flipsOf_0 rfl ?_
  refine zg_aload_n C 0 dX3_flipsOf_1 rfl ?_
  refine zg_iload_n C 1 dX3_flipsOf_2 rfl ?_
  refine zg_iload_n C 2 dX3_flipsOf_3 rfl ?_
  refine zg_ixor C dX3_flipsOf_4 (nI (x ^^^ y)) (zi_xor _ _) ?_
  refine zg_callr (As := [.int (nI (x ^^^ y))]) (st := [.ref h0]) C [0, 1, 2, 3] 0 1 (c_X3_syndromeOf l D cI h0 a0 a1 a2 Rf Lf Wf rc ln rk ds su rd R (x ^^^ y) hrc hR hRb (by omega)) gX3_flipsOf_X3_syndromeOf (by decide +kernel) rfl ⟨rfl, rfl⟩ ⟨Nat.le_of_ble_eq_true rfl, Nat.le_of_ble_eq_true rfl⟩ rfl (ci := 3) rfl rfl rfl rfl (Nat.le_of_ble_eq_true rfl) ⟨Nat.le_of_ble_eq_true rfl, Nat.le_of_ble_eq_true rfl⟩ dX3_flipsOf_5 ?_
  refine zg_callr (As := [.int (nI (zsk R (x ^^^ y) rc))]) (st := []) C [0, 1, 2, 3] 0 1 (c_X3_leaderOf l D cI h0 a0 a1 a2 Rf Lf Wf rc ln rk ds su rd (zsk R (x ^^^ y) rc) hrc (q3)) gX3_flipsOf_X3_leaderOf (by decide +kernel) rfl ⟨rfl, rfl⟩ ⟨Nat.le_of_ble_eq_true rfl, Nat.le_of_ble_eq_true rfl⟩ rfl (ci := 3) rfl rfl rfl rfl (Nat.le_of_ble_eq_true rfl) ⟨Nat.le_of_ble_eq_true rfl, Nat.le_of_ble_eq_true rfl⟩ dX3_flipsOf_8 ?_
  refine zg_cv (st' := [.int (nI f)]) rfl (by rw [show Lf (zsk R (x ^^^ y) rc) = nI f from by rw [hL _ (by omega), hf]; rfl]) rfl ?_
  exact zg_iret C E dX3_flipsOf_11 (rfl)
theorem uX3_verdictOf_3 : ∀ w ∈ u_ws RX3 TX3 9, w ∈ wsX3_verdictOf := fun w h => List.mem_cons_of_mem _ (List.mem_append_right _ h)
theorem fX3_verdictOf_3_7 : Cond.fieldLink RX3 34 (TX3 7).1 (TX3 7).2.1 (TX3 7).2.2.1 ∈ wsX3_verdictOf := by decide +kernel
set_option maxHeartbeats 1000000 in
set_option maxRecDepth 100000 in
theorem c_X3_verdictOf (l : Launch) (D : va_G) (cI : ClassId) (h0 a0 a1 a2 : Nat) (Rf Lf Wf : Nat → Int32) (rc ln rk ds su rd : Nat) (R : Nat → Nat) (x y f : Nat) (hrc : rc ≤ 5) (hln : ln ≤ 10) (hR : ∀ i, i < rc → Rf i = nI (R i)) (hRb : ∀ i, i < rc → R i < 1024) (hL : ∀ y, y < 32 → Lf y = zo (zld R rc (2 ^ ln) y)) (hf : zld R rc (2 ^ ln) (zsk R (x ^^^ y) rc) = some f) (hx : x < 2 ^ ln) (hy : y < 2 ^ ln) (hsu : su ≤ 10) : zMr l D cI yX3_verdictOf wsX3_verdictOf { frames := 4, cells := 0, slots := 0, locals := 84 } [.ref h0, .int (nI x), .int (nI y)] [(h0, .inr (3, [.ref a0, .ref a1, .ref a2, .int (nI rc), .int (nI ln), .int (nI rk), .int (nI ds), .int (nI su), .int (nI rd)])), (a0, .inl (cI, 5, .inl Rf)), (a1, .inl (cI, 32, .inl Lf)), (a2, .inl (cI, 11, .inl Wf))] (nI (zvd x y f su)) := by
  refine zr_ent (maxL := 5) (by decide) rfl (Nat.le_of_ble_eq_true rfl) (fun X C E => ?_)
  have C : zC X l D cI { frames := 4, cells := 0, slots := 0, locals := 84 } 5 false cX3_verdictOf RX3 wsX3_verdictOf := C
  refine zg_cv (lv' := [(0, .ref h0), (1, .int (nI x)), (2, .int (nI y))]) rfl rfl rfl ?_
  have q0 := zpw hln
  have q1 := (zld_some hf).1
  have q2 : x ^^^ f < 2 ^ ln := Nat.xor_lt_two_pow hx q1
  refine zg_aload_n C 0 dX3_verdictOf_0 rfl ?_
  refine zg_iload_n C 1 dX3_verdictOf_1 rfl ?_
  refine zg_iload_n C 2 dX3_verdictOf_2 rfl ?_
  refine zg_callr (As := [.int (nI x), .int (nI y)]) (st := []) C [0, 1, 2, 3] 0 2 (c_X3_flipsOf l D cI h0 a0 a1 a2 Rf Lf Wf rc ln rk ds su rd R x y f hrc hln hR hRb hL hf hx hy) gX3_verdictOf_X3_flipsOf (by decide +kernel) rfl ⟨rfl, rfl⟩ ⟨Nat.le_of_ble_eq_true rfl, Nat.le_of_ble_eq_true rfl⟩ rfl (ci := 3) rfl rfl rfl rfl (Nat.le_of_ble_eq_true rfl) ⟨Nat.le_of_ble_eq_true rfl, Nat.le_of_ble_eq_true rfl⟩ dX3_verdictOf_3 ?_
  refine zg_istore_n C [1, 2, 3, 0] (lv' := [(0, .ref h0), (1, .int (nI x)), (2, .int (nI y)), (3, .int (nI f))]) dX3_verdictOf_6 (by decide) rfl ?_
  refine zg_iload_n C 3 dX3_verdictOf_7 rfl ?_
  refine zg_calls (As := [.int (nI f)]) (st := []) C [] 1 (c_J6_bitCount_0f7a4 l D cI f (by omega)) gX3_verdictOf_J6_bitCount_0f7a4 (by decide +kernel) rfl ⟨rfl, rfl⟩ ⟨Nat.le_of_ble_eq_true rfl, Nat.le_of_ble_eq_true rfl⟩ rfl rfl rfl (Nat.le_of_ble_eq_true rfl) ⟨Nat.le_of_ble_eq_true rfl, Nat.le_of_ble_eq_true rfl⟩ dX3_verdictOf_8 ?_
  refine zg_aload_n C 0 dX3_verdictOf_11 rfl ?_
  refine zg_get C 0 (ci := 3) (f := 7) rfl rfl uX3_verdictOf_3 (by decide) fX3_verdictOf_3_7 dX3_verdictOf_12 rfl ?_
  have q3 := zpc_le f
  refine zn_icmp_gt C 22 (by omega) (by omega) dX3_verdictOf_15 (by decide) (fun c_15 => ?_) (fun c_15 => ?_)
  · skip
    refine zg_iconst (v := nI 0) C dX3_verdictOf_22 (by decide) ?_
    refine zg_istore C [1, 2, 3, 4, 0] (lv' := [(0, .ref h0), (1, .int (nI x)), (2, .int (nI y)), (3, .int (nI f)), (4, .int (nI 0))]) dX3_verdictOf_23 (by decide) rfl ?_
    refine zg_iload_n C 1 dX3_verdictOf_25 rfl ?_
    refine zg_iload_n C 3 dX3_verdictOf_26 rfl ?_
    refine zg_ixor C dX3_verdictOf_27 (nI (x ^^^ f)) (zi_xor _ _) ?_
    refine zg_iload_n C 2 dX3_verdictOf_28 rfl ?_
    refine zn_icmp_ne C 43 (by omega) (by omega) dX3_verdictOf_29 (by decide) (fun c_29 => ?_) (fun c_29 => ?_)
    · skip
      refine zg_iload C 4 dX3_verdictOf_43 rfl ?_
      refine zn_if_eq C 52 (by omega) dX3_verdictOf_45 (by decide) (fun c_45 => ?_) (fun c_45 => by omega)
      refine zg_iconst (v := nI 2) C dX3_verdictOf_52 (by decide) ?_
      exact zg_iret C E dX3_verdictOf_53 (by rw [zvd, if_neg c_29, if_neg (by omega)])
    · skip
      refine zg_iload C 4 dX3_verdictOf_32 rfl ?_
      refine zn_if_eq C 41 (by omega) dX3_verdictOf_34 (by decide) (fun c_34 => ?_) (fun c_34 => by omega)
      refine zg_iconst (v := nI 1) C dX3_verdictOf_41 (by decide) ?_
      exact zg_iret C E dX3_verdictOf_42 (by rw [zvd, if_pos c_29, if_neg (by omega)])
  · skip
    refine zg_iconst (v := nI 1) C dX3_verdictOf_18 (by decide) ?_
    refine zg_goto C 23 dX3_verdictOf_19 (by decide) ?_
    refine zg_istore C [1, 2, 3, 4, 0] (lv' := [(0, .ref h0), (1, .int (nI x)), (2, .int (nI y)), (3, .int (nI f)), (4, .int (nI 1))]) dX3_verdictOf_23 (by decide) rfl ?_
    refine zg_iload_n C 1 dX3_verdictOf_25 rfl ?_
    refine zg_iload_n C 3 dX3_verdictOf_26 rfl ?_
    refine zg_ixor C dX3_verdictOf_27 (nI (x ^^^ f)) (zi_xor _ _) ?_
    refine zg_iload_n C 2 dX3_verdictOf_28 rfl ?_
    refine zn_icmp_ne C 43 (by omega) (by omega) dX3_verdictOf_29 (by decide) (fun c_29 => ?_) (fun c_29 => ?_)
    · skip
      refine zg_iload C 4 dX3_verdictOf_43 rfl ?_
      refine zn_if_eq C 52 (by omega) dX3_verdictOf_45 (by decide) (fun c_45 => by omega) (fun c_45 => ?_)
      refine zg_iconst (v := nI 3) C dX3_verdictOf_48 (by decide) ?_
      refine zg_goto C 53 dX3_verdictOf_49 (by decide) ?_
      exact zg_iret C E dX3_verdictOf_53 (by rw [zvd, if_neg c_29, if_pos (by omega)])
    · skip
      refine zg_iload C 4 dX3_verdictOf_32 rfl ?_
      refine zn_if_eq C 41 (by omega) dX3_verdictOf_34 (by decide) (fun c_34 => by omega) (fun c_34 => ?_)
      refine zg_iconst (v := nI 0) C dX3_verdictOf_37 (by decide) ?_
      refine zg_goto C 42 dX3_verdictOf_38 (by decide) ?_
      exact zg_iret C E dX3_verdictOf_42 (by rw [zvd, if_pos c_29, if_pos (by omega)])
set_option maxHeartbeats 1000000 in
set_option maxRecDepth 100000 in
theorem c_X3_isEnough (l : Launch) (D : va_G) (cI : ClassId) (h0 a0 a1 a2 : Nat) (Rf Lf Wf : Nat → Int32) (rc ln rk ds su rd : Nat) (R : Nat → Nat) (kn : Nat) (hrc : rc ≤ 5) (hln : ln ≤ 10) (hR : ∀ i, i < rc → Rf i = nI (R i)) (hRb : ∀ i, i < rc → R i < 1024) (hkn : kn < 2 ^ ln) : zMr l D cI yX3_isEnough wsX3_isEnough { frames := 2, cells := 0, slots := 0, locals := 43 } [.ref h0, .int (nI kn)] [(h0, .inr (3, [.ref a0, .ref a1, .ref a2, .int (nI rc), .int (nI ln), .int (nI rk), .int (nI ds), .int (nI su), .int (nI rd)])), (a0, .inl (cI, 5, .inl Rf)), (a1, .inl (cI, 32, .inl Lf)), (a2, .inl (cI, 11, .inl Wf))] (zb (zen R rc kn (2 ^ ln))) := by
  refine zr_ent (maxL := 4) (by decide) rfl (Nat.le_of_ble_eq_true rfl) (fun X C E => ?_)
  have C : zC X l D cI { frames := 2, cells := 0, slots := 0, locals := 43 } 4 false cX3_isEnough RX3 wsX3_isEnough := C
  refine zg_cv (lv' := [(0, .ref h0), (1, .int (nI kn))]) rfl rfl rfl ?_
  have q0 := zpw hln
  have q1 := zpw0 ln
  refine zg_aload_n C 0 dX3_isEnough_0 rfl ?_
  refine zg_callr (As := []) (st := []) C [0, 1, 2, 3] 0 0 (c_X3_words l D cI h0 a0 a1 a2 Rf Lf Wf rc ln rk ds su rd hln) gX3_isEnough_X3_words (by decide +kernel) rfl ⟨rfl, rfl⟩ ⟨Nat.le_of_ble_eq_true rfl, Nat.le_of_ble_eq_true rfl⟩ rfl (ci := 3) rfl rfl rfl rfl (Nat.le_of_ble_eq_true rfl) ⟨Nat.le_of_ble_eq_true rfl, Nat.le_of_ble_eq_true rfl⟩ dX3_isEnough_1 ?_
  refine zg_istore_n C [1, 2, 0] (lv' := [(0, .ref h0), (1, .int (nI kn)), (2, .int (nI (2 ^ ln)))]) dX3_isEnough_4 (by decide) rfl ?_
  refine zg_iconst (v := nI 1) C dX3_isEnough_5 (by decide) ?_
  refine zg_istore_n C [1, 2, 3, 0] (lv' := [(0, .ref h0), (1, .int (nI kn)), (2, .int (nI (2 ^ ln))), (3, .int (nI 1))]) dX3_isEnough_6 (by decide) rfl ?_
  have L_7 : ∀ i, i ≤ 2 ^ ln - 1 → (zen R rc kn (i + 1) = true) → zG X 0 0 [(0, .ref h0), (1, .int (nI kn)), (2, .int (nI (2 ^ ln))), (3, .int (nI (i + 1)))] [] [(h0, .inr (3, [.ref a0, .ref a1, .ref a2, .int (nI rc), .int (nI ln), .int (nI rk), .int (nI ds), .int (nI su), .int (nI rd)])), (a0, .inl (cI, 5, .inl Rf)), (a1, .inl (cI, 32, .inl Lf)), (a2, .inl (cI, 11, .inl Wf))] 7 := by
    refine zg_dn (fun i hi ih_7 hz => ?_)
    refine zg_iload_n C 3 dX3_isEnough_7 rfl ?_
    refine zg_iload_n C 2 dX3_isEnough_8 rfl ?_
    refine zn_icmp_ge C 34 (by omega) (by omega) dX3_isEnough_9 (by decide) (fun c_9 => ?_) (fun c_9 => ?_)
    · skip
      refine zg_iconst (v := nI 1) C dX3_isEnough_34 (by decide) ?_
      exact zg_zret C E dX3_isEnough_35 (zbT (by rw [← show i + 1 = 2 ^ ln by omega]; exact hz))
    · skip
      refine zg_iload_n C 3 dX3_isEnough_12 rfl ?_
      refine zg_iload_n C 1 dX3_isEnough_13 rfl ?_
      refine zg_iand C dX3_isEnough_14 (nI ((i + 1) &&& kn)) (zi_and _ _) ?_
      have q3 : (i + 1) &&& kn ≤ kn := Nat.and_le_right
      refine zn_if_ne C 28 (by omega) dX3_isEnough_15 (by decide) (fun c_15 => ?_) (fun c_15 => ?_)
      · skip
        refine zg_iinc C 3 [1, 2, 3, 0] (lv' := [(0, .ref h0), (1, .int (nI kn)), (2, .int (nI (2 ^ ln))), (3, .int (nI (i + 1 + 1)))]) (nI (i + 1 + 1)) dX3_isEnough_28 rfl (zi_inc _) (by decide) rfl ?_
        refine zg_goto C 7 dX3_isEnough_31 (by decide) ?_
        exact zg_cv (lv' := [(0, .ref h0), (1, .int (nI kn)), (2, .int (nI (2 ^ ln))), (3, .int (nI ((i + 1) + 1)))]) (rfl) rfl (rfl) (ih_7 (by omega) (zen_good hz (fun q => by omega)))
      · skip
        refine zg_aload_n C 0 dX3_isEnough_18 rfl ?_
        refine zg_iload_n C 3 dX3_isEnough_19 rfl ?_
        refine zg_callr (As := [.int (nI (i + 1))]) (st := []) C [0, 1, 2, 3] 0 1 (c_X3_syndromeOf l D cI h0 a0 a1 a2 Rf Lf Wf rc ln rk ds su rd R (i + 1) hrc hR hRb (by omega)) gX3_isEnough_X3_syndromeOf (by decide +kernel) rfl ⟨rfl, rfl⟩ ⟨Nat.le_of_ble_eq_true rfl, Nat.le_of_ble_eq_true rfl⟩ rfl (ci := 3) rfl rfl rfl rfl (Nat.le_of_ble_eq_true rfl) ⟨Nat.le_of_ble_eq_true rfl, Nat.le_of_ble_eq_true rfl⟩ dX3_isEnough_20 ?_
        have q4 := zsk_lt R (i + 1) rc
        have q5 := zpw5 hrc
        refine zn_if_ne C 28 (by omega) dX3_isEnough_23 (by decide) (fun c_23 => ?_) (fun c_23 => ?_)
        · skip
          refine zg_iinc C 3 [1, 2, 3, 0] (lv' := [(0, .ref h0), (1, .int (nI kn)), (2, .int (nI (2 ^ ln))), (3, .int (nI (i + 1 + 1)))]) (nI (i + 1 + 1)) dX3_isEnough_28 rfl (zi_inc _) (by decide) rfl ?_
          refine zg_goto C 7 dX3_isEnough_31 (by decide) ?_
          exact zg_cv (lv' := [(0, .ref h0), (1, .int (nI kn)), (2, .int (nI (2 ^ ln))), (3, .int (nI ((i + 1) + 1)))]) (rfl) rfl (rfl) (ih_7 (by omega) (zen_good hz (fun q => by omega)))
        · skip
          refine zg_iconst (v := nI 0) C dX3_isEnough_26 (by decide) ?_
          exact zg_zret C E dX3_isEnough_27 (zbF (zen_mono (show i + 1 + 1 ≤ 2 ^ ln by omega) (zen_bad c_15 c_23 (by omega))))
  exact zg_cv (lv' := [(0, .ref h0), (1, .int (nI kn)), (2, .int (nI (2 ^ ln))), (3, .int (nI (0 + 1)))]) (rfl) rfl (rfl) (L_7 0 (Nat.zero_le _) (zen_1 _ _ _))
set_option maxHeartbeats 1000000 in
set_option maxRecDepth 100000 in
theorem c_X3_firstOfShared (l : Launch) (D : va_G) (cI : ClassId) (h0 a0 a1 a2 : Nat) (Rf Lf Wf : Nat → Int32) (rc ln rk ds su rd : Nat) (R : Nat → Nat) (one other x y f : Nat) (hrc : rc ≤ 5) (hln : ln ≤ 10) (hR : ∀ i, i < rc → Rf i = nI (R i)) (hRb : ∀ i, i < rc → R i < 1024) (hL : ∀ y, y < 32 → Lf y = zo (zld R rc (2 ^ ln) y)) (hf : zld R rc (2 ^ ln) (zsk R (x ^^^ y) rc) = some f) (hx : x < 2 ^ ln) (hy : y < 2 ^ ln) (h1 : one < 2 ^ ln) (h2 : other < 2 ^ ln) : zMr l D cI yX3_firstOfShared wsX3_firstOfShared { frames := 4, cells := 0, slots := 0, locals := 84 } [.ref h0, .int (nI one), .int (nI other), .int (nI x), .int (nI y)] [(h0, .inr (3, [.ref a0, .ref a1, .ref a2, .int (nI rc), .int (nI ln), .int (nI rk), .int (nI ds), .int (nI su), .int (nI rd)])), (a0, .inl (cI, 5, .inl Rf)), (a1, .inl (cI, 32, .inl Lf)), (a2, .inl (cI, 11, .inl Wf))] (zsh R rc ln one other x y f) := by
  refine zr_ent (maxL := 10) (by decide) rfl (Nat.le_of_ble_eq_true rfl) (fun X C E => ?_)
  have C : zC X l D cI { frames := 4, cells := 0, slots := 0, locals := 84 } 10 false cX3_firstOfShared RX3 wsX3_firstOfShared := C
  refine zg_cv (lv' := [(0, .ref h0), (1, .int (nI one)), (2, .int (nI other)), (3, .int (nI x)), (4, .int (nI y))]) rfl rfl rfl ?_
  have q0 := zpw hln
  have q1 := zpw0 ln
  have q2 := (zld_some hf).1
  have q3 : one ||| other < 2 ^ ln := Nat.or_lt_two_pow h1 h2
  have q4 : (x &&& one ||| (y ^^^ f) &&& other) < 2 ^ ln := Nat.or_lt_two_pow (Nat.and_lt_two_pow _ h1) (Nat.and_lt_two_pow _ h2)
  have q5 := zpw5 hrc
  have q6 := zsk_lt R x rc
  refine zg_iload_n C 1 dX3_firstOfShared_0 rfl ?_
  refine zg_iload_n C 2 dX3_firstOfShared_1 rfl ?_
  refine zg_ior C dX3_firstOfShared_2 (nI (one ||| other)) (zi_or _ _) ?_
  refine zg_istore C [1, 2, 3, 4, 5, 0] (lv' := [(0, .ref h0), (1, .int (nI one)), (2, .int (nI other)), (3, .int (nI x)), (4, .int (nI y)), (5, .int (nI (one ||| other)))]) dX3_firstOfShared_3 (by decide) rfl ?_
  refine zg_aload_n C 0 dX3_firstOfShared_5 rfl ?_
  refine zg_iload C 5 dX3_firstOfShared_6 rfl ?_
  refine zg_callr (As := [.int (nI (one ||| other))]) (st := []) C [0, 1, 2, 3] 0 1 (c_X3_isEnough l D cI h0 a0 a1 a2 Rf Lf Wf rc ln rk ds su rd R (one ||| other) hrc hln hR hRb (by omega)) gX3_firstOfShared_X3_isEnough (by decide +kernel) rfl ⟨rfl, rfl⟩ ⟨Nat.le_of_ble_eq_true rfl, Nat.le_of_ble_eq_true rfl⟩ rfl (ci := 3) rfl rfl rfl rfl (Nat.le_of_ble_eq_true rfl) ⟨Nat.le_of_ble_eq_true rfl, Nat.le_of_ble_eq_true rfl⟩ dX3_firstOfShared_8 ?_
  refine zb_if_ne C 18 dX3_firstOfShared_11 (by decide) (fun c_11 => ?_) (fun c_11 => ?_)
  · skip
    refine zg_iload_n C 3 dX3_firstOfShared_18 rfl ?_
    refine zg_iload_n C 1 dX3_firstOfShared_19 rfl ?_
    refine zg_iand C dX3_firstOfShared_20 (nI (x &&& one)) (zi_and _ _) ?_
    refine zg_iload C 4 dX3_firstOfShared_21 rfl ?_
    refine zg_aload_n C 0 dX3_firstOfShared_23 rfl ?_
    refine zg_iload_n C 3 dX3_firstOfShared_24 rfl ?_
    refine zg_iload C 4 dX3_firstOfShared_25 rfl ?_
    refine zg_callr (As := [.int (nI x), .int (nI y)]) (st := [.int (nI y), .int (nI (x &&& one))]) C [0, 1, 2, 3] 0 2 (c_X3_flipsOf l D cI h0 a0 a1 a2 Rf Lf Wf rc ln rk ds su rd R x y f hrc hln hR hRb hL hf hx hy) gX3_firstOfShared_X3_flipsOf (by decide +kernel) rfl ⟨rfl, rfl⟩ ⟨Nat.le_of_ble_eq_true rfl, Nat.le_of_ble_eq_true rfl⟩ rfl (ci := 3) rfl rfl rfl rfl (Nat.le_of_ble_eq_true rfl) ⟨Nat.le_of_ble_eq_true rfl, Nat.le_of_ble_eq_true rfl⟩ dX3_firstOfShared_27 ?_
    refine zg_ixor C dX3_firstOfShared_30 (nI (y ^^^ f)) (zi_xor _ _) ?_
    refine zg_iload_n C 2 dX3_firstOfShared_31 rfl ?_
    refine zg_iand C dX3_firstOfShared_32 (nI ((y ^^^ f) &&& other)) (zi_and _ _) ?_
    refine zg_ior C dX3_firstOfShared_33 (nI ((x &&& one) ||| ((y ^^^ f) &&& other))) (zi_or _ _) ?_
    refine zg_istore C [1, 2, 3, 4, 5, 6, 0] (lv' := [(0, .ref h0), (1, .int (nI one)), (2, .int (nI other)), (3, .int (nI x)), (4, .int (nI y)), (5, .int (nI (one ||| other))), (6, .int (nI ((x &&& one) ||| ((y ^^^ f) &&& other))))]) dX3_firstOfShared_34 (by decide) rfl ?_
    refine zg_aload_n C 0 dX3_firstOfShared_36 rfl ?_
    refine zg_iload_n C 3 dX3_firstOfShared_37 rfl ?_
    refine zg_callr (As := [.int (nI x)]) (st := []) C [0, 1, 2, 3] 0 1 (c_X3_syndromeOf l D cI h0 a0 a1 a2 Rf Lf Wf rc ln rk ds su rd R x hrc hR hRb (by omega)) gX3_firstOfShared_X3_syndromeOf (by decide +kernel) rfl ⟨rfl, rfl⟩ ⟨Nat.le_of_ble_eq_true rfl, Nat.le_of_ble_eq_true rfl⟩ rfl (ci := 3) rfl rfl rfl rfl (Nat.le_of_ble_eq_true rfl) ⟨Nat.le_of_ble_eq_true rfl, Nat.le_of_ble_eq_true rfl⟩ dX3_firstOfShared_38 ?_
    refine zg_istore C [1, 2, 3, 4, 5, 6, 7, 0] (lv' := [(0, .ref h0), (1, .int (nI one)), (2, .int (nI other)), (3, .int (nI x)), (4, .int (nI y)), (5, .int (nI (one ||| other))), (6, .int (nI ((x &&& one) ||| ((y ^^^ f) &&& other)))), (7, .int (nI (zsk R x rc)))]) dX3_firstOfShared_41 (by decide) rfl ?_
    refine zg_aload_n C 0 dX3_firstOfShared_43 rfl ?_
    refine zg_callr (As := []) (st := []) C [0, 1, 2, 3] 0 0 (c_X3_words l D cI h0 a0 a1 a2 Rf Lf Wf rc ln rk ds su rd hln) gX3_firstOfShared_X3_words (by decide +kernel) rfl ⟨rfl, rfl⟩ ⟨Nat.le_of_ble_eq_true rfl, Nat.le_of_ble_eq_true rfl⟩ rfl (ci := 3) rfl rfl rfl rfl (Nat.le_of_ble_eq_true rfl) ⟨Nat.le_of_ble_eq_true rfl, Nat.le_of_ble_eq_true rfl⟩ dX3_firstOfShared_44 ?_
    refine zg_istore C [1, 2, 3, 4, 5, 6, 7, 8, 0] (lv' := [(0, .ref h0), (1, .int (nI one)), (2, .int (nI other)), (3, .int (nI x)), (4, .int (nI y)), (5, .int (nI (one ||| other))), (6, .int (nI ((x &&& one) ||| ((y ^^^ f) &&& other)))), (7, .int (nI (zsk R x rc))), (8, .int (nI (2 ^ ln)))]) dX3_firstOfShared_47 (by decide) rfl ?_
    refine zg_iconst (v := nI 0) C dX3_firstOfShared_49 (by decide) ?_
    refine zg_istore C [1, 2, 3, 4, 5, 6, 7, 8, 9, 0] (lv' := [(0, .ref h0), (1, .int (nI one)), (2, .int (nI other)), (3, .int (nI x)), (4, .int (nI y)), (5, .int (nI (one ||| other))), (6, .int (nI ((x &&& one) ||| ((y ^^^ f) &&& other)))), (7, .int (nI (zsk R x rc))), (8, .int (nI (2 ^ ln))), (9, .int (nI 0))]) dX3_firstOfShared_50 (by decide) rfl ?_
    have L_52 : ∀ i, i ≤ 2 ^ ln → (zo (zfs (zsp R rc one other x y f) (2 ^ ln - i) i) = zo (zfs (zsp R rc one other x y f) (2 ^ ln) 0)) → zG X 0 0 [(0, .ref h0), (1, .int (nI one)), (2, .int (nI other)), (3, .int (nI x)), (4, .int (nI y)), (5, .int (nI (one ||| other))), (6, .int (nI ((x &&& one) ||| ((y ^^^ f) &&& other)))), (7, .int (nI (zsk R x rc))), (8, .int (nI (2 ^ ln))), (9, .int (nI i))] [] [(h0, .inr (3, [.ref a0, .ref a1, .ref a2, .int (nI rc), .int (nI ln), .int (nI rk), .int (nI ds), .int (nI su), .int (nI rd)])), (a0, .inl (cI, 5, .inl Rf)), (a1, .inl (cI, 32, .inl Lf)), (a2, .inl (cI, 11, .inl Wf))] 52 := by
      refine zg_dn (fun i hi ih_52 hz => ?_)
      refine zg_iload C 9 dX3_firstOfShared_52 rfl ?_
      refine zg_iload C 8 dX3_firstOfShared_54 rfl ?_
      refine zn_icmp_ge C 89 (by omega) (by omega) dX3_firstOfShared_56 (by decide) (fun c_56 => ?_) (fun c_56 => ?_)
      · skip
        refine zg_sipush (v := (-1001)) C dX3_firstOfShared_89 (by decide) ?_
        exact zg_iret C E dX3_firstOfShared_92 (by rw [zsh, if_pos c_11, ← hz, zfs_end (by omega)]; rfl)
      · skip
        refine zg_iload C 9 dX3_firstOfShared_59 rfl ?_
        refine zg_iload C 5 dX3_firstOfShared_61 rfl ?_
        refine zg_iand C dX3_firstOfShared_63 (nI (i &&& (one ||| other))) (zi_and _ _) ?_
        refine zg_iload C 6 dX3_firstOfShared_64 rfl ?_
        have q7 : i &&& (one ||| other) ≤ one ||| other := Nat.and_le_right
        refine zn_icmp_ne C 83 (by omega) (by omega) dX3_firstOfShared_66 (by decide) (fun c_66 => ?_) (fun c_66 => ?_)
        · skip
          refine zg_iinc C 9 [1, 2, 3, 4, 5, 6, 7, 8, 9, 0] (lv' := [(0, .ref h0), (1, .int (nI one)), (2, .int (nI other)), (3, .int (nI x)), (4, .int (nI y)), (5, .int (nI (one ||| other))), (6, .int (nI ((x &&& one) ||| ((y ^^^ f) &&& other)))), (7, .int (nI (zsk R x rc))), (8, .int (nI (2 ^ ln))), (9, .int (nI (i + 1)))]) (nI (i + 1)) dX3_firstOfShared_83 rfl (zi_inc _) (by decide) rfl ?_
          refine zg_goto C 52 dX3_firstOfShared_86 (by decide) ?_
          exact zg_cv (lv' := [(0, .ref h0), (1, .int (nI one)), (2, .int (nI other)), (3, .int (nI x)), (4, .int (nI y)), (5, .int (nI (one ||| other))), (6, .int (nI ((x &&& one) ||| ((y ^^^ f) &&& other)))), (7, .int (nI (zsk R x rc))), (8, .int (nI (2 ^ ln))), (9, .int (nI (i + 1)))]) (rfl) rfl (rfl) (ih_52 (by omega) ((congrArg zo (zfs_skip (p := (zsp R rc one other x y f)) (by omega) (fun q => c_66 (of_decide_eq_true q).1))).symm.trans hz))
        · skip
          refine zg_aload_n C 0 dX3_firstOfShared_69 rfl ?_
          refine zg_iload C 9 dX3_firstOfShared_70 rfl ?_
          refine zg_callr (As := [.int (nI i)]) (st := []) C [0, 1, 2, 3] 0 1 (c_X3_syndromeOf l D cI h0 a0 a1 a2 Rf Lf Wf rc ln rk ds su rd R i hrc hR hRb (by omega)) gX3_firstOfShared_X3_syndromeOf (by decide +kernel) rfl ⟨rfl, rfl⟩ ⟨Nat.le_of_ble_eq_true rfl, Nat.le_of_ble_eq_true rfl⟩ rfl (ci := 3) rfl rfl rfl rfl (Nat.le_of_ble_eq_true rfl) ⟨Nat.le_of_ble_eq_true rfl, Nat.le_of_ble_eq_true rfl⟩ dX3_firstOfShared_72 ?_
          refine zg_iload C 7 dX3_firstOfShared_75 rfl ?_
          have q8 := zsk_lt R i rc
          refine zn_icmp_ne C 83 (by omega) (by omega) dX3_firstOfShared_77 (by decide) (fun c_77 => ?_) (fun c_77 => ?_)
          · skip
            refine zg_iinc C 9 [1, 2, 3, 4, 5, 6, 7, 8, 9, 0] (lv' := [(0, .ref h0), (1, .int (nI one)), (2, .int (nI other)), (3, .int (nI x)), (4, .int (nI y)), (5, .int (nI (one ||| other))), (6, .int (nI ((x &&& one) ||| ((y ^^^ f) &&& other)))), (7, .int (nI (zsk R x rc))), (8, .int (nI (2 ^ ln))), (9, .int (nI (i + 1)))]) (nI (i + 1)) dX3_firstOfShared_83 rfl (zi_inc _) (by decide) rfl ?_
            refine zg_goto C 52 dX3_firstOfShared_86 (by decide) ?_
            exact zg_cv (lv' := [(0, .ref h0), (1, .int (nI one)), (2, .int (nI other)), (3, .int (nI x)), (4, .int (nI y)), (5, .int (nI (one ||| other))), (6, .int (nI ((x &&& one) ||| ((y ^^^ f) &&& other)))), (7, .int (nI (zsk R x rc))), (8, .int (nI (2 ^ ln))), (9, .int (nI (i + 1)))]) (rfl) rfl (rfl) (ih_52 (by omega) ((congrArg zo (zfs_skip (p := (zsp R rc one other x y f)) (by omega) (fun q => c_77 (of_decide_eq_true q).2))).symm.trans hz))
          · skip
            refine zg_iload C 9 dX3_firstOfShared_80 rfl ?_
            exact zg_iret C E dX3_firstOfShared_82 (by rw [zsh, if_pos c_11, ← hz, zfs_hit (by omega) (decide_eq_true ⟨c_66, c_77⟩)]; rfl)
    exact zg_cv (lv' := [(0, .ref h0), (1, .int (nI one)), (2, .int (nI other)), (3, .int (nI x)), (4, .int (nI y)), (5, .int (nI (one ||| other))), (6, .int (nI ((x &&& one) ||| ((y ^^^ f) &&& other)))), (7, .int (nI (zsk R x rc))), (8, .int (nI (2 ^ ln))), (9, .int (nI 0))]) (rfl) rfl (rfl) (L_52 0 (Nat.zero_le _) (rfl))
  · skip
    refine zg_sipush (v := (-1001)) C dX3_firstOfShared_14 (by decide) ?_
    exact zg_iret C E dX3_firstOfShared_17 (by rw [zsh, if_neg (by rw [c_11]; decide)])
