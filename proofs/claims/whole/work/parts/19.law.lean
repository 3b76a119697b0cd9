/-! the law -/
theorem wlaw_0 : Cond.classLink RL 7 RX5 ∈ wsL_law := by decide +kernel
theorem wlaw_1 : Cond.instantiable RX5 5 ∈ wsL_law := by decide +kernel
theorem wlaw_2 : Cond.initialized RX5 ∈ wsL_law := by decide +kernel
theorem wlaw_3 : Cond.methodLink RL 9 yX5_init ∈ wsL_law := by decide +kernel
theorem wlaw_4 : Cond.instanceMethod yX5_init ∈ wsL_law := by decide +kernel
theorem wlaw_5 : Cond.classLink RL 10 RX6 ∈ wsL_law := by decide +kernel
theorem wlaw_6 : Cond.instantiable RX6 21 ∈ wsL_law := by decide +kernel
theorem wlaw_7 : Cond.initialized RX6 ∈ wsL_law := by decide +kernel
theorem wlaw_8 : Cond.methodLink RL 12 yX6_init ∈ wsL_law := by decide +kernel
theorem wlaw_9 : Cond.instanceMethod yX6_init ∈ wsL_law := by decide +kernel
set_option maxHeartbeats 40000000 in
set_option maxRecDepth 100000 in
/-- THE LAW: on every script it comes to its end with true -/
theorem law_run {X : zX} {l : Launch} {D : va_G} {cI : ClassId} {b L : Nat} {xs : Nat → Int32} (C : zC X l D cI room_1 4 true cL_law RL wsL_law) (hX : zLX X b L xs) (hL : L ≤ 3072) (hE : ∀ (lv : List (Nat × Value)) (ws : va_W), zG X 19 1285 lv [.int (nI 1)] ws 665) : zG X 0 0 [(0, .ref b)] [] [] 0 := by
  refine zg_new C (ci := 5) (fs := [.null, .null, .null, .null, .null]) inlX5 tyX5_ok wlaw_0 wlaw_1 wlaw_2 rfl (fun j hj => by rcases (show j = 0 ∨ j = 1 ∨ j = 2 ∨ j = 3 ∨ j = 4 by omega) with rfl | rfl | rfl | rfl | rfl <;> rfl) (Nat.le_of_ble_eq_true rfl) (Nat.le_of_ble_eq_true rfl) dL_law_0 (fun q0 => ?_)
  refine zg_cv (k' := 1) (n' := 5) (ws' := [(q0, .inr (5, [.null, .null, .null, .null, .null]))]) rfl rfl rfl ?_
  refine zg_dup C dL_law_3 rfl ?_
  refine zg_callI (As := []) (st := [.ref q0]) (wo := []) C [0] [] 0 (c_X5_init l D cI q0 ) gL_law_X5_init wlaw_2 wlaw_3 wlaw_4 rfl (by decide +kernel) rfl ⟨rfl, rfl⟩ ⟨Nat.le_of_ble_eq_true rfl, Nat.le_of_ble_eq_true rfl⟩ rfl rfl rfl rfl (by decide) rfl rfl (Nat.le_of_ble_eq_true rfl) ⟨Nat.le_of_ble_eq_true rfl, Nat.le_of_ble_eq_true rfl⟩ dL_law_4 (fun v9 w9 hw9 => ?_)
  obtain ⟨p0, g0, r0, b0, h0, a0, a1, a2, t0, v0, d0, rfl, rfl⟩ := hw9
  refine zg_cv (k' := 12) (n' := 138) (st' := [.ref q0]) (ws' := [(q0, .inr (5, [.ref p0, .ref r0, .ref h0, .ref t0, .ref d0])), (p0, .inr (1, [.ref g0, .int (nI 0)])), (g0, .inl (cI, 56, .inl (fun _ => 0))), (r0, .inr (2, [.ref b0, .int (nI 0), .int (nI 0), .int (nI 0)])), (b0, .inl (cI, 5, .inl (fun _ => 0))), (h0, .inr (3, [.ref a0, .ref a1, .ref a2, .int (nI 0), .int (nI 0), .int (nI 0), .int (nI 0), .int (nI 0), .int (nI 0)])), (a0, .inl (cI, 5, .inl (fun _ => 0))), (a1, .inl (cI, 32, .inl (fun _ => 0))), (a2, .inl (cI, 11, .inl (fun _ => 0))), (t0, .inr (4, [.ref v0, .int (nI 0), .int (nI 0), .int (nI 0)])), (v0, .inl (cI, 4, .inl (fun _ => 0))), (d0, .inr (0, [.int (-1)]))]) rfl rfl rfl ?_
  refine zg_astore_n C [1, 0] (lv' := [(0, .ref b), (1, .ref q0)]) dL_law_7 (by decide) rfl ?_
  refine zg_new C (ci := 6) (fs := [.int (nI 0), .null, .int (nI 0), .int (nI 0), .null, .int (nI 0), .null, .int (nI 0), .int (nI 0), .int (nI 0), .int (nI 0), .int (nI 0), .int (nI 0), .null, .null, .null, .int (nI 0), .int (nI 0), .int (nI 0), .int (nI 0), .long 0]) inlX6 tyX6_ok wlaw_5 wlaw_6 wlaw_7 rfl (fun j hj => by rcases (show j = 0 ∨ j = 1 ∨ j = 2 ∨ j = 3 ∨ j = 4 ∨ j = 5 ∨ j = 6 ∨ j = 7 ∨ j = 8 ∨ j = 9 ∨ j = 10 ∨ j = 11 ∨ j = 12 ∨ j = 13 ∨ j = 14 ∨ j = 15 ∨ j = 16 ∨ j = 17 ∨ j = 18 ∨ j = 19 ∨ j = 20 by omega) with rfl | rfl | rfl | rfl | rfl | rfl | rfl | rfl | rfl | rfl | rfl | rfl | rfl | rfl | rfl | rfl | rfl | rfl | rfl | rfl | rfl <;> rfl) (Nat.le_of_ble_eq_true rfl) (Nat.le_of_ble_eq_true rfl) dL_law_8 (fun q8 => ?_)
  refine zg_cv (k' := 13) (n' := 159) (ws' := [(q0, .inr (5, [.ref p0, .ref r0, .ref h0, .ref t0, .ref d0])), (p0, .inr (1, [.ref g0, .int (nI 0)])), (g0, .inl (cI, 56, .inl (fun _ => 0))), (r0, .inr (2, [.ref b0, .int (nI 0), .int (nI 0), .int (nI 0)])), (b0, .inl (cI, 5, .inl (fun _ => 0))), (h0, .inr (3, [.ref a0, .ref a1, .ref a2, .int (nI 0), .int (nI 0), .int (nI 0), .int (nI 0), .int (nI 0), .int (nI 0)])), (a0, .inl (cI, 5, .inl (fun _ => 0))), (a1, .inl (cI, 32, .inl (fun _ => 0))), (a2, .inl (cI, 11, .inl (fun _ => 0))), (t0, .inr (4, [.ref v0, .int (nI 0), .int (nI 0), .int (nI 0)])), (v0, .inl (cI, 4, .inl (fun _ => 0))), (d0, .inr (0, [.int (-1)])), (q8, .inr (6, [.int (nI 0), .null, .int (nI 0), .int (nI 0), .null, .int (nI 0), .null, .int (nI 0), .int (nI 0), .int (nI 0), .int (nI 0), .int (nI 0), .int (nI 0), .null, .null, .null, .int (nI 0), .int (nI 0), .int (nI 0), .int (nI 0), .long 0]))]) rfl rfl rfl ?_
  refine zg_dup C dL_law_11 rfl ?_
  refine zg_callI (As := []) (st := [.ref q8]) (wo := [(q0, .inr (5, [.ref p0, .ref r0, .ref h0, .ref t0, .ref d0])), (p0, .inr (1, [.ref g0, .int (nI 0)])), (g0, .inl (cI, 56, .inl (fun _ => 0))), (r0, .inr (2, [.ref b0, .int (nI 0), .int (nI 0), .int (nI 0)])), (b0, .inl (cI, 5, .inl (fun _ => 0))), (h0, .inr (3, [.ref a0, .ref a1, .ref a2, .int (nI 0), .int (nI 0), .int (nI 0), .int (nI 0), .int (nI 0), .int (nI 0)])), (a0, .inl (cI, 5, .inl (fun _ => 0))), (a1, .inl (cI, 32, .inl (fun _ => 0))), (a2, .inl (cI, 11, .inl (fun _ => 0))), (t0, .inr (4, [.ref v0, .int (nI 0), .int (nI 0), .int (nI 0)])), (v0, .inl (cI, 4, .inl (fun _ => 0))), (d0, .inr (0, [.int (-1)]))]) C [12] [0, 1, 2, 3, 4, 5, 6, 7, 8, 9, 10, 11] 0 (c_X6_init l D cI q8 ) gL_law_X6_init wlaw_7 wlaw_8 wlaw_9 rfl (by decide +kernel) rfl ⟨rfl, rfl⟩ ⟨Nat.le_of_ble_eq_true rfl, Nat.le_of_ble_eq_true rfl⟩ rfl rfl rfl rfl (by decide) rfl rfl (Nat.le_of_ble_eq_true rfl) ⟨Nat.le_of_ble_eq_true rfl, Nat.le_of_ble_eq_true rfl⟩ dL_law_12 (fun v9 w9 hw9 => ?_)
  obtain ⟨mp, mo, mv, mn, my, ml, rfl, rfl⟩ := hw9
  refine zg_cv (k' := 19) (n' := 1285) (st' := [.ref q8]) (ws' := [(q0, .inr (5, [.ref p0, .ref r0, .ref h0, .ref t0, .ref d0])), (p0, .inr (1, [.ref g0, .int (nI 0)])), (g0, .inl (cI, 56, .inl (fun _ => 0))), (r0, .inr (2, [.ref b0, .int (nI 0), .int (nI 0), .int (nI 0)])), (b0, .inl (cI, 5, .inl (fun _ => 0))), (h0, .inr (3, [.ref a0, .ref a1, .ref a2, .int (nI 0), .int (nI 0), .int (nI 0), .int (nI 0), .int (nI 0), .int (nI 0)])), (a0, .inl (cI, 5, .inl (fun _ => 0))), (a1, .inl (cI, 32, .inl (fun _ => 0))), (a2, .inl (cI, 11, .inl (fun _ => 0))), (t0, .inr (4, [.ref v0, .int (nI 0), .int (nI 0), .int (nI 0)])), (v0, .inl (cI, 4, .inl (fun _ => 0))), (d0, .inr (0, [.int (-1)])), (q8, .inr (6, [.int (nI 0), .ref mp, .int (nI 0), .int (nI 0), .ref mo, .int (-1), .ref mv, .int (nI 0), .int (nI 0), .int (nI 0), .int (nI 0), .int (nI 0), .int (nI 0), .ref mn, .ref my, .ref ml, .int (nI 0), .int (nI 0), .int (nI 0), .int (nI 0), .long 0])), (mp, .inl (cI, 56, .inl (fun _ => 0))), (mo, .inl (cI, 5, .inl (fun _ => 0))), (mv, .inl (cI, 4, .inl (fun _ => 0))), (mn, .inl (cI, 5, .inl (fun _ => 0))), (my, .inl (cI, 1024, .inl (fun _ => 0))), (ml, .inl (cI, 32, .inl (fun _ => 0)))]) rfl rfl rfl ?_
  refine zg_astore_n C [1, 2, 0] (lv' := [(0, .ref b), (1, .ref q0), (2, .ref q8)]) dL_law_15 (by decide) rfl ?_
  refine zg_iconst (v := nI 0) C dL_law_16 (by decide) ?_
  refine zg_istore_n C [1, 2, 3, 0] (lv' := [(0, .ref b), (1, .ref q0), (2, .ref q8), (3, .int (nI 0))]) dL_law_17 (by decide) rfl ?_
  have L_18 : ∀ i, i ≤ L + 1 → ∀ (pg : Nat → Int32) (pn : Nat) (x1 x2 x3 : Int32) (Qf Rf Lf Wf : Nat → Int32) (rc ln rk ds su rd : Nat) (V : Nat → Int32) (bs bp sr sd : Int32) (R : Nat → Nat) (Of Nf Yf Lm : Nat → Int32) (rkm sum rdm : Nat) (y1 y2 y3 dz : Int32) (hh : Int64), (pn ≤ 56) → (ln ≤ 10) → (rc ≤ 5) → (0 < rc ↔ 0 < ln) → (zSm R Rf Lf Wf rc ln rk ds su rd) → (zMm R Of Yf Lm rc ln rkm dz sum rdm) → zG X 19 1285 [(0, .ref b), (1, .ref q0), (2, .ref q8), (3, .int (nI (6 * i)))] [] [(q0, .inr (5, [.ref p0, .ref r0, .ref h0, .ref t0, .ref d0])), (p0, .inr (1, [.ref g0, .int (nI pn)])), (g0, .inl (cI, 56, .inl pg)), (r0, .inr (2, [.ref b0, .int x1, .int x2, .int x3])), (b0, .inl (cI, 5, .inl Qf)), (h0, .inr (3, [.ref a0, .ref a1, .ref a2, .int (nI rc), .int (nI ln), .int (nI rk), .int (nI ds), .int (nI su), .int (nI rd)])), (a0, .inl (cI, 5, .inl Rf)), (a1, .inl (cI, 32, .inl Lf)), (a2, .inl (cI, 11, .inl Wf)), (t0, .inr (4, [.ref v0, .int bs, .int bp, .int sr])), (v0, .inl (cI, 4, .inl V)), (d0, .inr (0, [.int sd])), (q8, .inr (6, [.int (nI pn), .ref mp, .int (nI rc), .int (nI ln), .ref mo, .int sd, .ref mv, .int bs, .int bp, .int sr, .int y1, .int y2, .int y3, .ref mn, .ref my, .ref ml, .int (nI rkm), .int dz, .int (nI sum), .int (nI rdm), .long hh])), (mp, .inl (cI, 56, .inl pg)), (mo, .inl (cI, 5, .inl Of)), (mv, .inl (cI, 4, .inl V)), (mn, .inl (cI, 5, .inl Nf)), (my, .inl (cI, 1024, .inl Yf)), (ml, .inl (cI, 32, .inl Lm))] 18 := by
    refine zg_dn (fun i hi ih_18 pg pn x1 x2 x3 Qf Rf Lf Wf rc ln rk ds su rd V bs bp sr sd R Of Nf Yf Lm rkm sum rdm y1 y2 y3 dz hh hpn hln hrc hrl hS hM => ?_)
    refine zg_iload_n C 3 dL_law_18 rfl ?_
    refine zg_aload_n C 0 dL_law_19 rfl ?_
    refine zg_slen C hX dL_law_20 ?_
    refine zg_bipush (v := nI 6) C dL_law_21 (by decide) ?_
    refine zg_isub C dL_law_23 (nI L - nI 6) (rfl) ?_
    refine zg_icmp_gt C 664 dL_law_24 (by decide) (fun c_24 => ?_) (fun c_24 => ?_)
    · skip
      refine zg_iconst (v := nI 1) C dL_law_664 (by decide) ?_
      exact hE _ _
    · skip
      have hLi : 6 * i + 6 ≤ L := zlaw_le hL hi c_24
      refine zg_aload_n C 0 dL_law_27 rfl ?_
      refine zg_iload_n C 3 dL_law_28 rfl ?_
      refine zg_sld C hX (by omega) dL_law_29 (xs (6 * i)) (rfl) ?_
      refine zg_bipush (v := nI 31) C dL_law_30 (by decide) ?_
      obtain ⟨j, hj, ej⟩ := pk_andE (xs (6 * i)) (m := nI 31) 5 (by decide)
      refine zg_iand C dL_law_32 (nI j) (ej) ?_
      rcases (show j = 0 ∨ j = 1 ∨ j = 2 ∨ j = 3 ∨ j = 4 ∨ j = 5 ∨ j = 6 ∨ j = 7 ∨ j = 8 ∨ j = 9 ∨ j = 10 ∨ j = 11 ∨ j = 12 ∨ j = 13 ∨ j = 14 ∨ j = 15 ∨ j = 16 ∨ j = 17 ∨ j = 18 ∨ 18 < j by omega) with rfl | rfl | rfl | rfl | rfl | rfl | rfl | rfl | rfl | rfl | rfl | rfl | rfl | rfl | rfl | rfl | rfl | rfl | rfl | hj18
      · skip
        refine zg_tabIn (off := 91) C 124 dL_law_33 (by rw [show (nI 0).toInt = 0 from by decide]; decide) (by rw [show (nI 0).toInt = 0 from by decide]; decide) (by rw [show (nI 0).toInt = 0 from by decide]; rfl) (by decide) ?_
        rcases Classical.em (zokL pn (xs (6 * i + 1))) with hok | hno
        · skip
          refine zg_aload_n C 1 dL_law_124 rfl ?_
          refine zg_aload_n C 0 dL_law_125 rfl ?_
          refine zg_iload_n C 3 dL_law_126 rfl ?_
          refine zg_iconst (v := nI 1) C dL_law_127 (by decide) ?_
          refine zg_iadd C dL_law_128 (nI ((6 * i) + 1)) (nI_add _ _) ?_
          refine zg_sld C hX (by omega) dL_law_129 (xs ((6 * i) + 1)) (rfl) ?_
          refine zg_callw (As := [.int (xs ((6 * i) + 1))]) (st := []) (wo := [(q8, .inr (6, [.int (nI pn), .ref mp, .int (nI rc), .int (nI ln), .ref mo, .int sd, .ref mv, .int bs, .int bp, .int sr, .int y1, .int y2, .int y3, .ref mn, .ref my, .ref ml, .int (nI rkm), .int dz, .int (nI sum), .int (nI rdm), .long hh])), (mp, .inl (cI, 56, .inl pg)), (mo, .inl (cI, 5, .inl Of)), (mv, .inl (cI, 4, .inl V)), (mn, .inl (cI, 5, .inl Nf)), (my, .inl (cI, 1024, .inl Yf)), (ml, .inl (cI, 32, .inl Lm))]) C [0, 1, 2, 3, 4, 5, 6, 7, 8, 9, 10, 11] [12, 13, 14, 15, 16, 17, 18] 0 1 (c_X5_letter l D cI q0 p0 g0 r0 b0 h0 a0 a1 a2 t0 v0 d0 pg pn x1 x2 x3 Qf Rf Lf Wf rc ln rk ds su rd V bs bp sr sd R (xs ((6 * i) + 1)) (hok)) gL_law_X5_letter (by decide +kernel) rfl ⟨rfl, rfl⟩ ⟨Nat.le_of_ble_eq_true rfl, Nat.le_of_ble_eq_true rfl⟩ rfl rfl rfl rfl (by decide) (ci := 5) rfl rfl rfl rfl (Nat.le_of_ble_eq_true rfl) ⟨Nat.le_of_ble_eq_true rfl, Nat.le_of_ble_eq_true rfl⟩ dL_law_130 (fun v9 w9 hw9 => ?_)
          obtain ⟨rfl, rfl⟩ := hw9
          refine zg_cv (k' := 19) (n' := 1285) (st' := [.int (nI (pn + 1))]) (ws' := [(q8, .inr (6, [.int (nI pn), .ref mp, .int (nI rc), .int (nI ln), .ref mo, .int sd, .ref mv, .int bs, .int bp, .int sr, .int y1, .int y2, .int y3, .ref mn, .ref my, .ref ml, .int (nI rkm), .int dz, .int (nI sum), .int (nI rdm), .long hh])), (mp, .inl (cI, 56, .inl pg)), (mo, .inl (cI, 5, .inl Of)), (mv, .inl (cI, 4, .inl V)), (mn, .inl (cI, 5, .inl Nf)), (my, .inl (cI, 1024, .inl Yf)), (ml, .inl (cI, 32, .inl Lm)), (q0, .inr (5, [.ref p0, .ref r0, .ref h0, .ref t0, .ref d0])), (p0, .inr (1, [.ref g0, .int (nI (pn + 1))])), (g0, .inl (cI, 56, .inl (upd pg pn (xs ((6 * i) + 1))))), (r0, .inr (2, [.ref b0, .int x1, .int x2, .int x3])), (b0, .inl (cI, 5, .inl Qf)), (h0, .inr (3, [.ref a0, .ref a1, .ref a2, .int (nI rc), .int (nI ln), .int (nI rk), .int (nI ds), .int (nI su), .int (nI rd)])), (a0, .inl (cI, 5, .inl Rf)), (a1, .inl (cI, 32, .inl Lf)), (a2, .inl (cI, 11, .inl Wf)), (t0, .inr (4, [.ref v0, .int bs, .int bp, .int sr])), (v0, .inl (cI, 4, .inl V)), (d0, .inr (0, [.int sd]))]) rfl rfl rfl ?_
          refine zg_perm [7, 8, 9, 10, 11, 12, 13, 14, 15, 16, 17, 18, 0, 1, 2, 3, 4, 5, 6] (ws' := [(q0, .inr (5, [.ref p0, .ref r0, .ref h0, .ref t0, .ref d0])), (p0, .inr (1, [.ref g0, .int (nI (pn + 1))])), (g0, .inl (cI, 56, .inl (upd pg pn (xs ((6 * i) + 1))))), (r0, .inr (2, [.ref b0, .int x1, .int x2, .int x3])), (b0, .inl (cI, 5, .inl Qf)), (h0, .inr (3, [.ref a0, .ref a1, .ref a2, .int (nI rc), .int (nI ln), .int (nI rk), .int (nI ds), .int (nI su), .int (nI rd)])), (a0, .inl (cI, 5, .inl Rf)), (a1, .inl (cI, 32, .inl Lf)), (a2, .inl (cI, 11, .inl Wf)), (t0, .inr (4, [.ref v0, .int bs, .int bp, .int sr])), (v0, .inl (cI, 4, .inl V)), (d0, .inr (0, [.int sd])), (q8, .inr (6, [.int (nI pn), .ref mp, .int (nI rc), .int (nI ln), .ref mo, .int sd, .ref mv, .int bs, .int bp, .int sr, .int y1, .int y2, .int y3, .ref mn, .ref my, .ref ml, .int (nI rkm), .int dz, .int (nI sum), .int (nI rdm), .long hh])), (mp, .inl (cI, 56, .inl pg)), (mo, .inl (cI, 5, .inl Of)), (mv, .inl (cI, 4, .inl V)), (mn, .inl (cI, 5, .inl Nf)), (my, .inl (cI, 1024, .inl Yf)), (ml, .inl (cI, 32, .inl Lm))]) rfl rfl ?_
          refine zg_aload_n C 2 dL_law_133 rfl ?_
          refine zg_aload_n C 0 dL_law_134 rfl ?_
          refine zg_iload_n C 3 dL_law_135 rfl ?_
          refine zg_iconst (v := nI 1) C dL_law_136 (by decide) ?_
          refine zg_iadd C dL_law_137 (nI ((6 * i) + 1)) (nI_add _ _) ?_
          refine zg_sld C hX (by omega) dL_law_138 (xs ((6 * i) + 1)) (rfl) ?_
          refine zg_callw (As := [.int (xs ((6 * i) + 1))]) (st := [.int (nI (pn + 1))]) (wo := [(q0, .inr (5, [.ref p0, .ref r0, .ref h0, .ref t0, .ref d0])), (p0, .inr (1, [.ref g0, .int (nI (pn + 1))])), (g0, .inl (cI, 56, .inl (upd pg pn (xs ((6 * i) + 1))))), (r0, .inr (2, [.ref b0, .int x1, .int x2, .int x3])), (b0, .inl (cI, 5, .inl Qf)), (h0, .inr (3, [.ref a0, .ref a1, .ref a2, .int (nI rc), .int (nI ln), .int (nI rk), .int (nI ds), .int (nI su), .int (nI rd)])), (a0, .inl (cI, 5, .inl Rf)), (a1, .inl (cI, 32, .inl Lf)), (a2, .inl (cI, 11, .inl Wf)), (t0, .inr (4, [.ref v0, .int bs, .int bp, .int sr])), (v0, .inl (cI, 4, .inl V)), (d0, .inr (0, [.int sd]))]) C [12, 13, 14, 15, 16, 17, 18] [0, 1, 2, 3, 4, 5, 6, 7, 8, 9, 10, 11] 12 1 (c_X6_letter l D cI q8 mp mo mv mn my ml pg Of V Nf Yf Lm pn rc ln rkm sum rdm sd bs bp sr y1 y2 y3 dz hh (xs ((6 * i) + 1)) (hok)) gL_law_X6_letter (by decide +kernel) rfl ⟨rfl, rfl⟩ ⟨Nat.le_of_ble_eq_true rfl, Nat.le_of_ble_eq_true rfl⟩ rfl rfl rfl rfl (by decide) (ci := 6) rfl rfl rfl rfl (Nat.le_of_ble_eq_true rfl) ⟨Nat.le_of_ble_eq_true rfl, Nat.le_of_ble_eq_true rfl⟩ dL_law_139 (fun v9 w9 hw9 => ?_)
          obtain ⟨rfl, rfl⟩ := hw9
          refine zg_cv (k' := 19) (n' := 1285) (st' := [.int (nI (pn + 1)), .int (nI (pn + 1))]) (ws' := [(q0, .inr (5, [.ref p0, .ref r0, .ref h0, .ref t0, .ref d0])), (p0, .inr (1, [.ref g0, .int (nI (pn + 1))])), (g0, .inl (cI, 56, .inl (upd pg pn (xs ((6 * i) + 1))))), (r0, .inr (2, [.ref b0, .int x1, .int x2, .int x3])), (b0, .inl (cI, 5, .inl Qf)), (h0, .inr (3, [.ref a0, .ref a1, .ref a2, .int (nI rc), .int (nI ln), .int (nI rk), .int (nI ds), .int (nI su), .int (nI rd)])), (a0, .inl (cI, 5, .inl Rf)), (a1, .inl (cI, 32, .inl Lf)), (a2, .inl (cI, 11, .inl Wf)), (t0, .inr (4, [.ref v0, .int bs, .int bp, .int sr])), (v0, .inl (cI, 4, .inl V)), (d0, .inr (0, [.int sd])), (q8, .inr (6, [.int (nI (pn + 1)), .ref mp, .int (nI rc), .int (nI ln), .ref mo, .int sd, .ref mv, .int bs, .int bp, .int sr, .int y1, .int y2, .int y3, .ref mn, .ref my, .ref ml, .int (nI rkm), .int dz, .int (nI sum), .int (nI rdm), .long hh])), (mp, .inl (cI, 56, .inl (upd pg pn (xs ((6 * i) + 1))))), (mo, .inl (cI, 5, .inl Of)), (mv, .inl (cI, 4, .inl V)), (mn, .inl (cI, 5, .inl Nf)), (my, .inl (cI, 1024, .inl Yf)), (ml, .inl (cI, 32, .inl Lm))]) rfl rfl rfl ?_
          refine zg_icmp_eq C 658 dL_law_142 (by decide) (fun c_142 => ?_) (fun c_142 => by exact absurd rfl c_142)
          refine zg_iinc C 3 [1, 2, 3, 0] (lv' := [(0, .ref b), (1, .ref q0), (2, .ref q8), (3, .int (nI (6 * (i + 1))))]) (nI (6 * (i + 1))) dL_law_658 rfl (zi_6 i) (by decide) rfl ?_
          refine zg_goto C 18 dL_law_661 (by decide) ?_
          exact zg_cv (lv' := [(0, .ref b), (1, .ref q0), (2, .ref q8), (3, .int (nI (6 * (i + 1))))]) (rfl) rfl (rfl) (ih_18 (by omega) (upd pg pn (xs ((6 * i) + 1))) (pn + 1) x1 x2 x3 Qf Rf Lf Wf rc ln rk ds su rd V bs bp sr sd R Of Nf Yf Lm rkm sum rdm y1 y2 y3 dz hh (hok.2.2) (hln) (hrc) (hrl) (hS) (hM))
        · skip
          refine zg_aload_n C 1 dL_law_124 rfl ?_
          refine zg_aload_n C 0 dL_law_125 rfl ?_
          refine zg_iload_n C 3 dL_law_126 rfl ?_
          refine zg_iconst (v := nI 1) C dL_law_127 (by decide) ?_
          refine zg_iadd C dL_law_128 (nI ((6 * i) + 1)) (nI_add _ _) ?_
          refine zg_sld C hX (by omega) dL_law_129 (xs ((6 * i) + 1)) (rfl) ?_
          refine zg_callw (As := [.int (xs ((6 * i) + 1))]) (st := []) (wo := [(q8, .inr (6, [.int (nI pn), .ref mp, .int (nI rc), .int (nI ln), .ref mo, .int sd, .ref mv, .int bs, .int bp, .int sr, .int y1, .int y2, .int y3, .ref mn, .ref my, .ref ml, .int (nI rkm), .int dz, .int (nI sum), .int (nI rdm), .long hh])), (mp, .inl (cI, 56, .inl pg)), (mo, .inl (cI, 5, .inl Of)), (mv, .inl (cI, 4, .inl V)), (mn, .inl (cI, 5, .inl Nf)), (my, .inl (cI, 1024, .inl Yf)), (ml, .inl (cI, 32, .inl Lm))]) C [0, 1, 2, 3, 4, 5, 6, 7, 8, 9, 10, 11] [12, 13, 14, 15, 16, 17, 18] 0 1 (c_X5_letter_no l D cI q0 p0 g0 r0 b0 h0 a0 a1 a2 t0 v0 d0 pg pn x1 x2 x3 Qf Rf Lf Wf rc ln rk ds su rd V bs bp sr sd R (xs ((6 * i) + 1)) (hno) hpn) gL_law_X5_letter (by decide +kernel) rfl ⟨rfl, rfl⟩ ⟨Nat.le_of_ble_eq_true rfl, Nat.le_of_ble_eq_true rfl⟩ rfl rfl rfl rfl (by decide) (ci := 5) rfl rfl rfl rfl (Nat.le_of_ble_eq_true rfl) ⟨Nat.le_of_ble_eq_true rfl, Nat.le_of_ble_eq_true rfl⟩ dL_law_130 (fun v9 w9 hw9 => ?_)
          obtain ⟨rfl, rfl⟩ := hw9
          refine zg_cv (k' := 19) (n' := 1285) (st' := [.int (zAlet pn (xs ((6 * i) + 1)))]) (ws' := [(q8, .inr (6, [.int (nI pn), .ref mp, .int (nI rc), .int (nI ln), .ref mo, .int sd, .ref mv, .int bs, .int bp, .int sr, .int y1, .int y2, .int y3, .ref mn, .ref my, .ref ml, .int (nI rkm), .int dz, .int (nI sum), .int (nI rdm), .long hh])), (mp, .inl (cI, 56, .inl pg)), (mo, .inl (cI, 5, .inl Of)), (mv, .inl (cI, 4, .inl V)), (mn, .inl (cI, 5, .inl Nf)), (my, .inl (cI, 1024, .inl Yf)), (ml, .inl (cI, 32, .inl Lm)), (q0, .inr (5, [.ref p0, .ref r0, .ref h0, .ref t0, .ref d0])), (p0, .inr (1, [.ref g0, .int (nI pn)])), (g0, .inl (cI, 56, .inl pg)), (r0, .inr (2, [.ref b0, .int x1, .int x2, .int x3])), (b0, .inl (cI, 5, .inl Qf)), (h0, .inr (3, [.ref a0, .ref a1, .ref a2, .int (nI rc), .int (nI ln), .int (nI rk), .int (nI ds), .int (nI su), .int (nI rd)])), (a0, .inl (cI, 5, .inl Rf)), (a1, .inl (cI, 32, .inl Lf)), (a2, .inl (cI, 11, .inl Wf)), (t0, .inr (4, [.ref v0, .int bs, .int bp, .int sr])), (v0, .inl (cI, 4, .inl V)), (d0, .inr (0, [.int sd]))]) rfl rfl rfl ?_
          refine zg_perm [7, 8, 9, 10, 11, 12, 13, 14, 15, 16, 17, 18, 0, 1, 2, 3, 4, 5, 6] (ws' := [(q0, .inr (5, [.ref p0, .ref r0, .ref h0, .ref t0, .ref d0])), (p0, .inr (1, [.ref g0, .int (nI pn)])), (g0, .inl (cI, 56, .inl pg)), (r0, .inr (2, [.ref b0, .int x1, .int x2, .int x3])), (b0, .inl (cI, 5, .inl Qf)), (h0, .inr (3, [.ref a0, .ref a1, .ref a2, .int (nI rc), .int (nI ln), .int (nI rk), .int (nI ds), .int (nI su), .int (nI rd)])), (a0, .inl (cI, 5, .inl Rf)), (a1, .inl (cI, 32, .inl Lf)), (a2, .inl (cI, 11, .inl Wf)), (t0, .inr (4, [.ref v0, .int bs, .int bp, .int sr])), (v0, .inl (cI, 4, .inl V)), (d0, .inr (0, [.int sd])), (q8, .inr (6, [.int (nI pn), .ref mp, .int (nI rc), .int (nI ln), .ref mo, .int sd, .ref mv, .int bs, .int bp, .int sr, .int y1, .int y2, .int y3, .ref mn, .ref my, .ref ml, .int (nI rkm), .int dz, .int (nI sum), .int (nI rdm), .long hh])), (mp, .inl (cI, 56, .inl pg)), (mo, .inl (cI, 5, .inl Of)), (mv, .inl (cI, 4, .inl V)), (mn, .inl (cI, 5, .inl Nf)), (my, .inl (cI, 1024, .inl Yf)), (ml, .inl (cI, 32, .inl Lm))]) rfl rfl ?_
          refine zg_aload_n C 2 dL_law_133 rfl ?_
          refine zg_aload_n C 0 dL_law_134 rfl ?_
          refine zg_iload_n C 3 dL_law_135 rfl ?_
          refine zg_iconst (v := nI 1) C dL_law_136 (by decide) ?_
          refine zg_iadd C dL_law_137 (nI ((6 * i) + 1)) (nI_add _ _) ?_
          refine zg_sld C hX (by omega) dL_law_138 (xs ((6 * i) + 1)) (rfl) ?_
          refine zg_callr (As := [.int (xs ((6 * i) + 1))]) (st := [.int (zAlet pn (xs ((6 * i) + 1)))]) C [12, 13, 14, 15, 16, 17, 18] 12 1 (c_X6_letter_no l D cI q8 mp mo mv mn my ml pg Of V Nf Yf Lm pn rc ln rkm sum rdm sd bs bp sr y1 y2 y3 dz hh (xs ((6 * i) + 1)) (hno) hpn) gL_law_X6_letter (by decide +kernel) rfl ⟨rfl, rfl⟩ ⟨Nat.le_of_ble_eq_true rfl, Nat.le_of_ble_eq_true rfl⟩ rfl (ci := 6) rfl rfl rfl rfl (Nat.le_of_ble_eq_true rfl) ⟨Nat.le_of_ble_eq_true rfl, Nat.le_of_ble_eq_true rfl⟩ dL_law_139 ?_
          refine zg_icmp_eq C 658 dL_law_142 (by decide) (fun c_142 => ?_) (fun c_142 => by exact absurd rfl c_142)
          refine zg_iinc C 3 [1, 2, 3, 0] (lv' := [(0, .ref b), (1, .ref q0), (2, .ref q8), (3, .int (nI (6 * (i + 1))))]) (nI (6 * (i + 1))) dL_law_658 rfl (zi_6 i) (by decide) rfl ?_
          refine zg_goto C 18 dL_law_661 (by decide) ?_
          exact zg_cv (lv' := [(0, .ref b), (1, .ref q0), (2, .ref q8), (3, .int (nI (6 * (i + 1))))]) (rfl) rfl (rfl) (ih_18 (by omega) pg pn x1 x2 x3 Qf Rf Lf Wf rc ln rk ds su rd V bs bp sr sd R Of Nf Yf Lm rkm sum rdm y1 y2 y3 dz hh (hpn) (hln) (hrc) (hrl) (hS) (hM))
      · skip
        refine zg_tabIn (off := 114) C 147 dL_law_33 (by rw [show (nI 1).toInt = 1 from by decide]; decide) (by rw [show (nI 1).toInt = 1 from by decide]; decide) (by rw [show (nI 1).toInt = 1 from by decide]; rfl) (by decide) ?_
        refine zg_aload_n C 1 dL_law_147 rfl ?_
        refine zg_callw (As := []) (st := []) (wo := [(q8, .inr (6, [.int (nI pn), .ref mp, .int (nI rc), .int (nI ln), .ref mo, .int sd, .ref mv, .int bs, .int bp, .int sr, .int y1, .int y2, .int y3, .ref mn, .ref my, .ref ml, .int (nI rkm), .int dz, .int (nI sum), .int (nI rdm), .long hh])), (mp, .inl (cI, 56, .inl pg)), (mo, .inl (cI, 5, .inl Of)), (mv, .inl (cI, 4, .inl V)), (mn, .inl (cI, 5, .inl Nf)), (my, .inl (cI, 1024, .inl Yf)), (ml, .inl (cI, 32, .inl Lm))]) C [0, 1, 2, 3, 4, 5, 6, 7, 8, 9, 10, 11] [12, 13, 14, 15, 16, 17, 18] 0 0 (c_X5_blank l D cI q0 p0 g0 r0 b0 h0 a0 a1 a2 t0 v0 d0 pg pn x1 x2 x3 Qf Rf Lf Wf rc ln rk ds su rd V bs bp sr sd R ) gL_law_X5_blank (by decide +kernel) rfl ⟨rfl, rfl⟩ ⟨Nat.le_of_ble_eq_true rfl, Nat.le_of_ble_eq_true rfl⟩ rfl rfl rfl rfl (by decide) (ci := 5) rfl rfl rfl rfl (Nat.le_of_ble_eq_true rfl) ⟨Nat.le_of_ble_eq_true rfl, Nat.le_of_ble_eq_true rfl⟩ dL_law_148 (fun v9 w9 hw9 => ?_)
        obtain ⟨rfl, rfl⟩ := hw9
        refine zg_cv (k' := 19) (n' := 1285) (st' := [.int (nI pn)]) (ws' := [(q8, .inr (6, [.int (nI pn), .ref mp, .int (nI rc), .int (nI ln), .ref mo, .int sd, .ref mv, .int bs, .int bp, .int sr, .int y1, .int y2, .int y3, .ref mn, .ref my, .ref ml, .int (nI rkm), .int dz, .int (nI sum), .int (nI rdm), .long hh])), (mp, .inl (cI, 56, .inl pg)), (mo, .inl (cI, 5, .inl Of)), (mv, .inl (cI, 4, .inl V)), (mn, .inl (cI, 5, .inl Nf)), (my, .inl (cI, 1024, .inl Yf)), (ml, .inl (cI, 32, .inl Lm)), (q0, .inr (5, [.ref p0, .ref r0, .ref h0, .ref t0, .ref d0])), (p0, .inr (1, [.ref g0, .int (nI 0)])), (g0, .inl (cI, 56, .inl pg)), (r0, .inr (2, [.ref b0, .int x1, .int x2, .int x3])), (b0, .inl (cI, 5, .inl Qf)), (h0, .inr (3, [.ref a0, .ref a1, .ref a2, .int (nI rc), .int (nI ln), .int (nI rk), .int (nI ds), .int (nI su), .int (nI rd)])), (a0, .inl (cI, 5, .inl Rf)), (a1, .inl (cI, 32, .inl Lf)), (a2, .inl (cI, 11, .inl Wf)), (t0, .inr (4, [.ref v0, .int bs, .int bp, .int sr])), (v0, .inl (cI, 4, .inl V)), (d0, .inr (0, [.int sd]))]) rfl rfl rfl ?_
        refine zg_perm [7, 8, 9, 10, 11, 12, 13, 14, 15, 16, 17, 18, 0, 1, 2, 3, 4, 5, 6] (ws' := [(q0, .inr (5, [.ref p0, .ref r0, .ref h0, .ref t0, .ref d0])), (p0, .inr (1, [.ref g0, .int (nI 0)])), (g0, .inl (cI, 56, .inl pg)), (r0, .inr (2, [.ref b0, .int x1, .int x2, .int x3])), (b0, .inl (cI, 5, .inl Qf)), (h0, .inr (3, [.ref a0, .ref a1, .ref a2, .int (nI rc), .int (nI ln), .int (nI rk), .int (nI ds), .int (nI su), .int (nI rd)])), (a0, .inl (cI, 5, .inl Rf)), (a1, .inl (cI, 32, .inl Lf)), (a2, .inl (cI, 11, .inl Wf)), (t0, .inr (4, [.ref v0, .int bs, .int bp, .int sr])), (v0, .inl (cI, 4, .inl V)), (d0, .inr (0, [.int sd])), (q8, .inr (6, [.int (nI pn), .ref mp, .int (nI rc), .int (nI ln), .ref mo, .int sd, .ref mv, .int bs, .int bp, .int sr, .int y1, .int y2, .int y3, .ref mn, .ref my, .ref ml, .int (nI rkm), .int dz, .int (nI sum), .int (nI rdm), .long hh])), (mp, .inl (cI, 56, .inl pg)), (mo, .inl (cI, 5, .inl Of)), (mv, .inl (cI, 4, .inl V)), (mn, .inl (cI, 5, .inl Nf)), (my, .inl (cI, 1024, .inl Yf)), (ml, .inl (cI, 32, .inl Lm))]) rfl rfl ?_
        refine zg_aload_n C 2 dL_law_151 rfl ?_
        refine zg_callw (As := []) (st := [.int (nI pn)]) (wo := [(q0, .inr (5, [.ref p0, .ref r0, .ref h0, .ref t0, .ref d0])), (p0, .inr (1, [.ref g0, .int (nI 0)])), (g0, .inl (cI, 56, .inl pg)), (r0, .inr (2, [.ref b0, .int x1, .int x2, .int x3])), (b0, .inl (cI, 5, .inl Qf)), (h0, .inr (3, [.ref a0, .ref a1, .ref a2, .int (nI rc), .int (nI ln), .int (nI rk), .int (nI ds), .int (nI su), .int (nI rd)])), (a0, .inl (cI, 5, .inl Rf)), (a1, .inl (cI, 32, .inl Lf)), (a2, .inl (cI, 11, .inl Wf)), (t0, .inr (4, [.ref v0, .int bs, .int bp, .int sr])), (v0, .inl (cI, 4, .inl V)), (d0, .inr (0, [.int sd]))]) C [12, 13, 14, 15, 16, 17, 18] [0, 1, 2, 3, 4, 5, 6, 7, 8, 9, 10, 11] 12 0 (c_X6_blank l D cI q8 mp mo mv mn my ml pg Of V Nf Yf Lm pn rc ln rkm sum rdm sd bs bp sr y1 y2 y3 dz hh ) gL_law_X6_blank (by decide +kernel) rfl ⟨rfl, rfl⟩ ⟨Nat.le_of_ble_eq_true rfl, Nat.le_of_ble_eq_true rfl⟩ rfl rfl rfl rfl (by decide) (ci := 6) rfl rfl rfl rfl (Nat.le_of_ble_eq_true rfl) ⟨Nat.le_of_ble_eq_true rfl, Nat.le_of_ble_eq_true rfl⟩ dL_law_152 (fun v9 w9 hw9 => ?_)
        obtain ⟨rfl, rfl⟩ := hw9
        refine zg_cv (k' := 19) (n' := 1285) (st' := [.int (nI pn), .int (nI pn)]) (ws' := [(q0, .inr (5, [.ref p0, .ref r0, .ref h0, .ref t0, .ref d0])), (p0, .inr (1, [.ref g0, .int (nI 0)])), (g0, .inl (cI, 56, .inl pg)), (r0, .inr (2, [.ref b0, .int x1, .int x2, .int x3])), (b0, .inl (cI, 5, .inl Qf)), (h0, .inr (3, [.ref a0, .ref a1, .ref a2, .int (nI rc), .int (nI ln), .int (nI rk), .int (nI ds), .int (nI su), .int (nI rd)])), (a0, .inl (cI, 5, .inl Rf)), (a1, .inl (cI, 32, .inl Lf)), (a2, .inl (cI, 11, .inl Wf)), (t0, .inr (4, [.ref v0, .int bs, .int bp, .int sr])), (v0, .inl (cI, 4, .inl V)), (d0, .inr (0, [.int sd])), (q8, .inr (6, [.int (nI 0), .ref mp, .int (nI rc), .int (nI ln), .ref mo, .int sd, .ref mv, .int bs, .int bp, .int sr, .int y1, .int y2, .int y3, .ref mn, .ref my, .ref ml, .int (nI rkm), .int dz, .int (nI sum), .int (nI rdm), .long hh])), (mp, .inl (cI, 56, .inl pg)), (mo, .inl (cI, 5, .inl Of)), (mv, .inl (cI, 4, .inl V)), (mn, .inl (cI, 5, .inl Nf)), (my, .inl (cI, 1024, .inl Yf)), (ml, .inl (cI, 32, .inl Lm))]) rfl rfl rfl ?_
        refine zg_icmp_eq C 658 dL_law_155 (by decide) (fun c_155 => ?_) (fun c_155 => by exact absurd rfl c_155)
        refine zg_iinc C 3 [1, 2, 3, 0] (lv' := [(0, .ref b), (1, .ref q0), (2, .ref q8), (3, .int (nI (6 * (i + 1))))]) (nI (6 * (i + 1))) dL_law_658 rfl (zi_6 i) (by decide) rfl ?_
        refine zg_goto C 18 dL_law_661 (by decide) ?_
        exact zg_cv (lv' := [(0, .ref b), (1, .ref q0), (2, .ref q8), (3, .int (nI (6 * (i + 1))))]) (rfl) rfl (rfl) (ih_18 (by omega) pg 0 x1 x2 x3 Qf Rf Lf Wf rc ln rk ds su rd V bs bp sr sd R Of Nf Yf Lm rkm sum rdm y1 y2 y3 dz hh (Nat.zero_le _) (hln) (hrc) (hrl) (hS) (hM))
      · skip
        refine zg_tabIn (off := 127) C 160 dL_law_33 (by rw [show (nI 2).toInt = 2 from by decide]; decide) (by rw [show (nI 2).toInt = 2 from by decide]; decide) (by rw [show (nI 2).toInt = 2 from by decide]; rfl) (by decide) ?_
        refine zg_aload_n C 1 dL_law_160 rfl ?_
        refine zg_callw (As := []) (st := []) (wo := [(q8, .inr (6, [.int (nI pn), .ref mp, .int (nI rc), .int (nI ln), .ref mo, .int sd, .ref mv, .int bs, .int bp, .int sr, .int y1, .int y2, .int y3, .ref mn, .ref my, .ref ml, .int (nI rkm), .int dz, .int (nI sum), .int (nI rdm), .long hh])), (mp, .inl (cI, 56, .inl pg)), (mo, .inl (cI, 5, .inl Of)), (mv, .inl (cI, 4, .inl V)), (mn, .inl (cI, 5, .inl Nf)), (my, .inl (cI, 1024, .inl Yf)), (ml, .inl (cI, 32, .inl Lm))]) C [0, 1, 2, 3, 4, 5, 6, 7, 8, 9, 10, 11] [12, 13, 14, 15, 16, 17, 18] 0 0 (c_X5_fault l D cI q0 p0 g0 r0 b0 h0 a0 a1 a2 t0 v0 d0 pg pn x1 x2 x3 Qf Rf Lf Wf rc ln rk ds su rd V bs bp sr sd R hpn) gL_law_X5_fault (by decide +kernel) rfl ⟨rfl, rfl⟩ ⟨Nat.le_of_ble_eq_true rfl, Nat.le_of_ble_eq_true rfl⟩ rfl rfl rfl rfl (by decide) (ci := 5) rfl rfl rfl rfl (Nat.le_of_ble_eq_true rfl) ⟨Nat.le_of_ble_eq_true rfl, Nat.le_of_ble_eq_true rfl⟩ dL_law_161 (fun v9 w9 hw9 => ?_)
        obtain ⟨rfl, rfl⟩ := hw9
        refine zg_cv (k' := 19) (n' := 1285) (st' := [.int (nI ((zfa pg pn 0 zr0).1))]) (ws' := [(q8, .inr (6, [.int (nI pn), .ref mp, .int (nI rc), .int (nI ln), .ref mo, .int sd, .ref mv, .int bs, .int bp, .int sr, .int y1, .int y2, .int y3, .ref mn, .ref my, .ref ml, .int (nI rkm), .int dz, .int (nI sum), .int (nI rdm), .long hh])), (mp, .inl (cI, 56, .inl pg)), (mo, .inl (cI, 5, .inl Of)), (mv, .inl (cI, 4, .inl V)), (mn, .inl (cI, 5, .inl Nf)), (my, .inl (cI, 1024, .inl Yf)), (ml, .inl (cI, 32, .inl Lm)), (q0, .inr (5, [.ref p0, .ref r0, .ref h0, .ref t0, .ref d0])), (p0, .inr (1, [.ref g0, .int (nI pn)])), (g0, .inl (cI, 56, .inl pg)), (r0, .inr (2, [.ref b0, .int (nI ((zfa pg pn 0 zr0).2.1)), .int (nI ((zfa pg pn 0 zr0).2.2.1)), .int (nI ((zfa pg pn 0 zr0).2.2.2.1))])), (b0, .inl (cI, 5, .inl (fun j => nI ((zfa pg pn 0 zr0).2.2.2.2 j)))), (h0, .inr (3, [.ref a0, .ref a1, .ref a2, .int (nI rc), .int (nI ln), .int (nI rk), .int (nI ds), .int (nI su), .int (nI rd)])), (a0, .inl (cI, 5, .inl Rf)), (a1, .inl (cI, 32, .inl Lf)), (a2, .inl (cI, 11, .inl Wf)), (t0, .inr (4, [.ref v0, .int bs, .int bp, .int sr])), (v0, .inl (cI, 4, .inl V)), (d0, .inr (0, [.int sd]))]) rfl rfl rfl ?_
        refine zg_perm [7, 8, 9, 10, 11, 12, 13, 14, 15, 16, 17, 18, 0, 1, 2, 3, 4, 5, 6] (ws' := [(q0, .inr (5, [.ref p0, .ref r0, .ref h0, .ref t0, .ref d0])), (p0, .inr (1, [.ref g0, .int (nI pn)])), (g0, .inl (cI, 56, .inl pg)), (r0, .inr (2, [.ref b0, .int (nI ((zfa pg pn 0 zr0).2.1)), .int (nI ((zfa pg pn 0 zr0).2.2.1)), .int (nI ((zfa pg pn 0 zr0).2.2.2.1))])), (b0, .inl (cI, 5, .inl (fun j => nI ((zfa pg pn 0 zr0).2.2.2.2 j)))), (h0, .inr (3, [.ref a0, .ref a1, .ref a2, .int (nI rc), .int (nI ln), .int (nI rk), .int (nI ds), .int (nI su), .int (nI rd)])), (a0, .inl (cI, 5, .inl Rf)), (a1, .inl (cI, 32, .inl Lf)), (a2, .inl (cI, 11, .inl Wf)), (t0, .inr (4, [.ref v0, .int bs, .int bp, .int sr])), (v0, .inl (cI, 4, .inl V)), (d0, .inr (0, [.int sd])), (q8, .inr (6, [.int (nI pn), .ref mp, .int (nI rc), .int (nI ln), .ref mo, .int sd, .ref mv, .int bs, .int bp, .int sr, .int y1, .int y2, .int y3, .ref mn, .ref my, .ref ml, .int (nI rkm), .int dz, .int (nI sum), .int (nI rdm), .long hh])), (mp, .inl (cI, 56, .inl pg)), (mo, .inl (cI, 5, .inl Of)), (mv, .inl (cI, 4, .inl V)), (mn, .inl (cI, 5, .inl Nf)), (my, .inl (cI, 1024, .inl Yf)), (ml, .inl (cI, 32, .inl Lm))]) rfl rfl ?_
        refine zg_aload_n C 2 dL_law_164 rfl ?_
        refine zg_callw (As := []) (st := [.int (nI ((zfa pg pn 0 zr0).1))]) (wo := [(q0, .inr (5, [.ref p0, .ref r0, .ref h0, .ref t0, .ref d0])), (p0, .inr (1, [.ref g0, .int (nI pn)])), (g0, .inl (cI, 56, .inl pg)), (r0, .inr (2, [.ref b0, .int (nI ((zfa pg pn 0 zr0).2.1)), .int (nI ((zfa pg pn 0 zr0).2.2.1)), .int (nI ((zfa pg pn 0 zr0).2.2.2.1))])), (b0, .inl (cI, 5, .inl (fun j => nI ((zfa pg pn 0 zr0).2.2.2.2 j)))), (h0, .inr (3, [.ref a0, .ref a1, .ref a2, .int (nI rc), .int (nI ln), .int (nI rk), .int (nI ds), .int (nI su), .int (nI rd)])), (a0, .inl (cI, 5, .inl Rf)), (a1, .inl (cI, 32, .inl Lf)), (a2, .inl (cI, 11, .inl Wf)), (t0, .inr (4, [.ref v0, .int bs, .int bp, .int sr])), (v0, .inl (cI, 4, .inl V)), (d0, .inr (0, [.int sd]))]) C [12, 13, 14, 15, 16, 17, 18] [0, 1, 2, 3, 4, 5, 6, 7, 8, 9, 10, 11] 12 0 (c_X6_fault l D cI q8 mp mo mv mn my ml pg Of V Nf Yf Lm pn rc ln rkm sum rdm sd bs bp sr y1 y2 y3 dz hh hpn) gL_law_X6_fault (by decide +kernel) rfl ⟨rfl, rfl⟩ ⟨Nat.le_of_ble_eq_true rfl, Nat.le_of_ble_eq_true rfl⟩ rfl rfl rfl rfl (by decide) (ci := 6) rfl rfl rfl rfl (Nat.le_of_ble_eq_true rfl) ⟨Nat.le_of_ble_eq_true rfl, Nat.le_of_ble_eq_true rfl⟩ dL_law_165 (fun v9 w9 hw9 => ?_)
        obtain ⟨Nf9_165, rfl, rfl, hp_165⟩ := hw9
        refine zg_cv (k' := 19) (n' := 1285) (st' := [.int (nI ((zfa pg pn 0 zr0).1)), .int (nI ((zfa pg pn 0 zr0).1))]) (ws' := [(q0, .inr (5, [.ref p0, .ref r0, .ref h0, .ref t0, .ref d0])), (p0, .inr (1, [.ref g0, .int (nI pn)])), (g0, .inl (cI, 56, .inl pg)), (r0, .inr (2, [.ref b0, .int (nI ((zfa pg pn 0 zr0).2.1)), .int (nI ((zfa pg pn 0 zr0).2.2.1)), .int (nI ((zfa pg pn 0 zr0).2.2.2.1))])), (b0, .inl (cI, 5, .inl (fun j => nI ((zfa pg pn 0 zr0).2.2.2.2 j)))), (h0, .inr (3, [.ref a0, .ref a1, .ref a2, .int (nI rc), .int (nI ln), .int (nI rk), .int (nI ds), .int (nI su), .int (nI rd)])), (a0, .inl (cI, 5, .inl Rf)), (a1, .inl (cI, 32, .inl Lf)), (a2, .inl (cI, 11, .inl Wf)), (t0, .inr (4, [.ref v0, .int bs, .int bp, .int sr])), (v0, .inl (cI, 4, .inl V)), (d0, .inr (0, [.int sd])), (q8, .inr (6, [.int (nI pn), .ref mp, .int (nI rc), .int (nI ln), .ref mo, .int sd, .ref mv, .int bs, .int bp, .int sr, .int (nI ((zfa pg pn 0 zr0).2.1)), .int (nI ((zfa pg pn 0 zr0).2.2.1)), .int (nI ((zfa pg pn 0 zr0).2.2.2.1)), .ref mn, .ref my, .ref ml, .int (nI rkm), .int dz, .int (nI sum), .int (nI rdm), .long hh])), (mp, .inl (cI, 56, .inl pg)), (mo, .inl (cI, 5, .inl Of)), (mv, .inl (cI, 4, .inl V)), (mn, .inl (cI, 5, .inl Nf9_165)), (my, .inl (cI, 1024, .inl Yf)), (ml, .inl (cI, 32, .inl Lm))]) rfl rfl rfl ?_
        refine zg_icmp_eq C 658 dL_law_168 (by decide) (fun c_168 => ?_) (fun c_168 => by exact absurd rfl c_168)
        refine zg_iinc C 3 [1, 2, 3, 0] (lv' := [(0, .ref b), (1, .ref q0), (2, .ref q8), (3, .int (nI (6 * (i + 1))))]) (nI (6 * (i + 1))) dL_law_658 rfl (zi_6 i) (by decide) rfl ?_
        refine zg_goto C 18 dL_law_661 (by decide) ?_
        exact zg_cv (lv' := [(0, .ref b), (1, .ref q0), (2, .ref q8), (3, .int (nI (6 * (i + 1))))]) (rfl) rfl (rfl) (ih_18 (by omega) pg pn (nI ((zfa pg pn 0 zr0).2.1)) (nI ((zfa pg pn 0 zr0).2.2.1)) (nI ((zfa pg pn 0 zr0).2.2.2.1)) (fun j => nI ((zfa pg pn 0 zr0).2.2.2.2 j)) Rf Lf Wf rc ln rk ds su rd V bs bp sr sd R Of Nf9_165 Yf Lm rkm sum rdm (nI ((zfa pg pn 0 zr0).2.1)) (nI ((zfa pg pn 0 zr0).2.2.1)) (nI ((zfa pg pn 0 zr0).2.2.2.1)) dz hh (hpn) (hln) (hrc) (hrl) (hS) (hM))
      · skip
        refine zg_tabIn (off := 140) C 173 dL_law_33 (by rw [show (nI 3).toInt = 3 from by decide]; decide) (by rw [show (nI 3).toInt = 3 from by decide]; decide) (by rw [show (nI 3).toInt = 3 from by decide]; rfl) (by decide) ?_
        rcases Classical.em (zokS pg pn) with hok | hno
        · skip
          refine zg_aload_n C 1 dL_law_173 rfl ?_
          refine zg_callw (As := []) (st := []) (wo := [(q8, .inr (6, [.int (nI pn), .ref mp, .int (nI rc), .int (nI ln), .ref mo, .int sd, .ref mv, .int bs, .int bp, .int sr, .int y1, .int y2, .int y3, .ref mn, .ref my, .ref ml, .int (nI rkm), .int dz, .int (nI sum), .int (nI rdm), .long hh])), (mp, .inl (cI, 56, .inl pg)), (mo, .inl (cI, 5, .inl Of)), (mv, .inl (cI, 4, .inl V)), (mn, .inl (cI, 5, .inl Nf)), (my, .inl (cI, 1024, .inl Yf)), (ml, .inl (cI, 32, .inl Lm))]) C [0, 1, 2, 3, 4, 5, 6, 7, 8, 9, 10, 11] [12, 13, 14, 15, 16, 17, 18] 0 0 (c_X5_sums l D cI q0 p0 g0 r0 b0 h0 a0 a1 a2 t0 v0 d0 pg pn x1 x2 x3 Qf Rf Lf Wf rc ln rk ds su rd V bs bp sr sd R (hok) hpn) gL_law_X5_sums (by decide +kernel) rfl ⟨rfl, rfl⟩ ⟨Nat.le_of_ble_eq_true rfl, Nat.le_of_ble_eq_true rfl⟩ rfl rfl rfl rfl (by decide) (ci := 5) rfl rfl rfl rfl (Nat.le_of_ble_eq_true rfl) ⟨Nat.le_of_ble_eq_true rfl, Nat.le_of_ble_eq_true rfl⟩ dL_law_174 (fun v9 w9 hw9 => ?_)
          obtain ⟨rfl, rfl⟩ := hw9
          refine zg_cv (k' := 19) (n' := 1285) (st' := [.int (nI ((zfa pg pn 0 zr0).2.2.1))]) (ws' := [(q8, .inr (6, [.int (nI pn), .ref mp, .int (nI rc), .int (nI ln), .ref mo, .int sd, .ref mv, .int bs, .int bp, .int sr, .int y1, .int y2, .int y3, .ref mn, .ref my, .ref ml, .int (nI rkm), .int dz, .int (nI sum), .int (nI rdm), .long hh])), (mp, .inl (cI, 56, .inl pg)), (mo, .inl (cI, 5, .inl Of)), (mv, .inl (cI, 4, .inl V)), (mn, .inl (cI, 5, .inl Nf)), (my, .inl (cI, 1024, .inl Yf)), (ml, .inl (cI, 32, .inl Lm)), (q0, .inr (5, [.ref p0, .ref r0, .ref h0, .ref t0, .ref d0])), (p0, .inr (1, [.ref g0, .int (nI 0)])), (g0, .inl (cI, 56, .inl pg)), (r0, .inr (2, [.ref b0, .int (nI ((zfa pg pn 0 zr0).2.1)), .int (nI ((zfa pg pn 0 zr0).2.2.1)), .int (nI ((zfa pg pn 0 zr0).2.2.2.1))])), (b0, .inl (cI, 5, .inl (fun j => nI ((zfa pg pn 0 zr0).2.2.2.2 j)))), (h0, .inr (3, [.ref a0, .ref a1, .ref a2, .int (nI (((zfa pg pn 0 zr0).2.1) + 1)), .int (nI ((zfa pg pn 0 zr0).2.2.1)), .int (nI (zrk ((zfa pg pn 0 zr0).2.2.2.2) (((zfa pg pn 0 zr0).2.1) + 1) ((zfa pg pn 0 zr0).2.2.1))), .int (nI (zdm ((zfa pg pn 0 zr0).2.2.2.2) (((zfa pg pn 0 zr0).2.1) + 1) ((zfa pg pn 0 zr0).2.2.1) (2 ^ ((zfa pg pn 0 zr0).2.2.1)))), .int (nI (zsu ((zfa pg pn 0 zr0).2.2.1) (zdm ((zfa pg pn 0 zr0).2.2.2.2) (((zfa pg pn 0 zr0).2.1) + 1) ((zfa pg pn 0 zr0).2.2.1) (2 ^ ((zfa pg pn 0 zr0).2.2.1))))), .int (nI (zrad (zld ((zfa pg pn 0 zr0).2.2.2.2) (((zfa pg pn 0 zr0).2.1) + 1) (2 ^ ((zfa pg pn 0 zr0).2.2.1))) 32))])), (a0, .inl (cI, 5, .inl (fun j => nI (((zfa pg pn 0 zr0).2.2.2.2) j)))), (a1, .inl (cI, 32, .inl (fun s => zo (zld ((zfa pg pn 0 zr0).2.2.2.2) (((zfa pg pn 0 zr0).2.1) + 1) (2 ^ ((zfa pg pn 0 zr0).2.2.1)) s)))), (a2, .inl (cI, 11, .inl (fun j => nI (zct (zhw (zld ((zfa pg pn 0 zr0).2.2.2.2) (((zfa pg pn 0 zr0).2.1) + 1) (2 ^ ((zfa pg pn 0 zr0).2.2.1))) j) 32)))), (t0, .inr (4, [.ref v0, .int bs, .int bp, .int (sr + nI 1)])), (v0, .inl (cI, 4, .inl V)), (d0, .inr (0, [.int sd]))]) rfl rfl rfl ?_
          refine zg_perm [7, 8, 9, 10, 11, 12, 13, 14, 15, 16, 17, 18, 0, 1, 2, 3, 4, 5, 6] (ws' := [(q0, .inr (5, [.ref p0, .ref r0, .ref h0, .ref t0, .ref d0])), (p0, .inr (1, [.ref g0, .int (nI 0)])), (g0, .inl (cI, 56, .inl pg)), (r0, .inr (2, [.ref b0, .int (nI ((zfa pg pn 0 zr0).2.1)), .int (nI ((zfa pg pn 0 zr0).2.2.1)), .int (nI ((zfa pg pn 0 zr0).2.2.2.1))])), (b0, .inl (cI, 5, .inl (fun j => nI ((zfa pg pn 0 zr0).2.2.2.2 j)))), (h0, .inr (3, [.ref a0, .ref a1, .ref a2, .int (nI (((zfa pg pn 0 zr0).2.1) + 1)), .int (nI ((zfa pg pn 0 zr0).2.2.1)), .int (nI (zrk ((zfa pg pn 0 zr0).2.2.2.2) (((zfa pg pn 0 zr0).2.1) + 1) ((zfa pg pn 0 zr0).2.2.1))), .int (nI (zdm ((zfa pg pn 0 zr0).2.2.2.2) (((zfa pg pn 0 zr0).2.1) + 1) ((zfa pg pn 0 zr0).2.2.1) (2 ^ ((zfa pg pn 0 zr0).2.2.1)))), .int (nI (zsu ((zfa pg pn 0 zr0).2.2.1) (zdm ((zfa pg pn 0 zr0).2.2.2.2) (((zfa pg pn 0 zr0).2.1) + 1) ((zfa pg pn 0 zr0).2.2.1) (2 ^ ((zfa pg pn 0 zr0).2.2.1))))), .int (nI (zrad (zld ((zfa pg pn 0 zr0).2.2.2.2) (((zfa pg pn 0 zr0).2.1) + 1) (2 ^ ((zfa pg pn 0 zr0).2.2.1))) 32))])), (a0, .inl (cI, 5, .inl (fun j => nI (((zfa pg pn 0 zr0).2.2.2.2) j)))), (a1, .inl (cI, 32, .inl (fun s => zo (zld ((zfa pg pn 0 zr0).2.2.2.2) (((zfa pg pn 0 zr0).2.1) + 1) (2 ^ ((zfa pg pn 0 zr0).2.2.1)) s)))), (a2, .inl (cI, 11, .inl (fun j => nI (zct (zhw (zld ((zfa pg pn 0 zr0).2.2.2.2) (((zfa pg pn 0 zr0).2.1) + 1) (2 ^ ((zfa pg pn 0 zr0).2.2.1))) j) 32)))), (t0, .inr (4, [.ref v0, .int bs, .int bp, .int (sr + nI 1)])), (v0, .inl (cI, 4, .inl V)), (d0, .inr (0, [.int sd])), (q8, .inr (6, [.int (nI pn), .ref mp, .int (nI rc), .int (nI ln), .ref mo, .int sd, .ref mv, .int bs, .int bp, .int sr, .int y1, .int y2, .int y3, .ref mn, .ref my, .ref ml, .int (nI rkm), .int dz, .int (nI sum), .int (nI rdm), .long hh])), (mp, .inl (cI, 56, .inl pg)), (mo, .inl (cI, 5, .inl Of)), (mv, .inl (cI, 4, .inl V)), (mn, .inl (cI, 5, .inl Nf)), (my, .inl (cI, 1024, .inl Yf)), (ml, .inl (cI, 32, .inl Lm))]) rfl rfl ?_
          have zk8 := zfa_ok (pg := pg) pn 0 zr0 zrok_0
          obtain ⟨g1, g2, g3, g4⟩ : 3 ≤ (zfa pg pn 0 zr0).2.2.1 ∧ (zfa pg pn 0 zr0).2.2.1 ≤ 10 ∧ (zfa pg pn 0 zr0).2.1 + 1 ≤ 5 ∧ ∀ i, i < (zfa pg pn 0 zr0).2.1 + 1 → (zfa pg pn 0 zr0).2.2.2.2 i < 2 ^ (zfa pg pn 0 zr0).2.2.1 := zrok_whole zk8 hok.2
          have g5 : ∀ i, i < (zfa pg pn 0 zr0).2.1 + 1 → (zfa pg pn 0 zr0).2.2.2.2 i < 1024 := fun i hi => Nat.lt_of_lt_of_le (g4 i hi) (zpw g2)
          refine zg_aload_n C 2 dL_law_177 rfl ?_
          refine zg_callw (As := []) (st := [.int (nI ((zfa pg pn 0 zr0).2.2.1))]) (wo := [(q0, .inr (5, [.ref p0, .ref r0, .ref h0, .ref t0, .ref d0])), (p0, .inr (1, [.ref g0, .int (nI 0)])), (g0, .inl (cI, 56, .inl pg)), (r0, .inr (2, [.ref b0, .int (nI ((zfa pg pn 0 zr0).2.1)), .int (nI ((zfa pg pn 0 zr0).2.2.1)), .int (nI ((zfa pg pn 0 zr0).2.2.2.1))])), (b0, .inl (cI, 5, .inl (fun j => nI ((zfa pg pn 0 zr0).2.2.2.2 j)))), (h0, .inr (3, [.ref a0, .ref a1, .ref a2, .int (nI (((zfa pg pn 0 zr0).2.1) + 1)), .int (nI ((zfa pg pn 0 zr0).2.2.1)), .int (nI (zrk ((zfa pg pn 0 zr0).2.2.2.2) (((zfa pg pn 0 zr0).2.1) + 1) ((zfa pg pn 0 zr0).2.2.1))), .int (nI (zdm ((zfa pg pn 0 zr0).2.2.2.2) (((zfa pg pn 0 zr0).2.1) + 1) ((zfa pg pn 0 zr0).2.2.1) (2 ^ ((zfa pg pn 0 zr0).2.2.1)))), .int (nI (zsu ((zfa pg pn 0 zr0).2.2.1) (zdm ((zfa pg pn 0 zr0).2.2.2.2) (((zfa pg pn 0 zr0).2.1) + 1) ((zfa pg pn 0 zr0).2.2.1) (2 ^ ((zfa pg pn 0 zr0).2.2.1))))), .int (nI (zrad (zld ((zfa pg pn 0 zr0).2.2.2.2) (((zfa pg pn 0 zr0).2.1) + 1) (2 ^ ((zfa pg pn 0 zr0).2.2.1))) 32))])), (a0, .inl (cI, 5, .inl (fun j => nI (((zfa pg pn 0 zr0).2.2.2.2) j)))), (a1, .inl (cI, 32, .inl (fun s => zo (zld ((zfa pg pn 0 zr0).2.2.2.2) (((zfa pg pn 0 zr0).2.1) + 1) (2 ^ ((zfa pg pn 0 zr0).2.2.1)) s)))), (a2, .inl (cI, 11, .inl (fun j => nI (zct (zhw (zld ((zfa pg pn 0 zr0).2.2.2.2) (((zfa pg pn 0 zr0).2.1) + 1) (2 ^ ((zfa pg pn 0 zr0).2.2.1))) j) 32)))), (t0, .inr (4, [.ref v0, .int bs, .int bp, .int (sr + nI 1)])), (v0, .inl (cI, 4, .inl V)), (d0, .inr (0, [.int sd]))]) C [12, 13, 14, 15, 16, 17, 18] [0, 1, 2, 3, 4, 5, 6, 7, 8, 9, 10, 11] 12 0 (c_X6_sums l D cI q8 mp mo mv mn my ml pg Of V Nf Yf Lm pn rc ln rkm sum rdm sd bs bp sr y1 y2 y3 dz hh (hok) hpn) gL_law_X6_sums (by decide +kernel) rfl ⟨rfl, rfl⟩ ⟨Nat.le_of_ble_eq_true rfl, Nat.le_of_ble_eq_true rfl⟩ rfl rfl rfl rfl (by decide) (ci := 6) rfl rfl rfl rfl (Nat.le_of_ble_eq_true rfl) ⟨Nat.le_of_ble_eq_true rfl, Nat.le_of_ble_eq_true rfl⟩ dL_law_178 (fun v9 w9 hw9 => ?_)
          obtain ⟨Nf9_178, rfl, rfl⟩ := hw9
          refine zg_cv (k' := 19) (n' := 1285) (st' := [.int (nI ((zfa pg pn 0 zr0).2.2.1)), .int (nI ((zfa pg pn 0 zr0).2.2.1))]) (ws' := [(q0, .inr (5, [.ref p0, .ref r0, .ref h0, .ref t0, .ref d0])), (p0, .inr (1, [.ref g0, .int (nI 0)])), (g0, .inl (cI, 56, .inl pg)), (r0, .inr (2, [.ref b0, .int (nI ((zfa pg pn 0 zr0).2.1)), .int (nI ((zfa pg pn 0 zr0).2.2.1)), .int (nI ((zfa pg pn 0 zr0).2.2.2.1))])), (b0, .inl (cI, 5, .inl (fun j => nI ((zfa pg pn 0 zr0).2.2.2.2 j)))), (h0, .inr (3, [.ref a0, .ref a1, .ref a2, .int (nI (((zfa pg pn 0 zr0).2.1) + 1)), .int (nI ((zfa pg pn 0 zr0).2.2.1)), .int (nI (zrk ((zfa pg pn 0 zr0).2.2.2.2) (((zfa pg pn 0 zr0).2.1) + 1) ((zfa pg pn 0 zr0).2.2.1))), .int (nI (zdm ((zfa pg pn 0 zr0).2.2.2.2) (((zfa pg pn 0 zr0).2.1) + 1) ((zfa pg pn 0 zr0).2.2.1) (2 ^ ((zfa pg pn 0 zr0).2.2.1)))), .int (nI (zsu ((zfa pg pn 0 zr0).2.2.1) (zdm ((zfa pg pn 0 zr0).2.2.2.2) (((zfa pg pn 0 zr0).2.1) + 1) ((zfa pg pn 0 zr0).2.2.1) (2 ^ ((zfa pg pn 0 zr0).2.2.1))))), .int (nI (zrad (zld ((zfa pg pn 0 zr0).2.2.2.2) (((zfa pg pn 0 zr0).2.1) + 1) (2 ^ ((zfa pg pn 0 zr0).2.2.1))) 32))])), (a0, .inl (cI, 5, .inl (fun j => nI (((zfa pg pn 0 zr0).2.2.2.2) j)))), (a1, .inl (cI, 32, .inl (fun s => zo (zld ((zfa pg pn 0 zr0).2.2.2.2) (((zfa pg pn 0 zr0).2.1) + 1) (2 ^ ((zfa pg pn 0 zr0).2.2.1)) s)))), (a2, .inl (cI, 11, .inl (fun j => nI (zct (zhw (zld ((zfa pg pn 0 zr0).2.2.2.2) (((zfa pg pn 0 zr0).2.1) + 1) (2 ^ ((zfa pg pn 0 zr0).2.2.1))) j) 32)))), (t0, .inr (4, [.ref v0, .int bs, .int bp, .int (sr + nI 1)])), (v0, .inl (cI, 4, .inl V)), (d0, .inr (0, [.int sd])), (q8, .inr (6, [.int (nI 0), .ref mp, .int (nI ((zfa pg pn 0 zr0).2.1 + 1)), .int (nI ((zfa pg pn 0 zr0).2.2.1)), .ref mo, .int sd, .ref mv, .int bs, .int bp, .int (sr + nI 1), .int (nI ((zfa pg pn 0 zr0).2.1)), .int (nI ((zfa pg pn 0 zr0).2.2.1)), .int (nI ((zfa pg pn 0 zr0).2.2.2.1)), .ref mn, .ref my, .ref ml, .int (nI (zrk ((zfa pg pn 0 zr0).2.2.2.2) ((zfa pg pn 0 zr0).2.1 + 1) ((zfa pg pn 0 zr0).2.2.1))), .int (zdn ((zfa pg pn 0 zr0).2.2.1) (zdm ((zfa pg pn 0 zr0).2.2.2.2) ((zfa pg pn 0 zr0).2.1 + 1) ((zfa pg pn 0 zr0).2.2.1) (2 ^ ((zfa pg pn 0 zr0).2.2.1)))), .int (nI (zsu ((zfa pg pn 0 zr0).2.2.1) (zdm ((zfa pg pn 0 zr0).2.2.2.2) ((zfa pg pn 0 zr0).2.1 + 1) ((zfa pg pn 0 zr0).2.2.1) (2 ^ ((zfa pg pn 0 zr0).2.2.1))))), .int (nI (zrad (zld ((zfa pg pn 0 zr0).2.2.2.2) ((zfa pg pn 0 zr0).2.1 + 1) (2 ^ ((zfa pg pn 0 zr0).2.2.1))) 32)), .long hh])), (mp, .inl (cI, 56, .inl pg)), (mo, .inl (cI, 5, .inl (fun j => if j < (zfa pg pn 0 zr0).2.1 + 1 then nI ((zfa pg pn 0 zr0).2.2.2.2 j) else Of j))), (mv, .inl (cI, 4, .inl V)), (mn, .inl (cI, 5, .inl Nf9_178)), (my, .inl (cI, 1024, .inl (fun w => if w < 2 ^ ((zfa pg pn 0 zr0).2.2.1) then nI (zsk ((zfa pg pn 0 zr0).2.2.2.2) w ((zfa pg pn 0 zr0).2.1 + 1)) else Yf w))), (ml, .inl (cI, 32, .inl (fun s => zo (zld ((zfa pg pn 0 zr0).2.2.2.2) ((zfa pg pn 0 zr0).2.1 + 1) (2 ^ ((zfa pg pn 0 zr0).2.2.1)) s))))]) rfl rfl rfl ?_
          have hS2 : zSm ((zfa pg pn 0 zr0).2.2.2.2) (fun j => nI (((zfa pg pn 0 zr0).2.2.2.2) j)) (fun s => zo (zld ((zfa pg pn 0 zr0).2.2.2.2) (((zfa pg pn 0 zr0).2.1) + 1) (2 ^ ((zfa pg pn 0 zr0).2.2.1)) s)) (fun j => nI (zct (zhw (zld ((zfa pg pn 0 zr0).2.2.2.2) (((zfa pg pn 0 zr0).2.1) + 1) (2 ^ ((zfa pg pn 0 zr0).2.2.1))) j) 32)) (((zfa pg pn 0 zr0).2.1) + 1) ((zfa pg pn 0 zr0).2.2.1) (zrk ((zfa pg pn 0 zr0).2.2.2.2) (((zfa pg pn 0 zr0).2.1) + 1) ((zfa pg pn 0 zr0).2.2.1)) (zdm ((zfa pg pn 0 zr0).2.2.2.2) (((zfa pg pn 0 zr0).2.1) + 1) ((zfa pg pn 0 zr0).2.2.1) (2 ^ ((zfa pg pn 0 zr0).2.2.1))) (zsu ((zfa pg pn 0 zr0).2.2.1) (zdm ((zfa pg pn 0 zr0).2.2.2.2) (((zfa pg pn 0 zr0).2.1) + 1) ((zfa pg pn 0 zr0).2.2.1) (2 ^ ((zfa pg pn 0 zr0).2.2.1)))) (zrad (zld ((zfa pg pn 0 zr0).2.2.2.2) (((zfa pg pn 0 zr0).2.1) + 1) (2 ^ ((zfa pg pn 0 zr0).2.2.1))) 32) := fun _ => ⟨by omega, g3, g1, fun i _ => rfl, g5, fun y _ => rfl, fun j _ => rfl, rfl, rfl, rfl, rfl⟩
          have hM2 : zMm ((zfa pg pn 0 zr0).2.2.2.2) (fun j => if j < (zfa pg pn 0 zr0).2.1 + 1 then nI ((zfa pg pn 0 zr0).2.2.2.2 j) else Of j) (fun w => if w < 2 ^ ((zfa pg pn 0 zr0).2.2.1) then nI (zsk ((zfa pg pn 0 zr0).2.2.2.2) w ((zfa pg pn 0 zr0).2.1 + 1)) else Yf w) (fun s => zo (zld ((zfa pg pn 0 zr0).2.2.2.2) ((zfa pg pn 0 zr0).2.1 + 1) (2 ^ ((zfa pg pn 0 zr0).2.2.1)) s)) (((zfa pg pn 0 zr0).2.1) + 1) ((zfa pg pn 0 zr0).2.2.1) (zrk ((zfa pg pn 0 zr0).2.2.2.2) ((zfa pg pn 0 zr0).2.1 + 1) ((zfa pg pn 0 zr0).2.2.1)) (zdn ((zfa pg pn 0 zr0).2.2.1) (zdm ((zfa pg pn 0 zr0).2.2.2.2) ((zfa pg pn 0 zr0).2.1 + 1) ((zfa pg pn 0 zr0).2.2.1) (2 ^ ((zfa pg pn 0 zr0).2.2.1)))) (zsu ((zfa pg pn 0 zr0).2.2.1) (zdm ((zfa pg pn 0 zr0).2.2.2.2) ((zfa pg pn 0 zr0).2.1 + 1) ((zfa pg pn 0 zr0).2.2.1) (2 ^ ((zfa pg pn 0 zr0).2.2.1)))) (zrad (zld ((zfa pg pn 0 zr0).2.2.2.2) ((zfa pg pn 0 zr0).2.1 + 1) (2 ^ ((zfa pg pn 0 zr0).2.2.1))) 32) := fun _ => ⟨by omega, g1, fun i hi => if_pos hi, g5, fun w hw => if_pos hw, fun y _ => rfl, rfl, rfl, rfl, rfl⟩
          refine zg_icmp_eq C 658 dL_law_181 (by decide) (fun c_181 => ?_) (fun c_181 => by exact absurd rfl c_181)
          refine zg_iinc C 3 [1, 2, 3, 0] (lv' := [(0, .ref b), (1, .ref q0), (2, .ref q8), (3, .int (nI (6 * (i + 1))))]) (nI (6 * (i + 1))) dL_law_658 rfl (zi_6 i) (by decide) rfl ?_
          refine zg_goto C 18 dL_law_661 (by decide) ?_
          exact zg_cv (lv' := [(0, .ref b), (1, .ref q0), (2, .ref q8), (3, .int (nI (6 * (i + 1))))]) (rfl) rfl (rfl) (ih_18 (by omega) pg 0 (nI ((zfa pg pn 0 zr0).2.1)) (nI ((zfa pg pn 0 zr0).2.2.1)) (nI ((zfa pg pn 0 zr0).2.2.2.1)) (fun j => nI ((zfa pg pn 0 zr0).2.2.2.2 j)) (fun j => nI (((zfa pg pn 0 zr0).2.2.2.2) j)) (fun s => zo (zld ((zfa pg pn 0 zr0).2.2.2.2) (((zfa pg pn 0 zr0).2.1) + 1) (2 ^ ((zfa pg pn 0 zr0).2.2.1)) s)) (fun j => nI (zct (zhw (zld ((zfa pg pn 0 zr0).2.2.2.2) (((zfa pg pn 0 zr0).2.1) + 1) (2 ^ ((zfa pg pn 0 zr0).2.2.1))) j) 32)) (((zfa pg pn 0 zr0).2.1) + 1) ((zfa pg pn 0 zr0).2.2.1) (zrk ((zfa pg pn 0 zr0).2.2.2.2) (((zfa pg pn 0 zr0).2.1) + 1) ((zfa pg pn 0 zr0).2.2.1)) (zdm ((zfa pg pn 0 zr0).2.2.2.2) (((zfa pg pn 0 zr0).2.1) + 1) ((zfa pg pn 0 zr0).2.2.1) (2 ^ ((zfa pg pn 0 zr0).2.2.1))) (zsu ((zfa pg pn 0 zr0).2.2.1) (zdm ((zfa pg pn 0 zr0).2.2.2.2) (((zfa pg pn 0 zr0).2.1) + 1) ((zfa pg pn 0 zr0).2.2.1) (2 ^ ((zfa pg pn 0 zr0).2.2.1)))) (zrad (zld ((zfa pg pn 0 zr0).2.2.2.2) (((zfa pg pn 0 zr0).2.1) + 1) (2 ^ ((zfa pg pn 0 zr0).2.2.1))) 32) V bs bp (sr + nI 1) sd ((zfa pg pn 0 zr0).2.2.2.2) (fun j => if j < (zfa pg pn 0 zr0).2.1 + 1 then nI ((zfa pg pn 0 zr0).2.2.2.2 j) else Of j) Nf9_178 (fun w => if w < 2 ^ ((zfa pg pn 0 zr0).2.2.1) then nI (zsk ((zfa pg pn 0 zr0).2.2.2.2) w ((zfa pg pn 0 zr0).2.1 + 1)) else Yf w) (fun s => zo (zld ((zfa pg pn 0 zr0).2.2.2.2) ((zfa pg pn 0 zr0).2.1 + 1) (2 ^ ((zfa pg pn 0 zr0).2.2.1)) s)) (zrk ((zfa pg pn 0 zr0).2.2.2.2) ((zfa pg pn 0 zr0).2.1 + 1) ((zfa pg pn 0 zr0).2.2.1)) (zsu ((zfa pg pn 0 zr0).2.2.1) (zdm ((zfa pg pn 0 zr0).2.2.2.2) ((zfa pg pn 0 zr0).2.1 + 1) ((zfa pg pn 0 zr0).2.2.1) (2 ^ ((zfa pg pn 0 zr0).2.2.1)))) (zrad (zld ((zfa pg pn 0 zr0).2.2.2.2) ((zfa pg pn 0 zr0).2.1 + 1) (2 ^ ((zfa pg pn 0 zr0).2.2.1))) 32) (nI ((zfa pg pn 0 zr0).2.1)) (nI ((zfa pg pn 0 zr0).2.2.1)) (nI ((zfa pg pn 0 zr0).2.2.2.1)) (zdn ((zfa pg pn 0 zr0).2.2.1) (zdm ((zfa pg pn 0 zr0).2.2.2.2) ((zfa pg pn 0 zr0).2.1 + 1) ((zfa pg pn 0 zr0).2.2.1) (2 ^ ((zfa pg pn 0 zr0).2.2.1)))) hh (Nat.zero_le _) (g2) (g3) (⟨fun _ => by omega, fun _ => by omega⟩) (hS2) (hM2))
        · skip
          refine zg_aload_n C 1 dL_law_173 rfl ?_
          refine zg_callw (As := []) (st := []) (wo := [(q8, .inr (6, [.int (nI pn), .ref mp, .int (nI rc), .int (nI ln), .ref mo, .int sd, .ref mv, .int bs, .int bp, .int sr, .int y1, .int y2, .int y3, .ref mn, .ref my, .ref ml, .int (nI rkm), .int dz, .int (nI sum), .int (nI rdm), .long hh])), (mp, .inl (cI, 56, .inl pg)), (mo, .inl (cI, 5, .inl Of)), (mv, .inl (cI, 4, .inl V)), (mn, .inl (cI, 5, .inl Nf)), (my, .inl (cI, 1024, .inl Yf)), (ml, .inl (cI, 32, .inl Lm))]) C [0, 1, 2, 3, 4, 5, 6, 7, 8, 9, 10, 11] [12, 13, 14, 15, 16, 17, 18] 0 0 (c_X5_sums_no l D cI q0 p0 g0 r0 b0 h0 a0 a1 a2 t0 v0 d0 pg pn x1 x2 x3 Qf Rf Lf Wf rc ln rk ds su rd V bs bp sr sd R (hno) hpn) gL_law_X5_sums (by decide +kernel) rfl ⟨rfl, rfl⟩ ⟨Nat.le_of_ble_eq_true rfl, Nat.le_of_ble_eq_true rfl⟩ rfl rfl rfl rfl (by decide) (ci := 5) rfl rfl rfl rfl (Nat.le_of_ble_eq_true rfl) ⟨Nat.le_of_ble_eq_true rfl, Nat.le_of_ble_eq_true rfl⟩ dL_law_174 (fun v9 w9 hw9 => ?_)
          obtain ⟨rfl, rfl⟩ := hw9
          refine zg_cv (k' := 19) (n' := 1285) (st' := [.int (-1003)]) (ws' := [(q8, .inr (6, [.int (nI pn), .ref mp, .int (nI rc), .int (nI ln), .ref mo, .int sd, .ref mv, .int bs, .int bp, .int sr, .int y1, .int y2, .int y3, .ref mn, .ref my, .ref ml, .int (nI rkm), .int dz, .int (nI sum), .int (nI rdm), .long hh])), (mp, .inl (cI, 56, .inl pg)), (mo, .inl (cI, 5, .inl Of)), (mv, .inl (cI, 4, .inl V)), (mn, .inl (cI, 5, .inl Nf)), (my, .inl (cI, 1024, .inl Yf)), (ml, .inl (cI, 32, .inl Lm)), (q0, .inr (5, [.ref p0, .ref r0, .ref h0, .ref t0, .ref d0])), (p0, .inr (1, [.ref g0, .int (nI pn)])), (g0, .inl (cI, 56, .inl pg)), (r0, .inr (2, [.ref b0, .int (nI ((zfa pg pn 0 zr0).2.1)), .int (nI ((zfa pg pn 0 zr0).2.2.1)), .int (nI ((zfa pg pn 0 zr0).2.2.2.1))])), (b0, .inl (cI, 5, .inl (fun j => nI ((zfa pg pn 0 zr0).2.2.2.2 j)))), (h0, .inr (3, [.ref a0, .ref a1, .ref a2, .int (nI rc), .int (nI ln), .int (nI rk), .int (nI ds), .int (nI su), .int (nI rd)])), (a0, .inl (cI, 5, .inl Rf)), (a1, .inl (cI, 32, .inl Lf)), (a2, .inl (cI, 11, .inl Wf)), (t0, .inr (4, [.ref v0, .int bs, .int bp, .int sr])), (v0, .inl (cI, 4, .inl V)), (d0, .inr (0, [.int sd]))]) rfl rfl rfl ?_
          refine zg_perm [7, 8, 9, 10, 11, 12, 13, 14, 15, 16, 17, 18, 0, 1, 2, 3, 4, 5, 6] (ws' := [(q0, .inr (5, [.ref p0, .ref r0, .ref h0, .ref t0, .ref d0])), (p0, .inr (1, [.ref g0, .int (nI pn)])), (g0, .inl (cI, 56, .inl pg)), (r0, .inr (2, [.ref b0, .int (nI ((zfa pg pn 0 zr0).2.1)), .int (nI ((zfa pg pn 0 zr0).2.2.1)), .int (nI ((zfa pg pn 0 zr0).2.2.2.1))])), (b0, .inl (cI, 5, .inl (fun j => nI ((zfa pg pn 0 zr0).2.2.2.2 j)))), (h0, .inr (3, [.ref a0, .ref a1, .ref a2, .int (nI rc), .int (nI ln), .int (nI rk), .int (nI ds), .int (nI su), .int (nI rd)])), (a0, .inl (cI, 5, .inl Rf)), (a1, .inl (cI, 32, .inl Lf)), (a2, .inl (cI, 11, .inl Wf)), (t0, .inr (4, [.ref v0, .int bs, .int bp, .int sr])), (v0, .inl (cI, 4, .inl V)), (d0, .inr (0, [.int sd])), (q8, .inr (6, [.int (nI pn), .ref mp, .int (nI rc), .int (nI ln), .ref mo, .int sd, .ref mv, .int bs, .int bp, .int sr, .int y1, .int y2, .int y3, .ref mn, .ref my, .ref ml, .int (nI rkm), .int dz, .int (nI sum), .int (nI rdm), .long hh])), (mp, .inl (cI, 56, .inl pg)), (mo, .inl (cI, 5, .inl Of)), (mv, .inl (cI, 4, .inl V)), (mn, .inl (cI, 5, .inl Nf)), (my, .inl (cI, 1024, .inl Yf)), (ml, .inl (cI, 32, .inl Lm))]) rfl rfl ?_
          refine zg_aload_n C 2 dL_law_177 rfl ?_
          refine zg_callw (As := []) (st := [.int (-1003)]) (wo := [(q0, .inr (5, [.ref p0, .ref r0, .ref h0, .ref t0, .ref d0])), (p0, .inr (1, [.ref g0, .int (nI pn)])), (g0, .inl (cI, 56, .inl pg)), (r0, .inr (2, [.ref b0, .int (nI ((zfa pg pn 0 zr0).2.1)), .int (nI ((zfa pg pn 0 zr0).2.2.1)), .int (nI ((zfa pg pn 0 zr0).2.2.2.1))])), (b0, .inl (cI, 5, .inl (fun j => nI ((zfa pg pn 0 zr0).2.2.2.2 j)))), (h0, .inr (3, [.ref a0, .ref a1, .ref a2, .int (nI rc), .int (nI ln), .int (nI rk), .int (nI ds), .int (nI su), .int (nI rd)])), (a0, .inl (cI, 5, .inl Rf)), (a1, .inl (cI, 32, .inl Lf)), (a2, .inl (cI, 11, .inl Wf)), (t0, .inr (4, [.ref v0, .int bs, .int bp, .int sr])), (v0, .inl (cI, 4, .inl V)), (d0, .inr (0, [.int sd]))]) C [12, 13, 14, 15, 16, 17, 18] [0, 1, 2, 3, 4, 5, 6, 7, 8, 9, 10, 11] 12 0 (c_X6_sums_no l D cI q8 mp mo mv mn my ml pg Of V Nf Yf Lm pn rc ln rkm sum rdm sd bs bp sr y1 y2 y3 dz hh (hno) hpn) gL_law_X6_sums (by decide +kernel) rfl ⟨rfl, rfl⟩ ⟨Nat.le_of_ble_eq_true rfl, Nat.le_of_ble_eq_true rfl⟩ rfl rfl rfl rfl (by decide) (ci := 6) rfl rfl rfl rfl (Nat.le_of_ble_eq_true rfl) ⟨Nat.le_of_ble_eq_true rfl, Nat.le_of_ble_eq_true rfl⟩ dL_law_178 (fun v9 w9 hw9 => ?_)
          obtain ⟨Nf9_178, rfl, rfl⟩ := hw9
          refine zg_cv (k' := 19) (n' := 1285) (st' := [.int (-1003), .int (-1003)]) (ws' := [(q0, .inr (5, [.ref p0, .ref r0, .ref h0, .ref t0, .ref d0])), (p0, .inr (1, [.ref g0, .int (nI pn)])), (g0, .inl (cI, 56, .inl pg)), (r0, .inr (2, [.ref b0, .int (nI ((zfa pg pn 0 zr0).2.1)), .int (nI ((zfa pg pn 0 zr0).2.2.1)), .int (nI ((zfa pg pn 0 zr0).2.2.2.1))])), (b0, .inl (cI, 5, .inl (fun j => nI ((zfa pg pn 0 zr0).2.2.2.2 j)))), (h0, .inr (3, [.ref a0, .ref a1, .ref a2, .int (nI rc), .int (nI ln), .int (nI rk), .int (nI ds), .int (nI su), .int (nI rd)])), (a0, .inl (cI, 5, .inl Rf)), (a1, .inl (cI, 32, .inl Lf)), (a2, .inl (cI, 11, .inl Wf)), (t0, .inr (4, [.ref v0, .int bs, .int bp, .int sr])), (v0, .inl (cI, 4, .inl V)), (d0, .inr (0, [.int sd])), (q8, .inr (6, [.int (nI pn), .ref mp, .int (nI rc), .int (nI ln), .ref mo, .int sd, .ref mv, .int bs, .int bp, .int sr, .int (nI ((zfa pg pn 0 zr0).2.1)), .int (nI ((zfa pg pn 0 zr0).2.2.1)), .int (nI ((zfa pg pn 0 zr0).2.2.2.1)), .ref mn, .ref my, .ref ml, .int (nI rkm), .int dz, .int (nI sum), .int (nI rdm), .long hh])), (mp, .inl (cI, 56, .inl pg)), (mo, .inl (cI, 5, .inl Of)), (mv, .inl (cI, 4, .inl V)), (mn, .inl (cI, 5, .inl Nf9_178)), (my, .inl (cI, 1024, .inl Yf)), (ml, .inl (cI, 32, .inl Lm))]) rfl rfl rfl ?_
          refine zg_icmp_eq C 658 dL_law_181 (by decide) (fun c_181 => ?_) (fun c_181 => by exact absurd rfl c_181)
          refine zg_iinc C 3 [1, 2, 3, 0] (lv' := [(0, .ref b), (1, .ref q0), (2, .ref q8), (3, .int (nI (6 * (i + 1))))]) (nI (6 * (i + 1))) dL_law_658 rfl (zi_6 i) (by decide) rfl ?_
          refine zg_goto C 18 dL_law_661 (by decide) ?_
          exact zg_cv (lv' := [(0, .ref b), (1, .ref q0), (2, .ref q8), (3, .int (nI (6 * (i + 1))))]) (rfl) rfl (rfl) (ih_18 (by omega) pg pn (nI ((zfa pg pn 0 zr0).2.1)) (nI ((zfa pg pn 0 zr0).2.2.1)) (nI ((zfa pg pn 0 zr0).2.2.2.1)) (fun j => nI ((zfa pg pn 0 zr0).2.2.2.2 j)) Rf Lf Wf rc ln rk ds su rd V bs bp sr sd R Of Nf9_178 Yf Lm rkm sum rdm (nI ((zfa pg pn 0 zr0).2.1)) (nI ((zfa pg pn 0 zr0).2.2.1)) (nI ((zfa pg pn 0 zr0).2.2.2.1)) dz hh (hpn) (hln) (hrc) (hrl) (hS) (hM))
      · skip
        refine zg_tabIn (off := 153) C 186 dL_law_33 (by rw [show (nI 4).toInt = 4 from by decide]; decide) (by rw [show (nI 4).toInt = 4 from by decide]; decide) (by rw [show (nI 4).toInt = 4 from by decide]; rfl) (by decide) ?_
        refine zg_aload_n C 1 dL_law_186 rfl ?_
        refine zg_aload_n C 0 dL_law_187 rfl ?_
        refine zg_iload_n C 3 dL_law_188 rfl ?_
        refine zg_iconst (v := nI 1) C dL_law_189 (by decide) ?_
        refine zg_iadd C dL_law_190 (nI ((6 * i) + 1)) (nI_add _ _) ?_
        refine zg_sld C hX (by omega) dL_law_191 (xs ((6 * i) + 1)) (rfl) ?_
        refine zg_callr (As := [.int (xs ((6 * i) + 1))]) (st := []) C [0, 1, 2, 3, 4, 5, 6, 7, 8, 9, 10, 11] 0 1 (c_X5_code l D cI q0 p0 g0 r0 b0 h0 a0 a1 a2 t0 v0 d0 pg pn x1 x2 x3 Qf Rf Lf Wf rc ln rk ds su rd V bs bp sr sd R (xs ((6 * i) + 1)) hS hln) gL_law_X5_code (by decide +kernel) rfl ⟨rfl, rfl⟩ ⟨Nat.le_of_ble_eq_true rfl, Nat.le_of_ble_eq_true rfl⟩ rfl (ci := 5) rfl rfl rfl rfl (Nat.le_of_ble_eq_true rfl) ⟨Nat.le_of_ble_eq_true rfl, Nat.le_of_ble_eq_true rfl⟩ dL_law_192 ?_
        refine zg_aload_n C 2 dL_law_195 rfl ?_
        refine zg_aload_n C 0 dL_law_196 rfl ?_
        refine zg_iload_n C 3 dL_law_197 rfl ?_
        refine zg_iconst (v := nI 1) C dL_law_198 (by decide) ?_
        refine zg_iadd C dL_law_199 (nI ((6 * i) + 1)) (nI_add _ _) ?_
        refine zg_sld C hX (by omega) dL_law_200 (xs ((6 * i) + 1)) (rfl) ?_
        refine zg_callr (As := [.int (xs ((6 * i) + 1))]) (st := [.int (zAcode R rc ln (xs ((6 * i) + 1)))]) C [12, 13, 14, 15, 16, 17, 18] 12 1 (c_X6_code l D cI q8 mp mo mv mn my ml pg Of V Nf Yf Lm pn rc ln rkm sum rdm sd bs bp sr y1 y2 y3 dz hh R (xs ((6 * i) + 1)) hM hln hrc hrl) gL_law_X6_code (by decide +kernel) rfl ⟨rfl, rfl⟩ ⟨Nat.le_of_ble_eq_true rfl, Nat.le_of_ble_eq_true rfl⟩ rfl (ci := 6) rfl rfl rfl rfl (Nat.le_of_ble_eq_true rfl) ⟨Nat.le_of_ble_eq_true rfl, Nat.le_of_ble_eq_true rfl⟩ dL_law_201 ?_
        refine zg_icmp_eq C 658 dL_law_204 (by decide) (fun c_204 => ?_) (fun c_204 => by exact absurd rfl c_204)
        refine zg_iinc C 3 [1, 2, 3, 0] (lv' := [(0, .ref b), (1, .ref q0), (2, .ref q8), (3, .int (nI (6 * (i + 1))))]) (nI (6 * (i + 1))) dL_law_658 rfl (zi_6 i) (by decide) rfl ?_
        refine zg_goto C 18 dL_law_661 (by decide) ?_
        exact zg_cv (lv' := [(0, .ref b), (1, .ref q0), (2, .ref q8), (3, .int (nI (6 * (i + 1))))]) (rfl) rfl (rfl) (ih_18 (by omega) pg pn x1 x2 x3 Qf Rf Lf Wf rc ln rk ds su rd V bs bp sr sd R Of Nf Yf Lm rkm sum rdm y1 y2 y3 dz hh (hpn) (hln) (hrc) (hrl) (hS) (hM))
      · skip
        refine zg_tabIn (off := 176) C 209 dL_law_33 (by rw [show (nI 5).toInt = 5 from by decide]; decide) (by rw [show (nI 5).toInt = 5 from by decide]; decide) (by rw [show (nI 5).toInt = 5 from by decide]; rfl) (by decide) ?_
        refine zg_aload_n C 1 dL_law_209 rfl ?_
        refine zg_aload_n C 0 dL_law_210 rfl ?_
        refine zg_iload_n C 3 dL_law_211 rfl ?_
        refine zg_iconst (v := nI 1) C dL_law_212 (by decide) ?_
        refine zg_iadd C dL_law_213 (nI ((6 * i) + 1)) (nI_add _ _) ?_
        refine zg_sld C hX (by omega) dL_law_214 (xs ((6 * i) + 1)) (rfl) ?_
        refine zg_callr (As := [.int (xs ((6 * i) + 1))]) (st := []) C [0, 1, 2, 3, 4, 5, 6, 7, 8, 9, 10, 11] 0 1 (c_X5_row l D cI q0 p0 g0 r0 b0 h0 a0 a1 a2 t0 v0 d0 pg pn x1 x2 x3 Qf Rf Lf Wf rc ln rk ds su rd V bs bp sr sd R (xs ((6 * i) + 1)) hS hln) gL_law_X5_row (by decide +kernel) rfl ⟨rfl, rfl⟩ ⟨Nat.le_of_ble_eq_true rfl, Nat.le_of_ble_eq_true rfl⟩ rfl (ci := 5) rfl rfl rfl rfl (Nat.le_of_ble_eq_true rfl) ⟨Nat.le_of_ble_eq_true rfl, Nat.le_of_ble_eq_true rfl⟩ dL_law_215 ?_
        refine zg_aload_n C 2 dL_law_218 rfl ?_
        refine zg_aload_n C 0 dL_law_219 rfl ?_
        refine zg_iload_n C 3 dL_law_220 rfl ?_
        refine zg_iconst (v := nI 1) C dL_law_221 (by decide) ?_
        refine zg_iadd C dL_law_222 (nI ((6 * i) + 1)) (nI_add _ _) ?_
        refine zg_sld C hX (by omega) dL_law_223 (xs ((6 * i) + 1)) (rfl) ?_
        refine zg_callr (As := [.int (xs ((6 * i) + 1))]) (st := [.int (zA ln (zin (xs ((6 * i) + 1)) rc) (nI (R (zn (xs ((6 * i) + 1))))))]) C [12, 13, 14, 15, 16, 17, 18] 12 1 (c_X6_row l D cI q8 mp mo mv mn my ml pg Of V Nf Yf Lm pn rc ln rkm sum rdm sd bs bp sr y1 y2 y3 dz hh R (xs ((6 * i) + 1)) hM hln hrc hrl) gL_law_X6_row (by decide +kernel) rfl ⟨rfl, rfl⟩ ⟨Nat.le_of_ble_eq_true rfl, Nat.le_of_ble_eq_true rfl⟩ rfl (ci := 6) rfl rfl rfl rfl (Nat.le_of_ble_eq_true rfl) ⟨Nat.le_of_ble_eq_true rfl, Nat.le_of_ble_eq_true rfl⟩ dL_law_224 ?_
        refine zg_icmp_eq C 658 dL_law_227 (by decide) (fun c_227 => ?_) (fun c_227 => by exact absurd rfl c_227)
        refine zg_iinc C 3 [1, 2, 3, 0] (lv' := [(0, .ref b), (1, .ref q0), (2, .ref q8), (3, .int (nI (6 * (i + 1))))]) (nI (6 * (i + 1))) dL_law_658 rfl (zi_6 i) (by decide) rfl ?_
        refine zg_goto C 18 dL_law_661 (by decide) ?_
        exact zg_cv (lv' := [(0, .ref b), (1, .ref q0), (2, .ref q8), (3, .int (nI (6 * (i + 1))))]) (rfl) rfl (rfl) (ih_18 (by omega) pg pn x1 x2 x3 Qf Rf Lf Wf rc ln rk ds su rd V bs bp sr sd R Of Nf Yf Lm rkm sum rdm y1 y2 y3 dz hh (hpn) (hln) (hrc) (hrl) (hS) (hM))
      · skip
        refine zg_tabIn (off := 199) C 232 dL_law_33 (by rw [show (nI 6).toInt = 6 from by decide]; decide) (by rw [show (nI 6).toInt = 6 from by decide]; decide) (by rw [show (nI 6).toInt = 6 from by decide]; rfl) (by decide) ?_
        refine zg_aload_n C 1 dL_law_232 rfl ?_
        refine zg_aload_n C 0 dL_law_233 rfl ?_
        refine zg_iload_n C 3 dL_law_234 rfl ?_
        refine zg_iconst (v := nI 1) C dL_law_235 (by decide) ?_
        refine zg_iadd C dL_law_236 (nI ((6 * i) + 1)) (nI_add _ _) ?_
        refine zg_sld C hX (by omega) dL_law_237 (xs ((6 * i) + 1)) (rfl) ?_
        refine zg_callr (As := [.int (xs ((6 * i) + 1))]) (st := []) C [0, 1, 2, 3, 4, 5, 6, 7, 8, 9, 10, 11] 0 1 (c_X5_syndrome l D cI q0 p0 g0 r0 b0 h0 a0 a1 a2 t0 v0 d0 pg pn x1 x2 x3 Qf Rf Lf Wf rc ln rk ds su rd V bs bp sr sd R (xs ((6 * i) + 1)) hS hln) gL_law_X5_syndrome (by decide +kernel) rfl ⟨rfl, rfl⟩ ⟨Nat.le_of_ble_eq_true rfl, Nat.le_of_ble_eq_true rfl⟩ rfl (ci := 5) rfl rfl rfl rfl (Nat.le_of_ble_eq_true rfl) ⟨Nat.le_of_ble_eq_true rfl, Nat.le_of_ble_eq_true rfl⟩ dL_law_238 ?_
        refine zg_aload_n C 2 dL_law_241 rfl ?_
        refine zg_aload_n C 0 dL_law_242 rfl ?_
        refine zg_iload_n C 3 dL_law_243 rfl ?_
        refine zg_iconst (v := nI 1) C dL_law_244 (by decide) ?_
        refine zg_iadd C dL_law_245 (nI ((6 * i) + 1)) (nI_add _ _) ?_
        refine zg_sld C hX (by omega) dL_law_246 (xs ((6 * i) + 1)) (rfl) ?_
        refine zg_callr (As := [.int (xs ((6 * i) + 1))]) (st := [.int (zA ln (zin (xs ((6 * i) + 1)) (2 ^ ln)) (nI (zsk R (zn (xs ((6 * i) + 1))) rc)))]) C [12, 13, 14, 15, 16, 17, 18] 12 1 (c_X6_syndrome l D cI q8 mp mo mv mn my ml pg Of V Nf Yf Lm pn rc ln rkm sum rdm sd bs bp sr y1 y2 y3 dz hh R (xs ((6 * i) + 1)) hM hln hrc hrl) gL_law_X6_syndrome (by decide +kernel) rfl ⟨rfl, rfl⟩ ⟨Nat.le_of_ble_eq_true rfl, Nat.le_of_ble_eq_true rfl⟩ rfl (ci := 6) rfl rfl rfl rfl (Nat.le_of_ble_eq_true rfl) ⟨Nat.le_of_ble_eq_true rfl, Nat.le_of_ble_eq_true rfl⟩ dL_law_247 ?_
        refine zg_icmp_eq C 658 dL_law_250 (by decide) (fun c_250 => ?_) (fun c_250 => by exact absurd rfl c_250)
        refine zg_iinc C 3 [1, 2, 3, 0] (lv' := [(0, .ref b), (1, .ref q0), (2, .ref q8), (3, .int (nI (6 * (i + 1))))]) (nI (6 * (i + 1))) dL_law_658 rfl (zi_6 i) (by decide) rfl ?_
        refine zg_goto C 18 dL_law_661 (by decide) ?_
        exact zg_cv (lv' := [(0, .ref b), (1, .ref q0), (2, .ref q8), (3, .int (nI (6 * (i + 1))))]) (rfl) rfl (rfl) (ih_18 (by omega) pg pn x1 x2 x3 Qf Rf Lf Wf rc ln rk ds su rd V bs bp sr sd R Of Nf Yf Lm rkm sum rdm y1 y2 y3 dz hh (hpn) (hln) (hrc) (hrl) (hS) (hM))
      · skip
        refine zg_tabIn (off := 222) C 255 dL_law_33 (by rw [show (nI 7).toInt = 7 from by decide]; decide) (by rw [show (nI 7).toInt = 7 from by decide]; decide) (by rw [show (nI 7).toInt = 7 from by decide]; rfl) (by decide) ?_
        refine zg_aload_n C 1 dL_law_255 rfl ?_
        refine zg_aload_n C 0 dL_law_256 rfl ?_
        refine zg_iload_n C 3 dL_law_257 rfl ?_
        refine zg_iconst (v := nI 1) C dL_law_258 (by decide) ?_
        refine zg_iadd C dL_law_259 (nI ((6 * i) + 1)) (nI_add _ _) ?_
        refine zg_sld C hX (by omega) dL_law_260 (xs ((6 * i) + 1)) (rfl) ?_
        refine zg_callr (As := [.int (xs ((6 * i) + 1))]) (st := []) C [0, 1, 2, 3, 4, 5, 6, 7, 8, 9, 10, 11] 0 1 (c_X5_leader l D cI q0 p0 g0 r0 b0 h0 a0 a1 a2 t0 v0 d0 pg pn x1 x2 x3 Qf Rf Lf Wf rc ln rk ds su rd V bs bp sr sd R (xs ((6 * i) + 1)) hS hln) gL_law_X5_leader (by decide +kernel) rfl ⟨rfl, rfl⟩ ⟨Nat.le_of_ble_eq_true rfl, Nat.le_of_ble_eq_true rfl⟩ rfl (ci := 5) rfl rfl rfl rfl (Nat.le_of_ble_eq_true rfl) ⟨Nat.le_of_ble_eq_true rfl, Nat.le_of_ble_eq_true rfl⟩ dL_law_261 ?_
        refine zg_aload_n C 2 dL_law_264 rfl ?_
        refine zg_aload_n C 0 dL_law_265 rfl ?_
        refine zg_iload_n C 3 dL_law_266 rfl ?_
        refine zg_iconst (v := nI 1) C dL_law_267 (by decide) ?_
        refine zg_iadd C dL_law_268 (nI ((6 * i) + 1)) (nI_add _ _) ?_
        refine zg_sld C hX (by omega) dL_law_269 (xs ((6 * i) + 1)) (rfl) ?_
        refine zg_callr (As := [.int (xs ((6 * i) + 1))]) (st := [.int (zA ln (zin (xs ((6 * i) + 1)) (2 ^ rc)) (zo (zld R rc (2 ^ ln) (zn (xs ((6 * i) + 1))))))]) C [12, 13, 14, 15, 16, 17, 18] 12 1 (c_X6_leader l D cI q8 mp mo mv mn my ml pg Of V Nf Yf Lm pn rc ln rkm sum rdm sd bs bp sr y1 y2 y3 dz hh R (xs ((6 * i) + 1)) hM hln hrc hrl) gL_law_X6_leader (by decide +kernel) rfl ⟨rfl, rfl⟩ ⟨Nat.le_of_ble_eq_true rfl, Nat.le_of_ble_eq_true rfl⟩ rfl (ci := 6) rfl rfl rfl rfl (Nat.le_of_ble_eq_true rfl) ⟨Nat.le_of_ble_eq_true rfl, Nat.le_of_ble_eq_true rfl⟩ dL_law_270 ?_
        refine zg_icmp_eq C 658 dL_law_273 (by decide) (fun c_273 => ?_) (fun c_273 => by exact absurd rfl c_273)
        refine zg_iinc C 3 [1, 2, 3, 0] (lv' := [(0, .ref b), (1, .ref q0), (2, .ref q8), (3, .int (nI (6 * (i + 1))))]) (nI (6 * (i + 1))) dL_law_658 rfl (zi_6 i) (by decide) rfl ?_
        refine zg_goto C 18 dL_law_661 (by decide) ?_
        exact zg_cv (lv' := [(0, .ref b), (1, .ref q0), (2, .ref q8), (3, .int (nI (6 * (i + 1))))]) (rfl) rfl (rfl) (ih_18 (by omega) pg pn x1 x2 x3 Qf Rf Lf Wf rc ln rk ds su rd V bs bp sr sd R Of Nf Yf Lm rkm sum rdm y1 y2 y3 dz hh (hpn) (hln) (hrc) (hrl) (hS) (hM))
      · skip
        refine zg_tabIn (off := 245) C 278 dL_law_33 (by rw [show (nI 8).toInt = 8 from by decide]; decide) (by rw [show (nI 8).toInt = 8 from by decide]; decide) (by rw [show (nI 8).toInt = 8 from by decide]; rfl) (by decide) ?_
        refine zg_aload_n C 1 dL_law_278 rfl ?_
        refine zg_aload_n C 0 dL_law_279 rfl ?_
        refine zg_iload_n C 3 dL_law_280 rfl ?_
        refine zg_iconst (v := nI 1) C dL_law_281 (by decide) ?_
        refine zg_iadd C dL_law_282 (nI ((6 * i) + 1)) (nI_add _ _) ?_
        refine zg_sld C hX (by omega) dL_law_283 (xs ((6 * i) + 1)) (rfl) ?_
        refine zg_aload_n C 0 dL_law_284 rfl ?_
        refine zg_iload_n C 3 dL_law_285 rfl ?_
        refine zg_iconst (v := nI 2) C dL_law_286 (by decide) ?_
        refine zg_iadd C dL_law_287 (nI ((6 * i) + 2)) (nI_add _ _) ?_
        refine zg_sld C hX (by omega) dL_law_288 (xs ((6 * i) + 2)) (rfl) ?_
        refine zg_callr (As := [.int (xs ((6 * i) + 1)), .int (xs ((6 * i) + 2))]) (st := []) C [0, 1, 2, 3, 4, 5, 6, 7, 8, 9, 10, 11] 0 2 (c_X5_coset l D cI q0 p0 g0 r0 b0 h0 a0 a1 a2 t0 v0 d0 pg pn x1 x2 x3 Qf Rf Lf Wf rc ln rk ds su rd V bs bp sr sd R (xs ((6 * i) + 1)) (xs ((6 * i) + 2)) hS hln) gL_law_X5_coset (by decide +kernel) rfl ⟨rfl, rfl⟩ ⟨Nat.le_of_ble_eq_true rfl, Nat.le_of_ble_eq_true rfl⟩ rfl (ci := 5) rfl rfl rfl rfl (Nat.le_of_ble_eq_true rfl) ⟨Nat.le_of_ble_eq_true rfl, Nat.le_of_ble_eq_true rfl⟩ dL_law_289 ?_
        refine zg_aload_n C 2 dL_law_292 rfl ?_
        refine zg_aload_n C 0 dL_law_293 rfl ?_
        refine zg_iload_n C 3 dL_law_294 rfl ?_
        refine zg_iconst (v := nI 1) C dL_law_295 (by decide) ?_
        refine zg_iadd C dL_law_296 (nI ((6 * i) + 1)) (nI_add _ _) ?_
        refine zg_sld C hX (by omega) dL_law_297 (xs ((6 * i) + 1)) (rfl) ?_
        refine zg_aload_n C 0 dL_law_298 rfl ?_
        refine zg_iload_n C 3 dL_law_299 rfl ?_
        refine zg_iconst (v := nI 2) C dL_law_300 (by decide) ?_
        refine zg_iadd C dL_law_301 (nI ((6 * i) + 2)) (nI_add _ _) ?_
        refine zg_sld C hX (by omega) dL_law_302 (xs ((6 * i) + 2)) (rfl) ?_
        refine zg_callr (As := [.int (xs ((6 * i) + 1)), .int (xs ((6 * i) + 2))]) (st := [.int (zA ln (zin (xs ((6 * i) + 1)) (2 ^ rc)) (zco (fun w => decide (zsk R w rc = zn (xs ((6 * i) + 1)))) (xs ((6 * i) + 2)) (2 ^ ln) 0 0))]) C [12, 13, 14, 15, 16, 17, 18] 12 2 (c_X6_coset l D cI q8 mp mo mv mn my ml pg Of V Nf Yf Lm pn rc ln rkm sum rdm sd bs bp sr y1 y2 y3 dz hh R (xs ((6 * i) + 1)) (xs ((6 * i) + 2)) hM hln hrc hrl) gL_law_X6_coset (by decide +kernel) rfl ⟨rfl, rfl⟩ ⟨Nat.le_of_ble_eq_true rfl, Nat.le_of_ble_eq_true rfl⟩ rfl (ci := 6) rfl rfl rfl rfl (Nat.le_of_ble_eq_true rfl) ⟨Nat.le_of_ble_eq_true rfl, Nat.le_of_ble_eq_true rfl⟩ dL_law_303 ?_
        refine zg_icmp_eq C 658 dL_law_306 (by decide) (fun c_306 => ?_) (fun c_306 => by exact absurd rfl c_306)
        refine zg_iinc C 3 [1, 2, 3, 0] (lv' := [(0, .ref b), (1, .ref q0), (2, .ref q8), (3, .int (nI (6 * (i + 1))))]) (nI (6 * (i + 1))) dL_law_658 rfl (zi_6 i) (by decide) rfl ?_
        refine zg_goto C 18 dL_law_661 (by decide) ?_
        exact zg_cv (lv' := [(0, .ref b), (1, .ref q0), (2, .ref q8), (3, .int (nI (6 * (i + 1))))]) (rfl) rfl (rfl) (ih_18 (by omega) pg pn x1 x2 x3 Qf Rf Lf Wf rc ln rk ds su rd V bs bp sr sd R Of Nf Yf Lm rkm sum rdm y1 y2 y3 dz hh (hpn) (hln) (hrc) (hrl) (hS) (hM))
      · skip
        refine zg_tabIn (off := 278) C 311 dL_law_33 (by rw [show (nI 9).toInt = 9 from by decide]; decide) (by rw [show (nI 9).toInt = 9 from by decide]; decide) (by rw [show (nI 9).toInt = 9 from by decide]; rfl) (by decide) ?_
        refine zg_aload_n C 1 dL_law_311 rfl ?_
        refine zg_aload_n C 0 dL_law_312 rfl ?_
        refine zg_iload_n C 3 dL_law_313 rfl ?_
        refine zg_iconst (v := nI 1) C dL_law_314 (by decide) ?_
        refine zg_iadd C dL_law_315 (nI ((6 * i) + 1)) (nI_add _ _) ?_
        refine zg_sld C hX (by omega) dL_law_316 (xs ((6 * i) + 1)) (rfl) ?_
        refine zg_callr (As := [.int (xs ((6 * i) + 1))]) (st := []) C [0, 1, 2, 3, 4, 5, 6, 7, 8, 9, 10, 11] 0 1 (c_X5_leaders l D cI q0 p0 g0 r0 b0 h0 a0 a1 a2 t0 v0 d0 pg pn x1 x2 x3 Qf Rf Lf Wf rc ln rk ds su rd V bs bp sr sd R (xs ((6 * i) + 1)) hS hln) gL_law_X5_leaders (by decide +kernel) rfl ⟨rfl, rfl⟩ ⟨Nat.le_of_ble_eq_true rfl, Nat.le_of_ble_eq_true rfl⟩ rfl (ci := 5) rfl rfl rfl rfl (Nat.le_of_ble_eq_true rfl) ⟨Nat.le_of_ble_eq_true rfl, Nat.le_of_ble_eq_true rfl⟩ dL_law_317 ?_
        refine zg_aload_n C 2 dL_law_320 rfl ?_
        refine zg_aload_n C 0 dL_law_321 rfl ?_
        refine zg_iload_n C 3 dL_law_322 rfl ?_
        refine zg_iconst (v := nI 1) C dL_law_323 (by decide) ?_
        refine zg_iadd C dL_law_324 (nI ((6 * i) + 1)) (nI_add _ _) ?_
        refine zg_sld C hX (by omega) dL_law_325 (xs ((6 * i) + 1)) (rfl) ?_
        refine zg_callr (As := [.int (xs ((6 * i) + 1))]) (st := [.int (zA ln (zin (xs ((6 * i) + 1)) (ln + 1)) (nI (zct (zhw (zld R rc (2 ^ ln)) (zn (xs ((6 * i) + 1)))) 32)))]) C [12, 13, 14, 15, 16, 17, 18] 12 1 (c_X6_leaders l D cI q8 mp mo mv mn my ml pg Of V Nf Yf Lm pn rc ln rkm sum rdm sd bs bp sr y1 y2 y3 dz hh R (xs ((6 * i) + 1)) hM hln hrc hrl) gL_law_X6_leaders (by decide +kernel) rfl ⟨rfl, rfl⟩ ⟨Nat.le_of_ble_eq_true rfl, Nat.le_of_ble_eq_true rfl⟩ rfl (ci := 6) rfl rfl rfl rfl (Nat.le_of_ble_eq_true rfl) ⟨Nat.le_of_ble_eq_true rfl, Nat.le_of_ble_eq_true rfl⟩ dL_law_326 ?_
        refine zg_icmp_eq C 658 dL_law_329 (by decide) (fun c_329 => ?_) (fun c_329 => by exact absurd rfl c_329)
        refine zg_iinc C 3 [1, 2, 3, 0] (lv' := [(0, .ref b), (1, .ref q0), (2, .ref q8), (3, .int (nI (6 * (i + 1))))]) (nI (6 * (i + 1))) dL_law_658 rfl (zi_6 i) (by decide) rfl ?_
        refine zg_goto C 18 dL_law_661 (by decide) ?_
        exact zg_cv (lv' := [(0, .ref b), (1, .ref q0), (2, .ref q8), (3, .int (nI (6 * (i + 1))))]) (rfl) rfl (rfl) (ih_18 (by omega) pg pn x1 x2 x3 Qf Rf Lf Wf rc ln rk ds su rd V bs bp sr sd R Of Nf Yf Lm rkm sum rdm y1 y2 y3 dz hh (hpn) (hln) (hrc) (hrl) (hS) (hM))
      · skip
        refine zg_tabIn (off := 301) C 334 dL_law_33 (by rw [show (nI 10).toInt = 10 from by decide]; decide) (by rw [show (nI 10).toInt = 10 from by decide]; decide) (by rw [show (nI 10).toInt = 10 from by decide]; rfl) (by decide) ?_
        refine zg_aload_n C 1 dL_law_334 rfl ?_
        refine zg_aload_n C 0 dL_law_335 rfl ?_
        refine zg_iload_n C 3 dL_law_336 rfl ?_
        refine zg_iconst (v := nI 1) C dL_law_337 (by decide) ?_
        refine zg_iadd C dL_law_338 (nI ((6 * i) + 1)) (nI_add _ _) ?_
        refine zg_sld C hX (by omega) dL_law_339 (xs ((6 * i) + 1)) (rfl) ?_
        refine zg_aload_n C 0 dL_law_340 rfl ?_
        refine zg_iload_n C 3 dL_law_341 rfl ?_
        refine zg_iconst (v := nI 2) C dL_law_342 (by decide) ?_
        refine zg_iadd C dL_law_343 (nI ((6 * i) + 2)) (nI_add _ _) ?_
        refine zg_sld C hX (by omega) dL_law_344 (xs ((6 * i) + 2)) (rfl) ?_
        refine zg_callw (As := [.int (xs ((6 * i) + 1)), .int (xs ((6 * i) + 2))]) (st := []) (wo := [(q8, .inr (6, [.int (nI pn), .ref mp, .int (nI rc), .int (nI ln), .ref mo, .int sd, .ref mv, .int bs, .int bp, .int sr, .int y1, .int y2, .int y3, .ref mn, .ref my, .ref ml, .int (nI rkm), .int dz, .int (nI sum), .int (nI rdm), .long hh])), (mp, .inl (cI, 56, .inl pg)), (mo, .inl (cI, 5, .inl Of)), (mv, .inl (cI, 4, .inl V)), (mn, .inl (cI, 5, .inl Nf)), (my, .inl (cI, 1024, .inl Yf)), (ml, .inl (cI, 32, .inl Lm))]) C [0, 1, 2, 3, 4, 5, 6, 7, 8, 9, 10, 11] [12, 13, 14, 15, 16, 17, 18] 0 2 (c_X5_better l D cI q0 p0 g0 r0 b0 h0 a0 a1 a2 t0 v0 d0 pg pn x1 x2 x3 Qf Rf Lf Wf rc ln rk ds su rd V bs bp sr sd R (xs ((6 * i) + 1)) (xs ((6 * i) + 2)) hS hln) gL_law_X5_better (by decide +kernel) rfl ⟨rfl, rfl⟩ ⟨Nat.le_of_ble_eq_true rfl, Nat.le_of_ble_eq_true rfl⟩ rfl rfl rfl rfl (by decide) (ci := 5) rfl rfl rfl rfl (Nat.le_of_ble_eq_true rfl) ⟨Nat.le_of_ble_eq_true rfl, Nat.le_of_ble_eq_true rfl⟩ dL_law_345 (fun v9 w9 hw9 => ?_)
        obtain ⟨rfl, rfl⟩ := hw9
        refine zg_cv (k' := 19) (n' := 1285) (st' := [.int (zA ln (zin (xs ((6 * i) + 1)) rc ∧ zin (xs ((6 * i) + 2)) (2 ^ ln)) (nI (zdm (zset R (zn (xs ((6 * i) + 1))) (zn (xs ((6 * i) + 2)))) rc ln (2 ^ ln)) - nI (zdm R rc ln (2 ^ ln))))]) (ws' := [(q8, .inr (6, [.int (nI pn), .ref mp, .int (nI rc), .int (nI ln), .ref mo, .int sd, .ref mv, .int bs, .int bp, .int sr, .int y1, .int y2, .int y3, .ref mn, .ref my, .ref ml, .int (nI rkm), .int dz, .int (nI sum), .int (nI rdm), .long hh])), (mp, .inl (cI, 56, .inl pg)), (mo, .inl (cI, 5, .inl Of)), (mv, .inl (cI, 4, .inl V)), (mn, .inl (cI, 5, .inl Nf)), (my, .inl (cI, 1024, .inl Yf)), (ml, .inl (cI, 32, .inl Lm)), (q0, .inr (5, [.ref p0, .ref r0, .ref h0, .ref t0, .ref d0])), (p0, .inr (1, [.ref g0, .int (nI pn)])), (g0, .inl (cI, 56, .inl pg)), (r0, .inr (2, [.ref b0, .int x1, .int x2, .int x3])), (b0, .inl (cI, 5, .inl Qf)), (h0, .inr (3, [.ref a0, .ref a1, .ref a2, .int (nI rc), .int (nI ln), .int (nI rk), .int (nI ds), .int (nI su), .int (nI rd)])), (a0, .inl (cI, 5, .inl Rf)), (a1, .inl (cI, 32, .inl Lf)), (a2, .inl (cI, 11, .inl Wf)), (t0, .inr (4, [.ref v0, .int bs, .int bp, .int sr])), (v0, .inl (cI, 4, .inl V)), (d0, .inr (0, [.int sd]))]) rfl rfl rfl ?_
        refine zg_perm [7, 8, 9, 10, 11, 12, 13, 14, 15, 16, 17, 18, 0, 1, 2, 3, 4, 5, 6] (ws' := [(q0, .inr (5, [.ref p0, .ref r0, .ref h0, .ref t0, .ref d0])), (p0, .inr (1, [.ref g0, .int (nI pn)])), (g0, .inl (cI, 56, .inl pg)), (r0, .inr (2, [.ref b0, .int x1, .int x2, .int x3])), (b0, .inl (cI, 5, .inl Qf)), (h0, .inr (3, [.ref a0, .ref a1, .ref a2, .int (nI rc), .int (nI ln), .int (nI rk), .int (nI ds), .int (nI su), .int (nI rd)])), (a0, .inl (cI, 5, .inl Rf)), (a1, .inl (cI, 32, .inl Lf)), (a2, .inl (cI, 11, .inl Wf)), (t0, .inr (4, [.ref v0, .int bs, .int bp, .int sr])), (v0, .inl (cI, 4, .inl V)), (d0, .inr (0, [.int sd])), (q8, .inr (6, [.int (nI pn), .ref mp, .int (nI rc), .int (nI ln), .ref mo, .int sd, .ref mv, .int bs, .int bp, .int sr, .int y1, .int y2, .int y3, .ref mn, .ref my, .ref ml, .int (nI rkm), .int dz, .int (nI sum), .int (nI rdm), .long hh])), (mp, .inl (cI, 56, .inl pg)), (mo, .inl (cI, 5, .inl Of)), (mv, .inl (cI, 4, .inl V)), (mn, .inl (cI, 5, .inl Nf)), (my, .inl (cI, 1024, .inl Yf)), (ml, .inl (cI, 32, .inl Lm))]) rfl rfl ?_
        refine zg_aload_n C 2 dL_law_348 rfl ?_
        refine zg_aload_n C 0 dL_law_349 rfl ?_
        refine zg_iload_n C 3 dL_law_350 rfl ?_
        refine zg_iconst (v := nI 1) C dL_law_351 (by decide) ?_
        refine zg_iadd C dL_law_352 (nI ((6 * i) + 1)) (nI_add _ _) ?_
        refine zg_sld C hX (by omega) dL_law_353 (xs ((6 * i) + 1)) (rfl) ?_
        refine zg_aload_n C 0 dL_law_354 rfl ?_
        refine zg_iload_n C 3 dL_law_355 rfl ?_
        refine zg_iconst (v := nI 2) C dL_law_356 (by decide) ?_
        refine zg_iadd C dL_law_357 (nI ((6 * i) + 2)) (nI_add _ _) ?_
        refine zg_sld C hX (by omega) dL_law_358 (xs ((6 * i) + 2)) (rfl) ?_
        refine zg_callw (As := [.int (xs ((6 * i) + 1)), .int (xs ((6 * i) + 2))]) (st := [.int (zA ln (zin (xs ((6 * i) + 1)) rc ∧ zin (xs ((6 * i) + 2)) (2 ^ ln)) (nI (zdm (zset R (zn (xs ((6 * i) + 1))) (zn (xs ((6 * i) + 2)))) rc ln (2 ^ ln)) - nI (zdm R rc ln (2 ^ ln))))]) (wo := [(q0, .inr (5, [.ref p0, .ref r0, .ref h0, .ref t0, .ref d0])), (p0, .inr (1, [.ref g0, .int (nI pn)])), (g0, .inl (cI, 56, .inl pg)), (r0, .inr (2, [.ref b0, .int x1, .int x2, .int x3])), (b0, .inl (cI, 5, .inl Qf)), (h0, .inr (3, [.ref a0, .ref a1, .ref a2, .int (nI rc), .int (nI ln), .int (nI rk), .int (nI ds), .int (nI su), .int (nI rd)])), (a0, .inl (cI, 5, .inl Rf)), (a1, .inl (cI, 32, .inl Lf)), (a2, .inl (cI, 11, .inl Wf)), (t0, .inr (4, [.ref v0, .int bs, .int bp, .int sr])), (v0, .inl (cI, 4, .inl V)), (d0, .inr (0, [.int sd]))]) C [12, 13, 14, 15, 16, 17, 18] [0, 1, 2, 3, 4, 5, 6, 7, 8, 9, 10, 11] 12 2 (c_X6_better l D cI q8 mp mo mv mn my ml pg Of V Nf Yf Lm pn rc ln rkm sum rdm sd bs bp sr y1 y2 y3 dz hh R (xs ((6 * i) + 1)) (xs ((6 * i) + 2)) hM hln hrc hrl) gL_law_X6_better (by decide +kernel) rfl ⟨rfl, rfl⟩ ⟨Nat.le_of_ble_eq_true rfl, Nat.le_of_ble_eq_true rfl⟩ rfl rfl rfl rfl (by decide) (ci := 6) rfl rfl rfl rfl (Nat.le_of_ble_eq_true rfl) ⟨Nat.le_of_ble_eq_true rfl, Nat.le_of_ble_eq_true rfl⟩ dL_law_359 (fun v9 w9 hw9 => ?_)
        obtain ⟨rfl, rfl⟩ := hw9
        refine zg_cv (k' := 19) (n' := 1285) (st' := [.int (zA ln (zin (xs ((6 * i) + 1)) rc ∧ zin (xs ((6 * i) + 2)) (2 ^ ln)) (nI (zdm (zset R (zn (xs ((6 * i) + 1))) (zn (xs ((6 * i) + 2)))) rc ln (2 ^ ln)) - nI (zdm R rc ln (2 ^ ln)))), .int (zA ln (zin (xs ((6 * i) + 1)) rc ∧ zin (xs ((6 * i) + 2)) (2 ^ ln)) (nI (zdm (zset R (zn (xs ((6 * i) + 1))) (zn (xs ((6 * i) + 2)))) rc ln (2 ^ ln)) - nI (zdm R rc ln (2 ^ ln))))]) (ws' := [(q0, .inr (5, [.ref p0, .ref r0, .ref h0, .ref t0, .ref d0])), (p0, .inr (1, [.ref g0, .int (nI pn)])), (g0, .inl (cI, 56, .inl pg)), (r0, .inr (2, [.ref b0, .int x1, .int x2, .int x3])), (b0, .inl (cI, 5, .inl Qf)), (h0, .inr (3, [.ref a0, .ref a1, .ref a2, .int (nI rc), .int (nI ln), .int (nI rk), .int (nI ds), .int (nI su), .int (nI rd)])), (a0, .inl (cI, 5, .inl Rf)), (a1, .inl (cI, 32, .inl Lf)), (a2, .inl (cI, 11, .inl Wf)), (t0, .inr (4, [.ref v0, .int bs, .int bp, .int sr])), (v0, .inl (cI, 4, .inl V)), (d0, .inr (0, [.int sd])), (q8, .inr (6, [.int (nI pn), .ref mp, .int (nI rc), .int (nI ln), .ref mo, .int sd, .ref mv, .int bs, .int bp, .int sr, .int y1, .int y2, .int y3, .ref mn, .ref my, .ref ml, .int (nI rkm), .int dz, .int (nI sum), .int (nI rdm), .long hh])), (mp, .inl (cI, 56, .inl pg)), (mo, .inl (cI, 5, .inl Of)), (mv, .inl (cI, 4, .inl V)), (mn, .inl (cI, 5, .inl Nf)), (my, .inl (cI, 1024, .inl Yf)), (ml, .inl (cI, 32, .inl Lm))]) rfl rfl rfl ?_
        refine zg_icmp_eq C 658 dL_law_362 (by decide) (fun c_362 => ?_) (fun c_362 => by exact absurd rfl c_362)
        refine zg_iinc C 3 [1, 2, 3, 0] (lv' := [(0, .ref b), (1, .ref q0), (2, .ref q8), (3, .int (nI (6 * (i + 1))))]) (nI (6 * (i + 1))) dL_law_658 rfl (zi_6 i) (by decide) rfl ?_
        refine zg_goto C 18 dL_law_661 (by decide) ?_
        exact zg_cv (lv' := [(0, .ref b), (1, .ref q0), (2, .ref q8), (3, .int (nI (6 * (i + 1))))]) (rfl) rfl (rfl) (ih_18 (by omega) pg pn x1 x2 x3 Qf Rf Lf Wf rc ln rk ds su rd V bs bp sr sd R Of Nf Yf Lm rkm sum rdm y1 y2 y3 dz hh (hpn) (hln) (hrc) (hrl) (hS) (hM))
      · skip
        refine zg_tabIn (off := 334) C 367 dL_law_33 (by rw [show (nI 11).toInt = 11 from by decide]; decide) (by rw [show (nI 11).toInt = 11 from by decide]; decide) (by rw [show (nI 11).toInt = 11 from by decide]; rfl) (by decide) ?_
        rcases Classical.em (0 < ln ∧ zin (xs (6 * i + 1)) (2 ^ ln) ∧ zin (xs (6 * i + 2)) (2 ^ ln)) with hok | hno
        · obtain ⟨u, hu, eu⟩ := zin_of hok.2.1 (by have := zpw hln; omega)
          obtain ⟨w, hw, ew⟩ := zin_of hok.2.2 (by have := zpw hln; omega)
          refine zg_aload_n C 1 dL_law_367 rfl ?_
          refine zg_aload_n C 0 dL_law_368 rfl ?_
          refine zg_iload_n C 3 dL_law_369 rfl ?_
          refine zg_iconst (v := nI 1) C dL_law_370 (by decide) ?_
          refine zg_iadd C dL_law_371 (nI ((6 * i) + 1)) (nI_add _ _) ?_
          refine zg_sld C hX (by omega) dL_law_372 (nI u) (eu) ?_
          refine zg_aload_n C 0 dL_law_373 rfl ?_
          refine zg_iload_n C 3 dL_law_374 rfl ?_
          refine zg_iconst (v := nI 2) C dL_law_375 (by decide) ?_
          refine zg_iadd C dL_law_376 (nI ((6 * i) + 2)) (nI_add _ _) ?_
          refine zg_sld C hX (by omega) dL_law_377 (nI w) (ew) ?_
          refine zg_callw (As := [.int (nI u), .int (nI w)]) (st := []) (wo := [(q8, .inr (6, [.int (nI pn), .ref mp, .int (nI rc), .int (nI ln), .ref mo, .int sd, .ref mv, .int bs, .int bp, .int sr, .int y1, .int y2, .int y3, .ref mn, .ref my, .ref ml, .int (nI rkm), .int dz, .int (nI sum), .int (nI rdm), .long hh])), (mp, .inl (cI, 56, .inl pg)), (mo, .inl (cI, 5, .inl Of)), (mv, .inl (cI, 4, .inl V)), (mn, .inl (cI, 5, .inl Nf)), (my, .inl (cI, 1024, .inl Yf)), (ml, .inl (cI, 32, .inl Lm))]) C [0, 1, 2, 3, 4, 5, 6, 7, 8, 9, 10, 11] [12, 13, 14, 15, 16, 17, 18] 0 2 (c_X5_send l D cI q0 p0 g0 r0 b0 h0 a0 a1 a2 t0 v0 d0 pg pn x1 x2 x3 Qf Rf Lf Wf rc ln rk ds su rd V bs bp sr sd R u w hS hln (hok.1) (hu) (hw)) gL_law_X5_send (by decide +kernel) rfl ⟨rfl, rfl⟩ ⟨Nat.le_of_ble_eq_true rfl, Nat.le_of_ble_eq_true rfl⟩ rfl rfl rfl rfl (by decide) (ci := 5) rfl rfl rfl rfl (Nat.le_of_ble_eq_true rfl) ⟨Nat.le_of_ble_eq_true rfl, Nat.le_of_ble_eq_true rfl⟩ dL_law_378 (fun v9 w9 hw9 => ?_)
          obtain ⟨rfl, rfl⟩ := hw9
          refine zg_cv (k' := 19) (n' := 1285) (st' := [.int (nI (zvr R rc ln u w))]) (ws' := [(q8, .inr (6, [.int (nI pn), .ref mp, .int (nI rc), .int (nI ln), .ref mo, .int sd, .ref mv, .int bs, .int bp, .int sr, .int y1, .int y2, .int y3, .ref mn, .ref my, .ref ml, .int (nI rkm), .int dz, .int (nI sum), .int (nI rdm), .long hh])), (mp, .inl (cI, 56, .inl pg)), (mo, .inl (cI, 5, .inl Of)), (mv, .inl (cI, 4, .inl V)), (mn, .inl (cI, 5, .inl Nf)), (my, .inl (cI, 1024, .inl Yf)), (ml, .inl (cI, 32, .inl Lm)), (q0, .inr (5, [.ref p0, .ref r0, .ref h0, .ref t0, .ref d0])), (p0, .inr (1, [.ref g0, .int (nI pn)])), (g0, .inl (cI, 56, .inl pg)), (r0, .inr (2, [.ref b0, .int x1, .int x2, .int x3])), (b0, .inl (cI, 5, .inl Qf)), (h0, .inr (3, [.ref a0, .ref a1, .ref a2, .int (nI rc), .int (nI ln), .int (nI rk), .int (nI ds), .int (nI su), .int (nI rd)])), (a0, .inl (cI, 5, .inl Rf)), (a1, .inl (cI, 32, .inl Lf)), (a2, .inl (cI, 11, .inl Wf)), (t0, .inr (4, [.ref v0, .int (bs + nI (ln + zrk R rc ln)), .int (bp + nI (2 * ln)), .int sr])), (v0, .inl (cI, 4, .inl (upd V (zvr R rc ln u w) (V (zvr R rc ln u w) + nI 1)))), (d0, .inr (0, [.int sd]))]) rfl rfl rfl ?_
          refine zg_perm [7, 8, 9, 10, 11, 12, 13, 14, 15, 16, 17, 18, 0, 1, 2, 3, 4, 5, 6] (ws' := [(q0, .inr (5, [.ref p0, .ref r0, .ref h0, .ref t0, .ref d0])), (p0, .inr (1, [.ref g0, .int (nI pn)])), (g0, .inl (cI, 56, .inl pg)), (r0, .inr (2, [.ref b0, .int x1, .int x2, .int x3])), (b0, .inl (cI, 5, .inl Qf)), (h0, .inr (3, [.ref a0, .ref a1, .ref a2, .int (nI rc), .int (nI ln), .int (nI rk), .int (nI ds), .int (nI su), .int (nI rd)])), (a0, .inl (cI, 5, .inl Rf)), (a1, .inl (cI, 32, .inl Lf)), (a2, .inl (cI, 11, .inl Wf)), (t0, .inr (4, [.ref v0, .int (bs + nI (ln + zrk R rc ln)), .int (bp + nI (2 * ln)), .int sr])), (v0, .inl (cI, 4, .inl (upd V (zvr R rc ln u w) (V (zvr R rc ln u w) + nI 1)))), (d0, .inr (0, [.int sd])), (q8, .inr (6, [.int (nI pn), .ref mp, .int (nI rc), .int (nI ln), .ref mo, .int sd, .ref mv, .int bs, .int bp, .int sr, .int y1, .int y2, .int y3, .ref mn, .ref my, .ref ml, .int (nI rkm), .int dz, .int (nI sum), .int (nI rdm), .long hh])), (mp, .inl (cI, 56, .inl pg)), (mo, .inl (cI, 5, .inl Of)), (mv, .inl (cI, 4, .inl V)), (mn, .inl (cI, 5, .inl Nf)), (my, .inl (cI, 1024, .inl Yf)), (ml, .inl (cI, 32, .inl Lm))]) rfl rfl ?_
          refine zg_aload_n C 2 dL_law_381 rfl ?_
          refine zg_aload_n C 0 dL_law_382 rfl ?_
          refine zg_iload_n C 3 dL_law_383 rfl ?_
          refine zg_iconst (v := nI 1) C dL_law_384 (by decide) ?_
          refine zg_iadd C dL_law_385 (nI ((6 * i) + 1)) (nI_add _ _) ?_
          refine zg_sld C hX (by omega) dL_law_386 (nI u) (eu) ?_
          refine zg_aload_n C 0 dL_law_387 rfl ?_
          refine zg_iload_n C 3 dL_law_388 rfl ?_
          refine zg_iconst (v := nI 2) C dL_law_389 (by decide) ?_
          refine zg_iadd C dL_law_390 (nI ((6 * i) + 2)) (nI_add _ _) ?_
          refine zg_sld C hX (by omega) dL_law_391 (nI w) (ew) ?_
          refine zg_callw (As := [.int (nI u), .int (nI w)]) (st := [.int (nI (zvr R rc ln u w))]) (wo := [(q0, .inr (5, [.ref p0, .ref r0, .ref h0, .ref t0, .ref d0])), (p0, .inr (1, [.ref g0, .int (nI pn)])), (g0, .inl (cI, 56, .inl pg)), (r0, .inr (2, [.ref b0, .int x1, .int x2, .int x3])), (b0, .inl (cI, 5, .inl Qf)), (h0, .inr (3, [.ref a0, .ref a1, .ref a2, .int (nI rc), .int (nI ln), .int (nI rk), .int (nI ds), .int (nI su), .int (nI rd)])), (a0, .inl (cI, 5, .inl Rf)), (a1, .inl (cI, 32, .inl Lf)), (a2, .inl (cI, 11, .inl Wf)), (t0, .inr (4, [.ref v0, .int (bs + nI (ln + zrk R rc ln)), .int (bp + nI (2 * ln)), .int sr])), (v0, .inl (cI, 4, .inl (upd V (zvr R rc ln u w) (V (zvr R rc ln u w) + nI 1)))), (d0, .inr (0, [.int sd]))]) C [12, 13, 14, 15, 16, 17, 18] [0, 1, 2, 3, 4, 5, 6, 7, 8, 9, 10, 11] 12 2 (c_X6_send l D cI q8 mp mo mv mn my ml pg Of V Nf Yf Lm pn rc ln rkm sum rdm sd bs bp sr y1 y2 y3 dz hh R u w hM hln hrc hrl (hok.1) (hu) (hw)) gL_law_X6_send (by decide +kernel) rfl ⟨rfl, rfl⟩ ⟨Nat.le_of_ble_eq_true rfl, Nat.le_of_ble_eq_true rfl⟩ rfl rfl rfl rfl (by decide) (ci := 6) rfl rfl rfl rfl (Nat.le_of_ble_eq_true rfl) ⟨Nat.le_of_ble_eq_true rfl, Nat.le_of_ble_eq_true rfl⟩ dL_law_392 (fun v9 w9 hw9 => ?_)
          obtain ⟨rfl, rfl⟩ := hw9
          refine zg_cv (k' := 19) (n' := 1285) (st' := [.int (nI (zvr R rc ln u w)), .int (nI (zvr R rc ln u w))]) (ws' := [(q0, .inr (5, [.ref p0, .ref r0, .ref h0, .ref t0, .ref d0])), (p0, .inr (1, [.ref g0, .int (nI pn)])), (g0, .inl (cI, 56, .inl pg)), (r0, .inr (2, [.ref b0, .int x1, .int x2, .int x3])), (b0, .inl (cI, 5, .inl Qf)), (h0, .inr (3, [.ref a0, .ref a1, .ref a2, .int (nI rc), .int (nI ln), .int (nI rk), .int (nI ds), .int (nI su), .int (nI rd)])), (a0, .inl (cI, 5, .inl Rf)), (a1, .inl (cI, 32, .inl Lf)), (a2, .inl (cI, 11, .inl Wf)), (t0, .inr (4, [.ref v0, .int (bs + nI (ln + zrk R rc ln)), .int (bp + nI (2 * ln)), .int sr])), (v0, .inl (cI, 4, .inl (upd V (zvr R rc ln u w) (V (zvr R rc ln u w) + nI 1)))), (d0, .inr (0, [.int sd])), (q8, .inr (6, [.int (nI pn), .ref mp, .int (nI rc), .int (nI ln), .ref mo, .int sd, .ref mv, .int (bs + nI (ln + zrk R rc ln)), .int (bp + nI (2 * ln)), .int sr, .int y1, .int y2, .int y3, .ref mn, .ref my, .ref ml, .int (nI rkm), .int dz, .int (nI sum), .int (nI rdm), .long hh])), (mp, .inl (cI, 56, .inl pg)), (mo, .inl (cI, 5, .inl Of)), (mv, .inl (cI, 4, .inl (upd V (zvr R rc ln u w) (V (zvr R rc ln u w) + nI 1)))), (mn, .inl (cI, 5, .inl Nf)), (my, .inl (cI, 1024, .inl Yf)), (ml, .inl (cI, 32, .inl Lm))]) rfl rfl rfl ?_
          refine zg_icmp_eq C 658 dL_law_395 (by decide) (fun c_395 => ?_) (fun c_395 => by exact absurd rfl c_395)
          refine zg_iinc C 3 [1, 2, 3, 0] (lv' := [(0, .ref b), (1, .ref q0), (2, .ref q8), (3, .int (nI (6 * (i + 1))))]) (nI (6 * (i + 1))) dL_law_658 rfl (zi_6 i) (by decide) rfl ?_
          refine zg_goto C 18 dL_law_661 (by decide) ?_
          exact zg_cv (lv' := [(0, .ref b), (1, .ref q0), (2, .ref q8), (3, .int (nI (6 * (i + 1))))]) (rfl) rfl (rfl) (ih_18 (by omega) pg pn x1 x2 x3 Qf Rf Lf Wf rc ln rk ds su rd (upd V (zvr R rc ln u w) (V (zvr R rc ln u w) + nI 1)) (bs + nI (ln + zrk R rc ln)) (bp + nI (2 * ln)) sr sd R Of Nf Yf Lm rkm sum rdm y1 y2 y3 dz hh (hpn) (hln) (hrc) (hrl) (hS) (hM))
        · skip
          refine zg_aload_n C 1 dL_law_367 rfl ?_
          refine zg_aload_n C 0 dL_law_368 rfl ?_
          refine zg_iload_n C 3 dL_law_369 rfl ?_
          refine zg_iconst (v := nI 1) C dL_law_370 (by decide) ?_
          refine zg_iadd C dL_law_371 (nI ((6 * i) + 1)) (nI_add _ _) ?_
          refine zg_sld C hX (by omega) dL_law_372 (xs ((6 * i) + 1)) (rfl) ?_
          refine zg_aload_n C 0 dL_law_373 rfl ?_
          refine zg_iload_n C 3 dL_law_374 rfl ?_
          refine zg_iconst (v := nI 2) C dL_law_375 (by decide) ?_
          refine zg_iadd C dL_law_376 (nI ((6 * i) + 2)) (nI_add _ _) ?_
          refine zg_sld C hX (by omega) dL_law_377 (xs ((6 * i) + 2)) (rfl) ?_
          refine zg_callr (As := [.int (xs ((6 * i) + 1)), .int (xs ((6 * i) + 2))]) (st := []) C [0, 1, 2, 3, 4, 5, 6, 7, 8, 9, 10, 11] 0 2 (c_X5_send_no l D cI q0 p0 g0 r0 b0 h0 a0 a1 a2 t0 v0 d0 pg pn x1 x2 x3 Qf Rf Lf Wf rc ln rk ds su rd V bs bp sr sd R (xs ((6 * i) + 1)) (xs ((6 * i) + 2)) hS hln (hno)) gL_law_X5_send (by decide +kernel) rfl ⟨rfl, rfl⟩ ⟨Nat.le_of_ble_eq_true rfl, Nat.le_of_ble_eq_true rfl⟩ rfl (ci := 5) rfl rfl rfl rfl (Nat.le_of_ble_eq_true rfl) ⟨Nat.le_of_ble_eq_true rfl, Nat.le_of_ble_eq_true rfl⟩ dL_law_378 ?_
          refine zg_aload_n C 2 dL_law_381 rfl ?_
          refine zg_aload_n C 0 dL_law_382 rfl ?_
          refine zg_iload_n C 3 dL_law_383 rfl ?_
          refine zg_iconst (v := nI 1) C dL_law_384 (by decide) ?_
          refine zg_iadd C dL_law_385 (nI ((6 * i) + 1)) (nI_add _ _) ?_
          refine zg_sld C hX (by omega) dL_law_386 (xs ((6 * i) + 1)) (rfl) ?_
          refine zg_aload_n C 0 dL_law_387 rfl ?_
          refine zg_iload_n C 3 dL_law_388 rfl ?_
          refine zg_iconst (v := nI 2) C dL_law_389 (by decide) ?_
          refine zg_iadd C dL_law_390 (nI ((6 * i) + 2)) (nI_add _ _) ?_
          refine zg_sld C hX (by omega) dL_law_391 (xs ((6 * i) + 2)) (rfl) ?_
          refine zg_callr (As := [.int (xs ((6 * i) + 1)), .int (xs ((6 * i) + 2))]) (st := [.int (if 0 < ln then -1002 else -1003)]) C [12, 13, 14, 15, 16, 17, 18] 12 2 (c_X6_send_no l D cI q8 mp mo mv mn my ml pg Of V Nf Yf Lm pn rc ln rkm sum rdm sd bs bp sr y1 y2 y3 dz hh R (xs ((6 * i) + 1)) (xs ((6 * i) + 2)) hM hln hrc hrl (hno)) gL_law_X6_send (by decide +kernel) rfl ⟨rfl, rfl⟩ ⟨Nat.le_of_ble_eq_true rfl, Nat.le_of_ble_eq_true rfl⟩ rfl (ci := 6) rfl rfl rfl rfl (Nat.le_of_ble_eq_true rfl) ⟨Nat.le_of_ble_eq_true rfl, Nat.le_of_ble_eq_true rfl⟩ dL_law_392 ?_
          refine zg_icmp_eq C 658 dL_law_395 (by decide) (fun c_395 => ?_) (fun c_395 => by exact absurd rfl c_395)
          refine zg_iinc C 3 [1, 2, 3, 0] (lv' := [(0, .ref b), (1, .ref q0), (2, .ref q8), (3, .int (nI (6 * (i + 1))))]) (nI (6 * (i + 1))) dL_law_658 rfl (zi_6 i) (by decide) rfl ?_
          refine zg_goto C 18 dL_law_661 (by decide) ?_
          exact zg_cv (lv' := [(0, .ref b), (1, .ref q0), (2, .ref q8), (3, .int (nI (6 * (i + 1))))]) (rfl) rfl (rfl) (ih_18 (by omega) pg pn x1 x2 x3 Qf Rf Lf Wf rc ln rk ds su rd V bs bp sr sd R Of Nf Yf Lm rkm sum rdm y1 y2 y3 dz hh (hpn) (hln) (hrc) (hrl) (hS) (hM))
      · skip
        refine zg_tabIn (off := 367) C 400 dL_law_33 (by rw [show (nI 12).toInt = 12 from by decide]; decide) (by rw [show (nI 12).toInt = 12 from by decide]; decide) (by rw [show (nI 12).toInt = 12 from by decide]; rfl) (by decide) ?_
        refine zg_aload_n C 1 dL_law_400 rfl ?_
        refine zg_aload_n C 0 dL_law_401 rfl ?_
        refine zg_iload_n C 3 dL_law_402 rfl ?_
        refine zg_iconst (v := nI 1) C dL_law_403 (by decide) ?_
        refine zg_iadd C dL_law_404 (nI ((6 * i) + 1)) (nI_add _ _) ?_
        refine zg_sld C hX (by omega) dL_law_405 (xs ((6 * i) + 1)) (rfl) ?_
        refine zg_aload_n C 0 dL_law_406 rfl ?_
        refine zg_iload_n C 3 dL_law_407 rfl ?_
        refine zg_iconst (v := nI 2) C dL_law_408 (by decide) ?_
        refine zg_iadd C dL_law_409 (nI ((6 * i) + 2)) (nI_add _ _) ?_
        refine zg_sld C hX (by omega) dL_law_410 (xs ((6 * i) + 2)) (rfl) ?_
        refine zg_aload_n C 0 dL_law_411 rfl ?_
        refine zg_iload_n C 3 dL_law_412 rfl ?_
        refine zg_iconst (v := nI 3) C dL_law_413 (by decide) ?_
        refine zg_iadd C dL_law_414 (nI ((6 * i) + 3)) (nI_add _ _) ?_
        refine zg_sld C hX (by omega) dL_law_415 (xs ((6 * i) + 3)) (rfl) ?_
        refine zg_callr (As := [.int (xs ((6 * i) + 1)), .int (xs ((6 * i) + 2)), .int (xs ((6 * i) + 3))]) (st := []) C [0, 1, 2, 3, 4, 5, 6, 7, 8, 9, 10, 11] 0 3 (c_X5_plain l D cI q0 p0 g0 r0 b0 h0 a0 a1 a2 t0 v0 d0 pg pn x1 x2 x3 Qf Rf Lf Wf rc ln rk ds su rd V bs bp sr sd R (xs ((6 * i) + 1)) (xs ((6 * i) + 2)) (xs ((6 * i) + 3)) hS hln) gL_law_X5_plain (by decide +kernel) rfl ⟨rfl, rfl⟩ ⟨Nat.le_of_ble_eq_true rfl, Nat.le_of_ble_eq_true rfl⟩ rfl (ci := 5) rfl rfl rfl rfl (Nat.le_of_ble_eq_true rfl) ⟨Nat.le_of_ble_eq_true rfl, Nat.le_of_ble_eq_true rfl⟩ dL_law_416 ?_
        refine zg_aload_n C 2 dL_law_419 rfl ?_
        refine zg_aload_n C 0 dL_law_420 rfl ?_
        refine zg_iload_n C 3 dL_law_421 rfl ?_
        refine zg_iconst (v := nI 1) C dL_law_422 (by decide) ?_
        refine zg_iadd C dL_law_423 (nI ((6 * i) + 1)) (nI_add _ _) ?_
        refine zg_sld C hX (by omega) dL_law_424 (xs ((6 * i) + 1)) (rfl) ?_
        refine zg_aload_n C 0 dL_law_425 rfl ?_
        refine zg_iload_n C 3 dL_law_426 rfl ?_
        refine zg_iconst (v := nI 2) C dL_law_427 (by decide) ?_
        refine zg_iadd C dL_law_428 (nI ((6 * i) + 2)) (nI_add _ _) ?_
        refine zg_sld C hX (by omega) dL_law_429 (xs ((6 * i) + 2)) (rfl) ?_
        refine zg_aload_n C 0 dL_law_430 rfl ?_
        refine zg_iload_n C 3 dL_law_431 rfl ?_
        refine zg_iconst (v := nI 3) C dL_law_432 (by decide) ?_
        refine zg_iadd C dL_law_433 (nI ((6 * i) + 3)) (nI_add _ _) ?_
        refine zg_sld C hX (by omega) dL_law_434 (xs ((6 * i) + 3)) (rfl) ?_
        refine zg_callr (As := [.int (xs ((6 * i) + 1)), .int (xs ((6 * i) + 2)), .int (xs ((6 * i) + 3))]) (st := [.int (zA ln (zin (xs ((6 * i) + 1)) (2 ^ ln) ∧ zin (xs ((6 * i) + 2)) (2 ^ ln) ∧ zin (xs ((6 * i) + 3)) 3) (zplain R rc ln (zn (xs ((6 * i) + 1))) (zn (xs ((6 * i) + 2))) (xs ((6 * i) + 3))))]) C [12, 13, 14, 15, 16, 17, 18] 12 3 (c_X6_plain l D cI q8 mp mo mv mn my ml pg Of V Nf Yf Lm pn rc ln rkm sum rdm sd bs bp sr y1 y2 y3 dz hh R (xs ((6 * i) + 1)) (xs ((6 * i) + 2)) (xs ((6 * i) + 3)) hM hln hrc hrl) gL_law_X6_plain (by decide +kernel) rfl ⟨rfl, rfl⟩ ⟨Nat.le_of_ble_eq_true rfl, Nat.le_of_ble_eq_true rfl⟩ rfl (ci := 6) rfl rfl rfl rfl (Nat.le_of_ble_eq_true rfl) ⟨Nat.le_of_ble_eq_true rfl, Nat.le_of_ble_eq_true rfl⟩ dL_law_435 ?_
        refine zg_icmp_eq C 658 dL_law_438 (by decide) (fun c_438 => ?_) (fun c_438 => by exact absurd rfl c_438)
        refine zg_iinc C 3 [1, 2, 3, 0] (lv' := [(0, .ref b), (1, .ref q0), (2, .ref q8), (3, .int (nI (6 * (i + 1))))]) (nI (6 * (i + 1))) dL_law_658 rfl (zi_6 i) (by decide) rfl ?_
        refine zg_goto C 18 dL_law_661 (by decide) ?_
        exact zg_cv (lv' := [(0, .ref b), (1, .ref q0), (2, .ref q8), (3, .int (nI (6 * (i + 1))))]) (rfl) rfl (rfl) (ih_18 (by omega) pg pn x1 x2 x3 Qf Rf Lf Wf rc ln rk ds su rd V bs bp sr sd R Of Nf Yf Lm rkm sum rdm y1 y2 y3 dz hh (hpn) (hln) (hrc) (hrl) (hS) (hM))
      · skip
        refine zg_tabIn (off := 410) C 443 dL_law_33 (by rw [show (nI 13).toInt = 13 from by decide]; decide) (by rw [show (nI 13).toInt = 13 from by decide]; decide) (by rw [show (nI 13).toInt = 13 from by decide]; rfl) (by decide) ?_
        refine zg_aload_n C 1 dL_law_443 rfl ?_
        refine zg_aload_n C 0 dL_law_444 rfl ?_
        refine zg_iload_n C 3 dL_law_445 rfl ?_
        refine zg_iconst (v := nI 1) C dL_law_446 (by decide) ?_
        refine zg_iadd C dL_law_447 (nI ((6 * i) + 1)) (nI_add _ _) ?_
        refine zg_sld C hX (by omega) dL_law_448 (xs ((6 * i) + 1)) (rfl) ?_
        refine zg_aload_n C 0 dL_law_449 rfl ?_
        refine zg_iload_n C 3 dL_law_450 rfl ?_
        refine zg_iconst (v := nI 2) C dL_law_451 (by decide) ?_
        refine zg_iadd C dL_law_452 (nI ((6 * i) + 2)) (nI_add _ _) ?_
        refine zg_sld C hX (by omega) dL_law_453 (xs ((6 * i) + 2)) (rfl) ?_
        refine zg_aload_n C 0 dL_law_454 rfl ?_
        refine zg_iload_n C 3 dL_law_455 rfl ?_
        refine zg_iconst (v := nI 3) C dL_law_456 (by decide) ?_
        refine zg_iadd C dL_law_457 (nI ((6 * i) + 3)) (nI_add _ _) ?_
        refine zg_sld C hX (by omega) dL_law_458 (xs ((6 * i) + 3)) (rfl) ?_
        refine zg_callr (As := [.int (xs ((6 * i) + 1)), .int (xs ((6 * i) + 2)), .int (xs ((6 * i) + 3))]) (st := []) C [0, 1, 2, 3, 4, 5, 6, 7, 8, 9, 10, 11] 0 3 (c_X5_share l D cI q0 p0 g0 r0 b0 h0 a0 a1 a2 t0 v0 d0 pg pn x1 x2 x3 Qf Rf Lf Wf rc ln rk ds su rd V bs bp sr sd R (xs ((6 * i) + 1)) (xs ((6 * i) + 2)) (xs ((6 * i) + 3)) hS hln) gL_law_X5_share (by decide +kernel) rfl ⟨rfl, rfl⟩ ⟨Nat.le_of_ble_eq_true rfl, Nat.le_of_ble_eq_true rfl⟩ rfl (ci := 5) rfl rfl rfl rfl (Nat.le_of_ble_eq_true rfl) ⟨Nat.le_of_ble_eq_true rfl, Nat.le_of_ble_eq_true rfl⟩ dL_law_459 ?_
        refine zg_aload_n C 2 dL_law_462 rfl ?_
        refine zg_aload_n C 0 dL_law_463 rfl ?_
        refine zg_iload_n C 3 dL_law_464 rfl ?_
        refine zg_iconst (v := nI 1) C dL_law_465 (by decide) ?_
        refine zg_iadd C dL_law_466 (nI ((6 * i) + 1)) (nI_add _ _) ?_
        refine zg_sld C hX (by omega) dL_law_467 (xs ((6 * i) + 1)) (rfl) ?_
        refine zg_aload_n C 0 dL_law_468 rfl ?_
        refine zg_iload_n C 3 dL_law_469 rfl ?_
        refine zg_iconst (v := nI 2) C dL_law_470 (by decide) ?_
        refine zg_iadd C dL_law_471 (nI ((6 * i) + 2)) (nI_add _ _) ?_
        refine zg_sld C hX (by omega) dL_law_472 (xs ((6 * i) + 2)) (rfl) ?_
        refine zg_aload_n C 0 dL_law_473 rfl ?_
        refine zg_iload_n C 3 dL_law_474 rfl ?_
        refine zg_iconst (v := nI 3) C dL_law_475 (by decide) ?_
        refine zg_iadd C dL_law_476 (nI ((6 * i) + 3)) (nI_add _ _) ?_
        refine zg_sld C hX (by omega) dL_law_477 (xs ((6 * i) + 3)) (rfl) ?_
        refine zg_callr (As := [.int (xs ((6 * i) + 1)), .int (xs ((6 * i) + 2)), .int (xs ((6 * i) + 3))]) (st := [.int (zA ln ((zin (xs ((6 * i) + 1)) (2 ^ ln) ∧ zin (xs ((6 * i) + 2)) (2 ^ ln) ∧ (xs ((6 * i) + 1)) &&& (xs ((6 * i) + 2)) = 0) ∧ zin (xs ((6 * i) + 3)) 2) (zshare R rc ln (zn (xs ((6 * i) + 1))) (zn (xs ((6 * i) + 2))) (xs ((6 * i) + 3))))]) C [12, 13, 14, 15, 16, 17, 18] 12 3 (c_X6_share l D cI q8 mp mo mv mn my ml pg Of V Nf Yf Lm pn rc ln rkm sum rdm sd bs bp sr y1 y2 y3 dz hh R (xs ((6 * i) + 1)) (xs ((6 * i) + 2)) (xs ((6 * i) + 3)) hM hln hrc hrl) gL_law_X6_share (by decide +kernel) rfl ⟨rfl, rfl⟩ ⟨Nat.le_of_ble_eq_true rfl, Nat.le_of_ble_eq_true rfl⟩ rfl (ci := 6) rfl rfl rfl rfl (Nat.le_of_ble_eq_true rfl) ⟨Nat.le_of_ble_eq_true rfl, Nat.le_of_ble_eq_true rfl⟩ dL_law_478 ?_
        refine zg_icmp_eq C 658 dL_law_481 (by decide) (fun c_481 => ?_) (fun c_481 => by exact absurd rfl c_481)
        refine zg_iinc C 3 [1, 2, 3, 0] (lv' := [(0, .ref b), (1, .ref q0), (2, .ref q8), (3, .int (nI (6 * (i + 1))))]) (nI (6 * (i + 1))) dL_law_658 rfl (zi_6 i) (by decide) rfl ?_
        refine zg_goto C 18 dL_law_661 (by decide) ?_
        exact zg_cv (lv' := [(0, .ref b), (1, .ref q0), (2, .ref q8), (3, .int (nI (6 * (i + 1))))]) (rfl) rfl (rfl) (ih_18 (by omega) pg pn x1 x2 x3 Qf Rf Lf Wf rc ln rk ds su rd V bs bp sr sd R Of Nf Yf Lm rkm sum rdm y1 y2 y3 dz hh (hpn) (hln) (hrc) (hrl) (hS) (hM))
      · skip
        refine zg_tabIn (off := 453) C 486 dL_law_33 (by rw [show (nI 14).toInt = 14 from by decide]; decide) (by rw [show (nI 14).toInt = 14 from by decide]; decide) (by rw [show (nI 14).toInt = 14 from by decide]; rfl) (by decide) ?_
        refine zg_aload_n C 1 dL_law_486 rfl ?_
        refine zg_aload_n C 0 dL_law_487 rfl ?_
        refine zg_iload_n C 3 dL_law_488 rfl ?_
        refine zg_iconst (v := nI 1) C dL_law_489 (by decide) ?_
        refine zg_iadd C dL_law_490 (nI ((6 * i) + 1)) (nI_add _ _) ?_
        refine zg_sld C hX (by omega) dL_law_491 (xs ((6 * i) + 1)) (rfl) ?_
        refine zg_aload_n C 0 dL_law_492 rfl ?_
        refine zg_iload_n C 3 dL_law_493 rfl ?_
        refine zg_iconst (v := nI 2) C dL_law_494 (by decide) ?_
        refine zg_iadd C dL_law_495 (nI ((6 * i) + 2)) (nI_add _ _) ?_
        refine zg_sld C hX (by omega) dL_law_496 (xs ((6 * i) + 2)) (rfl) ?_
        refine zg_aload_n C 0 dL_law_497 rfl ?_
        refine zg_iload_n C 3 dL_law_498 rfl ?_
        refine zg_iconst (v := nI 3) C dL_law_499 (by decide) ?_
        refine zg_iadd C dL_law_500 (nI ((6 * i) + 3)) (nI_add _ _) ?_
        refine zg_sld C hX (by omega) dL_law_501 (xs ((6 * i) + 3)) (rfl) ?_
        refine zg_aload_n C 0 dL_law_502 rfl ?_
        refine zg_iload_n C 3 dL_law_503 rfl ?_
        refine zg_iconst (v := nI 4) C dL_law_504 (by decide) ?_
        refine zg_iadd C dL_law_505 (nI ((6 * i) + 4)) (nI_add _ _) ?_
        refine zg_sld C hX (by omega) dL_law_506 (xs ((6 * i) + 4)) (rfl) ?_
        refine zg_aload_n C 0 dL_law_507 rfl ?_
        refine zg_iload_n C 3 dL_law_508 rfl ?_
        refine zg_iconst (v := nI 5) C dL_law_509 (by decide) ?_
        refine zg_iadd C dL_law_510 (nI ((6 * i) + 5)) (nI_add _ _) ?_
        refine zg_sld C hX (by omega) dL_law_511 (xs ((6 * i) + 5)) (rfl) ?_
        refine zg_if_eq C 519 dL_law_512 (by decide) (fun c_512 => ?_) (fun c_512 => ?_)
        · skip
          refine zg_iconst (v := nI 0) C dL_law_519 (by decide) ?_
          refine zg_callr (As := [.int (xs ((6 * i) + 1)), .int (xs ((6 * i) + 2)), .int (xs ((6 * i) + 3)), .int (xs ((6 * i) + 4)), .int (nI 0)]) (st := []) C [0, 1, 2, 3, 4, 5, 6, 7, 8, 9, 10, 11] 0 5 (c_X5_shared l D cI q0 p0 g0 r0 b0 h0 a0 a1 a2 t0 v0 d0 pg pn x1 x2 x3 Qf Rf Lf Wf rc ln rk ds su rd V bs bp sr sd R (xs ((6 * i) + 1)) (xs ((6 * i) + 2)) (xs ((6 * i) + 3)) (xs ((6 * i) + 4)) (nI 0) hS hln) gL_law_X5_shared (by decide +kernel) rfl ⟨rfl, rfl⟩ ⟨Nat.le_of_ble_eq_true rfl, Nat.le_of_ble_eq_true rfl⟩ rfl (ci := 5) rfl rfl rfl rfl (Nat.le_of_ble_eq_true rfl) ⟨Nat.le_of_ble_eq_true rfl, Nat.le_of_ble_eq_true rfl⟩ dL_law_520 ?_
          refine zg_aload_n C 2 dL_law_523 rfl ?_
          refine zg_aload_n C 0 dL_law_524 rfl ?_
          refine zg_iload_n C 3 dL_law_525 rfl ?_
          refine zg_iconst (v := nI 1) C dL_law_526 (by decide) ?_
          refine zg_iadd C dL_law_527 (nI ((6 * i) + 1)) (nI_add _ _) ?_
          refine zg_sld C hX (by omega) dL_law_528 (xs ((6 * i) + 1)) (rfl) ?_
          refine zg_aload_n C 0 dL_law_529 rfl ?_
          refine zg_iload_n C 3 dL_law_530 rfl ?_
          refine zg_iconst (v := nI 2) C dL_law_531 (by decide) ?_
          refine zg_iadd C dL_law_532 (nI ((6 * i) + 2)) (nI_add _ _) ?_
          refine zg_sld C hX (by omega) dL_law_533 (xs ((6 * i) + 2)) (rfl) ?_
          refine zg_aload_n C 0 dL_law_534 rfl ?_
          refine zg_iload_n C 3 dL_law_535 rfl ?_
          refine zg_iconst (v := nI 3) C dL_law_536 (by decide) ?_
          refine zg_iadd C dL_law_537 (nI ((6 * i) + 3)) (nI_add _ _) ?_
          refine zg_sld C hX (by omega) dL_law_538 (xs ((6 * i) + 3)) (rfl) ?_
          refine zg_aload_n C 0 dL_law_539 rfl ?_
          refine zg_iload_n C 3 dL_law_540 rfl ?_
          refine zg_iconst (v := nI 4) C dL_law_541 (by decide) ?_
          refine zg_iadd C dL_law_542 (nI ((6 * i) + 4)) (nI_add _ _) ?_
          refine zg_sld C hX (by omega) dL_law_543 (xs ((6 * i) + 4)) (rfl) ?_
          refine zg_aload_n C 0 dL_law_544 rfl ?_
          refine zg_iload_n C 3 dL_law_545 rfl ?_
          refine zg_iconst (v := nI 5) C dL_law_546 (by decide) ?_
          refine zg_iadd C dL_law_547 (nI ((6 * i) + 5)) (nI_add _ _) ?_
          refine zg_sld C hX (by omega) dL_law_548 (xs ((6 * i) + 5)) (rfl) ?_
          refine zg_if_eq C 556 dL_law_549 (by decide) (fun c_549 => ?_) (fun c_549 => by exact absurd c_512 c_549)
          refine zg_iconst (v := nI 0) C dL_law_556 (by decide) ?_
          refine zg_callr (As := [.int (xs ((6 * i) + 1)), .int (xs ((6 * i) + 2)), .int (xs ((6 * i) + 3)), .int (xs ((6 * i) + 4)), .int (nI 0)]) (st := [.int (zA ln ((zin (xs ((6 * i) + 1)) (2 ^ ln) ∧ zin (xs ((6 * i) + 2)) (2 ^ ln) ∧ (xs ((6 * i) + 1)) &&& (xs ((6 * i) + 2)) = 0) ∧ zin (xs ((6 * i) + 3)) (2 ^ ln) ∧ zin (xs ((6 * i) + 4)) (2 ^ ln)) (zshrd R rc ln (zn (xs ((6 * i) + 1))) (zn (xs ((6 * i) + 2))) (zn (xs ((6 * i) + 3))) (zn (xs ((6 * i) + 4))) (nI 0)))]) C [12, 13, 14, 15, 16, 17, 18] 12 5 (c_X6_shared l D cI q8 mp mo mv mn my ml pg Of V Nf Yf Lm pn rc ln rkm sum rdm sd bs bp sr y1 y2 y3 dz hh R (xs ((6 * i) + 1)) (xs ((6 * i) + 2)) (xs ((6 * i) + 3)) (xs ((6 * i) + 4)) (nI 0) hM hln hrc hrl) gL_law_X6_shared (by decide +kernel) rfl ⟨rfl, rfl⟩ ⟨Nat.le_of_ble_eq_true rfl, Nat.le_of_ble_eq_true rfl⟩ rfl (ci := 6) rfl rfl rfl rfl (Nat.le_of_ble_eq_true rfl) ⟨Nat.le_of_ble_eq_true rfl, Nat.le_of_ble_eq_true rfl⟩ dL_law_557 ?_
          refine zg_icmp_eq C 658 dL_law_560 (by decide) (fun c_560 => ?_) (fun c_560 => by exact absurd rfl c_560)
          refine zg_iinc C 3 [1, 2, 3, 0] (lv' := [(0, .ref b), (1, .ref q0), (2, .ref q8), (3, .int (nI (6 * (i + 1))))]) (nI (6 * (i + 1))) dL_law_658 rfl (zi_6 i) (by decide) rfl ?_
          refine zg_goto C 18 dL_law_661 (by decide) ?_
          exact zg_cv (lv' := [(0, .ref b), (1, .ref q0), (2, .ref q8), (3, .int (nI (6 * (i + 1))))]) (rfl) rfl (rfl) (ih_18 (by omega) pg pn x1 x2 x3 Qf Rf Lf Wf rc ln rk ds su rd V bs bp sr sd R Of Nf Yf Lm rkm sum rdm y1 y2 y3 dz hh (hpn) (hln) (hrc) (hrl) (hS) (hM))
        · skip
          refine zg_iconst (v := nI 1) C dL_law_515 (by decide) ?_
          refine zg_goto C 520 dL_law_516 (by decide) ?_
          refine zg_callr (As := [.int (xs ((6 * i) + 1)), .int (xs ((6 * i) + 2)), .int (xs ((6 * i) + 3)), .int (xs ((6 * i) + 4)), .int (nI 1)]) (st := []) C [0, 1, 2, 3, 4, 5, 6, 7, 8, 9, 10, 11] 0 5 (c_X5_shared l D cI q0 p0 g0 r0 b0 h0 a0 a1 a2 t0 v0 d0 pg pn x1 x2 x3 Qf Rf Lf Wf rc ln rk ds su rd V bs bp sr sd R (xs ((6 * i) + 1)) (xs ((6 * i) + 2)) (xs ((6 * i) + 3)) (xs ((6 * i) + 4)) (nI 1) hS hln) gL_law_X5_shared (by decide +kernel) rfl ⟨rfl, rfl⟩ ⟨Nat.le_of_ble_eq_true rfl, Nat.le_of_ble_eq_true rfl⟩ rfl (ci := 5) rfl rfl rfl rfl (Nat.le_of_ble_eq_true rfl) ⟨Nat.le_of_ble_eq_true rfl, Nat.le_of_ble_eq_true rfl⟩ dL_law_520 ?_
          refine zg_aload_n C 2 dL_law_523 rfl ?_
          refine zg_aload_n C 0 dL_law_524 rfl ?_
          refine zg_iload_n C 3 dL_law_525 rfl ?_
          refine zg_iconst (v := nI 1) C dL_law_526 (by decide) ?_
          refine zg_iadd C dL_law_527 (nI ((6 * i) + 1)) (nI_add _ _) ?_
          refine zg_sld C hX (by omega) dL_law_528 (xs ((6 * i) + 1)) (rfl) ?_
          refine zg_aload_n C 0 dL_law_529 rfl ?_
          refine zg_iload_n C 3 dL_law_530 rfl ?_
          refine zg_iconst (v := nI 2) C dL_law_531 (by decide) ?_
          refine zg_iadd C dL_law_532 (nI ((6 * i) + 2)) (nI_add _ _) ?_
          refine zg_sld C hX (by omega) dL_law_533 (xs ((6 * i) + 2)) (rfl) ?_
          refine zg_aload_n C 0 dL_law_534 rfl ?_
          refine zg_iload_n C 3 dL_law_535 rfl ?_
          refine zg_iconst (v := nI 3) C dL_law_536 (by decide) ?_
          refine zg_iadd C dL_law_537 (nI ((6 * i) + 3)) (nI_add _ _) ?_
          refine zg_sld C hX (by omega) dL_law_538 (xs ((6 * i) + 3)) (rfl) ?_
          refine zg_aload_n C 0 dL_law_539 rfl ?_
          refine zg_iload_n C 3 dL_law_540 rfl ?_
          refine zg_iconst (v := nI 4) C dL_law_541 (by decide) ?_
          refine zg_iadd C dL_law_542 (nI ((6 * i) + 4)) (nI_add _ _) ?_
          refine zg_sld C hX (by omega) dL_law_543 (xs ((6 * i) + 4)) (rfl) ?_
          refine zg_aload_n C 0 dL_law_544 rfl ?_
          refine zg_iload_n C 3 dL_law_545 rfl ?_
          refine zg_iconst (v := nI 5) C dL_law_546 (by decide) ?_
          refine zg_iadd C dL_law_547 (nI ((6 * i) + 5)) (nI_add _ _) ?_
          refine zg_sld C hX (by omega) dL_law_548 (xs ((6 * i) + 5)) (rfl) ?_
          refine zg_if_eq C 556 dL_law_549 (by decide) (fun c_549 => by exact absurd c_549 c_512) (fun c_549 => ?_)
          refine zg_iconst (v := nI 1) C dL_law_552 (by decide) ?_
          refine zg_goto C 557 dL_law_553 (by decide) ?_
          refine zg_callr (As := [.int (xs ((6 * i) + 1)), .int (xs ((6 * i) + 2)), .int (xs ((6 * i) + 3)), .int (xs ((6 * i) + 4)), .int (nI 1)]) (st := [.int (zA ln ((zin (xs ((6 * i) + 1)) (2 ^ ln) ∧ zin (xs ((6 * i) + 2)) (2 ^ ln) ∧ (xs ((6 * i) + 1)) &&& (xs ((6 * i) + 2)) = 0) ∧ zin (xs ((6 * i) + 3)) (2 ^ ln) ∧ zin (xs ((6 * i) + 4)) (2 ^ ln)) (zshrd R rc ln (zn (xs ((6 * i) + 1))) (zn (xs ((6 * i) + 2))) (zn (xs ((6 * i) + 3))) (zn (xs ((6 * i) + 4))) (nI 1)))]) C [12, 13, 14, 15, 16, 17, 18] 12 5 (c_X6_shared l D cI q8 mp mo mv mn my ml pg Of V Nf Yf Lm pn rc ln rkm sum rdm sd bs bp sr y1 y2 y3 dz hh R (xs ((6 * i) + 1)) (xs ((6 * i) + 2)) (xs ((6 * i) + 3)) (xs ((6 * i) + 4)) (nI 1) hM hln hrc hrl) gL_law_X6_shared (by decide +kernel) rfl ⟨rfl, rfl⟩ ⟨Nat.le_of_ble_eq_true rfl, Nat.le_of_ble_eq_true rfl⟩ rfl (ci := 6) rfl rfl rfl rfl (Nat.le_of_ble_eq_true rfl) ⟨Nat.le_of_ble_eq_true rfl, Nat.le_of_ble_eq_true rfl⟩ dL_law_557 ?_
          refine zg_icmp_eq C 658 dL_law_560 (by decide) (fun c_560 => ?_) (fun c_560 => by exact absurd rfl c_560)
          refine zg_iinc C 3 [1, 2, 3, 0] (lv' := [(0, .ref b), (1, .ref q0), (2, .ref q8), (3, .int (nI (6 * (i + 1))))]) (nI (6 * (i + 1))) dL_law_658 rfl (zi_6 i) (by decide) rfl ?_
          refine zg_goto C 18 dL_law_661 (by decide) ?_
          exact zg_cv (lv' := [(0, .ref b), (1, .ref q0), (2, .ref q8), (3, .int (nI (6 * (i + 1))))]) (rfl) rfl (rfl) (ih_18 (by omega) pg pn x1 x2 x3 Qf Rf Lf Wf rc ln rk ds su rd V bs bp sr sd R Of Nf Yf Lm rkm sum rdm y1 y2 y3 dz hh (hpn) (hln) (hrc) (hrl) (hS) (hM))
      · skip
        refine zg_tabIn (off := 532) C 565 dL_law_33 (by rw [show (nI 15).toInt = 15 from by decide]; decide) (by rw [show (nI 15).toInt = 15 from by decide]; decide) (by rw [show (nI 15).toInt = 15 from by decide]; rfl) (by decide) ?_
        rcases Classical.em (0 < ln ∧ ¬ xs (6 * i + 1) < 0 ∧ ¬ xs (6 * i + 2) < nI 1 ∧ ¬ nI 50 < xs (6 * i + 2) ∧ ¬ xs (6 * i + 3) < 0 ∧ xs (6 * i + 3) ≤ nI 16) with hok | hno
        · obtain ⟨u, hu, eu⟩ := nI_of hok.2.1
          obtain ⟨w, hw1, hw2, ew⟩ := zrun_m hok.2.2.1 hok.2.2.2.1
          refine zg_aload_n C 1 dL_law_565 rfl ?_
          refine zg_aload_n C 0 dL_law_566 rfl ?_
          refine zg_iload_n C 3 dL_law_567 rfl ?_
          refine zg_iconst (v := nI 1) C dL_law_568 (by decide) ?_
          refine zg_iadd C dL_law_569 (nI ((6 * i) + 1)) (nI_add _ _) ?_
          refine zg_sld C hX (by omega) dL_law_570 (nI u) (eu) ?_
          refine zg_aload_n C 0 dL_law_571 rfl ?_
          refine zg_iload_n C 3 dL_law_572 rfl ?_
          refine zg_iconst (v := nI 2) C dL_law_573 (by decide) ?_
          refine zg_iadd C dL_law_574 (nI ((6 * i) + 2)) (nI_add _ _) ?_
          refine zg_sld C hX (by omega) dL_law_575 (nI w) (ew) ?_
          refine zg_aload_n C 0 dL_law_576 rfl ?_
          refine zg_iload_n C 3 dL_law_577 rfl ?_
          refine zg_iconst (v := nI 3) C dL_law_578 (by decide) ?_
          refine zg_iadd C dL_law_579 (nI ((6 * i) + 3)) (nI_add _ _) ?_
          refine zg_sld C hX (by omega) dL_law_580 (xs ((6 * i) + 3)) (rfl) ?_
          refine zg_callw (As := [.int (nI u), .int (nI w), .int (xs ((6 * i) + 3))]) (st := []) (wo := [(q8, .inr (6, [.int (nI pn), .ref mp, .int (nI rc), .int (nI ln), .ref mo, .int sd, .ref mv, .int bs, .int bp, .int sr, .int y1, .int y2, .int y3, .ref mn, .ref my, .ref ml, .int (nI rkm), .int dz, .int (nI sum), .int (nI rdm), .long hh])), (mp, .inl (cI, 56, .inl pg)), (mo, .inl (cI, 5, .inl Of)), (mv, .inl (cI, 4, .inl V)), (mn, .inl (cI, 5, .inl Nf)), (my, .inl (cI, 1024, .inl Yf)), (ml, .inl (cI, 32, .inl Lm))]) C [0, 1, 2, 3, 4, 5, 6, 7, 8, 9, 10, 11] [12, 13, 14, 15, 16, 17, 18] 0 3 (c_X5_run l D cI q0 p0 g0 r0 b0 h0 a0 a1 a2 t0 v0 d0 pg pn x1 x2 x3 Qf Rf Lf Wf rc ln rk ds su rd V bs bp sr sd R u w (xs ((6 * i) + 3)) hS hln (hok.1) (hu) (hw1) (hw2) (hok.2.2.2.2.1) (hok.2.2.2.2.2)) gL_law_X5_run (by decide +kernel) rfl ⟨rfl, rfl⟩ ⟨Nat.le_of_ble_eq_true rfl, Nat.le_of_ble_eq_true rfl⟩ rfl rfl rfl rfl (by decide) (ci := 5) rfl rfl rfl rfl (Nat.le_of_ble_eq_true rfl) ⟨Nat.le_of_ble_eq_true rfl, Nat.le_of_ble_eq_true rfl⟩ dL_law_581 (fun v9 w9 hw9 => ?_)
          obtain ⟨rfl, rfl⟩ := hw9
          refine zg_cv (k' := 19) (n' := 1285) (st' := [.int (nI ((zrn R rc ln (xs ((6 * i) + 3)) u V bs bp w).2.2.2.2))]) (ws' := [(q8, .inr (6, [.int (nI pn), .ref mp, .int (nI rc), .int (nI ln), .ref mo, .int sd, .ref mv, .int bs, .int bp, .int sr, .int y1, .int y2, .int y3, .ref mn, .ref my, .ref ml, .int (nI rkm), .int dz, .int (nI sum), .int (nI rdm), .long hh])), (mp, .inl (cI, 56, .inl pg)), (mo, .inl (cI, 5, .inl Of)), (mv, .inl (cI, 4, .inl V)), (mn, .inl (cI, 5, .inl Nf)), (my, .inl (cI, 1024, .inl Yf)), (ml, .inl (cI, 32, .inl Lm)), (q0, .inr (5, [.ref p0, .ref r0, .ref h0, .ref t0, .ref d0])), (p0, .inr (1, [.ref g0, .int (nI pn)])), (g0, .inl (cI, 56, .inl pg)), (r0, .inr (2, [.ref b0, .int x1, .int x2, .int x3])), (b0, .inl (cI, 5, .inl Qf)), (h0, .inr (3, [.ref a0, .ref a1, .ref a2, .int (nI rc), .int (nI ln), .int (nI rk), .int (nI ds), .int (nI su), .int (nI rd)])), (a0, .inl (cI, 5, .inl Rf)), (a1, .inl (cI, 32, .inl Lf)), (a2, .inl (cI, 11, .inl Wf)), (t0, .inr (4, [.ref v0, .int ((zrn R rc ln (xs ((6 * i) + 3)) u V bs bp w).2.2.1), .int ((zrn R rc ln (xs ((6 * i) + 3)) u V bs bp w).2.2.2.1), .int sr])), (v0, .inl (cI, 4, .inl ((zrn R rc ln (xs ((6 * i) + 3)) u V bs bp w).2.1))), (d0, .inr (0, [.int (nI ((zrn R rc ln (xs ((6 * i) + 3)) u V bs bp w).1))]))]) rfl rfl rfl ?_
          refine zg_perm [7, 8, 9, 10, 11, 12, 13, 14, 15, 16, 17, 18, 0, 1, 2, 3, 4, 5, 6] (ws' := [(q0, .inr (5, [.ref p0, .ref r0, .ref h0, .ref t0, .ref d0])), (p0, .inr (1, [.ref g0, .int (nI pn)])), (g0, .inl (cI, 56, .inl pg)), (r0, .inr (2, [.ref b0, .int x1, .int x2, .int x3])), (b0, .inl (cI, 5, .inl Qf)), (h0, .inr (3, [.ref a0, .ref a1, .ref a2, .int (nI rc), .int (nI ln), .int (nI rk), .int (nI ds), .int (nI su), .int (nI rd)])), (a0, .inl (cI, 5, .inl Rf)), (a1, .inl (cI, 32, .inl Lf)), (a2, .inl (cI, 11, .inl Wf)), (t0, .inr (4, [.ref v0, .int ((zrn R rc ln (xs ((6 * i) + 3)) u V bs bp w).2.2.1), .int ((zrn R rc ln (xs ((6 * i) + 3)) u V bs bp w).2.2.2.1), .int sr])), (v0, .inl (cI, 4, .inl ((zrn R rc ln (xs ((6 * i) + 3)) u V bs bp w).2.1))), (d0, .inr (0, [.int (nI ((zrn R rc ln (xs ((6 * i) + 3)) u V bs bp w).1))])), (q8, .inr (6, [.int (nI pn), .ref mp, .int (nI rc), .int (nI ln), .ref mo, .int sd, .ref mv, .int bs, .int bp, .int sr, .int y1, .int y2, .int y3, .ref mn, .ref my, .ref ml, .int (nI rkm), .int dz, .int (nI sum), .int (nI rdm), .long hh])), (mp, .inl (cI, 56, .inl pg)), (mo, .inl (cI, 5, .inl Of)), (mv, .inl (cI, 4, .inl V)), (mn, .inl (cI, 5, .inl Nf)), (my, .inl (cI, 1024, .inl Yf)), (ml, .inl (cI, 32, .inl Lm))]) rfl rfl ?_
          refine zg_aload_n C 2 dL_law_584 rfl ?_
          refine zg_aload_n C 0 dL_law_585 rfl ?_
          refine zg_iload_n C 3 dL_law_586 rfl ?_
          refine zg_iconst (v := nI 1) C dL_law_587 (by decide) ?_
          refine zg_iadd C dL_law_588 (nI ((6 * i) + 1)) (nI_add _ _) ?_
          refine zg_sld C hX (by omega) dL_law_589 (nI u) (eu) ?_
          refine zg_aload_n C 0 dL_law_590 rfl ?_
          refine zg_iload_n C 3 dL_law_591 rfl ?_
          refine zg_iconst (v := nI 2) C dL_law_592 (by decide) ?_
          refine zg_iadd C dL_law_593 (nI ((6 * i) + 2)) (nI_add _ _) ?_
          refine zg_sld C hX (by omega) dL_law_594 (nI w) (ew) ?_
          refine zg_aload_n C 0 dL_law_595 rfl ?_
          refine zg_iload_n C 3 dL_law_596 rfl ?_
          refine zg_iconst (v := nI 3) C dL_law_597 (by decide) ?_
          refine zg_iadd C dL_law_598 (nI ((6 * i) + 3)) (nI_add _ _) ?_
          refine zg_sld C hX (by omega) dL_law_599 (xs ((6 * i) + 3)) (rfl) ?_
          refine zg_callw (As := [.int (nI u), .int (nI w), .int (xs ((6 * i) + 3))]) (st := [.int (nI ((zrn R rc ln (xs ((6 * i) + 3)) u V bs bp w).2.2.2.2))]) (wo := [(q0, .inr (5, [.ref p0, .ref r0, .ref h0, .ref t0, .ref d0])), (p0, .inr (1, [.ref g0, .int (nI pn)])), (g0, .inl (cI, 56, .inl pg)), (r0, .inr (2, [.ref b0, .int x1, .int x2, .int x3])), (b0, .inl (cI, 5, .inl Qf)), (h0, .inr (3, [.ref a0, .ref a1, .ref a2, .int (nI rc), .int (nI ln), .int (nI rk), .int (nI ds), .int (nI su), .int (nI rd)])), (a0, .inl (cI, 5, .inl Rf)), (a1, .inl (cI, 32, .inl Lf)), (a2, .inl (cI, 11, .inl Wf)), (t0, .inr (4, [.ref v0, .int ((zrn R rc ln (xs ((6 * i) + 3)) u V bs bp w).2.2.1), .int ((zrn R rc ln (xs ((6 * i) + 3)) u V bs bp w).2.2.2.1), .int sr])), (v0, .inl (cI, 4, .inl ((zrn R rc ln (xs ((6 * i) + 3)) u V bs bp w).2.1))), (d0, .inr (0, [.int (nI ((zrn R rc ln (xs ((6 * i) + 3)) u V bs bp w).1))]))]) C [12, 13, 14, 15, 16, 17, 18] [0, 1, 2, 3, 4, 5, 6, 7, 8, 9, 10, 11] 12 3 (c_X6_run l D cI q8 mp mo mv mn my ml pg Of V Nf Yf Lm pn rc ln rkm sum rdm sd bs bp sr y1 y2 y3 dz hh R u w (xs ((6 * i) + 3)) hM hln hrc hrl (hok.1) (hu) (hw1) (hw2) (hok.2.2.2.2.1) (hok.2.2.2.2.2)) gL_law_X6_run (by decide +kernel) rfl ⟨rfl, rfl⟩ ⟨Nat.le_of_ble_eq_true rfl, Nat.le_of_ble_eq_true rfl⟩ rfl rfl rfl rfl (by decide) (ci := 6) rfl rfl rfl rfl (Nat.le_of_ble_eq_true rfl) ⟨Nat.le_of_ble_eq_true rfl, Nat.le_of_ble_eq_true rfl⟩ dL_law_600 (fun v9 w9 hw9 => ?_)
          obtain ⟨rfl, rfl⟩ := hw9
          refine zg_cv (k' := 19) (n' := 1285) (st' := [.int (nI ((zrn R rc ln (xs ((6 * i) + 3)) u V bs bp w).2.2.2.2)), .int (nI ((zrn R rc ln (xs ((6 * i) + 3)) u V bs bp w).2.2.2.2))]) (ws' := [(q0, .inr (5, [.ref p0, .ref r0, .ref h0, .ref t0, .ref d0])), (p0, .inr (1, [.ref g0, .int (nI pn)])), (g0, .inl (cI, 56, .inl pg)), (r0, .inr (2, [.ref b0, .int x1, .int x2, .int x3])), (b0, .inl (cI, 5, .inl Qf)), (h0, .inr (3, [.ref a0, .ref a1, .ref a2, .int (nI rc), .int (nI ln), .int (nI rk), .int (nI ds), .int (nI su), .int (nI rd)])), (a0, .inl (cI, 5, .inl Rf)), (a1, .inl (cI, 32, .inl Lf)), (a2, .inl (cI, 11, .inl Wf)), (t0, .inr (4, [.ref v0, .int ((zrn R rc ln (xs ((6 * i) + 3)) u V bs bp w).2.2.1), .int ((zrn R rc ln (xs ((6 * i) + 3)) u V bs bp w).2.2.2.1), .int sr])), (v0, .inl (cI, 4, .inl ((zrn R rc ln (xs ((6 * i) + 3)) u V bs bp w).2.1))), (d0, .inr (0, [.int (nI ((zrn R rc ln (xs ((6 * i) + 3)) u V bs bp w).1))])), (q8, .inr (6, [.int (nI pn), .ref mp, .int (nI rc), .int (nI ln), .ref mo, .int (nI ((zrn R rc ln (xs ((6 * i) + 3)) u V bs bp w).1)), .ref mv, .int ((zrn R rc ln (xs ((6 * i) + 3)) u V bs bp w).2.2.1), .int ((zrn R rc ln (xs ((6 * i) + 3)) u V bs bp w).2.2.2.1), .int sr, .int y1, .int y2, .int y3, .ref mn, .ref my, .ref ml, .int (nI rkm), .int dz, .int (nI sum), .int (nI rdm), .long hh])), (mp, .inl (cI, 56, .inl pg)), (mo, .inl (cI, 5, .inl Of)), (mv, .inl (cI, 4, .inl ((zrn R rc ln (xs ((6 * i) + 3)) u V bs bp w).2.1))), (mn, .inl (cI, 5, .inl Nf)), (my, .inl (cI, 1024, .inl Yf)), (ml, .inl (cI, 32, .inl Lm))]) rfl rfl rfl ?_
          refine zg_icmp_eq C 658 dL_law_603 (by decide) (fun c_603 => ?_) (fun c_603 => by exact absurd rfl c_603)
          refine zg_iinc C 3 [1, 2, 3, 0] (lv' := [(0, .ref b), (1, .ref q0), (2, .ref q8), (3, .int (nI (6 * (i + 1))))]) (nI (6 * (i + 1))) dL_law_658 rfl (zi_6 i) (by decide) rfl ?_
          refine zg_goto C 18 dL_law_661 (by decide) ?_
          exact zg_cv (lv' := [(0, .ref b), (1, .ref q0), (2, .ref q8), (3, .int (nI (6 * (i + 1))))]) (rfl) rfl (rfl) (ih_18 (by omega) pg pn x1 x2 x3 Qf Rf Lf Wf rc ln rk ds su rd ((zrn R rc ln (xs ((6 * i) + 3)) u V bs bp w).2.1) ((zrn R rc ln (xs ((6 * i) + 3)) u V bs bp w).2.2.1) ((zrn R rc ln (xs ((6 * i) + 3)) u V bs bp w).2.2.2.1) sr (nI ((zrn R rc ln (xs ((6 * i) + 3)) u V bs bp w).1)) R Of Nf Yf Lm rkm sum rdm y1 y2 y3 dz hh (hpn) (hln) (hrc) (hrl) (hS) (hM))
        · skip
          refine zg_aload_n C 1 dL_law_565 rfl ?_
          refine zg_aload_n C 0 dL_law_566 rfl ?_
          refine zg_iload_n C 3 dL_law_567 rfl ?_
          refine zg_iconst (v := nI 1) C dL_law_568 (by decide) ?_
          refine zg_iadd C dL_law_569 (nI ((6 * i) + 1)) (nI_add _ _) ?_
          refine zg_sld C hX (by omega) dL_law_570 (xs ((6 * i) + 1)) (rfl) ?_
          refine zg_aload_n C 0 dL_law_571 rfl ?_
          refine zg_iload_n C 3 dL_law_572 rfl ?_
          refine zg_iconst (v := nI 2) C dL_law_573 (by decide) ?_
          refine zg_iadd C dL_law_574 (nI ((6 * i) + 2)) (nI_add _ _) ?_
          refine zg_sld C hX (by omega) dL_law_575 (xs ((6 * i) + 2)) (rfl) ?_
          refine zg_aload_n C 0 dL_law_576 rfl ?_
          refine zg_iload_n C 3 dL_law_577 rfl ?_
          refine zg_iconst (v := nI 3) C dL_law_578 (by decide) ?_
          refine zg_iadd C dL_law_579 (nI ((6 * i) + 3)) (nI_add _ _) ?_
          refine zg_sld C hX (by omega) dL_law_580 (xs ((6 * i) + 3)) (rfl) ?_
          refine zg_callr (As := [.int (xs ((6 * i) + 1)), .int (xs ((6 * i) + 2)), .int (xs ((6 * i) + 3))]) (st := []) C [0, 1, 2, 3, 4, 5, 6, 7, 8, 9, 10, 11] 0 3 (c_X5_run_no l D cI q0 p0 g0 r0 b0 h0 a0 a1 a2 t0 v0 d0 pg pn x1 x2 x3 Qf Rf Lf Wf rc ln rk ds su rd V bs bp sr sd R (xs ((6 * i) + 1)) (xs ((6 * i) + 2)) (xs ((6 * i) + 3)) hln (hno)) gL_law_X5_run (by decide +kernel) rfl ⟨rfl, rfl⟩ ⟨Nat.le_of_ble_eq_true rfl, Nat.le_of_ble_eq_true rfl⟩ rfl (ci := 5) rfl rfl rfl rfl (Nat.le_of_ble_eq_true rfl) ⟨Nat.le_of_ble_eq_true rfl, Nat.le_of_ble_eq_true rfl⟩ dL_law_581 ?_
          refine zg_aload_n C 2 dL_law_584 rfl ?_
          refine zg_aload_n C 0 dL_law_585 rfl ?_
          refine zg_iload_n C 3 dL_law_586 rfl ?_
          refine zg_iconst (v := nI 1) C dL_law_587 (by decide) ?_
          refine zg_iadd C dL_law_588 (nI ((6 * i) + 1)) (nI_add _ _) ?_
          refine zg_sld C hX (by omega) dL_law_589 (xs ((6 * i) + 1)) (rfl) ?_
          refine zg_aload_n C 0 dL_law_590 rfl ?_
          refine zg_iload_n C 3 dL_law_591 rfl ?_
          refine zg_iconst (v := nI 2) C dL_law_592 (by decide) ?_
          refine zg_iadd C dL_law_593 (nI ((6 * i) + 2)) (nI_add _ _) ?_
          refine zg_sld C hX (by omega) dL_law_594 (xs ((6 * i) + 2)) (rfl) ?_
          refine zg_aload_n C 0 dL_law_595 rfl ?_
          refine zg_iload_n C 3 dL_law_596 rfl ?_
          refine zg_iconst (v := nI 3) C dL_law_597 (by decide) ?_
          refine zg_iadd C dL_law_598 (nI ((6 * i) + 3)) (nI_add _ _) ?_
          refine zg_sld C hX (by omega) dL_law_599 (xs ((6 * i) + 3)) (rfl) ?_
          refine zg_callr (As := [.int (xs ((6 * i) + 1)), .int (xs ((6 * i) + 2)), .int (xs ((6 * i) + 3))]) (st := [.int (if 0 < ln then -1002 else -1003)]) C [12, 13, 14, 15, 16, 17, 18] 12 3 (c_X6_run_no l D cI q8 mp mo mv mn my ml pg Of V Nf Yf Lm pn rc ln rkm sum rdm sd bs bp sr y1 y2 y3 dz hh R (xs ((6 * i) + 1)) (xs ((6 * i) + 2)) (xs ((6 * i) + 3)) hM hln hrc hrl (hno)) gL_law_X6_run (by decide +kernel) rfl ⟨rfl, rfl⟩ ⟨Nat.le_of_ble_eq_true rfl, Nat.le_of_ble_eq_true rfl⟩ rfl (ci := 6) rfl rfl rfl rfl (Nat.le_of_ble_eq_true rfl) ⟨Nat.le_of_ble_eq_true rfl, Nat.le_of_ble_eq_true rfl⟩ dL_law_600 ?_
          refine zg_icmp_eq C 658 dL_law_603 (by decide) (fun c_603 => ?_) (fun c_603 => by exact absurd rfl c_603)
          refine zg_iinc C 3 [1, 2, 3, 0] (lv' := [(0, .ref b), (1, .ref q0), (2, .ref q8), (3, .int (nI (6 * (i + 1))))]) (nI (6 * (i + 1))) dL_law_658 rfl (zi_6 i) (by decide) rfl ?_
          refine zg_goto C 18 dL_law_661 (by decide) ?_
          exact zg_cv (lv' := [(0, .ref b), (1, .ref q0), (2, .ref q8), (3, .int (nI (6 * (i + 1))))]) (rfl) rfl (rfl) (ih_18 (by omega) pg pn x1 x2 x3 Qf Rf Lf Wf rc ln rk ds su rd V bs bp sr sd R Of Nf Yf Lm rkm sum rdm y1 y2 y3 dz hh (hpn) (hln) (hrc) (hrl) (hS) (hM))
      · skip
        refine zg_tabIn (off := 575) C 608 dL_law_33 (by rw [show (nI 16).toInt = 16 from by decide]; decide) (by rw [show (nI 16).toInt = 16 from by decide]; decide) (by rw [show (nI 16).toInt = 16 from by decide]; rfl) (by decide) ?_
        refine zg_aload_n C 1 dL_law_608 rfl ?_
        refine zg_callr (As := []) (st := []) C [0, 1, 2, 3, 4, 5, 6, 7, 8, 9, 10, 11] 0 0 (c_X5_seed l D cI q0 p0 g0 r0 b0 h0 a0 a1 a2 t0 v0 d0 pg pn x1 x2 x3 Qf Rf Lf Wf rc ln rk ds su rd V bs bp sr sd R ) gL_law_X5_seed (by decide +kernel) rfl ⟨rfl, rfl⟩ ⟨Nat.le_of_ble_eq_true rfl, Nat.le_of_ble_eq_true rfl⟩ rfl (ci := 5) rfl rfl rfl rfl (Nat.le_of_ble_eq_true rfl) ⟨Nat.le_of_ble_eq_true rfl, Nat.le_of_ble_eq_true rfl⟩ dL_law_609 ?_
        refine zg_aload_n C 2 dL_law_612 rfl ?_
        refine zg_callr (As := []) (st := [.int sd]) C [12, 13, 14, 15, 16, 17, 18] 12 0 (c_X6_seed l D cI q8 mp mo mv mn my ml pg Of V Nf Yf Lm pn rc ln rkm sum rdm sd bs bp sr y1 y2 y3 dz hh ) gL_law_X6_seed (by decide +kernel) rfl ⟨rfl, rfl⟩ ⟨Nat.le_of_ble_eq_true rfl, Nat.le_of_ble_eq_true rfl⟩ rfl (ci := 6) rfl rfl rfl rfl (Nat.le_of_ble_eq_true rfl) ⟨Nat.le_of_ble_eq_true rfl, Nat.le_of_ble_eq_true rfl⟩ dL_law_613 ?_
        refine zg_icmp_eq C 658 dL_law_616 (by decide) (fun c_616 => ?_) (fun c_616 => by exact absurd rfl c_616)
        refine zg_iinc C 3 [1, 2, 3, 0] (lv' := [(0, .ref b), (1, .ref q0), (2, .ref q8), (3, .int (nI (6 * (i + 1))))]) (nI (6 * (i + 1))) dL_law_658 rfl (zi_6 i) (by decide) rfl ?_
        refine zg_goto C 18 dL_law_661 (by decide) ?_
        exact zg_cv (lv' := [(0, .ref b), (1, .ref q0), (2, .ref q8), (3, .int (nI (6 * (i + 1))))]) (rfl) rfl (rfl) (ih_18 (by omega) pg pn x1 x2 x3 Qf Rf Lf Wf rc ln rk ds su rd V bs bp sr sd R Of Nf Yf Lm rkm sum rdm y1 y2 y3 dz hh (hpn) (hln) (hrc) (hrl) (hS) (hM))
      · skip
        refine zg_tabIn (off := 588) C 621 dL_law_33 (by rw [show (nI 17).toInt = 17 from by decide]; decide) (by rw [show (nI 17).toInt = 17 from by decide]; decide) (by rw [show (nI 17).toInt = 17 from by decide]; rfl) (by decide) ?_
        refine zg_aload_n C 1 dL_law_621 rfl ?_
        refine zg_aload_n C 0 dL_law_622 rfl ?_
        refine zg_iload_n C 3 dL_law_623 rfl ?_
        refine zg_iconst (v := nI 1) C dL_law_624 (by decide) ?_
        refine zg_iadd C dL_law_625 (nI ((6 * i) + 1)) (nI_add _ _) ?_
        refine zg_sld C hX (by omega) dL_law_626 (xs ((6 * i) + 1)) (rfl) ?_
        refine zg_callr (As := [.int (xs ((6 * i) + 1))]) (st := []) C [0, 1, 2, 3, 4, 5, 6, 7, 8, 9, 10, 11] 0 1 (c_X5_count l D cI q0 p0 g0 r0 b0 h0 a0 a1 a2 t0 v0 d0 pg pn x1 x2 x3 Qf Rf Lf Wf rc ln rk ds su rd V bs bp sr sd R (xs ((6 * i) + 1)) ) gL_law_X5_count (by decide +kernel) rfl ⟨rfl, rfl⟩ ⟨Nat.le_of_ble_eq_true rfl, Nat.le_of_ble_eq_true rfl⟩ rfl (ci := 5) rfl rfl rfl rfl (Nat.le_of_ble_eq_true rfl) ⟨Nat.le_of_ble_eq_true rfl, Nat.le_of_ble_eq_true rfl⟩ dL_law_627 ?_
        refine zg_aload_n C 2 dL_law_630 rfl ?_
        refine zg_aload_n C 0 dL_law_631 rfl ?_
        refine zg_iload_n C 3 dL_law_632 rfl ?_
        refine zg_iconst (v := nI 1) C dL_law_633 (by decide) ?_
        refine zg_iadd C dL_law_634 (nI ((6 * i) + 1)) (nI_add _ _) ?_
        refine zg_sld C hX (by omega) dL_law_635 (xs ((6 * i) + 1)) (rfl) ?_
        refine zg_callr (As := [.int (xs ((6 * i) + 1))]) (st := [.int (zAcnt pn V bs bp sr (xs ((6 * i) + 1)))]) C [12, 13, 14, 15, 16, 17, 18] 12 1 (c_X6_count l D cI q8 mp mo mv mn my ml pg Of V Nf Yf Lm pn rc ln rkm sum rdm sd bs bp sr y1 y2 y3 dz hh (xs ((6 * i) + 1)) ) gL_law_X6_count (by decide +kernel) rfl ⟨rfl, rfl⟩ ⟨Nat.le_of_ble_eq_true rfl, Nat.le_of_ble_eq_true rfl⟩ rfl (ci := 6) rfl rfl rfl rfl (Nat.le_of_ble_eq_true rfl) ⟨Nat.le_of_ble_eq_true rfl, Nat.le_of_ble_eq_true rfl⟩ dL_law_636 ?_
        refine zg_icmp_eq C 658 dL_law_639 (by decide) (fun c_639 => ?_) (fun c_639 => by exact absurd rfl c_639)
        refine zg_iinc C 3 [1, 2, 3, 0] (lv' := [(0, .ref b), (1, .ref q0), (2, .ref q8), (3, .int (nI (6 * (i + 1))))]) (nI (6 * (i + 1))) dL_law_658 rfl (zi_6 i) (by decide) rfl ?_
        refine zg_goto C 18 dL_law_661 (by decide) ?_
        exact zg_cv (lv' := [(0, .ref b), (1, .ref q0), (2, .ref q8), (3, .int (nI (6 * (i + 1))))]) (rfl) rfl (rfl) (ih_18 (by omega) pg pn x1 x2 x3 Qf Rf Lf Wf rc ln rk ds su rd V bs bp sr sd R Of Nf Yf Lm rkm sum rdm y1 y2 y3 dz hh (hpn) (hln) (hrc) (hrl) (hS) (hM))
      · skip
        refine zg_tabIn (off := 611) C 644 dL_law_33 (by rw [show (nI 18).toInt = 18 from by decide]; decide) (by rw [show (nI 18).toInt = 18 from by decide]; decide) (by rw [show (nI 18).toInt = 18 from by decide]; rfl) (by decide) ?_
        refine zg_aload_n C 1 dL_law_644 rfl ?_
        refine zg_callrl (As := []) (st := []) C [0, 1, 2, 3, 4, 5, 6, 7, 8, 9, 10, 11] 0 0 (c_X5_digest l D cI q0 p0 g0 r0 b0 h0 a0 a1 a2 t0 v0 d0 pg pn x1 x2 x3 Qf Rf Lf Wf rc ln rk ds su rd V bs bp sr sd R hS hln hpn) gL_law_X5_digest (by decide +kernel) rfl ⟨rfl, rfl⟩ ⟨Nat.le_of_ble_eq_true rfl, Nat.le_of_ble_eq_true rfl⟩ rfl (ci := 5) rfl rfl rfl rfl (Nat.le_of_ble_eq_true rfl) ⟨Nat.le_of_ble_eq_true rfl, Nat.le_of_ble_eq_true rfl⟩ dL_law_645 ?_
        refine zg_aload_n C 2 dL_law_648 rfl ?_
        refine zg_callw (As := []) (st := [.long (zdig R rc ln sd pg pn V bs bp sr)]) (wo := [(q0, .inr (5, [.ref p0, .ref r0, .ref h0, .ref t0, .ref d0])), (p0, .inr (1, [.ref g0, .int (nI pn)])), (g0, .inl (cI, 56, .inl pg)), (r0, .inr (2, [.ref b0, .int x1, .int x2, .int x3])), (b0, .inl (cI, 5, .inl Qf)), (h0, .inr (3, [.ref a0, .ref a1, .ref a2, .int (nI rc), .int (nI ln), .int (nI rk), .int (nI ds), .int (nI su), .int (nI rd)])), (a0, .inl (cI, 5, .inl Rf)), (a1, .inl (cI, 32, .inl Lf)), (a2, .inl (cI, 11, .inl Wf)), (t0, .inr (4, [.ref v0, .int bs, .int bp, .int sr])), (v0, .inl (cI, 4, .inl V)), (d0, .inr (0, [.int sd]))]) C [12, 13, 14, 15, 16, 17, 18] [0, 1, 2, 3, 4, 5, 6, 7, 8, 9, 10, 11] 12 0 (c_X6_digest l D cI q8 mp mo mv mn my ml pg Of V Nf Yf Lm pn rc ln rkm sum rdm sd bs bp sr y1 y2 y3 dz hh R hM hln hrc hrl hpn) gL_law_X6_digest (by decide +kernel) rfl ⟨rfl, rfl⟩ ⟨Nat.le_of_ble_eq_true rfl, Nat.le_of_ble_eq_true rfl⟩ rfl rfl rfl rfl (by decide) (ci := 6) rfl rfl rfl rfl (Nat.le_of_ble_eq_true rfl) ⟨Nat.le_of_ble_eq_true rfl, Nat.le_of_ble_eq_true rfl⟩ dL_law_649 (fun v9 w9 hw9 => ?_)
        obtain ⟨rfl, rfl⟩ := hw9
        refine zg_cv (k' := 19) (n' := 1285) (st' := [.long (zdig R rc ln sd pg pn V bs bp sr), .long (zdig R rc ln sd pg pn V bs bp sr)]) (ws' := [(q0, .inr (5, [.ref p0, .ref r0, .ref h0, .ref t0, .ref d0])), (p0, .inr (1, [.ref g0, .int (nI pn)])), (g0, .inl (cI, 56, .inl pg)), (r0, .inr (2, [.ref b0, .int x1, .int x2, .int x3])), (b0, .inl (cI, 5, .inl Qf)), (h0, .inr (3, [.ref a0, .ref a1, .ref a2, .int (nI rc), .int (nI ln), .int (nI rk), .int (nI ds), .int (nI su), .int (nI rd)])), (a0, .inl (cI, 5, .inl Rf)), (a1, .inl (cI, 32, .inl Lf)), (a2, .inl (cI, 11, .inl Wf)), (t0, .inr (4, [.ref v0, .int bs, .int bp, .int sr])), (v0, .inl (cI, 4, .inl V)), (d0, .inr (0, [.int sd])), (q8, .inr (6, [.int (nI pn), .ref mp, .int (nI rc), .int (nI ln), .ref mo, .int sd, .ref mv, .int bs, .int bp, .int sr, .int y1, .int y2, .int y3, .ref mn, .ref my, .ref ml, .int (nI rkm), .int dz, .int (nI sum), .int (nI rdm), .long (zdig R rc ln sd pg pn V bs bp sr)])), (mp, .inl (cI, 56, .inl pg)), (mo, .inl (cI, 5, .inl Of)), (mv, .inl (cI, 4, .inl V)), (mn, .inl (cI, 5, .inl Nf)), (my, .inl (cI, 1024, .inl Yf)), (ml, .inl (cI, 32, .inl Lm))]) rfl rfl rfl ?_
        refine zg_lcmp C dL_law_652 ?_
        refine zg_if_eq C 658 dL_law_653 (by decide) (fun c_653 => ?_) (fun c_653 => by exact absurd ((lg_cmp_eq _ _).mpr rfl) c_653)
        refine zg_iinc C 3 [1, 2, 3, 0] (lv' := [(0, .ref b), (1, .ref q0), (2, .ref q8), (3, .int (nI (6 * (i + 1))))]) (nI (6 * (i + 1))) dL_law_658 rfl (zi_6 i) (by decide) rfl ?_
        refine zg_goto C 18 dL_law_661 (by decide) ?_
        exact zg_cv (lv' := [(0, .ref b), (1, .ref q0), (2, .ref q8), (3, .int (nI (6 * (i + 1))))]) (rfl) rfl (rfl) (ih_18 (by omega) pg pn x1 x2 x3 Qf Rf Lf Wf rc ln rk ds su rd V bs bp sr sd R Of Nf Yf Lm rkm sum rdm y1 y2 y3 dz (zdig R rc ln sd pg pn V bs bp sr) (hpn) (hln) (hrc) (hrl) (hS) (hM))
      · skip
        refine zg_tabOut C 658 dL_law_33 (Or.inr (by rw [nI_toInt (by omega)]; omega)) (by decide) ?_
        refine zg_iinc C 3 [1, 2, 3, 0] (lv' := [(0, .ref b), (1, .ref q0), (2, .ref q8), (3, .int (nI (6 * (i + 1))))]) (nI (6 * (i + 1))) dL_law_658 rfl (zi_6 i) (by decide) rfl ?_
        refine zg_goto C 18 dL_law_661 (by decide) ?_
        exact zg_cv (lv' := [(0, .ref b), (1, .ref q0), (2, .ref q8), (3, .int (nI (6 * (i + 1))))]) (rfl) rfl (rfl) (ih_18 (by omega) pg pn x1 x2 x3 Qf Rf Lf Wf rc ln rk ds su rd V bs bp sr sd R Of Nf Yf Lm rkm sum rdm y1 y2 y3 dz hh (hpn) (hln) (hrc) (hrl) (hS) (hM))
  exact zg_cv (lv' := [(0, .ref b), (1, .ref q0), (2, .ref q8), (3, .int (nI (6 * 0)))]) (rfl) rfl (rfl) (L_18 0 (Nat.zero_le _) (fun _ => 0) 0 (nI 0) (nI 0) (nI 0) (fun _ => 0) (fun _ => 0) (fun _ => 0) (fun _ => 0) 0 0 0 0 0 0 (fun _ => 0) (nI 0) (nI 0) (nI 0) (-1) (fun _ => 0) (fun _ => 0) (fun _ => 0) (fun _ => 0) (fun _ => 0) 0 0 0 (nI 0) (nI 0) (nI 0) (nI 0) 0 (Nat.zero_le _) (Nat.zero_le _) (Nat.zero_le _) (⟨fun h => absurd h (Nat.lt_irrefl 0), fun h => absurd h (Nat.lt_irrefl 0)⟩) (fun h => absurd h (Nat.lt_irrefl 0)) (fun h => absurd h (Nat.lt_irrefl 0)))
