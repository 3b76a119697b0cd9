/-! what the reference's methods want beside 05, 07 and 11 -/
theorem zxt {x : Int32} {k : Nat} (hk : k < 2 ^ 31) : x = nI k ↔ x.toInt = k := by
  constructor
  · rintro rfl; exact nI_toInt hk
  · intro h; exact Int32.toInt_inj.mp (h.trans (nI_toInt hk).symm)
/-- the reference's row of readings holds what was read -/
def zNr (Nf : Nat → Int32) (st : Nat × Nat × Nat × (Nat → Nat)) : Prop := match st with
  | (rw, sg, _, R) => (∀ i, i < rw → Nf i = nI (R i)) ∧ (0 < sg → Nf rw = nI (R rw))
theorem zNr_0 (Nf : Nat → Int32) : zNr Nf zr0 := ⟨fun i h => absurd h (Nat.not_lt_zero i), fun h => absurd h (Nat.lt_irrefl 0)⟩
theorem zNr_eor {Nf : Nat → Int32} {rw sg lg l2 : Nat} {R : Nat → Nat} (h : zNr Nf (rw, sg, lg, R)) (hs : 0 < sg) : zNr Nf (rw + 1, 0, l2, R) := by
  refine ⟨fun i hi => ?_, fun q => absurd q (Nat.lt_irrefl 0)⟩
  by_cases he : i = rw
  · rw [he]; exact h.2 hs
  · exact h.1 i (by omega)
theorem zNr_sgn {Nf : Nat → Int32} {rw sg lg v : Nat} {R : Nat → Nat} (h : zNr Nf (rw, sg, lg, R)) : zNr (upd Nf rw (nI v)) (rw, sg + 1, lg, zset R rw v) := by
  refine ⟨fun i hi => ?_, fun _ => ?_⟩
  · show (if i = rw then nI v else Nf i) = nI (if i = rw then v else R i)
    rw [if_neg (by omega), if_neg (by omega)]; exact h.1 i hi
  · show (if rw = rw then nI v else Nf rw) = nI (if rw = rw then v else R rw)
    rw [if_pos rfl, if_pos rfl]
theorem zwh_of {rw sg lg : Nat} {R : Nat → Nat} (h : zrok (rw, sg, lg, R)) : (zwh rw sg lg = true) ↔ ((lg = 0 ∧ 3 ≤ sg) ∨ (0 < lg ∧ sg = lg)) := by
  obtain ⟨h1, h2, h3, h4, h5, h6, h7, h8⟩ := h
  unfold zwh
  by_cases h0 : rw = 0
  · have := h4 h0
    rw [if_pos h0, decide_eq_true_iff]; omega
  · have := h5 (by omega)
    rw [if_neg h0, decide_eq_true_iff]; omega
theorem zmo_of {rw sg lg : Nat} {R : Nat → Nat} (h : zrok (rw, sg, lg, R)) : zmo rw lg = if lg = 0 then 10 else lg := by
  obtain ⟨h1, h2, h3, h4, h5, h6, h7, h8⟩ := h
  unfold zmo
  by_cases h0 : rw = 0
  · rw [if_pos h0, if_pos (h4 h0)]
  · have := h5 (by omega)
    rw [if_neg h0, if_neg (by omega)]
theorem zsl_t {R : Nat → Nat} {rc w v : Nat} (h : zsk R v rc = zsk R w rc ∧ v ≠ w ∧ zpc v ≤ zpc w) : zsl R rc w (v + 1) = zsl R rc w v + 1 := by
  show zsl R rc w v + (if _ then 1 else 0) = _
  rw [if_pos h]
theorem zsl_f {R : Nat → Nat} {rc w v : Nat} (h : ¬ (zsk R v rc = zsk R w rc ∧ v ≠ w ∧ zpc v ≤ zpc w)) : zsl R rc w (v + 1) = zsl R rc w v + 0 := by
  show zsl R rc w v + (if _ then 1 else 0) = _
  rw [if_neg h]
theorem zsr_t {R : Nat → Nat} {rc ln N w : Nat} (h : zpc w ≤ zsr R rc ln N w ∧ zsl R rc w N ≠ 0) : zsr R rc ln N (w + 1) = zpc w - 1 := by
  show (if _ then zpc w - 1 else zsr R rc ln N w) = _
  rw [if_pos h]
theorem zsr_f {R : Nat → Nat} {rc ln N w : Nat} (h : ¬ (zpc w ≤ zsr R rc ln N w ∧ zsl R rc w N ≠ 0)) : zsr R rc ln N (w + 1) = zsr R rc ln N w := by
  show (if _ then zpc w - 1 else zsr R rc ln N w) = _
  rw [if_neg h]
theorem zrw_t {R : Nat → Nat} {rc N w : Nat} (h : zld R rc N (zsk R w rc) = some w ∧ zrw R rc N w < zpc w) : zrw R rc N (w + 1) = zpc w := by
  show (if _ then zpc w else zrw R rc N w) = _
  rw [if_pos h]
theorem zrw_f {R : Nat → Nat} {rc N w : Nat} (h : ¬ (zld R rc N (zsk R w rc) = some w ∧ zrw R rc N w < zpc w)) : zrw R rc N (w + 1) = zrw R rc N w := by
  show (if _ then zpc w else zrw R rc N w) = _
  rw [if_neg h]
theorem zld_keep {R : Nat → Nat} {rc i v : Nat} (hv : zld R rc i (zsk R i rc) = some v) (h : ¬ zpc i < zpc v) (s : Nat) : upd (fun s => zo (zld R rc i s)) (zsk R i rc) (nI v) s = zo (zld R rc (i + 1) s) := by
  rw [← zld_miss (R := R) (rc := rc) (i := i) (by rw [hv]; exact decide_eq_false h) s]
  show (if s = zsk R i rc then nI v else zo (zld R rc i s)) = zo (zld R rc i s)
  by_cases hs : s = zsk R i rc
  · subst hs
    rw [if_pos rfl, hv]; rfl
  · rw [if_neg hs]
theorem zim_none {R : Nat → Nat} {rc i : Nat} (hrc : rc ≤ 5) (hv : zld R rc i (zsk R i rc) = none) : zct (zim R rc (i + 1)) 32 = zct (zim R rc i) 32 + 1 := by
  have hk : zsk R i rc < 32 := Nat.lt_of_lt_of_le (zsk_lt _ _ _) (zpw5 hrc)
  rw [zct_set (p := zim R rc i) (k := zsk R i rc) hk]
  · rw [if_neg]
    show ¬ (zld R rc i (zsk R i rc)).isSome = true
    rw [hv]; decide
  · intro s _ hne
    show (if zsk R i rc = s ∧ znear i (zld R rc i s) = true then some i else zld R rc i s).isSome = (zld R rc i s).isSome
    rw [if_neg (fun q => hne q.1.symm)]
  · exact zim_iff.mpr ⟨i, by omega, rfl⟩
theorem zim_some {R : Nat → Nat} {rc i v : Nat} (hv : zld R rc i (zsk R i rc) = some v) : zct (zim R rc (i + 1)) 32 = zct (zim R rc i) 32 + 0 := by
  rw [Nat.add_zero (zct (zim R rc i) 32)]
  refine zct_congr (fun s _ => ?_)
  rw [Bool.eq_iff_iff, zim_iff, zim_iff]
  constructor
  · rintro ⟨w, hw, rfl⟩
    by_cases he : w = i
    · rw [he]; exact ⟨v, (zld_some hv).1, (zld_some hv).2⟩
    · exact ⟨w, by omega, rfl⟩
  · rintro ⟨w, hw, rfl⟩
    exact ⟨w, by omega, rfl⟩
theorem zim_0 (R : Nat → Nat) (rc : Nat) : zct (zim R rc 0) 32 = 0 := by
  have h : zct (zim R rc 0) 32 = zct (fun _ => false) 32 := zct_congr (fun s _ => rfl)
  rw [h]
  decide
theorem zpow_eq {i k : Nat} (h : i ≤ k) (h2 : 2 ^ k ≤ 2 ^ i) : k = i := by
  have := (Nat.pow_le_pow_iff_right (a := 2) (by decide)).mp h2
  omega
theorem zpow_lt {i k : Nat} (h2 : 2 ^ i < 2 ^ k) : i < k := (Nat.pow_lt_pow_iff_right (a := 2) (by decide)).mp h2
theorem zdn_1 {ln d : Nat} (h : ln < d) : zdn ln d = -1001 := if_pos h
theorem zdn_2 {ln d : Nat} (h : d ≤ ln) : zdn ln d = nI d := if_neg (show ¬ ln < d by omega)
/-- of words known to be enough, the last is the first -/
theorem zsh_last {R : Nat → Nat} {rc ln one other x y f : Nat} (hen : zen R rc (one ||| other) (2 ^ ln) = true) : zo (zls (zsp R rc one other x y f) (2 ^ ln)) = zsh R rc ln one other x y f := by
  rw [zsh, if_pos hen, zfs_zls]
  intro a b ha hb pa pb
  have ha2 := of_decide_eq_true pa
  have hb2 := of_decide_eq_true pb
  apply Classical.byContradiction
  intro hne
  refine zen_iff.mp hen (a ^^^ b) (Nat.pos_of_ne_zero (fun q => hne (zxor_0 q))) (Nat.xor_lt_two_pow ha hb) ⟨?_, ?_⟩
  · rw [Nat.and_xor_distrib_right, ha2.1, hb2.1, Nat.xor_self]
  · exact zsk_eq.mp (ha2.2.trans hb2.2.symm)
theorem zxor_add {x u k : Nat} (h : u < 2 ^ k) : (x ^^^ u) ^^^ 2 ^ k = x ^^^ (u + 2 ^ k) := by
  rw [Nat.xor_assoc, Nat.xor_comm u, ← zadd_xor h, Nat.add_comm]
theorem zhm (x : Int32) : x = nI 0 ∨ x = nI 1 ∨ x = nI 2 ∨ x = nI 3 ∨ x = nI 4 ∨ x = nI 5 ∨ x = nI 6 ∨ x = nI 7 ∨ (¬ zin x 8 ∧ (x.toInt < 0 ∨ 7 < x.toInt)) := by
  by_cases h : zin x 8
  · obtain ⟨j, hj, rfl⟩ := zin_of h (by decide)
    rcases (show j = 0 ∨ j = 1 ∨ j = 2 ∨ j = 3 ∨ j = 4 ∨ j = 5 ∨ j = 6 ∨ j = 7 by omega) with rfl | rfl | rfl | rfl | rfl | rfl | rfl | rfl <;> simp
  · refine Or.inr (Or.inr (Or.inr (Or.inr (Or.inr (Or.inr (Or.inr (Or.inr ⟨h, ?_⟩)))))))
    by_cases h2 : x.toInt < 0
    · exact Or.inl h2
    · right
      apply Int.lt_of_not_ge
      intro h3
      refine h ⟨?_, ?_⟩
      · rw [Int32.le_iff_toInt_le]
        have : (0 : Int32).toInt = 0 := by decide
        omega
      · rw [Int32.lt_iff_toInt_lt, nI_toInt (by decide)]; omega
/-- the reference's cells of SUMS -/
def zMm (R : Nat → Nat) (Of Yf Lf : Nat → Int32) (rc ln rk : Nat) (dz : Int32) (su rd : Nat) : Prop := 0 < ln → 1 ≤ rc ∧ 3 ≤ ln ∧ (∀ i, i < rc → Of i = nI (R i)) ∧ (∀ i, i < rc → R i < 1024) ∧ (∀ w, w < 2 ^ ln → Yf w = nI (zsk R w rc)) ∧ (∀ y, y < 32 → Lf y = zo (zld R rc (2 ^ ln) y)) ∧ rk = zrk R rc ln ∧ dz = zdn ln (zdm R rc ln (2 ^ ln)) ∧ su = zsu ln (zdm R rc ln (2 ^ ln)) ∧ rd = zrad (zld R rc (2 ^ ln)) 32
theorem zl_rem {s : Nat} (hs : s < 2 ^ 31) : lN (1103515245 * s + 12345) - lN (1103515245 * s + 12345) / 2147483648 * 2147483648 = lN (znx s) := by
  rw [zl_c]
  exact pk_lRem (by omega) (by decide) (by decide)
theorem zl_div (s : Nat) : lN (znx s) / 65536 = lN (znx s / 2 ^ 16) := by
  rw [zl_d]
  have := znx_lt s
  exact pk_lDiv (by omega) (by decide) (by decide)
theorem zl_rm2 (s : Nat) {b : Nat} (hb0 : 0 < b) (hb : b ≤ 1024) : lN (znx s / 2 ^ 16) - lN (znx s / 2 ^ 16) / lN b * lN b = lN (zdr s b) := by
  have h1 := znx_lt s
  have h2 := Nat.div_le_self (znx s) (2 ^ 16)
  exact pk_lRem (by omega) hb0 (by omega)
theorem zl_ne0 {b : Nat} (hb0 : 0 < b) (hb : b ≤ 1024) : ¬ lN b = 0 := by
  intro q
  have q9 : lN b = lN 0 := q
  have := (pk_lEQ (a := b) (b := 0) (by omega) (by decide)).mp q9
  omega
theorem zl_ne1 : ¬ (2147483648 : Int64) = 0 := by decide
theorem zl_ne2 : ¬ (65536 : Int64) = 0 := by decide
