/-! WHAT EACH CALL ANSWERS, in the words of 05 and 07: of both classes -/
abbrev zn (x : Int32) : Nat := x.toNatClampNeg
theorem zn_nI {i : Nat} (h : i < 2 ^ 31) : zn (nI i) = i := nI_clamp h
/-- a call that wants SUMS and good arguments -/
def zA (ln : Nat) (ok : Prop) [Decidable ok] (v : Int32) : Int32 := if 0 < ln then (if ok then v else -1002) else -1003
theorem zA_n {ln : Nat} {ok : Prop} [Decidable ok] {v : Int32} (h : ¬ 0 < ln) : zA ln ok v = -1003 := by rw [zA, if_neg h]
theorem zA_o {ln : Nat} {ok : Prop} [Decidable ok] {v : Int32} (h : 0 < ln) (h2 : ¬ ok) : zA ln ok v = -1002 := by rw [zA, if_pos h, if_neg h2]
theorem zA_y {ln : Nat} {ok : Prop} [Decidable ok] {v : Int32} (h : 0 < ln) (h2 : ok) : zA ln ok v = v := by rw [zA, if_pos h, if_pos h2]
/-- the cells of SUMS hold what they must -/
def zSm (R : Nat → Nat) (Rf Lf Wf : Nat → Int32) (rc ln rk ds su rd : Nat) : Prop := 0 < ln → 1 ≤ rc ∧ rc ≤ 5 ∧ 3 ≤ ln ∧ (∀ i, i < rc → Rf i = nI (R i)) ∧ (∀ i, i < rc → R i < 1024) ∧ (∀ y, y < 32 → Lf y = zo (zld R rc (2 ^ ln) y)) ∧ (∀ j, j < 11 → Wf j = nI (zct (zhw (zld R rc (2 ^ ln)) j) 32)) ∧ rk = zrk R rc ln ∧ ds = zdm R rc ln (2 ^ ln) ∧ su = zsu ln ds ∧ rd = zrad (zld R rc (2 ^ ln)) 32
theorem zsu_le {ln d : Nat} (hln : ln ≤ 10) (hd : d ≤ ln + 1) : zsu ln d ≤ 10 := by
  unfold zsu
  split <;> omega
theorem zdm_pos (R : Nat → Nat) (rc : Nat) {ln : Nat} (hln : ln ≤ 10) : 0 < zdm R rc ln (2 ^ ln) := by
  have hp := zpw hln
  obtain ⟨h1, h2, h3⟩ := zdm_spec R rc ln (2 ^ ln)
  apply Nat.pos_of_ne_zero
  intro h
  obtain ⟨w, w0, wn, ws, wp⟩ := h3 (by omega)
  have := zpc0 (w := w) (by omega) (by omega)
  omega
theorem zsu_1 {ln d : Nat} (h : ln < d) : ln = zsu ln d := (if_pos h).symm
theorem zsu_2 {ln d : Nat} (h : d ≤ ln) : (d - 1) / 2 = zsu ln d := (if_neg (show ¬ ln < d by omega)).symm
theorem zrok_whole {rw sg lg : Nat} {R : Nat → Nat} (h : zrok (rw, sg, lg, R)) (hw : zwh rw sg lg = true) : 3 ≤ sg ∧ sg ≤ 10 ∧ rw + 1 ≤ 5 ∧ ∀ i, i < rw + 1 → R i < 2 ^ sg := by
  obtain ⟨h1, h2, h3, h4, h5, h6, h7, h8⟩ := h
  unfold zwh at hw
  by_cases h0 : rw = 0
  · rw [if_pos h0] at hw
    have := of_decide_eq_true hw
    subst h0
    refine ⟨this, h2, by omega, fun i hi => ?_⟩
    rw [show i = 0 by omega]; exact h7
  · rw [if_neg h0] at hw
    have he := of_decide_eq_true hw
    have := h5 (by omega)
    refine ⟨by omega, h2, by omega, fun i hi => ?_⟩
    by_cases hi2 : i = rw
    · rw [hi2]; exact h7
    · rw [he]; exact h6 i (by omega)
def zcode (R : Nat → Nat) (rc ln j : Nat) : Int32 := if j = 0 then nI ln else if j = 1 then nI rc else if j = 2 then nI (zrk R rc ln) else if j = 3 then zdn ln (zdm R rc ln (2 ^ ln)) else if j = 4 then nI (zsu ln (zdm R rc ln (2 ^ ln))) else if j = 5 then nI (zrad (zld R rc (2 ^ ln)) 32) else if zrad (zld R rc (2 ^ ln)) 32 = zsu ln (zdm R rc ln (2 ^ ln)) then nI 1 else nI 0
def zAcode (R : Nat → Nat) (rc ln : Nat) (x : Int32) : Int32 := if zin x 7 then (if 0 < ln then zcode R rc ln (zn x) else -1003) else -1002
def zfl (R : Nat → Nat) (rc ln x y : Nat) : Nat := (zld R rc (2 ^ ln) (zsk R (x ^^^ y) rc)).getD 0
theorem zfl_some (R : Nat → Nat) (rc : Nat) {ln x y : Nat} (hx : x < 2 ^ ln) (hy : y < 2 ^ ln) : zld R rc (2 ^ ln) (zsk R (x ^^^ y) rc) = some (zfl R rc ln x y) := by
  obtain ⟨v, hv, -⟩ := zld_min (R := R) (rc := rc) (Nat.xor_lt_two_pow hx hy)
  unfold zfl
  rw [hv]; rfl
theorem zfl_lt (R : Nat → Nat) (rc : Nat) {ln x y : Nat} (hx : x < 2 ^ ln) (hy : y < 2 ^ ln) : zfl R rc ln x y < 2 ^ ln := (zld_some (zfl_some R rc hx hy)).1
def zvr (R : Nat → Nat) (rc ln x y : Nat) : Nat := zvd x y (zfl R rc ln x y) (zsu ln (zdm R rc ln (2 ^ ln)))
theorem zvr_lt (R : Nat → Nat) (rc ln x y : Nat) : zvr R rc ln x y < 4 := zvd_lt _ _ _ _
def zplain (R : Nat → Nat) (rc ln x y : Nat) (z : Int32) : Int32 := if z = nI 0 then nI (zvr R rc ln x y) else if z = nI 1 then nI (zfl R rc ln x y) else nI (x ^^^ zfl R rc ln x y)
def zshare (R : Nat → Nat) (rc ln a b : Nat) (z : Int32) : Int32 := if z = nI 0 then zb (zen R rc (a ||| b) (2 ^ ln)) else nI (2 * zrk R rc ln + zpc (a ||| b))
def zshrd (R : Nat → Nat) (rc ln a b x y : Nat) (z : Int32) : Int32 := if zsh R rc ln a b x y (zfl R rc ln x y) = -1001 ∨ z = 0 then zsh R rc ln a b x y (zfl R rc ln x y) else zsh R rc ln a b x y (zfl R rc ln x y) ^^^ nI (zfl R rc ln x y)
def zcnt (pn : Nat) (V : Nat → Int32) (bs bp sr : Int32) (j : Nat) : Int32 := if j = 0 then nI pn else if j = 5 then bs else if j = 6 then bp else if j = 7 then sr else V (j - 1)
def zAcnt (pn : Nat) (V : Nat → Int32) (bs bp sr : Int32) (x : Int32) : Int32 := if zin x 8 then zcnt pn V bs bp sr (zn x) else -1002
/-- the text is whole -/
def zokS (pg : Nat → Int32) (pn : Nat) : Prop := (zfa pg pn 0 zr0).1 = pn ∧ zwh (zfa pg pn 0 zr0).2.1 (zfa pg pn 0 zr0).2.2.1 (zfa pg pn 0 zr0).2.2.2.1 = true
def zokL (pn : Nat) (x : Int32) : Prop := 32 ≤ x ∧ x ≤ 126 ∧ pn < 56
def zAlet (pn : Nat) (x : Int32) : Int32 := if 32 ≤ x ∧ x ≤ 126 then (if pn < 56 then nI (pn + 1) else -1004) else -1002
/-- mixing numbers -/
def zmix (f : Nat → Int32) (h : Int64) : Nat → Int64
  | 0 => h
  | n + 1 => 31 * zmix f h n + (f n).toInt64
theorem zmix_congr {f g : Nat → Int32} {h : Int64} {n : Nat} (e : ∀ i, i < n → f i = g i) : zmix f h n = zmix g h n := by
  induction n with
  | zero => rfl
  | succ n ih =>
    show 31 * zmix f h n + (f n).toInt64 = 31 * zmix g h n + (g n).toInt64
    rw [ih (fun i hi => e i (by omega)), e n (by omega)]
def zdgS (R : Nat → Nat) (rc ln : Nat) (h : Int64) : Int64 := zmix (fun j => nI (zct (zhw (zld R rc (2 ^ ln)) j) 32)) (zmix (fun y => zo (zld R rc (2 ^ ln) y)) (zmix (fun i => nI (R i)) (zmix (zcode R rc ln) h 7) rc) (2 ^ rc)) (ln + 1)
def zdig (R : Nat → Nat) (rc ln : Nat) (sd : Int32) (pg : Nat → Int32) (pn : Nat) (V : Nat → Int32) (bs bp sr : Int32) : Int64 := zmix (zcnt pn V bs bp sr) (zmix pg (31 * (if 0 < ln then zdgS R rc ln 1667 else 1667) + sd.toInt64) pn) 8
/-! RUNS -/
/-- the places that are unlike: the seed behind the first k places, and the places -/
def zul (ch : Int32) : Nat → Nat → Nat × Nat
  | s, 0 => (s, 0)
  | s, k + 1 => (znx (zul ch s k).1, (zul ch s k).2 + (if nI (zdr (zul ch s k).1 16) < ch then 2 ^ k else 0))
theorem zul_lt (ch : Int32) (s k : Nat) : (zul ch s k).2 < 2 ^ k := by
  induction k with
  | zero => exact Nat.one_pos
  | succ k ih =>
    show (zul ch s k).2 + (if nI (zdr (zul ch s k).1 16) < ch then 2 ^ k else 0) < 2 ^ (k + 1)
    rw [Nat.pow_succ]
    split <;> omega
theorem zul_s (ch : Int32) {s : Nat} (hs : s < 2 ^ 31) (k : Nat) : (zul ch s k).1 < 2 ^ 31 := by
  cases k with
  | zero => exact hs
  | succ k => exact znx_lt _
/-- a run: behind its first i words: the seed, the verdicts, the bits, those wrong and trusted -/
def zrn (R : Nat → Nat) (rc ln : Nat) (ch : Int32) (s : Nat) (V : Nat → Int32) (bs bp : Int32) : Nat → Nat × (Nat → Int32) × Int32 × Int32 × Nat
  | 0 => (s, V, bs, bp, 0)
  | i + 1 => match zrn R rc ln ch s V bs bp i with
    | (s1, V1, b1, p1, w1) => ((zul ch (znx s1) ln).1, upd V1 (zvr R rc ln (zdr s1 (2 ^ ln)) (zdr s1 (2 ^ ln) ^^^ (zul ch (znx s1) ln).2)) (V1 (zvr R rc ln (zdr s1 (2 ^ ln)) (zdr s1 (2 ^ ln) ^^^ (zul ch (znx s1) ln).2)) + nI 1), b1 + nI (ln + zrk R rc ln), p1 + nI (2 * ln), w1 + (if zvr R rc ln (zdr s1 (2 ^ ln)) (zdr s1 (2 ^ ln) ^^^ (zul ch (znx s1) ln).2) = 3 then 1 else 0))
theorem zrn_s (R : Nat → Nat) (rc ln : Nat) (ch : Int32) {s : Nat} (V : Nat → Int32) (bs bp : Int32) (hs : s < 2 ^ 31) : ∀ i, (zrn R rc ln ch s V bs bp i).1 < 2 ^ 31 ∧ (zrn R rc ln ch s V bs bp i).2.2.2.2 ≤ i := by
  intro i
  induction i with
  | zero => exact ⟨hs, Nat.le_refl 0⟩
  | succ i ih =>
    refine ⟨zul_s ch (znx_lt _) ln, ?_⟩
    show (zrn R rc ln ch s V bs bp i).2.2.2.2 + (if _ then 1 else 0) ≤ i + 1
    have := ih.2
    split <;> omega
