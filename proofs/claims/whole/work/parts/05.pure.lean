/-! the mathematics: counted bits, syndromes, leaders, distances -/
theorem zpk_le (x k : Nat) : zpk x k ≤ k := by
  induction k with
  | zero => exact Nat.le_refl 0
  | succ k ih =>
    show zpk x k + x / 2 ^ k % 2 ≤ k + 1
    have := Nat.mod_lt (x / 2 ^ k) (show 0 < 2 by decide)
    omega
theorem zpc_le (x : Nat) : zpc x ≤ 10 := zpk_le x 10
theorem zpk_hi {x b : Nat} (h : x < 2 ^ b) : ∀ k, zpk x k ≤ b := by
  intro k
  induction k with
  | zero => exact Nat.zero_le _
  | succ k ih =>
    show zpk x k + x / 2 ^ k % 2 ≤ b
    by_cases hk : k < b
    · have h1 := zpk_le x k
      have := Nat.mod_lt (x / 2 ^ k) (show 0 < 2 by decide)
      omega
    · have h2 : x / 2 ^ k = 0 := Nat.div_eq_of_lt (Nat.lt_of_lt_of_le h (Nat.pow_le_pow_right (by decide) (by omega)))
      rw [h2, Nat.zero_mod, Nat.add_zero]; exact ih
theorem zpc0_all : (List.range 1024).all (fun w => decide (zpc w = 0 → w = 0)) = true := by decide +kernel
theorem zpc0 {w : Nat} (h : w < 1024) (h0 : zpc w = 0) : w = 0 := of_decide_eq_true (List.all_eq_true.mp zpc0_all w (List.mem_range.mpr h)) h0
theorem zpc_z : zpc 0 = 0 := by decide
theorem zbit_xor (a b k : Nat) : (a ^^^ b) / 2 ^ k % 2 = (a / 2 ^ k % 2 + b / 2 ^ k % 2) % 2 := by
  rw [Nat.xor_div_two_pow]
  generalize a / 2 ^ k = x
  generalize b / 2 ^ k = y
  have h := @Nat.xor_mod_two_eq_one x y
  have h1 := Nat.mod_two_eq_zero_or_one (x ^^^ y)
  have h2 := Nat.mod_two_eq_zero_or_one x
  have h3 := Nat.mod_two_eq_zero_or_one y
  rcases h1 with h1 | h1 <;> rcases h2 with h2 | h2 <;> rcases h3 with h3 | h3 <;> rw [h1, h2, h3] at h <;> first | (rw [h1, h2, h3]; done) | (exfalso; revert h; decide)
theorem zpk_xor_le (a b k : Nat) : zpk (a ^^^ b) k ≤ zpk a k + zpk b k := by
  induction k with
  | zero => exact Nat.zero_le _
  | succ k ih =>
    show zpk (a ^^^ b) k + (a ^^^ b) / 2 ^ k % 2 ≤ (zpk a k + a / 2 ^ k % 2) + (zpk b k + b / 2 ^ k % 2)
    rw [zbit_xor]
    generalize a / 2 ^ k = x at *
    generalize b / 2 ^ k = y at *
    omega
theorem zpk_xor_mod (a b k : Nat) : zpk (a ^^^ b) k % 2 = (zpk a k + zpk b k) % 2 := by
  induction k with
  | zero => rfl
  | succ k ih =>
    show (zpk (a ^^^ b) k + (a ^^^ b) / 2 ^ k % 2) % 2 = ((zpk a k + a / 2 ^ k % 2) + (zpk b k + b / 2 ^ k % 2)) % 2
    rw [zbit_xor]
    generalize a / 2 ^ k = x at *
    generalize b / 2 ^ k = y at *
    omega
theorem zand_xor_mod (r a b : Nat) : zpc (r &&& (a ^^^ b)) % 2 = (zpc (r &&& a) + zpc (r &&& b)) % 2 := by
  rw [Nat.and_xor_distrib_left]; exact zpk_xor_mod _ _ _
theorem zxor_0 {a b : Nat} (h : a ^^^ b = 0) : a = b := by
  have h1 : (a ^^^ b) ^^^ b = b := by rw [h, Nat.zero_xor]
  rw [Nat.xor_assoc, Nat.xor_self, Nat.xor_zero] at h1
  exact h1
/-- the syndrome by the first rows -/
def zsk (R : Nat → Nat) (w : Nat) : Nat → Nat
  | 0 => 0
  | i + 1 => zsk R w i + zpc (R i &&& w) % 2 * 2 ^ i
theorem zsk_lt (R : Nat → Nat) (w n : Nat) : zsk R w n < 2 ^ n := by
  induction n with
  | zero => exact Nat.one_pos
  | succ n ih =>
    show zsk R w n + zpc (R n &&& w) % 2 * 2 ^ n < 2 ^ (n + 1)
    rw [Nat.pow_succ]
    rcases Nat.mod_two_eq_zero_or_one (zpc (R n &&& w)) with h | h <;> rw [h] <;> omega
theorem zor_add {s b i : Nat} (h : s < 2 ^ i) : s ||| b * 2 ^ i = s + b * 2 ^ i := by
  have h1 := Nat.two_pow_add_eq_or_of_lt h b
  rw [Nat.mul_comm b, Nat.or_comm, ← h1, Nat.add_comm]
theorem zsk_tb (R : Nat → Nat) (w n i : Nat) : (zsk R w n).testBit i = (decide (i < n) && decide (zpc (R i &&& w) % 2 = 1)) := by
  induction n with
  | zero =>
    show (0 : Nat).testBit i = _
    rw [Nat.zero_testBit, decide_eq_false (Nat.not_lt_zero i), Bool.false_and]
  | succ n ih =>
    show (zsk R w n + zpc (R n &&& w) % 2 * 2 ^ n).testBit i = _
    rw [Nat.add_comm, Nat.mul_comm, Nat.testBit_two_pow_mul_add _ (zsk_lt R w n)]
    by_cases hi : i < n
    · rw [if_pos hi, ih, decide_eq_true hi, decide_eq_true (show i < n + 1 by omega)]
    · rw [if_neg hi]
      by_cases he : i = n
      · subst he
        rw [Nat.sub_self, Nat.testBit_zero, decide_eq_true (show i < i + 1 by omega), Bool.true_and, Nat.mod_mod]
      · have h2 : zpc (R n &&& w) % 2 < 2 ^ (i - n) := by
          have h3 : 2 ^ 1 ≤ 2 ^ (i - n) := Nat.pow_le_pow_right (by decide) (by omega)
          have := Nat.mod_lt (zpc (R n &&& w)) (show 0 < 2 by decide)
          omega
        rw [Nat.testBit_lt_two_pow h2, decide_eq_false (show ¬ i < n + 1 by omega), Bool.false_and]
theorem zsk_xor (R : Nat → Nat) (a b n : Nat) : zsk R (a ^^^ b) n = zsk R a n ^^^ zsk R b n := by
  apply Nat.eq_of_testBit_eq
  intro i
  rw [Nat.testBit_xor, zsk_tb, zsk_tb, zsk_tb]
  by_cases hi : i < n
  · rw [decide_eq_true hi, Bool.true_and, Bool.true_and, Bool.true_and, zand_xor_mod, Nat.add_mod]
    rcases Nat.mod_two_eq_zero_or_one (zpc (R i &&& a)) with h | h <;> rcases Nat.mod_two_eq_zero_or_one (zpc (R i &&& b)) with h' | h' <;> rw [h, h'] <;> rfl
  · rw [decide_eq_false hi]; rfl
theorem zsk_0 (R : Nat → Nat) (n : Nat) : zsk R 0 n = 0 := by
  induction n with
  | zero => rfl
  | succ n ih =>
    show zsk R 0 n + zpc (R n &&& 0) % 2 * 2 ^ n = 0
    rw [ih, Nat.and_zero, zpc_z, Nat.zero_mod, Nat.zero_mul]
theorem zsk_eq {R : Nat → Nat} {a b n : Nat} : zsk R a n = zsk R b n ↔ zsk R (a ^^^ b) n = 0 := by
  rw [zsk_xor]
  exact ⟨fun h => by rw [h, Nat.xor_self], zxor_0⟩
theorem zsk_congr {R S : Nat → Nat} {w n : Nat} (h : ∀ i, i < n → R i = S i) : zsk R w n = zsk S w n := by
  induction n with
  | zero => rfl
  | succ n ih =>
    show zsk R w n + zpc (R n &&& w) % 2 * 2 ^ n = zsk S w n + zpc (S n &&& w) % 2 * 2 ^ n
    rw [ih (fun i hi => h i (by omega)), h n (by omega)]
/-- leaders among the first words -/
def znear (w : Nat) : Option Nat → Bool
  | none => true
  | some v => decide (zpc w < zpc v)
def zld (R : Nat → Nat) (rc : Nat) : Nat → Nat → Option Nat
  | 0, _ => none
  | n + 1, s => if zsk R n rc = s ∧ znear n (zld R rc n s) = true then some n else zld R rc n s
theorem zld_some {R : Nat → Nat} {rc : Nat} : ∀ {n s v : Nat}, zld R rc n s = some v → v < n ∧ zsk R v rc = s := by
  intro n
  induction n with
  | zero => intro s v h; cases h
  | succ n ih =>
    intro s v h
    have h1 : (if zsk R n rc = s ∧ znear n (zld R rc n s) = true then some n else zld R rc n s) = some v := h
    by_cases hc : zsk R n rc = s ∧ znear n (zld R rc n s) = true
    · rw [if_pos hc] at h1
      cases h1
      exact ⟨by omega, hc.1⟩
    · rw [if_neg hc] at h1
      have := ih h1
      exact ⟨by omega, this.2⟩
theorem zld_min {R : Nat → Nat} {rc : Nat} : ∀ {n w : Nat}, w < n → ∃ v, zld R rc n (zsk R w rc) = some v ∧ zpc v ≤ zpc w := by
  intro n
  induction n with
  | zero => intro w h; omega
  | succ n ih =>
    intro w hw
    have key : zld R rc (n + 1) (zsk R w rc) = (if zsk R n rc = zsk R w rc ∧ znear n (zld R rc n (zsk R w rc)) = true then some n else zld R rc n (zsk R w rc)) := rfl
    rw [key]
    by_cases hc : zsk R n rc = zsk R w rc ∧ znear n (zld R rc n (zsk R w rc)) = true
    · rw [if_pos hc]
      refine ⟨n, rfl, ?_⟩
      by_cases he : w = n
      · rw [he]; exact Nat.le_refl _
      · obtain ⟨v, hv, hle⟩ := ih (show w < n by omega)
        rw [hv] at hc
        have := of_decide_eq_true hc.2
        omega
    · rw [if_neg hc]
      by_cases he : w = n
      · subst he
        cases hz : zld R rc w (zsk R w rc) with
        | none => exact absurd ⟨rfl, by rw [hz]; rfl⟩ hc
        | some v =>
          refine ⟨v, rfl, ?_⟩
          have h2 : ¬ zpc w < zpc v := fun q => hc ⟨rfl, by rw [hz]; exact decide_eq_true q⟩
          omega
      · exact ih (by omega)
theorem zld_congr {R S : Nat → Nat} {rc : Nat} (h : ∀ i, i < rc → R i = S i) : ∀ n s, zld R rc n s = zld S rc n s := by
  intro n
  induction n with
  | zero => intro s; rfl
  | succ n ih =>
    intro s
    show (if zsk R n rc = s ∧ znear n (zld R rc n s) = true then some n else zld R rc n s) = (if zsk S n rc = s ∧ znear n (zld S rc n s) = true then some n else zld S rc n s)
    rw [zsk_congr h, ih]
/-- how many of the first numbers have p -/
def zct (p : Nat → Bool) : Nat → Nat
  | 0 => 0
  | s + 1 => zct p s + (if p s = true then 1 else 0)
theorem zct_le (p : Nat → Bool) (n : Nat) : zct p n ≤ n := by
  induction n with
  | zero => exact Nat.le_refl 0
  | succ n ih =>
    show zct p n + (if p n = true then 1 else 0) ≤ n + 1
    split <;> omega
theorem zct_congr {p q : Nat → Bool} {n : Nat} (h : ∀ s, s < n → p s = q s) : zct p n = zct q n := by
  induction n with
  | zero => rfl
  | succ n ih =>
    show zct p n + (if p n = true then 1 else 0) = zct q n + (if q n = true then 1 else 0)
    rw [ih (fun s hs => h s (by omega)), h n (by omega)]
theorem zct_set {p q : Nat → Bool} {k n : Nat} (hk : k < n) (h : ∀ s, s < n → s ≠ k → q s = p s) (hq : q k = true) : zct q n = zct p n + (if p k = true then 0 else 1) := by
  induction n with
  | zero => omega
  | succ n ih =>
    show zct q n + (if q n = true then 1 else 0) = zct p n + (if p n = true then 1 else 0) + (if p k = true then 0 else 1)
    by_cases he : k = n
    · subst he
      rw [zct_congr (q := p) (fun s hs => h s (by omega) (by omega)), hq]
      by_cases hp : p k = true <;> simp [hp]
    · rw [ih (by omega) (fun s hs => h s (by omega)), h n (by omega) (fun q => he q.symm)]
      omega
theorem zct_count (p : Nat → Bool) (n : Nat) : zct p n = (List.range n).countP p := by
  induction n with
  | zero => rfl
  | succ n ih =>
    show zct p n + (if p n = true then 1 else 0) = _
    rw [List.range_succ, List.countP_append, ih, List.countP_singleton]
theorem zxp_all : (List.range 32).all (fun c => decide (((List.range 32).map (fun s => s ^^^ c)).Perm (List.range 32))) = true := by decide +kernel
theorem zct_xor (p : Nat → Bool) {c : Nat} (hc : c < 32) : zct (fun s => p (s ^^^ c)) 32 = zct p 32 := by
  have h := of_decide_eq_true (List.all_eq_true.mp zxp_all c (List.mem_range.mpr hc))
  rw [zct_count, zct_count, ← h.countP_eq p, List.countP_map]
  rfl
theorem zct_or {p q : Nat → Bool} {n : Nat} (h : ∀ s, s < n → ¬ (p s = true ∧ q s = true)) : zct (fun s => p s || q s) n = zct p n + zct q n := by
  induction n with
  | zero => rfl
  | succ n ih =>
    show zct (fun s => p s || q s) n + (if (p n || q n) = true then 1 else 0) = zct p n + (if p n = true then 1 else 0) + (zct q n + (if q n = true then 1 else 0))
    rw [ih (fun s hs => h s (by omega))]
    have := h n (by omega)
    cases hp : p n <;> cases hq : q n <;> simp_all <;> omega
/-- the syndromes that the first words have -/
def zim (R : Nat → Nat) (rc n : Nat) : Nat → Bool := fun s => (zld R rc n s).isSome
theorem zim_iff {R : Nat → Nat} {rc n s : Nat} : zim R rc n s = true ↔ ∃ w, w < n ∧ zsk R w rc = s := by
  constructor
  · intro h
    obtain ⟨v, hv⟩ := Option.isSome_iff_exists.mp h
    exact ⟨v, (zld_some hv).1, (zld_some hv).2⟩
  · rintro ⟨w, hw, rfl⟩
    obtain ⟨v, hv, -⟩ := zld_min (R := R) (rc := rc) hw
    show (zld R rc n (zsk R w rc)).isSome = true
    rw [hv]; rfl
theorem zadd_xor {r k : Nat} (h : r < 2 ^ k) : 2 ^ k + r = 2 ^ k ^^^ r := by
  have h0 : 2 ^ k + r = 2 ^ k * 1 + r := by rw [Nat.mul_one]
  apply Nat.eq_of_testBit_eq
  intro i
  rw [h0, Nat.testBit_two_pow_mul_add _ h, Nat.testBit_xor, Nat.testBit_two_pow]
  by_cases hi : i < k
  · rw [if_pos hi, decide_eq_false (show ¬ k = i by omega), Bool.false_xor]
  · rw [if_neg hi, Nat.testBit_lt_two_pow (Nat.lt_of_lt_of_le h (Nat.pow_le_pow_right (by decide) (by omega))), Bool.xor_false]
    by_cases he : k = i
    · subst he; rw [Nat.sub_self, decide_eq_true rfl]; rfl
    · rw [decide_eq_false he]
      exact Nat.testBit_lt_two_pow (Nat.one_lt_two_pow (by omega))
theorem zim_step {R : Nat → Nat} {rc k : Nat} (s : Nat) : zim R rc (2 ^ (k + 1)) s = (zim R rc (2 ^ k) s || zim R rc (2 ^ k) (s ^^^ zsk R (2 ^ k) rc)) := by
  rw [Bool.eq_iff_iff, Bool.or_eq_true, zim_iff, zim_iff, zim_iff]
  have hp : 2 ^ (k + 1) = 2 ^ k + 2 ^ k := by rw [Nat.pow_succ]; omega
  constructor
  · rintro ⟨w, hw, rfl⟩
    by_cases h : w < 2 ^ k
    · exact Or.inl ⟨w, h, rfl⟩
    · right
      refine ⟨w - 2 ^ k, by omega, ?_⟩
      have h1 := zadd_xor (r := w - 2 ^ k) (k := k) (by omega)
      have h2 : 2 ^ k + (w - 2 ^ k) = w := by omega
      rw [h2] at h1
      have h3 : zsk R w rc = zsk R (2 ^ k) rc ^^^ zsk R (w - 2 ^ k) rc := by rw [← zsk_xor, ← h1]
      rw [h3, Nat.xor_comm (zsk R (2 ^ k) rc), Nat.xor_assoc, Nat.xor_self, Nat.xor_zero]
  · rintro (⟨w, hw, rfl⟩ | ⟨r, hr, he⟩)
    · exact ⟨w, by omega, rfl⟩
    · refine ⟨2 ^ k + r, by omega, ?_⟩
      rw [zadd_xor hr, zsk_xor, he, Nat.xor_comm s, ← Nat.xor_assoc, Nat.xor_self, Nat.zero_xor]
theorem zrank_pow (R : Nat → Nat) {rc : Nat} (hrc : rc ≤ 5) : ∀ k, ∃ r, zct (zim R rc (2 ^ k)) 32 = 2 ^ r := by
  intro k
  induction k with
  | zero =>
    refine ⟨0, ?_⟩
    rw [zct_congr (q := fun s => decide (s = 0)) (fun s _ => ?_)]
    · decide
    · rw [Bool.eq_iff_iff, zim_iff, decide_eq_true_iff]
      constructor
      · rintro ⟨w, hw, rfl⟩
        have : w = 0 := by have : 2 ^ 0 = 1 := rfl; omega
        subst this; exact zsk_0 R rc
      · rintro rfl
        exact ⟨0, by decide, zsk_0 R rc⟩
  | succ k ih =>
    obtain ⟨r, hr⟩ := ih
    have hc : zsk R (2 ^ k) rc < 32 := Nat.lt_of_lt_of_le (zsk_lt _ _ _) (zpw5 hrc)
    by_cases h : zim R rc (2 ^ k) (zsk R (2 ^ k) rc) = true
    · refine ⟨r, ?_⟩
      rw [← hr]
      refine zct_congr (fun s _ => ?_)
      rw [zim_step, Bool.eq_iff_iff, Bool.or_eq_true]
      refine ⟨fun q => q.elim id (fun q => ?_), Or.inl⟩
      obtain ⟨a, ha, ea⟩ := zim_iff.mp h
      obtain ⟨b, hb, eb⟩ := zim_iff.mp q
      refine zim_iff.mpr ⟨a ^^^ b, Nat.xor_lt_two_pow ha hb, ?_⟩
      rw [zsk_xor, ea, eb, Nat.xor_comm s, ← Nat.xor_assoc, Nat.xor_self, Nat.zero_xor]
    · refine ⟨r + 1, ?_⟩
      rw [zct_congr (q := fun s => zim R rc (2 ^ k) s || zim R rc (2 ^ k) (s ^^^ zsk R (2 ^ k) rc)) (fun s _ => zim_step s), zct_or (p := zim R rc (2 ^ k)) (q := fun s => zim R rc (2 ^ k) (s ^^^ zsk R (2 ^ k) rc)), zct_xor _ hc, hr, Nat.pow_succ]
      · omega
      · rintro s - ⟨q1, q2⟩
        obtain ⟨a, ha, ea⟩ := zim_iff.mp q1
        obtain ⟨b, hb, eb⟩ := zim_iff.mp q2
        refine h (zim_iff.mpr ⟨a ^^^ b, Nat.xor_lt_two_pow ha hb, ?_⟩)
        rw [zsk_xor, ea, eb, ← Nat.xor_assoc, Nat.xor_self, Nat.zero_xor]
/-- RANK, by the syndromes that are met -/
def zrk (R : Nat → Nat) (rc ln : Nat) : Nat := zpc (zct (zim R rc (2 ^ ln)) 32 - 1)
theorem zrk_all : (List.range 6).all (fun r => decide (zpc (2 ^ r - 1) = r)) = true := by decide +kernel
theorem zrk_pow (R : Nat → Nat) {rc : Nat} (ln : Nat) (hrc : rc ≤ 5) : zct (zim R rc (2 ^ ln)) 32 = 2 ^ zrk R rc ln ∧ zrk R rc ln ≤ 5 := by
  obtain ⟨r, hr⟩ := zrank_pow R hrc ln
  have h1 := zct_le (zim R rc (2 ^ ln)) 32
  have h2 : r ≤ 5 := by
    apply Nat.le_of_not_lt
    intro h
    have h3 : 2 ^ 6 ≤ 2 ^ r := Nat.pow_le_pow_right (by decide) h
    have h4 : (2 : Nat) ^ 6 = 64 := by decide
    omega
  have h5 : zrk R rc ln = r := by
    show zpc (zct (zim R rc (2 ^ ln)) 32 - 1) = r
    rw [hr]
    exact of_decide_eq_true (List.all_eq_true.mp zrk_all r (List.mem_range.mpr (by omega)))
  rw [h5]
  exact ⟨hr, h2⟩
/-- the distance among the first words; ln + 1: none -/
def zdm (R : Nat → Nat) (rc ln : Nat) : Nat → Nat
  | 0 => ln + 1
  | w + 1 => if 0 < w ∧ zpc w < zdm R rc ln w ∧ zsk R w rc = 0 then zpc w else zdm R rc ln w
theorem zdm_spec (R : Nat → Nat) (rc ln : Nat) : ∀ n, zdm R rc ln n ≤ ln + 1 ∧ (∀ w, 0 < w → w < n → zsk R w rc = 0 → zdm R rc ln n ≤ zpc w) ∧ (zdm R rc ln n ≤ ln → ∃ w, 0 < w ∧ w < n ∧ zsk R w rc = 0 ∧ zpc w = zdm R rc ln n) := by
  intro n
  induction n with
  | zero => exact ⟨Nat.le_refl _, fun w _ h => by omega, fun h => by have : zdm R rc ln 0 = ln + 1 := rfl; omega⟩
  | succ n ih =>
    obtain ⟨h1, h2, h3⟩ := ih
    have key : zdm R rc ln (n + 1) = if 0 < n ∧ zpc n < zdm R rc ln n ∧ zsk R n rc = 0 then zpc n else zdm R rc ln n := rfl
    rw [key]
    by_cases hc : 0 < n ∧ zpc n < zdm R rc ln n ∧ zsk R n rc = 0
    · rw [if_pos hc]
      refine ⟨by omega, fun w w0 wn ws => ?_, fun _ => ⟨n, hc.1, by omega, hc.2.2, rfl⟩⟩
      by_cases he : w = n
      · rw [he]; exact Nat.le_refl _
      · have := h2 w w0 (by omega) ws
        omega
    · rw [if_neg hc]
      refine ⟨h1, fun w w0 wn ws => ?_, fun h => ?_⟩
      · by_cases he : w = n
        · subst he
          have : ¬ zpc w < zdm R rc ln w := fun q => hc ⟨w0, q, ws⟩
          omega
        · exact h2 w w0 (by omega) ws
      · obtain ⟨w, a, b, c⟩ := h3 h
        exact ⟨w, a, by omega, c⟩
theorem zdm_congr {R S : Nat → Nat} {rc ln : Nat} (h : ∀ i, i < rc → R i = S i) : ∀ n, zdm R rc ln n = zdm S rc ln n := by
  intro n
  induction n with
  | zero => rfl
  | succ n ih =>
    show (if 0 < n ∧ zpc n < zdm R rc ln n ∧ zsk R n rc = 0 then zpc n else zdm R rc ln n) = (if 0 < n ∧ zpc n < zdm S rc ln n ∧ zsk S n rc = 0 then zpc n else zdm S rc ln n)
    rw [ih, zsk_congr h]
/-- half of a word's bits -/
def zhf (v t : Nat) : Nat → Nat
  | 0 => 0
  | k + 1 => if v / 2 ^ k % 2 = 1 ∧ zpc (zhf v t k) < t then zhf v t k + 2 ^ k else zhf v t k
theorem zhf_all : (List.range 1024).all (fun v => decide (zhf v ((zpc v + 1) / 2) 10 ≤ v ∧ zpc (zhf v ((zpc v + 1) / 2) 10) = (zpc v + 1) / 2 ∧ zpc (v ^^^ zhf v ((zpc v + 1) / 2) 10) = zpc v / 2)) = true := by decide +kernel
theorem zhalf {v : Nat} (h : v < 1024) : ∃ w, w ≤ v ∧ zpc w = (zpc v + 1) / 2 ∧ zpc (v ^^^ w) = zpc v / 2 := ⟨_, of_decide_eq_true (List.all_eq_true.mp zhf_all v (List.mem_range.mpr h))⟩
/-- how many of the first words are as near as w in its coset -/
def zsl (R : Nat → Nat) (rc w : Nat) : Nat → Nat
  | 0 => 0
  | v + 1 => zsl R rc w v + (if zsk R v rc = zsk R w rc ∧ v ≠ w ∧ zpc v ≤ zpc w then 1 else 0)
theorem zsl_le (R : Nat → Nat) (rc w n : Nat) : zsl R rc w n ≤ n := by
  induction n with
  | zero => exact Nat.le_refl 0
  | succ n ih =>
    show zsl R rc w n + (if zsk R n rc = zsk R w rc ∧ n ≠ w ∧ zpc n ≤ zpc w then 1 else 0) ≤ n + 1
    split <;> omega
theorem zsl_0 {R : Nat → Nat} {rc w : Nat} : ∀ {n : Nat}, zsl R rc w n = 0 ↔ ∀ v, v < n → ¬ (zsk R v rc = zsk R w rc ∧ v ≠ w ∧ zpc v ≤ zpc w) := by
  intro n
  induction n with
  | zero => exact ⟨fun _ v h => by omega, fun _ => rfl⟩
  | succ n ih =>
    have key : zsl R rc w (n + 1) = zsl R rc w n + (if zsk R n rc = zsk R w rc ∧ n ≠ w ∧ zpc n ≤ zpc w then 1 else 0) := rfl
    rw [key]
    constructor
    · intro h v hv
      by_cases he : v = n
      · subst he
        intro q
        rw [if_pos q] at h
        omega
      · exact ih.mp (by omega) v (by omega)
    · intro h
      rw [if_neg (h n (by omega)), ih.mpr (fun v hv => h v (by omega))]
/-- SURE, as the words are gone through -/
def zsr (R : Nat → Nat) (rc ln N : Nat) : Nat → Nat
  | 0 => ln
  | w + 1 => if zpc w ≤ zsr R rc ln N w ∧ zsl R rc w N ≠ 0 then zpc w - 1 else zsr R rc ln N w
theorem zsr_inv (R : Nat → Nat) (rc ln N : Nat) : ∀ n, zsr R rc ln N n ≤ ln ∧ (∀ w, w < n → zsl R rc w N ≠ 0 → zsr R rc ln N n ≤ zpc w - 1) ∧ (zsr R rc ln N n = ln ∨ ∃ w, w < n ∧ zsl R rc w N ≠ 0 ∧ zsr R rc ln N n = zpc w - 1) := by
  intro n
  induction n with
  | zero => exact ⟨Nat.le_refl _, fun w h => by omega, Or.inl rfl⟩
  | succ n ih =>
    obtain ⟨h1, h2, h3⟩ := ih
    have key : zsr R rc ln N (n + 1) = if zpc n ≤ zsr R rc ln N n ∧ zsl R rc n N ≠ 0 then zpc n - 1 else zsr R rc ln N n := rfl
    rw [key]
    by_cases hc : zpc n ≤ zsr R rc ln N n ∧ zsl R rc n N ≠ 0
    · rw [if_pos hc]
      refine ⟨by omega, fun w hw hn => ?_, Or.inr ⟨n, by omega, hc.2, rfl⟩⟩
      by_cases he : w = n
      · rw [he]; exact Nat.le_refl _
      · have := h2 w (by omega) hn
        omega
    · rw [if_neg hc]
      refine ⟨h1, fun w hw hn => ?_, h3.elim Or.inl (fun ⟨w, a, b⟩ => Or.inr ⟨w, by omega, b⟩)⟩
      by_cases he : w = n
      · subst he
        have : ¬ zpc w ≤ zsr R rc ln N w := fun q => hc ⟨q, hn⟩
        omega
      · exact h2 w (by omega) hn
theorem zsl_pos {R : Nat → Nat} {rc w ln : Nat} (hln : ln ≤ 10) (hw : w < 2 ^ ln) (h : zsl R rc w (2 ^ ln) ≠ 0) : ∃ v, v < 2 ^ ln ∧ zsk R v rc = zsk R w rc ∧ v ≠ w ∧ zpc v ≤ zpc w ∧ 0 < zpc w := by
  have hp := zpw hln
  apply Classical.byContradiction
  intro hn
  refine h (zsl_0.mpr (fun v hv q => hn ⟨v, hv, q.1, q.2.1, q.2.2, ?_⟩))
  apply Nat.pos_of_ne_zero
  intro h0
  have e1 := zpc0 (w := w) (by omega) h0
  have e2 := zpc0 (w := v) (by omega) (by omega)
  exact q.2.1 (by omega)
def zsu (ln d : Nat) : Nat := if ln < d then ln else (d - 1) / 2
theorem zsr_eq (R : Nat → Nat) {rc ln : Nat} (h3 : 3 ≤ ln) (hln : ln ≤ 10) : zsr R rc ln (2 ^ ln) (2 ^ ln) = zsu ln (zdm R rc ln (2 ^ ln)) := by
  have hp := zpw hln
  obtain ⟨a1, a2, a3⟩ := zsr_inv R rc ln (2 ^ ln) (2 ^ ln)
  obtain ⟨b1, b2, b3⟩ := zdm_spec R rc ln (2 ^ ln)
  -- two of one coset
  have near : ∀ w, w < 2 ^ ln → zsl R rc w (2 ^ ln) ≠ 0 → zdm R rc ln (2 ^ ln) ≤ 2 * zpc w ∧ 0 < zpc w := by
    intro w hw hn
    obtain ⟨v, hv, e1, e2, e3, e4⟩ := zsl_pos hln hw hn
    refine ⟨?_, e4⟩
    have h1 := b2 (v ^^^ w) (Nat.pos_of_ne_zero (fun q => e2 (zxor_0 q))) (Nat.xor_lt_two_pow hv hw) (zsk_eq.mp e1)
    have h2 := zpk_xor_le v w 10
    have h4 : zpc (v ^^^ w) ≤ zpc v + zpc w := h2
    omega
  unfold zsu
  by_cases hd : ln < zdm R rc ln (2 ^ ln)
  · rw [if_pos hd]
    rcases a3 with h | ⟨w, hw, hn, he⟩
    · exact h
    · exfalso
      have h1 := near w hw hn
      obtain ⟨v, hv, e1, e2, e3, e4⟩ := zsl_pos hln hw hn
      have h2 := b2 (v ^^^ w) (Nat.pos_of_ne_zero (fun q => e2 (zxor_0 q))) (Nat.xor_lt_two_pow hv hw) (zsk_eq.mp e1)
      have h5 : zpc (v ^^^ w) ≤ ln := zpk_hi (Nat.xor_lt_two_pow hv hw) 10
      omega
  · rw [if_neg hd]
    obtain ⟨v, v0, hv, vs, ve⟩ := b3 (by omega)
    obtain ⟨w, wv, w1, w2⟩ := zhalf (v := v) (by omega)
    have hn : zsl R rc w (2 ^ ln) ≠ 0 := by
      intro q
      refine zsl_0.mp q (v ^^^ w) (Nat.xor_lt_two_pow hv (by omega)) ⟨?_, ?_, by omega⟩
      · rw [zsk_xor, vs, Nat.zero_xor]
      · intro e
        have e9 : v = 0 := by
          have e8 : (v ^^^ w) ^^^ w = w ^^^ w := by rw [e]
          rw [Nat.xor_assoc, Nat.xor_self, Nat.xor_zero] at e8
          exact e8
        omega
    have h1 := a2 w (by omega) hn
    rcases a3 with h | ⟨u, hu, hun, he⟩
    · have h6 : zpc v ≤ ln := zpk_hi hv 10
      have h7 := near w (by omega) hn
      omega
    · have h8 := near u hu hun
      omega
/-- RADIUS: by syndromes; by words -/
def zrad (Lf : Nat → Option Nat) : Nat → Nat
  | 0 => 0
  | s + 1 => match Lf s with
    | none => zrad Lf s
    | some v => if zrad Lf s < zpc v then zpc v else zrad Lf s
theorem zrad_none {Lf : Nat → Option Nat} {s : Nat} (h : Lf s = none) : zrad Lf (s + 1) = zrad Lf s := by
  show (match Lf s with | none => zrad Lf s | some v => if zrad Lf s < zpc v then zpc v else zrad Lf s) = _
  rw [h]
theorem zrad_some {Lf : Nat → Option Nat} {s v : Nat} (h : Lf s = some v) : zrad Lf (s + 1) = if zrad Lf s < zpc v then zpc v else zrad Lf s := by
  show (match Lf s with | none => zrad Lf s | some v => if zrad Lf s < zpc v then zpc v else zrad Lf s) = _
  rw [h]
theorem zrad_spec (Lf : Nat → Option Nat) : ∀ n, zrad Lf n ≤ 10 ∧ (∀ s v, s < n → Lf s = some v → zpc v ≤ zrad Lf n) ∧ (zrad Lf n = 0 ∨ ∃ s v, s < n ∧ Lf s = some v ∧ zpc v = zrad Lf n) := by
  intro n
  induction n with
  | zero => exact ⟨Nat.zero_le _, fun s v h => by omega, Or.inl rfl⟩
  | succ n ih =>
    obtain ⟨h0, h1, h2⟩ := ih
    cases hL : Lf n with
    | none =>
      rw [zrad_none hL]
      refine ⟨h0, fun s v hs hv => ?_, h2.elim Or.inl (fun ⟨s, v, a, b⟩ => Or.inr ⟨s, v, by omega, b⟩)⟩
      by_cases he : s = n
      · subst he; rw [hL] at hv; cases hv
      · exact h1 s v (by omega) hv
    | some u =>
      rw [zrad_some hL]
      have hu := zpc_le u
      by_cases hc : zrad Lf n < zpc u
      · rw [if_pos hc]
        refine ⟨hu, fun s v hs hv => ?_, Or.inr ⟨n, u, by omega, hL, rfl⟩⟩
        by_cases he : s = n
        · subst he; rw [hL] at hv; cases hv; exact Nat.le_refl _
        · have := h1 s v (by omega) hv
          omega
      · rw [if_neg hc]
        refine ⟨h0, fun s v hs hv => ?_, h2.elim Or.inl (fun ⟨s, v, a, b⟩ => Or.inr ⟨s, v, by omega, b⟩)⟩
        by_cases he : s = n
        · subst he; rw [hL] at hv; cases hv; omega
        · exact h1 s v (by omega) hv
def zrw (R : Nat → Nat) (rc N : Nat) : Nat → Nat
  | 0 => 0
  | w + 1 => if zld R rc N (zsk R w rc) = some w ∧ zrw R rc N w < zpc w then zpc w else zrw R rc N w
theorem zrw_spec (R : Nat → Nat) (rc N : Nat) : ∀ n, zrw R rc N n ≤ 10 ∧ (∀ w, w < n → zld R rc N (zsk R w rc) = some w → zpc w ≤ zrw R rc N n) ∧ (zrw R rc N n = 0 ∨ ∃ w, w < n ∧ zld R rc N (zsk R w rc) = some w ∧ zpc w = zrw R rc N n) := by
  intro n
  induction n with
  | zero => exact ⟨Nat.zero_le _, fun w h => by omega, Or.inl rfl⟩
  | succ n ih =>
    obtain ⟨h0, h1, h2⟩ := ih
    have key : zrw R rc N (n + 1) = if zld R rc N (zsk R n rc) = some n ∧ zrw R rc N n < zpc n then zpc n else zrw R rc N n := rfl
    rw [key]
    have hu := zpc_le n
    by_cases hc : zld R rc N (zsk R n rc) = some n ∧ zrw R rc N n < zpc n
    · rw [if_pos hc]
      refine ⟨hu, fun w hw he => ?_, Or.inr ⟨n, by omega, hc.1, rfl⟩⟩
      by_cases hwn : w = n
      · rw [hwn]; exact Nat.le_refl _
      · have := h1 w (by omega) he
        omega
    · rw [if_neg hc]
      refine ⟨h0, fun w hw he => ?_, h2.elim Or.inl (fun ⟨w, a, b⟩ => Or.inr ⟨w, by omega, b⟩)⟩
      by_cases hwn : w = n
      · subst hwn
        have : ¬ zrw R rc N w < zpc w := fun q => hc ⟨he, q⟩
        omega
      · exact h1 w (by omega) he
theorem zrw_eq (R : Nat → Nat) {rc N : Nat} (hrc : rc ≤ 5) : zrw R rc N N = zrad (zld R rc N) 32 := by
  obtain ⟨a0, a1, a2⟩ := zrw_spec R rc N N
  obtain ⟨b0, b1, b2⟩ := zrad_spec (zld R rc N) 32
  apply Nat.le_antisymm
  · rcases a2 with h | ⟨w, hw, he, hq⟩
    · omega
    · have := b1 (zsk R w rc) w (Nat.lt_of_lt_of_le (zsk_lt _ _ _) (zpw5 hrc)) he
      omega
  · rcases b2 with h | ⟨s, v, hs, he, hq⟩
    · omega
    · obtain ⟨c1, c2⟩ := zld_some he
      have := a1 v c1 (by rw [c2]; exact he)
      omega
/-- how many leaders have a weight -/
def zhw (Lf : Nat → Option Nat) (wt : Nat) : Nat → Bool := fun s => match Lf s with
  | none => false
  | some v => decide (zpc v = wt)
theorem zhw_none {Lf : Nat → Option Nat} {wt s : Nat} (h : Lf s = none) : zhw Lf wt s = false := by
  show (match Lf s with | none => false | some v => decide (zpc v = wt)) = _
  rw [h]
theorem zhw_some {Lf : Nat → Option Nat} {wt s v : Nat} (h : Lf s = some v) : zhw Lf wt s = decide (zpc v = wt) := by
  show (match Lf s with | none => false | some v => decide (zpc v = wt)) = _
  rw [h]
