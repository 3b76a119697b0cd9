/-! steps of the loops, in the words of 05 -/
theorem zopt (o : Option Nat) : o = none ∨ ∃ v, o = some v := by
  cases o with
  | none => exact Or.inl rfl
  | some v => exact Or.inr ⟨v, rfl⟩
theorem zdm_1 (R : Nat → Nat) (rc ln : Nat) : zdm R rc ln 1 = ln + 1 := by
  show (if 0 < 0 ∧ zpc 0 < zdm R rc ln 0 ∧ zsk R 0 rc = 0 then zpc 0 else zdm R rc ln 0) = ln + 1
  rw [if_neg (fun q => Nat.lt_irrefl 0 q.1)]
  rfl
theorem zdm_hit {R : Nat → Nat} {rc ln w : Nat} (h1 : zpc w < zdm R rc ln w) (h2 : zsk R w rc = 0) (h0 : 0 < w) : zdm R rc ln (w + 1) = zpc w := by
  show (if 0 < w ∧ zpc w < zdm R rc ln w ∧ zsk R w rc = 0 then zpc w else zdm R rc ln w) = zpc w
  rw [if_pos ⟨h0, h1, h2⟩]
theorem zdm_miss {R : Nat → Nat} {rc ln w : Nat} (h : ¬ (zpc w < zdm R rc ln w ∧ zsk R w rc = 0)) : zdm R rc ln (w + 1) = zdm R rc ln w := by
  show (if 0 < w ∧ zpc w < zdm R rc ln w ∧ zsk R w rc = 0 then zpc w else zdm R rc ln w) = zdm R rc ln w
  rw [if_neg (fun q => h q.2)]
theorem zdm_le (R : Nat → Nat) (rc ln n : Nat) : zdm R rc ln n ≤ ln + 1 := (zdm_spec R rc ln n).1
/-- the so-manieth of the words from w on -/
def zco (p : Nat → Bool) (x : Int32) : Nat → Nat → Nat → Int32
  | 0, _, _ => -1001
  | k + 1, w, a => if p w = true then (if nI a = x then nI w else zco p x k (w + 1) (a + 1)) else zco p x k (w + 1) a
theorem zco_end {p : Nat → Bool} {x : Int32} {N i a : Nat} (h : N ≤ i) : zco p x (N - i) i a = -1001 := by
  rw [show N - i = 0 by omega]; rfl
theorem zco_hit {p : Nat → Bool} {x : Int32} {N i a : Nat} (h : i < N) (hp : p i = true) (hx : nI a = x) : zco p x (N - i) i a = nI i := by
  rw [show N - i = (N - (i + 1)) + 1 by omega]
  show (if p i = true then (if nI a = x then nI i else zco p x (N - (i + 1)) (i + 1) (a + 1)) else zco p x (N - (i + 1)) (i + 1) a) = _
  rw [if_pos hp, if_pos hx]
theorem zco_go {p : Nat → Bool} {x : Int32} {N i a : Nat} (h : i < N) (hp : p i = true) (hx : ¬ nI a = x) : zco p x (N - i) i a = zco p x (N - (i + 1)) (i + 1) (a + 1) := by
  rw [show N - i = (N - (i + 1)) + 1 by omega]
  show (if p i = true then (if nI a = x then nI i else zco p x (N - (i + 1)) (i + 1) (a + 1)) else zco p x (N - (i + 1)) (i + 1) a) = _
  rw [if_pos hp, if_neg hx]
theorem zco_skip {p : Nat → Bool} {x : Int32} {N i a : Nat} (h : i < N) (hp : ¬ p i = true) : zco p x (N - i) i a = zco p x (N - (i + 1)) (i + 1) a := by
  rw [show N - i = (N - (i + 1)) + 1 by omega]
  show (if p i = true then (if nI a = x then nI i else zco p x (N - (i + 1)) (i + 1) (a + 1)) else zco p x (N - (i + 1)) (i + 1) a) = _
  rw [if_neg hp]
theorem zco_neg {p : Nat → Bool} {x : Int32} (hx : x < 0) : ∀ k w a, a + k < 2 ^ 31 → zco p x k w a = -1001 := by
  intro k
  induction k with
  | zero => intro w a _; rfl
  | succ k ih =>
    intro w a h
    show (if p w = true then (if nI a = x then nI w else zco p x k (w + 1) (a + 1)) else zco p x k (w + 1) a) = _
    rw [if_neg (show ¬ nI a = x from fun q => nI_pos (n := a) (by omega) (q ▸ hx)), ih _ _ (by omega), ih _ _ (by omega)]
    split <;> rfl
/-- no word but 0 has syndrome 0 and 0 at the known places -/
def zen (R : Nat → Nat) (rc kn : Nat) : Nat → Bool
  | 0 => true
  | w + 1 => zen R rc kn w && !(decide (0 < w ∧ w &&& kn = 0 ∧ zsk R w rc = 0))
theorem zen_1 (R : Nat → Nat) (rc kn : Nat) : zen R rc kn 1 = true := by
  show (true && !(decide (0 < 0 ∧ 0 &&& kn = 0 ∧ zsk R 0 rc = 0))) = true
  rw [decide_eq_false (fun q => Nat.lt_irrefl 0 q.1)]; rfl
theorem zen_bad {R : Nat → Nat} {rc kn w : Nat} (h1 : w &&& kn = 0) (h2 : zsk R w rc = 0) (h0 : 0 < w) : zen R rc kn (w + 1) = false := by
  show (zen R rc kn w && !(decide (0 < w ∧ w &&& kn = 0 ∧ zsk R w rc = 0))) = false
  rw [decide_eq_true ⟨h0, h1, h2⟩]; cases zen R rc kn w <;> rfl
theorem zen_good {R : Nat → Nat} {rc kn w : Nat} (h : zen R rc kn w = true) (hn : ¬ (w &&& kn = 0 ∧ zsk R w rc = 0)) : zen R rc kn (w + 1) = true := by
  show (zen R rc kn w && !(decide (0 < w ∧ w &&& kn = 0 ∧ zsk R w rc = 0))) = true
  rw [decide_eq_false (fun q => hn q.2), h]; rfl
theorem zen_mono {R : Nat → Nat} {rc kn : Nat} : ∀ {a b : Nat}, a ≤ b → zen R rc kn a = false → zen R rc kn b = false := by
  intro a b h ha
  induction b with
  | zero => rw [show a = 0 by omega] at ha; exact ha
  | succ b ih =>
    by_cases he : a = b + 1
    · rw [← he]; exact ha
    · show (zen R rc kn b && !(decide (0 < b ∧ b &&& kn = 0 ∧ zsk R b rc = 0))) = false
      rw [ih (by omega)]; rfl
theorem zen_iff {R : Nat → Nat} {rc kn : Nat} : ∀ {n : Nat}, zen R rc kn n = true ↔ ∀ w, 0 < w → w < n → ¬ (w &&& kn = 0 ∧ zsk R w rc = 0) := by
  intro n
  induction n with
  | zero => exact ⟨fun _ w _ h => by omega, fun _ => rfl⟩
  | succ n ih =>
    have key : zen R rc kn (n + 1) = (zen R rc kn n && !(decide (0 < n ∧ n &&& kn = 0 ∧ zsk R n rc = 0))) := rfl
    rw [key, Bool.and_eq_true, ih]
    constructor
    · rintro ⟨h1, h2⟩ w w0 wn q
      by_cases he : w = n
      · subst he
        rw [decide_eq_true ⟨w0, q⟩] at h2
        cases h2
      · exact h1 w w0 (by omega) q
    · intro h
      refine ⟨fun w w0 wn => h w w0 (by omega), ?_⟩
      rw [decide_eq_false]
      · rfl
      · exact fun q => h n q.1 (by omega) q.2
/-- the first word, the last word -/
def zfs (p : Nat → Bool) : Nat → Nat → Option Nat
  | 0, _ => none
  | k + 1, w => if p w = true then some w else zfs p k (w + 1)
theorem zfs_end {p : Nat → Bool} {N i : Nat} (h : N ≤ i) : zfs p (N - i) i = none := by
  rw [show N - i = 0 by omega]; rfl
theorem zfs_hit {p : Nat → Bool} {N i : Nat} (h : i < N) (hp : p i = true) : zfs p (N - i) i = some i := by
  rw [show N - i = (N - (i + 1)) + 1 by omega]
  show (if p i = true then some i else zfs p (N - (i + 1)) (i + 1)) = _
  rw [if_pos hp]
theorem zfs_skip {p : Nat → Bool} {N i : Nat} (h : i < N) (hp : ¬ p i = true) : zfs p (N - i) i = zfs p (N - (i + 1)) (i + 1) := by
  rw [show N - i = (N - (i + 1)) + 1 by omega]
  show (if p i = true then some i else zfs p (N - (i + 1)) (i + 1)) = _
  rw [if_neg hp]
def zls (p : Nat → Bool) : Nat → Option Nat
  | 0 => none
  | w + 1 => if p w = true then some w else zls p w
theorem zls_hit {p : Nat → Bool} {w : Nat} (h : p w = true) : zls p (w + 1) = some w := by
  show (if p w = true then some w else zls p w) = _
  rw [if_pos h]
theorem zls_miss {p : Nat → Bool} {w : Nat} (h : ¬ p w = true) : zls p (w + 1) = zls p w := by
  show (if p w = true then some w else zls p w) = _
  rw [if_neg h]
theorem zls_spec {p : Nat → Bool} : ∀ n, (∀ v, zls p n = some v → v < n ∧ p v = true) ∧ (zls p n = none → ∀ w, w < n → ¬ p w = true) := by
  intro n
  induction n with
  | zero => exact ⟨(fun v h => by cases h), fun _ w h => by omega⟩
  | succ n ih =>
    by_cases hp : p n = true
    · rw [zls_hit hp]
      exact ⟨fun v h => by cases h; exact ⟨by omega, hp⟩, fun h => by cases h⟩
    · rw [zls_miss hp]
      refine ⟨fun v h => ⟨by have := (ih.1 v h).1; omega, (ih.1 v h).2⟩, fun h w hw => ?_⟩
      by_cases he : w = n
      · rw [he]; exact hp
      · exact ih.2 h w (by omega)
theorem zfs_spec {p : Nat → Bool} : ∀ k w, (∀ v, zfs p k w = some v → w ≤ v ∧ v < w + k ∧ p v = true) ∧ (zfs p k w = none → ∀ v, w ≤ v → v < w + k → ¬ p v = true) := by
  intro k
  induction k with
  | zero => intro w; exact ⟨(fun v h => by cases h), fun _ v h1 h2 => by omega⟩
  | succ k ih =>
    intro w
    have key : zfs p (k + 1) w = if p w = true then some w else zfs p k (w + 1) := rfl
    rw [key]
    by_cases hp : p w = true
    · rw [if_pos hp]
      exact ⟨fun v h => by cases h; exact ⟨by omega, by omega, hp⟩, fun h => by cases h⟩
    · rw [if_neg hp]
      obtain ⟨h1, h2⟩ := ih (w + 1)
      refine ⟨fun v h => ?_, fun h v hv1 hv2 => ?_⟩
      · have := h1 v h
        exact ⟨by omega, by omega, this.2.2⟩
      · by_cases he : v = w
        · rw [he]; exact hp
        · exact h2 h v (by omega) (by omega)
theorem zfs_zls {p : Nat → Bool} {N : Nat} (h : ∀ a b, a < N → b < N → p a = true → p b = true → a = b) : zfs p N 0 = zls p N := by
  obtain ⟨f1, f2⟩ := zfs_spec (p := p) N 0
  obtain ⟨g1, g2⟩ := zls_spec (p := p) N
  cases ha : zfs p N 0 with
  | none =>
    cases hb : zls p N with
    | none => rfl
    | some b => exact absurd (g1 b hb).2 (f2 ha b (Nat.zero_le _) (by have := (g1 b hb).1; omega))
  | some a =>
    obtain ⟨-, a1, a2⟩ := f1 a ha
    cases hb : zls p N with
    | none => exact absurd a2 (g2 hb a (by omega))
    | some b => rw [h a b (by omega) (g1 b hb).1 a2 (g1 b hb).2]
/-- VERDICT -/
def zvd (x y f su : Nat) : Nat := if x ^^^ f = y then (if zpc f ≤ su then 0 else 1) else (if zpc f ≤ su then 3 else 2)
theorem zvd_lt (x y f su : Nat) : zvd x y f su < 4 := by
  unfold zvd
  split <;> split <;> decide
/-- what the first word is taken to be -/
def zsp (R : Nat → Nat) (rc one other x y f : Nat) : Nat → Bool := fun w => decide (w &&& (one ||| other) = (x &&& one ||| (y ^^^ f) &&& other) ∧ zsk R w rc = zsk R x rc)
def zsh (R : Nat → Nat) (rc ln one other x y f : Nat) : Int32 := if zen R rc (one ||| other) (2 ^ ln) = true then zo (zfs (zsp R rc one other x y f) (2 ^ ln) 0) else -1001
/-- leaders, one word more -/
theorem zld_hit {R : Nat → Nat} {rc i : Nat} (h : znear i (zld R rc i (zsk R i rc)) = true) (s : Nat) : upd (fun s => zo (zld R rc i s)) (zsk R i rc) (nI i) s = zo (zld R rc (i + 1) s) := by
  show (if s = zsk R i rc then nI i else zo (zld R rc i s)) = zo (if zsk R i rc = s ∧ znear i (zld R rc i s) = true then some i else zld R rc i s)
  by_cases hs : s = zsk R i rc
  · subst hs
    rw [if_pos rfl, if_pos ⟨rfl, h⟩]; rfl
  · rw [if_neg hs, if_neg (fun q => hs q.1.symm)]
theorem zld_miss {R : Nat → Nat} {rc i : Nat} (h : znear i (zld R rc i (zsk R i rc)) = false) (s : Nat) : zo (zld R rc i s) = zo (zld R rc (i + 1) s) := by
  show _ = zo (if zsk R i rc = s ∧ znear i (zld R rc i s) = true then some i else zld R rc i s)
  rw [if_neg]
  rintro ⟨rfl, q⟩
  rw [h] at q; cases q
/-- an array filled from its beginning -/
theorem zfill {f : Nat → Int32} {v : Int32} {i : Nat} (j : Nat) : upd (fun j => if j < i then v else f j) i v j = if j < i + 1 then v else f j := by
  show (if j = i then v else if j < i then v else f j) = _
  by_cases h : j = i
  · rw [if_pos h, if_pos (by omega)]
  · rw [if_neg h]
    by_cases h2 : j < i
    · rw [if_pos h2, if_pos (by omega)]
    · rw [if_neg h2, if_neg (by omega)]
theorem zcopy {f g : Nat → Int32} {i : Nat} (j : Nat) : upd (fun j => if j < i then g j else f j) i (g i) j = if j < i + 1 then g j else f j := by
  show (if j = i then g i else if j < i then g j else f j) = _
  by_cases h : j = i
  · rw [if_pos h, if_pos (by omega), h]
  · rw [if_neg h]
    by_cases h2 : j < i
    · rw [if_pos h2, if_pos (by omega)]
    · rw [if_neg h2, if_neg (by omega)]
theorem zmx {a b : Nat} (ha : a < 2 ^ 31) (hb : b < 2 ^ 31) : (if nI a < nI b then nI b else nI a) = nI (if a < b then b else a) := by
  by_cases h : a < b
  · rw [if_pos h, if_pos ((nI_ltI ha hb).mpr h)]
  · rw [if_neg h, if_neg (fun q => h ((nI_ltI ha hb).mp q))]
theorem zct_t {p : Nat → Bool} {i : Nat} (h : p i = true) : zct p (i + 1) = zct p i + 1 := by
  show zct p i + (if p i = true then 1 else 0) = _
  rw [if_pos h]
theorem zct_f {p : Nat → Bool} {i : Nat} (h : p i = false) : zct p (i + 1) = zct p i := by
  show zct p i + (if p i = true then 1 else 0) = _
  rw [h]; rfl
theorem zsome_f {Lo : Nat → Option Nat} {i : Nat} (h : Lo i = none) : (fun s => (Lo s).isSome) i = false := by
  show (Lo i).isSome = false
  rw [h]; rfl
theorem zsome_t {Lo : Nat → Option Nat} {i v : Nat} (h : Lo i = some v) : (fun s => (Lo s).isSome) i = true := by
  show (Lo i).isSome = true
  rw [h]; rfl
theorem zw_add {Lo : Nat → Option Nat} {i v : Nat} (h : Lo i = some v) (j : Nat) : upd (fun j => nI (zct (zhw Lo j) i)) (zpc v) (nI (zct (zhw Lo (zpc v)) i + 1)) j = nI (zct (zhw Lo j) (i + 1)) := by
  show (if j = zpc v then nI (zct (zhw Lo (zpc v)) i + 1) else nI (zct (zhw Lo j) i)) = _
  by_cases hj : j = zpc v
  · subst hj
    rw [if_pos rfl, zct_t (by rw [zhw_some h, decide_eq_true rfl])]
  · rw [if_neg hj, zct_f (by rw [zhw_some h, decide_eq_false (fun q => hj q.symm)])]
theorem zw_same {Lo : Nat → Option Nat} {i : Nat} (h : Lo i = none) (j : Nat) : nI (zct (zhw Lo j) i) = nI (zct (zhw Lo j) (i + 1)) := by
  rw [zct_f (zhw_none h)]
/-- one row put in another's place -/
def zset (R : Nat → Nat) (i v : Nat) : Nat → Nat := fun j => if j = i then v else R j
theorem zset_arr {Rf : Nat → Int32} {R : Nat → Nat} {rc i v : Nat} (hR : ∀ j, j < rc → Rf j = nI (R j)) (j : Nat) (hj : j < rc) : upd Rf i (nI v) j = nI (zset R i v j) := by
  show (if j = i then nI v else Rf j) = nI (if j = i then v else R j)
  by_cases h : j = i
  · rw [if_pos h, if_pos h]
  · rw [if_neg h, if_neg h]; exact hR j hj
theorem zset_b {R : Nat → Nat} {rc i v : Nat} (hRb : ∀ j, j < rc → R j < 1024) (hv : v < 1024) (j : Nat) (hj : j < rc) : zset R i v j < 1024 := by
  show (if j = i then v else R j) < 1024
  by_cases h : j = i
  · rw [if_pos h]; exact hv
  · rw [if_neg h]; exact hRb j hj
theorem zback {f : Nat → Int32} {i : Nat} {v : Int32} (j : Nat) : upd (upd f i v) i (f i) j = f j := by
  show (if j = i then f i else if j = i then v else f j) = f j
  by_cases h : j = i
  · rw [if_pos h, h]
  · rw [if_neg h, if_neg h]
/-! READING: the text is read letter by letter -/
def zwh (rw sg lg : Nat) : Bool := if rw = 0 then decide (3 ≤ sg) else decide (sg = lg)
def zmo (rw lg : Nat) : Nat := if rw = 0 then 10 else lg
def zsgn (rw sg lg : Nat) (R : Nat → Nat) (b : Nat) : Option (Nat × Nat × Nat × (Nat → Nat)) := if sg < zmo rw lg then some (rw, sg + 1, lg, zset R rw (R rw + b * 2 ^ sg)) else none
def zeor (rw sg lg : Nat) (R : Nat → Nat) : Option (Nat × Nat × Nat × (Nat → Nat)) := if zwh rw sg lg = true ∧ rw < 4 then some (rw + 1, 0, sg, R) else none
def zstep (st : Nat × Nat × Nat × (Nat → Nat)) (c : Int32) : Option (Nat × Nat × Nat × (Nat → Nat)) := match st with
  | (rw, sg, lg, R) => if c.toInt = 47 then zeor rw sg lg R else if c.toInt = 48 then zsgn rw sg lg R 0 else if c.toInt = 49 then zsgn rw sg lg R 1 else none
def zrok (st : Nat × Nat × Nat × (Nat → Nat)) : Prop := match st with
  | (rw, sg, lg, R) => rw ≤ 4 ∧ sg ≤ 10 ∧ lg ≤ 10 ∧ (rw = 0 → lg = 0) ∧ (0 < rw → 3 ≤ lg ∧ sg ≤ lg) ∧ (∀ i, i < rw → R i < 2 ^ lg) ∧ R rw < 2 ^ sg ∧ (∀ i, rw < i → R i = 0)
def zr0 : Nat × Nat × Nat × (Nat → Nat) := (0, 0, 0, fun _ => 0)
theorem zrok_0 : zrok zr0 := ⟨by decide, by decide, by decide, fun _ => rfl, fun h => by omega, fun i h => by omega, Nat.one_pos, fun _ _ => rfl⟩
theorem zrok_eor {rw sg lg : Nat} {R : Nat → Nat} {st : Nat × Nat × Nat × (Nat → Nat)} (h : zrok (rw, sg, lg, R)) (e : zeor rw sg lg R = some st) : zrok st := by
  obtain ⟨h1, h2, h3, h4, h5, h6, h7, h8⟩ := h
  unfold zeor at e
  by_cases hc : zwh rw sg lg = true ∧ rw < 4
  · rw [if_pos hc] at e
    cases e
    obtain ⟨hw, hr⟩ := hc
    unfold zwh at hw
    by_cases h0 : rw = 0
    · rw [if_pos h0] at hw
      have := of_decide_eq_true hw
      subst h0
      refine ⟨by omega, by omega, h2, fun q => by omega, fun _ => ⟨by omega, by omega⟩, fun i hi => ?_, ?_, fun i hi => h8 i (by omega)⟩
      · rw [show i = 0 by omega]; exact h7
      · rw [h8 1 (by omega)]; exact Nat.one_pos
    · rw [if_neg h0] at hw
      have he := of_decide_eq_true hw
      refine ⟨by omega, by omega, h2, fun q => by omega, fun _ => ⟨by have := h5 (by omega); omega, by omega⟩, fun i hi => ?_, ?_, fun i hi => h8 i (by omega)⟩
      · by_cases hi2 : i = rw
        · rw [hi2]; exact h7
        · rw [he]; exact h6 i (by omega)
      · rw [h8 (rw + 1) (by omega)]; exact Nat.one_pos
  · rw [if_neg hc] at e; cases e
theorem zrok_sgn {rw sg lg b : Nat} {R : Nat → Nat} {st : Nat × Nat × Nat × (Nat → Nat)} (hb : b < 2) (h : zrok (rw, sg, lg, R)) (e : zsgn rw sg lg R b = some st) : zrok st := by
  obtain ⟨h1, h2, h3, h4, h5, h6, h7, h8⟩ := h
  unfold zsgn at e
  by_cases hc : sg < zmo rw lg
  · rw [if_pos hc] at e
    cases e
    have hm : zmo rw lg ≤ 10 ∧ (0 < rw → zmo rw lg = lg) := by
      unfold zmo
      by_cases h0 : rw = 0
      · rw [if_pos h0]; exact ⟨by omega, fun q => by omega⟩
      · rw [if_neg h0]; exact ⟨by omega, fun _ => rfl⟩
    refine ⟨h1, by omega, h3, h4, fun q => ⟨(h5 q).1, by have := hm.2 q; omega⟩, fun i hi => ?_, ?_, fun i hi => ?_⟩
    · show (if i = rw then R rw + b * 2 ^ sg else R i) < 2 ^ lg
      rw [if_neg (by omega)]; exact h6 i hi
    · show (if rw = rw then R rw + b * 2 ^ sg else R rw) < 2 ^ (sg + 1)
      rw [if_pos rfl, Nat.pow_succ]
      rcases (show b = 0 ∨ b = 1 by omega) with rfl | rfl <;> omega
    · show (if i = rw then R rw + b * 2 ^ sg else R i) = 0
      rw [if_neg (by omega)]; exact h8 i hi
  · rw [if_neg hc] at e; cases e
theorem zrok_step {st st' : Nat × Nat × Nat × (Nat → Nat)} {c : Int32} (h : zrok st) (e : zstep st c = some st') : zrok st' := by
  obtain ⟨rw, sg, lg, R⟩ := st
  have e1 : (if c.toInt = 47 then zeor rw sg lg R else if c.toInt = 48 then zsgn rw sg lg R 0 else if c.toInt = 49 then zsgn rw sg lg R 1 else none) = some st' := e
  by_cases h1 : c.toInt = 47
  · rw [if_pos h1] at e1; exact zrok_eor h e1
  · rw [if_neg h1] at e1
    by_cases h2 : c.toInt = 48
    · rw [if_pos h2] at e1; exact zrok_sgn (by decide) h e1
    · rw [if_neg h2] at e1
      by_cases h3 : c.toInt = 49
      · rw [if_pos h3] at e1; exact zrok_sgn (by decide) h e1
      · rw [if_neg h3] at e1; cases e1
/-- as far as it goes: the place, and what was read -/
def zfa (pg : Nat → Int32) : Nat → Nat → (Nat × Nat × Nat × (Nat → Nat)) → Nat × (Nat × Nat × Nat × (Nat → Nat))
  | 0, i, st => (i, st)
  | k + 1, i, st => match zstep st (pg i) with
    | none => (i, st)
    | some st' => zfa pg k (i + 1) st'
theorem zfa_end {pg : Nat → Int32} {n i : Nat} {st : Nat × Nat × Nat × (Nat → Nat)} (h : n ≤ i) : zfa pg (n - i) i st = (i, st) := by
  rw [show n - i = 0 by omega]; rfl
theorem zfa_no {pg : Nat → Int32} {n i : Nat} {st : Nat × Nat × Nat × (Nat → Nat)} (h : i < n) (e : zstep st (pg i) = none) : zfa pg (n - i) i st = (i, st) := by
  rw [show n - i = (n - (i + 1)) + 1 by omega]
  show (match zstep st (pg i) with | none => (i, st) | some st' => zfa pg (n - (i + 1)) (i + 1) st') = _
  rw [e]
theorem zfa_yes {pg : Nat → Int32} {n i : Nat} {st st' : Nat × Nat × Nat × (Nat → Nat)} (h : i < n) (e : zstep st (pg i) = some st') : zfa pg (n - i) i st = zfa pg (n - (i + 1)) (i + 1) st' := by
  rw [show n - i = (n - (i + 1)) + 1 by omega]
  show (match zstep st (pg i) with | none => (i, st) | some st' => zfa pg (n - (i + 1)) (i + 1) st') = _
  rw [e]
theorem zfa_le {pg : Nat → Int32} : ∀ k i st, i ≤ (zfa pg k i st).1 ∧ (zfa pg k i st).1 ≤ i + k := by
  intro k
  induction k with
  | zero => intro i st; exact ⟨Nat.le_refl _, Nat.le_refl _⟩
  | succ k ih =>
    intro i st
    cases e : zstep st (pg i) with
    | none =>
      have : zfa pg (k + 1) i st = (i, st) := by
        show (match zstep st (pg i) with | none => (i, st) | some st' => zfa pg k (i + 1) st') = _
        rw [e]
      rw [this]; exact ⟨Nat.le_refl _, by show i ≤ _; omega⟩
    | some st' =>
      have : zfa pg (k + 1) i st = zfa pg k (i + 1) st' := by
        show (match zstep st (pg i) with | none => (i, st) | some st' => zfa pg k (i + 1) st') = _
        rw [e]
      rw [this]
      have := ih (i + 1) st'
      omega
theorem zfa_ok {pg : Nat → Int32} : ∀ k i st, zrok st → zrok (zfa pg k i st).2 := by
  intro k
  induction k with
  | zero => intro i st h; exact h
  | succ k ih =>
    intro i st h
    cases e : zstep st (pg i) with
    | none =>
      have : zfa pg (k + 1) i st = (i, st) := by
        show (match zstep st (pg i) with | none => (i, st) | some st' => zfa pg k (i + 1) st') = _
        rw [e]
      rw [this]; exact h
    | some st' =>
      have : zfa pg (k + 1) i st = zfa pg k (i + 1) st' := by
        show (match zstep st (pg i) with | none => (i, st) | some st' => zfa pg k (i + 1) st') = _
        rw [e]
      rw [this]
      exact ih (i + 1) st' (zrok_step h e)
/-! DRAWS -/
def znx (s : Nat) : Nat := (1103515245 * s + 12345) % 2 ^ 31
def zdr (s N : Nat) : Nat := znx s / 2 ^ 16 % N
theorem znx_lt (s : Nat) : znx s < 2 ^ 31 := Nat.mod_lt _ (by decide)
theorem zl_a : (1103515245 : Int64) = lN 1103515245 := rfl
theorem zl_b : (12345 : Int64) = lN 12345 := rfl
theorem zl_c : (2147483648 : Int64) = lN (2 ^ 31) := rfl
theorem zl_d : (65536 : Int64) = lN (2 ^ 16) := rfl
theorem zl_and (a : Nat) : lN a &&& 2147483647 = lN (a % 2 ^ 31) := by
  apply Int64.toBitVec_inj.mp
  show BitVec.ofNat 64 a &&& BitVec.ofNat 64 (2 ^ 31 - 1) = BitVec.ofNat 64 (a % 2 ^ 31)
  rw [← BitVec.ofNat_and, Nat.and_two_pow_sub_one_eq_mod]
theorem zi_mask (a b : Nat) : nI a &&& nI (2 ^ b - 1) = nI (a % 2 ^ b) := by
  rw [zi_and, Nat.and_two_pow_sub_one_eq_mod]
