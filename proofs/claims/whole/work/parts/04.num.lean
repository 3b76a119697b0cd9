/-! small naturals as ints, answers as booleans, ranges -/
theorem zi_inc (a : Nat) : nI a + Int32.ofInt 1 = nI (a + 1) := nI_1 a
theorem zi_m1 {a : Nat} (h : 0 < a) : nI a + Int32.ofInt (-1) = nI (a - 1) := by
  obtain ⟨b, rfl⟩ : ∃ b, a = b + 1 := ⟨a - 1, by omega⟩
  exact pk_m1 b
theorem zi_tn {a : Nat} (ha : a < 2 ^ 31) : (nI a).toBitVec = BitVec.ofNat 32 a := rfl
theorem zi_and (a b : Nat) : nI a &&& nI b = nI (a &&& b) := by
  apply Int32.toBitVec_inj.mp
  show BitVec.ofNat 32 a &&& BitVec.ofNat 32 b = BitVec.ofNat 32 (a &&& b)
  rw [BitVec.ofNat_and]
theorem zi_or (a b : Nat) : nI a ||| nI b = nI (a ||| b) := by
  apply Int32.toBitVec_inj.mp
  show BitVec.ofNat 32 a ||| BitVec.ofNat 32 b = BitVec.ofNat 32 (a ||| b)
  rw [BitVec.ofNat_or]
theorem zi_xor (a b : Nat) : nI a ^^^ nI b = nI (a ^^^ b) := by
  apply Int32.toBitVec_inj.mp
  show BitVec.ofNat 32 a ^^^ BitVec.ofNat 32 b = BitVec.ofNat 32 (a ^^^ b)
  rw [BitVec.ofNat_xor]
theorem zi_sh : ∀ k, k < 32 → ((nI k &&& 31).toBitVec.smod 32).toNat = k := by decide +kernel
theorem zi_shl {a b : Nat} (hb : b < 32) (h : a * 2 ^ b < 2 ^ 31) : nI a <<< (nI b &&& 31) = nI (a * 2 ^ b) := pk_shlN _ b (zi_sh b hb) (Nat.lt_trans h (by decide))
theorem zi_bsh {a b : Nat} (ha : a < 2) (hb : b < 30) : nI a <<< (nI b &&& 31) = nI (a * 2 ^ b) := by
  refine zi_shl (by omega) ?_
  have h : 2 ^ b < 2 ^ 30 := Nat.pow_lt_pow_right (by decide) hb
  rcases (show a = 0 ∨ a = 1 by omega) with rfl | rfl <;> omega
theorem zi_shl1 {b : Nat} (hb : b < 31) : nI 1 <<< (nI b &&& 31) = nI (2 ^ b) := by
  have h : 1 * 2 ^ b < 2 ^ 31 := by rw [Nat.one_mul]; exact Nat.pow_lt_pow_right (by decide) hb
  rw [zi_shl (by omega) h, Nat.one_mul]
theorem zi_shr {a b : Nat} (ha : a < 2 ^ 31) (hb : b < 32) : nI a >>> (nI b &&& 31) = nI (a / 2 ^ b) := pk_shrN ha _ b (zi_sh b hb)
theorem zi_and1 (a : Nat) : nI a &&& nI 1 = nI (a % 2) := by
  rw [zi_and, Nat.and_one_is_mod]
theorem zi_rem2 {a : Nat} (ha : a < 2 ^ 31) : nI a - nI a / nI 2 * nI 2 = nI (a % 2) := pk_rem ha (by decide) (by decide)
theorem zi_div2 {a : Nat} (ha : a < 2 ^ 31) : nI a / nI 2 = nI (a / 2) := pk_div ha (by decide) (by decide)
theorem zi_l {a : Nat} (ha : a < 2 ^ 31) : (nI a).toInt64 = lN a := nI_l ha
/-- an int in a range that begins at 0 -/
abbrev zin (x : Int32) (N : Nat) : Prop := 0 ≤ x ∧ x < nI N
theorem zin_of {x : Int32} {N : Nat} (h : zin x N) (hN : N < 2 ^ 31) : ∃ j : Nat, j < N ∧ x = nI j := by
  obtain ⟨h0, h1⟩ := h
  obtain ⟨j, hj, rfl⟩ := nI_of (x := x) (fun q => by
    have a := Int32.lt_iff_toInt_lt.mp q
    have b := Int32.le_iff_toInt_le.mp h0
    omega)
  exact ⟨j, (nI_ltI hj hN).mp h1, rfl⟩
theorem zin_nI {j N : Nat} (h : j < N) (hN : N < 2 ^ 31) : zin (nI j) N := ⟨nI_pos' (by omega), (nI_ltI (by omega) hN).mpr h⟩
theorem zin_iff {j N : Nat} (hj : j < 2 ^ 31) (hN : N < 2 ^ 31) : zin (nI j) N ↔ j < N := ⟨fun h => (nI_ltI hj hN).mp h.2, fun h => zin_nI h hN⟩
theorem zlt_not {x y : Int32} : ¬ x < y ↔ y ≤ x := by
  rw [Int32.lt_iff_toInt_lt, Int32.le_iff_toInt_le]; omega
theorem zle_not {x y : Int32} : ¬ x ≤ y ↔ y < x := by
  rw [Int32.lt_iff_toInt_lt, Int32.le_iff_toInt_le]; omega
theorem zin_le {x : Int32} {N : Nat} (h0 : 0 < N) (hN : N < 2 ^ 31) : (nI 0 ≤ x ∧ x ≤ nI (N - 1)) ↔ zin x N := by
  have e1 := nI_toInt (n := N) hN
  have e2 := nI_toInt (n := N - 1) (by omega)
  have e3 := nI_toInt (n := 0) (by omega)
  have e4 : (0 : Int32).toInt = 0 := by decide
  rw [Int32.le_iff_toInt_le, Int32.le_iff_toInt_le, e2, e3]
  show _ ↔ (0 ≤ x ∧ x < nI N)
  rw [Int32.le_iff_toInt_le, Int32.lt_iff_toInt_lt, e1, e4]
  omega
theorem zbt {P : Prop} [Decidable P] (h : P) : nI 1 = zb (decide P) := by rw [decide_eq_true h]; rfl
theorem zbf {P : Prop} [Decidable P] (h : ¬ P) : nI 0 = zb (decide P) := by rw [decide_eq_false h]; rfl
theorem zbT {b : Bool} (h : b = true) : nI 1 = zb b := by rw [h]; rfl
theorem zbF {b : Bool} (h : b = false) : nI 0 = zb b := by rw [h]; rfl
theorem zb_congr {P Q : Prop} [Decidable P] [Decidable Q] (h : P ↔ Q) : zb (decide P) = zb (decide Q) := by
  by_cases hp : P
  · rw [decide_eq_true hp, decide_eq_true (h.mp hp)]
  · rw [decide_eq_false hp, decide_eq_false (fun q => hp (h.mpr q))]
section ZP
variable {X : zX} {l : Launch} {D : va_G} {cI : ClassId} {R : Room} {nL : Nat} {wr : Bool} {cc : ByteArray} {own : String} {Ts : List Cond} {k n : Nat} {lv : List (Nat × Value)} {st : List Value} {ws : va_W} {pc : Nat}
theorem zp_if_eq (C : zC X l D cI R nL wr cc own Ts) {P : Prop} {hP : Decidable P} {off : Int} (t : Nat) (d : decode cc pc = .ok (.ifCond .eq off, 3)) (ht : (pc : Int) + off = (t : Int)) (kt : ¬ P → zG X k n lv st ws t) (kf : P → zG X k n lv st ws (pc + 3)) : zG X k n lv (.int (zb (decide P)) :: st) ws pc := zb_if_eq C t d ht (fun q => kt (of_decide_eq_false q)) (fun q => kf (of_decide_eq_true q))
theorem zp_if_ne (C : zC X l D cI R nL wr cc own Ts) {P : Prop} {hP : Decidable P} {off : Int} (t : Nat) (d : decode cc pc = .ok (.ifCond .ne off, 3)) (ht : (pc : Int) + off = (t : Int)) (kt : P → zG X k n lv st ws t) (kf : ¬ P → zG X k n lv st ws (pc + 3)) : zG X k n lv (.int (zb (decide P)) :: st) ws pc := zb_if_ne C t d ht (fun q => kt (of_decide_eq_true q)) (fun q => kf (of_decide_eq_false q))
end ZP
/-- none is told by NONE -/
def zo : Option Nat → Int32
  | none => -1001
  | some v => nI v
theorem zo_ne {v : Nat} (hv : v < 2 ^ 31) : ¬ nI v = -1001 := by
  intro h
  have h1 := nI_toInt hv
  rw [h] at h1
  have h2 : (-1001 : Int32).toInt = -1001 := by decide
  omega
theorem zo_eq {o : Option Nat} (h : ∀ v, o = some v → v < 2 ^ 31) : zo o = -1001 ↔ o = none := by
  cases o with
  | none => exact ⟨fun _ => rfl, fun _ => rfl⟩
  | some v => exact ⟨fun q => absurd q (zo_ne (h v rfl)), fun q => by cases q⟩
theorem zpw {b : Nat} (h : b ≤ 10) : 2 ^ b ≤ 1024 := Nat.pow_le_pow_right (by decide) h
theorem zpw5 {b : Nat} (h : b ≤ 5) : 2 ^ b ≤ 32 := Nat.pow_le_pow_right (by decide) h
theorem zpw0 (b : Nat) : 0 < 2 ^ b := Nat.two_pow_pos b
theorem zupd_s {f : Nat → Int32} {k : Nat} {x : Int32} : upd f k x k = x := pk_us
theorem zupd {f : Nat → Int32} {k j : Nat} {x : Int32} : upd f k x j = if j = k then x else f j := rfl
/-- the bits of an int counted, as java.lang.Integer does -/
def zc1 (x : Int32) : Int32 := x - ((x.toUInt32 >>> ((nI 1).toUInt32 &&& Int32.toUInt32 31)).toInt32 &&& 1431655765)
def zc2 (x : Int32) : Int32 := (x &&& 858993459) + ((x.toUInt32 >>> ((nI 2).toUInt32 &&& Int32.toUInt32 31)).toInt32 &&& 858993459)
def zc3 (x : Int32) : Int32 := (x + (x.toUInt32 >>> ((nI 4).toUInt32 &&& Int32.toUInt32 31)).toInt32) &&& 252645135
def zc4 (x : Int32) : Int32 := x + (x.toUInt32 >>> ((nI 8).toUInt32 &&& Int32.toUInt32 31)).toInt32
def zc5 (x : Int32) : Int32 := x + (x.toUInt32 >>> ((nI 16).toUInt32 &&& Int32.toUInt32 31)).toInt32
def zc6 (x : Int32) : Int32 := x &&& nI 63
/-- how many of the lowest k bits are 1 -/
def zpk (x : Nat) : Nat → Nat
  | 0 => 0
  | k + 1 => zpk x k + x / 2 ^ k % 2
abbrev zpc (x : Nat) : Nat := zpk x 10
theorem zbc_all : (List.range 1024).all (fun w => decide (zc6 (zc5 (zc4 (zc3 (zc2 (zc1 (nI w)))))) = nI (zpc w))) = true := by decide +kernel
theorem zbc {w : Nat} (h : w < 1024) : zc6 (zc5 (zc4 (zc3 (zc2 (zc1 (nI w)))))) = nI (zpc w) := of_decide_eq_true (List.all_eq_true.mp zbc_all w (List.mem_range.mpr h))
