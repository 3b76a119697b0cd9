/-! rows for the law: its script, numbers -/
def zLX (X : zX) (b L : Nat) (xs : Nat → Int32) : Prop := va_X b L xs (zx_s X) (zx_s X).heap ∧ b < (zx_s X).heap.size ∧ (¬ zx_A X b) ∧ L < 2 ^ 31
section ZLAW
variable {X : zX} {l : Launch} {D : va_G} {cI : ClassId} {R : Room} {nL : Nat} {cc : ByteArray} {own : String} {Ts : List Cond} {k n : Nat} {lv : List (Nat × Value)} {st : List Value} {ws : va_W} {pc b L : Nat} {xs : Nat → Int32}
theorem zg_sld (C : zC X l D cI R nL true cc own Ts) (hX : zLX X b L xs) {i : Nat} (hi : i < L) (d : decode cc pc = .ok (.iaload, 1)) (v : Int32) (hv : xs i = v) (h : zG X k n lv (.int v :: st) ws (pc + 1)) : zG X k n lv (.int (nI i) :: .ref b :: st) ws pc := by
  subst hv
  have e1 : (nI i).toNatClampNeg = i := nI_clamp (Nat.lt_trans hi hX.2.2.2)
  exact fun H locs ls j hl => va_sld C.1 C.2.1 hX.1 hX.2.1 hX.2.2.1 (j.2.1 C.2.2.2.2.2.2.2.2.2.1).2 (vp_in_nI hi hX.2.2.2) d (by rw [e1]; exact h H locs ls j hl)
theorem zg_slen (C : zC X l D cI R nL true cc own Ts) (hX : zLX X b L xs) (d : decode cc pc = .ok (.arraylength, 1)) (h : zG X k n lv (.int (nI L) :: st) ws (pc + 1)) : zG X k n lv (.ref b :: st) ws pc :=
  fun H locs ls j hl => va_slen C.1 C.2.1 hX.1 hX.2.1 hX.2.2.1 (j.2.1 C.2.2.2.2.2.2.2.2.2.1).2 d (h H locs ls j hl)
end ZLAW
theorem zi_6 (i : Nat) : nI (6 * i) + Int32.ofInt 6 = nI (6 * (i + 1)) := nI_add (6 * i) 6
theorem zlaw_le {L i : Nat} (hL : L ≤ 3072) (hi : i ≤ L + 1) (h : ¬ nI L - nI 6 < nI (6 * i)) : 6 * i + 6 ≤ L := by
  rw [Int32.lt_iff_toInt_lt, pk_sub_toInt (by omega) (by omega), nI_toInt (by omega)] at h
  omega
theorem zrun_m {y : Int32} (h1 : ¬ y < nI 1) (h2 : ¬ nI 50 < y) : ∃ m : Nat, 1 ≤ m ∧ m ≤ 50 ∧ y = nI m := by
  have a1 := Int32.le_iff_toInt_le.mp (zlt_not.mp h1)
  have a2 := Int32.le_iff_toInt_le.mp (zlt_not.mp h2)
  rw [nI_toInt (by decide)] at a1 a2
  obtain ⟨m, hm, rfl⟩ := nI_of (x := y) (fun q => by
    have := Int32.lt_iff_toInt_lt.mp q
    have h0 : (0 : Int32).toInt = 0 := by decide
    omega)
  rw [nI_toInt hm] at a1 a2
  exact ⟨m, by omega, by omega, rfl⟩
