section
-- ===== PART A: goes FIRST, ahead of the names: the tables' words, and 'selects' of the private methods out of them =====
/-- a private method of a class that the tables say can be made, by its rows of tables_1 -/
def lw_okq (q : MethodName × Nat) : Prop := (q.1.cls ≠ "java/lang/invoke/MethodHandle" ∧ q.1.cls ≠ "java/lang/invoke/VarHandle") ∧ Cond.instantiable q.1.cls q.2 ∈ tables_1 ∧ Cond.privateMethod q.1 ∈ tables_1 ∧ Cond.instanceMethod q.1 ∈ tables_1
theorem lw_p0 : lw_okq (⟨"CosetGauges$Reader", "start", "()V"⟩, 4) := ⟨⟨by decide +kernel, by decide +kernel⟩, List.mem_of_getElem? (i := 33) (by decide +kernel), List.mem_of_getElem? (i := 159) (by decide +kernel), List.mem_of_getElem? (i := 160) (by decide +kernel)⟩
theorem lw_p1 : lw_okq (⟨"CosetGauges$Reader", "takes", "(I)Z"⟩, 4) := ⟨⟨by decide +kernel, by decide +kernel⟩, List.mem_of_getElem? (i := 33) (by decide +kernel), List.mem_of_getElem? (i := 168) (by decide +kernel), List.mem_of_getElem? (i := 169) (by decide +kernel)⟩
theorem lw_p2 : lw_okq (⟨"CosetGauges$Reader", "takesEndOfRow", "()Z"⟩, 4) := ⟨⟨by decide +kernel, by decide +kernel⟩, List.mem_of_getElem? (i := 33) (by decide +kernel), List.mem_of_getElem? (i := 172) (by decide +kernel), List.mem_of_getElem? (i := 173) (by decide +kernel)⟩
theorem lw_p3 : lw_okq (⟨"CosetGauges$Reader", "takesSign", "(I)Z"⟩, 4) := ⟨⟨by decide +kernel, by decide +kernel⟩, List.mem_of_getElem? (i := 33) (by decide +kernel), List.mem_of_getElem? (i := 180) (by decide +kernel), List.mem_of_getElem? (i := 181) (by decide +kernel)⟩
theorem lw_p4 : lw_okq (⟨"CosetGauges$Sums", "findLeaders", "()V"⟩, 9) := ⟨⟨by decide +kernel, by decide +kernel⟩, List.mem_of_getElem? (i := 52) (by decide +kernel), List.mem_of_getElem? (i := 205) (by decide +kernel), List.mem_of_getElem? (i := 206) (by decide +kernel)⟩
theorem lw_p5 : lw_okq (⟨"CosetGauges$Sums", "countLeaders", "()V"⟩, 9) := ⟨⟨by decide +kernel, by decide +kernel⟩, List.mem_of_getElem? (i := 52) (by decide +kernel), List.mem_of_getElem? (i := 238) (by decide +kernel), List.mem_of_getElem? (i := 239) (by decide +kernel)⟩
theorem lw_p6 : lw_okq (⟨"CosetGauges$Sums", "leastWeightWithoutSyndrome", "()I"⟩, 9) := ⟨⟨by decide +kernel, by decide +kernel⟩, List.mem_of_getElem? (i := 52) (by decide +kernel), List.mem_of_getElem? (i := 245) (by decide +kernel), List.mem_of_getElem? (i := 246) (by decide +kernel)⟩
theorem lw_p7 : lw_okq (⟨"CosetGauges", "sendAndCount", "(II)I"⟩, 5) := ⟨⟨by decide +kernel, by decide +kernel⟩, List.mem_of_getElem? (i := 11) (by decide +kernel), List.mem_of_getElem? (i := 346) (by decide +kernel), List.mem_of_getElem? (i := 347) (by decide +kernel)⟩
theorem lw_p8 : lw_okq (⟨"CosetGauges", "drawUnlikePlaces", "(I)I"⟩, 5) := ⟨⟨by decide +kernel, by decide +kernel⟩, List.mem_of_getElem? (i := 11) (by decide +kernel), List.mem_of_getElem? (i := 405) (by decide +kernel), List.mem_of_getElem? (i := 406) (by decide +kernel)⟩
theorem lw_p9 : lw_okq (⟨"CosetGauges", "withSums", "(J)J"⟩, 5) := ⟨⟨by decide +kernel, by decide +kernel⟩, List.mem_of_getElem? (i := 11) (by decide +kernel), List.mem_of_getElem? (i := 442) (by decide +kernel), List.mem_of_getElem? (i := 443) (by decide +kernel)⟩
theorem lw_p10 : lw_okq (⟨"CosetGaugesModel", "goAlong", "()I"⟩, 21) := ⟨⟨by decide +kernel, by decide +kernel⟩, List.mem_of_getElem? (i := 452) (by decide +kernel), List.mem_of_getElem? (i := 537) (by decide +kernel), List.mem_of_getElem? (i := 538) (by decide +kernel)⟩
theorem lw_p11 : lw_okq (⟨"CosetGaugesModel", "takes", "(I)Z"⟩, 21) := ⟨⟨by decide +kernel, by decide +kernel⟩, List.mem_of_getElem? (i := 452) (by decide +kernel), List.mem_of_getElem? (i := 541) (by decide +kernel), List.mem_of_getElem? (i := 542) (by decide +kernel)⟩
theorem lw_p12 : lw_okq (⟨"CosetGaugesModel", "layAll", "()V"⟩, 21) := ⟨⟨by decide +kernel, by decide +kernel⟩, List.mem_of_getElem? (i := 452) (by decide +kernel), List.mem_of_getElem? (i := 549) (by decide +kernel), List.mem_of_getElem? (i := 550) (by decide +kernel)⟩
theorem lw_p13 : lw_okq (⟨"CosetGaugesModel", "words", "()I"⟩, 21) := ⟨⟨by decide +kernel, by decide +kernel⟩, List.mem_of_getElem? (i := 452) (by decide +kernel), List.mem_of_getElem? (i := 553) (by decide +kernel), List.mem_of_getElem? (i := 554) (by decide +kernel)⟩
theorem lw_p14 : lw_okq (⟨"CosetGaugesModel", "syndromeBy", "(I)I"⟩, 21) := ⟨⟨by decide +kernel, by decide +kernel⟩, List.mem_of_getElem? (i := 452) (by decide +kernel), List.mem_of_getElem? (i := 557) (by decide +kernel), List.mem_of_getElem? (i := 558) (by decide +kernel)⟩
theorem lw_p15 : lw_okq (⟨"CosetGaugesModel", "distanceNow", "()I"⟩, 21) := ⟨⟨by decide +kernel, by decide +kernel⟩, List.mem_of_getElem? (i := 452) (by decide +kernel), List.mem_of_getElem? (i := 564) (by decide +kernel), List.mem_of_getElem? (i := 565) (by decide +kernel)⟩
def lw_privs_1 : List (MethodName × Nat) := [(⟨"CosetGauges$Reader", "start", "()V"⟩, 4), (⟨"CosetGauges$Reader", "takes", "(I)Z"⟩, 4), (⟨"CosetGauges$Reader", "takesEndOfRow", "()Z"⟩, 4), (⟨"CosetGauges$Reader", "takesSign", "(I)Z"⟩, 4), (⟨"CosetGauges$Sums", "findLeaders", "()V"⟩, 9), (⟨"CosetGauges$Sums", "countLeaders", "()V"⟩, 9), (⟨"CosetGauges$Sums", "leastWeightWithoutSyndrome", "()I"⟩, 9), (⟨"CosetGauges", "sendAndCount", "(II)I"⟩, 5), (⟨"CosetGauges", "drawUnlikePlaces", "(I)I"⟩, 5), (⟨"CosetGauges", "withSums", "(J)J"⟩, 5), (⟨"CosetGaugesModel", "goAlong", "()I"⟩, 21), (⟨"CosetGaugesModel", "takes", "(I)Z"⟩, 21), (⟨"CosetGaugesModel", "layAll", "()V"⟩, 21), (⟨"CosetGaugesModel", "words", "()I"⟩, 21), (⟨"CosetGaugesModel", "syndromeBy", "(I)I"⟩, 21), (⟨"CosetGaugesModel", "distanceNow", "()I"⟩, 21)]
theorem lw_r1 : ∀ q ∈ lw_privs_1, lw_okq q := List.forall_mem_cons.mpr ⟨lw_p0, List.forall_mem_cons.mpr ⟨lw_p1, List.forall_mem_cons.mpr ⟨lw_p2, List.forall_mem_cons.mpr ⟨lw_p3, List.forall_mem_cons.mpr ⟨lw_p4, List.forall_mem_cons.mpr ⟨lw_p5, List.forall_mem_cons.mpr ⟨lw_p6, List.forall_mem_cons.mpr ⟨lw_p7, List.forall_mem_cons.mpr ⟨lw_p8, List.forall_mem_cons.mpr ⟨lw_p9, List.forall_mem_cons.mpr ⟨lw_p10, List.forall_mem_cons.mpr ⟨lw_p11, List.forall_mem_cons.mpr ⟨lw_p12, List.forall_mem_cons.mpr ⟨lw_p13, List.forall_mem_cons.mpr ⟨lw_p14, List.forall_mem_cons.mpr ⟨lw_p15, fun _ h => absurd h List.not_mem_nil⟩⟩⟩⟩⟩⟩⟩⟩⟩⟩⟩⟩⟩⟩⟩⟩
theorem lw_p16 : lw_okq (⟨"CosetGaugesModel", "layReach", "()V"⟩, 21) := ⟨⟨by decide +kernel, by decide +kernel⟩, List.mem_of_getElem? (i := 452) (by decide +kernel), List.mem_of_getElem? (i := 568) (by decide +kernel), List.mem_of_getElem? (i := 569) (by decide +kernel)⟩
theorem lw_p17 : lw_okq (⟨"CosetGaugesModel", "isSole", "(I)Z"⟩, 21) := ⟨⟨by decide +kernel, by decide +kernel⟩, List.mem_of_getElem? (i := 452) (by decide +kernel), List.mem_of_getElem? (i := 572) (by decide +kernel), List.mem_of_getElem? (i := 573) (by decide +kernel)⟩
theorem lw_p18 : lw_okq (⟨"CosetGaugesModel", "isThere", "()Z"⟩, 21) := ⟨⟨by decide +kernel, by decide +kernel⟩, List.mem_of_getElem? (i := 452) (by decide +kernel), List.mem_of_getElem? (i := 580) (by decide +kernel), List.mem_of_getElem? (i := 581) (by decide +kernel)⟩
theorem lw_p19 : lw_okq (⟨"CosetGaugesModel", "codeNow", "(I)I"⟩, 21) := ⟨⟨by decide +kernel, by decide +kernel⟩, List.mem_of_getElem? (i := 452) (by decide +kernel), List.mem_of_getElem? (i := 584) (by decide +kernel), List.mem_of_getElem? (i := 585) (by decide +kernel)⟩
theorem lw_p20 : lw_okq (⟨"CosetGaugesModel", "isWord", "(I)Z"⟩, 21) := ⟨⟨by decide +kernel, by decide +kernel⟩, List.mem_of_getElem? (i := 452) (by decide +kernel), List.mem_of_getElem? (i := 596) (by decide +kernel), List.mem_of_getElem? (i := 597) (by decide +kernel)⟩
theorem lw_p21 : lw_okq (⟨"CosetGaugesModel", "isSyndrome", "(I)Z"⟩, 21) := ⟨⟨by decide +kernel, by decide +kernel⟩, List.mem_of_getElem? (i := 452) (by decide +kernel), List.mem_of_getElem? (i := 604) (by decide +kernel), List.mem_of_getElem? (i := 605) (by decide +kernel)⟩
theorem lw_p22 : lw_okq (⟨"CosetGaugesModel", "cosetNow", "(II)I"⟩, 21) := ⟨⟨by decide +kernel, by decide +kernel⟩, List.mem_of_getElem? (i := 452) (by decide +kernel), List.mem_of_getElem? (i := 612) (by decide +kernel), List.mem_of_getElem? (i := 613) (by decide +kernel)⟩
theorem lw_p23 : lw_okq (⟨"CosetGaugesModel", "leadersNow", "(I)I"⟩, 21) := ⟨⟨by decide +kernel, by decide +kernel⟩, List.mem_of_getElem? (i := 452) (by decide +kernel), List.mem_of_getElem? (i := 620) (by decide +kernel), List.mem_of_getElem? (i := 621) (by decide +kernel)⟩
theorem lw_p24 : lw_okq (⟨"CosetGaugesModel", "betterNow", "(II)I"⟩, 21) := ⟨⟨by decide +kernel, by decide +kernel⟩, List.mem_of_getElem? (i := 452) (by decide +kernel), List.mem_of_getElem? (i := 628) (by decide +kernel), List.mem_of_getElem? (i := 629) (by decide +kernel)⟩
theorem lw_p25 : lw_okq (⟨"CosetGaugesModel", "counted", "(I)I"⟩, 21) := ⟨⟨by decide +kernel, by decide +kernel⟩, List.mem_of_getElem? (i := 452) (by decide +kernel), List.mem_of_getElem? (i := 632) (by decide +kernel), List.mem_of_getElem? (i := 633) (by decide +kernel)⟩
theorem lw_p26 : lw_okq (⟨"CosetGaugesModel", "sendNow", "(II)I"⟩, 21) := ⟨⟨by decide +kernel, by decide +kernel⟩, List.mem_of_getElem? (i := 452) (by decide +kernel), List.mem_of_getElem? (i := 640) (by decide +kernel), List.mem_of_getElem? (i := 641) (by decide +kernel)⟩
theorem lw_p27 : lw_okq (⟨"CosetGaugesModel", "verdictOf", "(II)I"⟩, 21) := ⟨⟨by decide +kernel, by decide +kernel⟩, List.mem_of_getElem? (i := 452) (by decide +kernel), List.mem_of_getElem? (i := 644) (by decide +kernel), List.mem_of_getElem? (i := 645) (by decide +kernel)⟩
theorem lw_p28 : lw_okq (⟨"CosetGaugesModel", "flipsOf", "(II)I"⟩, 21) := ⟨⟨by decide +kernel, by decide +kernel⟩, List.mem_of_getElem? (i := 452) (by decide +kernel), List.mem_of_getElem? (i := 648) (by decide +kernel), List.mem_of_getElem? (i := 649) (by decide +kernel)⟩
theorem lw_p29 : lw_okq (⟨"CosetGaugesModel", "areSets", "(II)Z"⟩, 21) := ⟨⟨by decide +kernel, by decide +kernel⟩, List.mem_of_getElem? (i := 452) (by decide +kernel), List.mem_of_getElem? (i := 660) (by decide +kernel), List.mem_of_getElem? (i := 661) (by decide +kernel)⟩
theorem lw_p30 : lw_okq (⟨"CosetGaugesModel", "isEnough", "(I)Z"⟩, 21) := ⟨⟨by decide +kernel, by decide +kernel⟩, List.mem_of_getElem? (i := 452) (by decide +kernel), List.mem_of_getElem? (i := 664) (by decide +kernel), List.mem_of_getElem? (i := 665) (by decide +kernel)⟩
theorem lw_p31 : lw_okq (⟨"CosetGaugesModel", "sharedNow", "(IIIIZ)I"⟩, 21) := ⟨⟨by decide +kernel, by decide +kernel⟩, List.mem_of_getElem? (i := 452) (by decide +kernel), List.mem_of_getElem? (i := 672) (by decide +kernel), List.mem_of_getElem? (i := 673) (by decide +kernel)⟩
def lw_privs_2 : List (MethodName × Nat) := [(⟨"CosetGaugesModel", "layReach", "()V"⟩, 21), (⟨"CosetGaugesModel", "isSole", "(I)Z"⟩, 21), (⟨"CosetGaugesModel", "isThere", "()Z"⟩, 21), (⟨"CosetGaugesModel", "codeNow", "(I)I"⟩, 21), (⟨"CosetGaugesModel", "isWord", "(I)Z"⟩, 21), (⟨"CosetGaugesModel", "isSyndrome", "(I)Z"⟩, 21), (⟨"CosetGaugesModel", "cosetNow", "(II)I"⟩, 21), (⟨"CosetGaugesModel", "leadersNow", "(I)I"⟩, 21), (⟨"CosetGaugesModel", "betterNow", "(II)I"⟩, 21), (⟨"CosetGaugesModel", "counted", "(I)I"⟩, 21), (⟨"CosetGaugesModel", "sendNow", "(II)I"⟩, 21), (⟨"CosetGaugesModel", "verdictOf", "(II)I"⟩, 21), (⟨"CosetGaugesModel", "flipsOf", "(II)I"⟩, 21), (⟨"CosetGaugesModel", "areSets", "(II)Z"⟩, 21), (⟨"CosetGaugesModel", "isEnough", "(I)Z"⟩, 21), (⟨"CosetGaugesModel", "sharedNow", "(IIIIZ)I"⟩, 21)]
theorem lw_r2 : ∀ q ∈ lw_privs_2, lw_okq q := List.forall_mem_cons.mpr ⟨lw_p16, List.forall_mem_cons.mpr ⟨lw_p17, List.forall_mem_cons.mpr ⟨lw_p18, List.forall_mem_cons.mpr ⟨lw_p19, List.forall_mem_cons.mpr ⟨lw_p20, List.forall_mem_cons.mpr ⟨lw_p21, List.forall_mem_cons.mpr ⟨lw_p22, List.forall_mem_cons.mpr ⟨lw_p23, List.forall_mem_cons.mpr ⟨lw_p24, List.forall_mem_cons.mpr ⟨lw_p25, List.forall_mem_cons.mpr ⟨lw_p26, List.forall_mem_cons.mpr ⟨lw_p27, List.forall_mem_cons.mpr ⟨lw_p28, List.forall_mem_cons.mpr ⟨lw_p29, List.forall_mem_cons.mpr ⟨lw_p30, List.forall_mem_cons.mpr ⟨lw_p31, fun _ h => absurd h List.not_mem_nil⟩⟩⟩⟩⟩⟩⟩⟩⟩⟩⟩⟩⟩⟩⟩⟩
theorem lw_p32 : lw_okq (⟨"CosetGaugesModel", "runNow", "(III)I"⟩, 21) := ⟨⟨by decide +kernel, by decide +kernel⟩, List.mem_of_getElem? (i := 452) (by decide +kernel), List.mem_of_getElem? (i := 680) (by decide +kernel), List.mem_of_getElem? (i := 681) (by decide +kernel)⟩
theorem lw_p33 : lw_okq (⟨"CosetGaugesModel", "draw", "(I)I"⟩, 21) := ⟨⟨by decide +kernel, by decide +kernel⟩, List.mem_of_getElem? (i := 452) (by decide +kernel), List.mem_of_getElem? (i := 684) (by decide +kernel), List.mem_of_getElem? (i := 685) (by decide +kernel)⟩
theorem lw_p34 : lw_okq (⟨"CosetGaugesModel", "howMany", "(I)I"⟩, 21) := ⟨⟨by decide +kernel, by decide +kernel⟩, List.mem_of_getElem? (i := 452) (by decide +kernel), List.mem_of_getElem? (i := 700) (by decide +kernel), List.mem_of_getElem? (i := 701) (by decide +kernel)⟩
theorem lw_p35 : lw_okq (⟨"CosetGaugesModel", "mixSums", "()V"⟩, 21) := ⟨⟨by decide +kernel, by decide +kernel⟩, List.mem_of_getElem? (i := 452) (by decide +kernel), List.mem_of_getElem? (i := 709) (by decide +kernel), List.mem_of_getElem? (i := 710) (by decide +kernel)⟩
theorem lw_p36 : lw_okq (⟨"CosetGaugesModel", "mix", "(J)V"⟩, 21) := ⟨⟨by decide +kernel, by decide +kernel⟩, List.mem_of_getElem? (i := 452) (by decide +kernel), List.mem_of_getElem? (i := 713) (by decide +kernel), List.mem_of_getElem? (i := 714) (by decide +kernel)⟩
def lw_privs_3 : List (MethodName × Nat) := [(⟨"CosetGaugesModel", "runNow", "(III)I"⟩, 21), (⟨"CosetGaugesModel", "draw", "(I)I"⟩, 21), (⟨"CosetGaugesModel", "howMany", "(I)I"⟩, 21), (⟨"CosetGaugesModel", "mixSums", "()V"⟩, 21), (⟨"CosetGaugesModel", "mix", "(J)V"⟩, 21)]
theorem lw_r3 : ∀ q ∈ lw_privs_3, lw_okq q := List.forall_mem_cons.mpr ⟨lw_p32, List.forall_mem_cons.mpr ⟨lw_p33, List.forall_mem_cons.mpr ⟨lw_p34, List.forall_mem_cons.mpr ⟨lw_p35, List.forall_mem_cons.mpr ⟨lw_p36, fun _ h => absurd h List.not_mem_nil⟩⟩⟩⟩⟩
def lw_privs : List (MethodName × Nat) := lw_privs_1 ++ (lw_privs_2 ++ (lw_privs_3))
def lw_tbl : List Cond := k2_sels lw_privs ++ tables_1
theorem lw_privs_ok : ∀ q ∈ lw_privs, lw_okq q := by
  show ∀ q ∈ lw_privs_1 ++ (lw_privs_2 ++ (lw_privs_3)), lw_okq q
  exact List.forall_mem_append.mpr ⟨lw_r1, List.forall_mem_append.mpr ⟨lw_r2, lw_r3⟩⟩
end
section
/-! ===== BEGIN words of one list among another's, by their places ===== -/
theorem goodIn_r {big : List Cond} (ws : List Cond) (ps : List Nat) (hp : ws = ps.filterMap (fun i => big[i]?)) (h : ws.all goodWord = true) : GoodIn big ws := by
  intro w hw
  have h1 := List.all_eq_true.mp h w hw
  rw [hp] at hw
  obtain ⟨i, -, hi⟩ := List.mem_filterMap.mp hw
  have hm : w ∈ big := by first | exact List.mem_of_getElem? hi | exact List.getElem?_mem hi
  exact ⟨hm, good_of_word h1⟩
theorem goodIn_app {big a b : List Cond} (ha : GoodIn big a) (hb : GoodIn big b) : GoodIn big (a ++ b) := fun w h => (List.mem_append.mp h).elim (ha w) (hb w)
theorem goodIn_ca {big a b : List Cond} {c : Cond} (ha : GoodIn big (c :: a)) (hb : GoodIn big b) : GoodIn big (c :: (a ++ b)) := fun w h => (List.mem_cons.mp h).elim (fun e => ha w (List.mem_cons.mpr (Or.inl e))) (fun h => (List.mem_append.mp h).elim (fun h => ha w (List.mem_cons.mpr (Or.inr h))) (hb w))
theorem goodIn_sub {big ws : List Cond} (hm : ∀ w ∈ ws, w ∈ big) (h : ws.all goodWord = true) : GoodIn big ws := fun w hw => ⟨hm w hw, good_of_word (List.all_eq_true.mp h w hw)⟩
/-! ===== END ===== -/

/-! ===== BEGIN printed: names, fields, word lists, decode rows ===== -/
def RX0 : String := "CosetGauges$Draws"
def TX0 : u_T := fun k => match k with
  | _ => ("CosetGauges$Draws", "seed", "I", false)
def tyX0 : Nat → FieldType := fun k => match k with
  | _ => .int
abbrev wsX00 : List Cond := u_ws RX0 TX0 1
theorem nmX0 : ∀ a, a < 1 → ∀ b, b < 1 → a ≠ b → (TX0 a).2.1 ≠ (TX0 b).2.1 := by decide +kernel
theorem tyX0_ok : ∀ k, k < 1 → parseFieldDescriptor (TX0 k).2.2.1 = some (tyX0 k) := by decide +kernel
abbrev cX0_init : ByteArray := prog_2_method_1_code
def yX0_init : MethodName := ⟨RX0, "<init>", "()V"⟩
abbrev cX0_startFrom : ByteArray := prog_2_method_2_code
def yX0_startFrom : MethodName := ⟨RX0, "startFrom", "(I)V"⟩
abbrev cX0_last : ByteArray := prog_2_method_3_code
def yX0_last : MethodName := ⟨RX0, "last", "()I"⟩
abbrev cX0_next : ByteArray := prog_2_method_4_code
def yX0_next : MethodName := ⟨RX0, "next", "(I)I"⟩
def RX1 : String := "CosetGauges$Page"
def TX1 : u_T := fun k => match k with
  | 0 => ("CosetGauges$Page", "letters", "[I", true)
  | _ => ("CosetGauges$Page", "size", "I", false)
def tyX1 : Nat → FieldType := fun k => match k with
  | 0 => .array .int
  | _ => .int
abbrev wsX10 : List Cond := u_ws RX1 TX1 2
theorem nmX1 : ∀ a, a < 2 → ∀ b, b < 2 → a ≠ b → (TX1 a).2.1 ≠ (TX1 b).2.1 := by decide +kernel
theorem tyX1_ok : ∀ k, k < 2 → parseFieldDescriptor (TX1 k).2.2.1 = some (tyX1 k) := by decide +kernel
abbrev cX1_init : ByteArray := prog_3_method_1_code
def yX1_init : MethodName := ⟨RX1, "<init>", "()V"⟩
abbrev cX1_size : ByteArray := prog_3_method_2_code
def yX1_size : MethodName := ⟨RX1, "size", "()I"⟩
abbrev cX1_append : ByteArray := prog_3_method_3_code
def yX1_append : MethodName := ⟨RX1, "append", "(I)Z"⟩
abbrev cX1_clear : ByteArray := prog_3_method_4_code
def yX1_clear : MethodName := ⟨RX1, "clear", "()V"⟩
abbrev cX1_letterAt : ByteArray := prog_3_method_5_code
def yX1_letterAt : MethodName := ⟨RX1, "letterAt", "(I)I"⟩
def RX2 : String := "CosetGauges$Reader"
def TX2 : u_T := fun k => match k with
  | 0 => ("CosetGauges$Reader", "rows", "[I", true)
  | 1 => ("CosetGauges$Reader", "row", "I", false)
  | 2 => ("CosetGauges$Reader", "signs", "I", false)
  | _ => ("CosetGauges$Reader", "length", "I", false)
def tyX2 : Nat → FieldType := fun k => match k with
  | 0 => .array .int
  | 1 => .int
  | 2 => .int
  | _ => .int
abbrev wsX20 : List Cond := u_ws RX2 TX2 4
theorem nmX2 : ∀ a, a < 4 → ∀ b, b < 4 → a ≠ b → (TX2 a).2.1 ≠ (TX2 b).2.1 := by decide +kernel
theorem tyX2_ok : ∀ k, k < 4 → parseFieldDescriptor (TX2 k).2.2.1 = some (tyX2 k) := by decide +kernel
abbrev cX2_init : ByteArray := prog_4_method_1_code
def yX2_init : MethodName := ⟨RX2, "<init>", "()V"⟩
abbrev cX2_readAsFarAsItGoes : ByteArray := prog_4_method_2_code
def yX2_readAsFarAsItGoes : MethodName := ⟨RX2, "readAsFarAsItGoes", "(LCosetGauges$Page;)I"⟩
abbrev cX2_start : ByteArray := prog_4_method_3_code
def yX2_start : MethodName := ⟨RX2, "start", "()V"⟩
abbrev cX2_takes : ByteArray := prog_4_method_4_code
def yX2_takes : MethodName := ⟨RX2, "takes", "(I)Z"⟩
abbrev cX2_takesEndOfRow : ByteArray := prog_4_method_5_code
def yX2_takesEndOfRow : MethodName := ⟨RX2, "takesEndOfRow", "()Z"⟩
abbrev cX2_takesSign : ByteArray := prog_4_method_6_code
def yX2_takesSign : MethodName := ⟨RX2, "takesSign", "(I)Z"⟩
abbrev cX2_rowIsWhole : ByteArray := prog_4_method_7_code
def yX2_rowIsWhole : MethodName := ⟨RX2, "rowIsWhole", "()Z"⟩
abbrev cX2_rowsRead : ByteArray := prog_4_method_8_code
def yX2_rowsRead : MethodName := ⟨RX2, "rowsRead", "()I"⟩
abbrev cX2_signsOfRow : ByteArray := prog_4_method_9_code
def yX2_signsOfRow : MethodName := ⟨RX2, "signsOfRow", "()I"⟩
abbrev cX2_rowAt : ByteArray := prog_4_method_10_code
def yX2_rowAt : MethodName := ⟨RX2, "rowAt", "(I)I"⟩
def RX3 : String := "CosetGauges$Sums"
def TX3 : u_T := fun k => match k with
  | 0 => ("CosetGauges$Sums", "rows", "[I", true)
  | 1 => ("CosetGauges$Sums", "leaderBySyndrome", "[I", true)
  | 2 => ("CosetGauges$Sums", "leadersByWeight", "[I", true)
  | 3 => ("CosetGauges$Sums", "rowCount", "I", false)
  | 4 => ("CosetGauges$Sums", "length", "I", false)
  | 5 => ("CosetGauges$Sums", "rank", "I", false)
  | 6 => ("CosetGauges$Sums", "distance", "I", false)
  | 7 => ("CosetGauges$Sums", "sure", "I", false)
  | _ => ("CosetGauges$Sums", "radius", "I", false)
def tyX3 : Nat → FieldType := fun k => match k with
  | 0 => .array .int
  | 1 => .array .int
  | 2 => .array .int
  | 3 => .int
  | 4 => .int
  | 5 => .int
  | 6 => .int
  | 7 => .int
  | _ => .int
abbrev wsX30 : List Cond := u_ws RX3 TX3 9
theorem nmX3 : ∀ a, a < 9 → ∀ b, b < 9 → a ≠ b → (TX3 a).2.1 ≠ (TX3 b).2.1 := by decide +kernel
theorem tyX3_ok : ∀ k, k < 9 → parseFieldDescriptor (TX3 k).2.2.1 = some (tyX3 k) := by decide +kernel
abbrev cX3_init : ByteArray := prog_5_method_1_code
def yX3_init : MethodName := ⟨RX3, "<init>", "()V"⟩
abbrev cX3_become : ByteArray := prog_5_method_2_code
def yX3_become : MethodName := ⟨RX3, "become", "(LCosetGauges$Reader;)V"⟩
abbrev cX3_findLeaders : ByteArray := prog_5_method_3_code
def yX3_findLeaders : MethodName := ⟨RX3, "findLeaders", "()V"⟩
abbrev cX3_isNearer : ByteArray := prog_5_method_4_code
def yX3_isNearer : MethodName := ⟨RX3, "isNearer", "(II)Z"⟩
abbrev cX3_countLeaders : ByteArray := prog_5_method_5_code
def yX3_countLeaders : MethodName := ⟨RX3, "countLeaders", "()V"⟩
abbrev cX3_leastWeightWithoutSyndrome : ByteArray := prog_5_method_6_code
def yX3_leastWeightWithoutSyndrome : MethodName := ⟨RX3, "leastWeightWithoutSyndrome", "()I"⟩
abbrev cX3_areThere : ByteArray := prog_5_method_7_code
def yX3_areThere : MethodName := ⟨RX3, "areThere", "()Z"⟩
abbrev cX3_length : ByteArray := prog_5_method_8_code
def yX3_length : MethodName := ⟨RX3, "length", "()I"⟩
abbrev cX3_rowCount : ByteArray := prog_5_method_9_code
def yX3_rowCount : MethodName := ⟨RX3, "rowCount", "()I"⟩
abbrev cX3_words : ByteArray := prog_5_method_10_code
def yX3_words : MethodName := ⟨RX3, "words", "()I"⟩
abbrev cX3_syndromes : ByteArray := prog_5_method_11_code
def yX3_syndromes : MethodName := ⟨RX3, "syndromes", "()I"⟩
abbrev cX3_rank : ByteArray := prog_5_method_12_code
def yX3_rank : MethodName := ⟨RX3, "rank", "()I"⟩
abbrev cX3_distanceOrNone : ByteArray := prog_5_method_13_code
def yX3_distanceOrNone : MethodName := ⟨RX3, "distanceOrNone", "()I"⟩
abbrev cX3_sure : ByteArray := prog_5_method_14_code
def yX3_sure : MethodName := ⟨RX3, "sure", "()I"⟩
abbrev cX3_radius : ByteArray := prog_5_method_15_code
def yX3_radius : MethodName := ⟨RX3, "radius", "()I"⟩
abbrev cX3_isRow : ByteArray := prog_5_method_16_code
def yX3_isRow : MethodName := ⟨RX3, "isRow", "(I)Z"⟩
abbrev cX3_isWord : ByteArray := prog_5_method_17_code
def yX3_isWord : MethodName := ⟨RX3, "isWord", "(I)Z"⟩
abbrev cX3_isSyndrome : ByteArray := prog_5_method_18_code
def yX3_isSyndrome : MethodName := ⟨RX3, "isSyndrome", "(I)Z"⟩
abbrev cX3_isWeight : ByteArray := prog_5_method_19_code
def yX3_isWeight : MethodName := ⟨RX3, "isWeight", "(I)Z"⟩
abbrev cX3_areSharedSets : ByteArray := prog_5_method_20_code
def yX3_areSharedSets : MethodName := ⟨RX3, "areSharedSets", "(II)Z"⟩
abbrev cX3_rowAt : ByteArray := prog_5_method_21_code
def yX3_rowAt : MethodName := ⟨RX3, "rowAt", "(I)I"⟩
abbrev cX3_leaderOf : ByteArray := prog_5_method_22_code
def yX3_leaderOf : MethodName := ⟨RX3, "leaderOf", "(I)I"⟩
abbrev cX3_leadersOfWeight : ByteArray := prog_5_method_23_code
def yX3_leadersOfWeight : MethodName := ⟨RX3, "leadersOfWeight", "(I)I"⟩
abbrev cX3_syndromeOf : ByteArray := prog_5_method_24_code
def yX3_syndromeOf : MethodName := ⟨RX3, "syndromeOf", "(I)I"⟩
abbrev cX3_wordOfCoset : ByteArray := prog_5_method_25_code
def yX3_wordOfCoset : MethodName := ⟨RX3, "wordOfCoset", "(II)I"⟩
abbrev cX3_gainBy : ByteArray := prog_5_method_26_code
def yX3_gainBy : MethodName := ⟨RX3, "gainBy", "(II)I"⟩
abbrev cX3_flipsOf : ByteArray := prog_5_method_27_code
def yX3_flipsOf : MethodName := ⟨RX3, "flipsOf", "(II)I"⟩
abbrev cX3_verdictOf : ByteArray := prog_5_method_28_code
def yX3_verdictOf : MethodName := ⟨RX3, "verdictOf", "(II)I"⟩
abbrev cX3_isEnough : ByteArray := prog_5_method_29_code
def yX3_isEnough : MethodName := ⟨RX3, "isEnough", "(I)Z"⟩
abbrev cX3_firstOfShared : ByteArray := prog_5_method_30_code
def yX3_firstOfShared : MethodName := ⟨RX3, "firstOfShared", "(IIII)I"⟩
def RX4 : String := "CosetGauges$Tally"
def TX4 : u_T := fun k => match k with
  | 0 => ("CosetGauges$Tally", "sentByVerdict", "[I", true)
  | 1 => ("CosetGauges$Tally", "bitsSent", "I", false)
  | 2 => ("CosetGauges$Tally", "bitsSentByBothPlainly", "I", false)
  | _ => ("CosetGauges$Tally", "timesSumsRead", "I", false)
def tyX4 : Nat → FieldType := fun k => match k with
  | 0 => .array .int
  | 1 => .int
  | 2 => .int
  | _ => .int
abbrev wsX40 : List Cond := u_ws RX4 TX4 4
theorem nmX4 : ∀ a, a < 4 → ∀ b, b < 4 → a ≠ b → (TX4 a).2.1 ≠ (TX4 b).2.1 := by decide +kernel
theorem tyX4_ok : ∀ k, k < 4 → parseFieldDescriptor (TX4 k).2.2.1 = some (tyX4 k) := by decide +kernel
abbrev cX4_init : ByteArray := prog_6_method_1_code
def yX4_init : MethodName := ⟨RX4, "<init>", "()V"⟩
abbrev cX4_sumsRead : ByteArray := prog_6_method_2_code
def yX4_sumsRead : MethodName := ⟨RX4, "sumsRead", "()V"⟩
abbrev cX4_sentPlain : ByteArray := prog_6_method_3_code
def yX4_sentPlain : MethodName := ⟨RX4, "sentPlain", "(III)V"⟩
abbrev cX4_sentWith : ByteArray := prog_6_method_4_code
def yX4_sentWith : MethodName := ⟨RX4, "sentWith", "(I)I"⟩
abbrev cX4_bitsSent : ByteArray := prog_6_method_5_code
def yX4_bitsSent : MethodName := ⟨RX4, "bitsSent", "()I"⟩
abbrev cX4_bitsSentByBothPlainly : ByteArray := prog_6_method_6_code
def yX4_bitsSentByBothPlainly : MethodName := ⟨RX4, "bitsSentByBothPlainly", "()I"⟩
abbrev cX4_timesSumsRead : ByteArray := prog_6_method_7_code
def yX4_timesSumsRead : MethodName := ⟨RX4, "timesSumsRead", "()I"⟩
def RX5 : String := "CosetGauges"
def TX5 : u_T := fun k => match k with
  | 0 => ("CosetGauges", "page", "LCosetGauges$Page;", true)
  | 1 => ("CosetGauges", "reader", "LCosetGauges$Reader;", true)
  | 2 => ("CosetGauges", "current", "LCosetGauges$Sums;", true)
  | 3 => ("CosetGauges", "tally", "LCosetGauges$Tally;", true)
  | _ => ("CosetGauges", "draws", "LCosetGauges$Draws;", true)
def tyX5 : Nat → FieldType := fun k => match k with
  | 0 => .object "CosetGauges$Page"
  | 1 => .object "CosetGauges$Reader"
  | 2 => .object "CosetGauges$Sums"
  | 3 => .object "CosetGauges$Tally"
  | _ => .object "CosetGauges$Draws"
abbrev wsX50 : List Cond := u_ws RX5 TX5 5
theorem nmX5 : ∀ a, a < 5 → ∀ b, b < 5 → a ≠ b → (TX5 a).2.1 ≠ (TX5 b).2.1 := by decide +kernel
theorem tyX5_ok : ∀ k, k < 5 → parseFieldDescriptor (TX5 k).2.2.1 = some (tyX5 k) := by decide +kernel
abbrev cX5_init : ByteArray := prog_1_method_1_code
def yX5_init : MethodName := ⟨RX5, "<init>", "()V"⟩
abbrev cX5_letter : ByteArray := prog_1_method_2_code
def yX5_letter : MethodName := ⟨RX5, "letter", "(I)I"⟩
abbrev cX5_blank : ByteArray := prog_1_method_3_code
def yX5_blank : MethodName := ⟨RX5, "blank", "()I"⟩
abbrev cX5_fault : ByteArray := prog_1_method_4_code
def yX5_fault : MethodName := ⟨RX5, "fault", "()I"⟩
abbrev cX5_sums : ByteArray := prog_1_method_5_code
def yX5_sums : MethodName := ⟨RX5, "sums", "()I"⟩
abbrev cX5_code : ByteArray := prog_1_method_6_code
def yX5_code : MethodName := ⟨RX5, "code", "(I)I"⟩
abbrev cX5_row : ByteArray := prog_1_method_7_code
def yX5_row : MethodName := ⟨RX5, "row", "(I)I"⟩
abbrev cX5_syndrome : ByteArray := prog_1_method_8_code
def yX5_syndrome : MethodName := ⟨RX5, "syndrome", "(I)I"⟩
abbrev cX5_leader : ByteArray := prog_1_method_9_code
def yX5_leader : MethodName := ⟨RX5, "leader", "(I)I"⟩
abbrev cX5_coset : ByteArray := prog_1_method_10_code
def yX5_coset : MethodName := ⟨RX5, "coset", "(II)I"⟩
abbrev cX5_leaders : ByteArray := prog_1_method_11_code
def yX5_leaders : MethodName := ⟨RX5, "leaders", "(I)I"⟩
abbrev cX5_better : ByteArray := prog_1_method_12_code
def yX5_better : MethodName := ⟨RX5, "better", "(II)I"⟩
abbrev cX5_send : ByteArray := prog_1_method_13_code
def yX5_send : MethodName := ⟨RX5, "send", "(II)I"⟩
abbrev cX5_plain : ByteArray := prog_1_method_14_code
def yX5_plain : MethodName := ⟨RX5, "plain", "(III)I"⟩
abbrev cX5_share : ByteArray := prog_1_method_15_code
def yX5_share : MethodName := ⟨RX5, "share", "(III)I"⟩
abbrev cX5_shared : ByteArray := prog_1_method_16_code
def yX5_shared : MethodName := ⟨RX5, "shared", "(IIIIZ)I"⟩
abbrev cX5_run : ByteArray := prog_1_method_17_code
def yX5_run : MethodName := ⟨RX5, "run", "(III)I"⟩
abbrev cX5_seed : ByteArray := prog_1_method_18_code
def yX5_seed : MethodName := ⟨RX5, "seed", "()I"⟩
abbrev cX5_count : ByteArray := prog_1_method_19_code
def yX5_count : MethodName := ⟨RX5, "count", "(I)I"⟩
abbrev cX5_digest : ByteArray := prog_1_method_20_code
def yX5_digest : MethodName := ⟨RX5, "digest", "()J"⟩
abbrev cX5_withSums : ByteArray := prog_1_method_21_code
def yX5_withSums : MethodName := ⟨RX5, "withSums", "(J)J"⟩
abbrev cX5_sendAndCount : ByteArray := prog_1_method_22_code
def yX5_sendAndCount : MethodName := ⟨RX5, "sendAndCount", "(II)I"⟩
abbrev cX5_drawUnlikePlaces : ByteArray := prog_1_method_23_code
def yX5_drawUnlikePlaces : MethodName := ⟨RX5, "drawUnlikePlaces", "(I)I"⟩
def RX6 : String := "CosetGaugesModel"
def TX6 : u_T := fun k => match k with
  | 0 => ("CosetGaugesModel", "pageLength", "I", false)
  | 1 => ("CosetGaugesModel", "page", "[I", true)
  | 2 => ("CosetGaugesModel", "rows", "I", false)
  | 3 => ("CosetGaugesModel", "length", "I", false)
  | 4 => ("CosetGaugesModel", "rowOf", "[I", true)
  | 5 => ("CosetGaugesModel", "seedNow", "I", false)
  | 6 => ("CosetGaugesModel", "verdicts", "[I", true)
  | 7 => ("CosetGaugesModel", "bitsSent", "I", false)
  | 8 => ("CosetGaugesModel", "bitsPlain", "I", false)
  | 9 => ("CosetGaugesModel", "sumsRead", "I", false)
  | 10 => ("CosetGaugesModel", "newRows", "I", false)
  | 11 => ("CosetGaugesModel", "signs", "I", false)
  | 12 => ("CosetGaugesModel", "newLength", "I", false)
  | 13 => ("CosetGaugesModel", "newRow", "[I", true)
  | 14 => ("CosetGaugesModel", "syndromeOf", "[I", true)
  | 15 => ("CosetGaugesModel", "leaderOf", "[I", true)
  | 16 => ("CosetGaugesModel", "rank", "I", false)
  | 17 => ("CosetGaugesModel", "distance", "I", false)
  | 18 => ("CosetGaugesModel", "sure", "I", false)
  | 19 => ("CosetGaugesModel", "radius", "I", false)
  | _ => ("CosetGaugesModel", "h", "J", false)
def tyX6 : Nat → FieldType := fun k => match k with
  | 0 => .int
  | 1 => .array .int
  | 2 => .int
  | 3 => .int
  | 4 => .array .int
  | 5 => .int
  | 6 => .array .int
  | 7 => .int
  | 8 => .int
  | 9 => .int
  | 10 => .int
  | 11 => .int
  | 12 => .int
  | 13 => .array .int
  | 14 => .array .int
  | 15 => .array .int
  | 16 => .int
  | 17 => .int
  | 18 => .int
  | 19 => .int
  | _ => .long
abbrev wsX60 : List Cond := u_ws RX6 TX6 21
theorem nmX6 : ∀ a, a < 21 → ∀ b, b < 21 → a ≠ b → (TX6 a).2.1 ≠ (TX6 b).2.1 := by decide +kernel
theorem tyX6_ok : ∀ k, k < 21 → parseFieldDescriptor (TX6 k).2.2.1 = some (tyX6 k) := by decide +kernel
abbrev cX6_init : ByteArray := prog_8_method_1_code
def yX6_init : MethodName := ⟨RX6, "<init>", "()V"⟩
abbrev cX6_within : ByteArray := prog_8_method_3_code
def yX6_within : MethodName := ⟨RX6, "within", "(III)Z"⟩
abbrev cX6_ones : ByteArray := prog_8_method_4_code
def yX6_ones : MethodName := ⟨RX6, "ones", "(I)I"⟩
abbrev cX6_letter : ByteArray := prog_8_method_5_code
def yX6_letter : MethodName := ⟨RX6, "letter", "(I)I"⟩
abbrev cX6_blank : ByteArray := prog_8_method_6_code
def yX6_blank : MethodName := ⟨RX6, "blank", "()I"⟩
abbrev cX6_takes : ByteArray := prog_8_method_7_code
def yX6_takes : MethodName := ⟨RX6, "takes", "(I)Z"⟩
abbrev cX6_goAlong : ByteArray := prog_8_method_8_code
def yX6_goAlong : MethodName := ⟨RX6, "goAlong", "()I"⟩
abbrev cX6_fault : ByteArray := prog_8_method_9_code
def yX6_fault : MethodName := ⟨RX6, "fault", "()I"⟩
abbrev cX6_sums : ByteArray := prog_8_method_10_code
def yX6_sums : MethodName := ⟨RX6, "sums", "()I"⟩
abbrev cX6_syndromeBy : ByteArray := prog_8_method_11_code
def yX6_syndromeBy : MethodName := ⟨RX6, "syndromeBy", "(I)I"⟩
abbrev cX6_words : ByteArray := prog_8_method_12_code
def yX6_words : MethodName := ⟨RX6, "words", "()I"⟩
abbrev cX6_layAll : ByteArray := prog_8_method_13_code
def yX6_layAll : MethodName := ⟨RX6, "layAll", "()V"⟩
abbrev cX6_distanceNow : ByteArray := prog_8_method_14_code
def yX6_distanceNow : MethodName := ⟨RX6, "distanceNow", "()I"⟩
abbrev cX6_isSole : ByteArray := prog_8_method_15_code
def yX6_isSole : MethodName := ⟨RX6, "isSole", "(I)Z"⟩
abbrev cX6_layReach : ByteArray := prog_8_method_16_code
def yX6_layReach : MethodName := ⟨RX6, "layReach", "()V"⟩
abbrev cX6_codeNow : ByteArray := prog_8_method_17_code
def yX6_codeNow : MethodName := ⟨RX6, "codeNow", "(I)I"⟩
abbrev cX6_isThere : ByteArray := prog_8_method_18_code
def yX6_isThere : MethodName := ⟨RX6, "isThere", "()Z"⟩
abbrev cX6_isWord : ByteArray := prog_8_method_19_code
def yX6_isWord : MethodName := ⟨RX6, "isWord", "(I)Z"⟩
abbrev cX6_code : ByteArray := prog_8_method_20_code
def yX6_code : MethodName := ⟨RX6, "code", "(I)I"⟩
abbrev cX6_row : ByteArray := prog_8_method_21_code
def yX6_row : MethodName := ⟨RX6, "row", "(I)I"⟩
abbrev cX6_syndrome : ByteArray := prog_8_method_22_code
def yX6_syndrome : MethodName := ⟨RX6, "syndrome", "(I)I"⟩
abbrev cX6_isSyndrome : ByteArray := prog_8_method_23_code
def yX6_isSyndrome : MethodName := ⟨RX6, "isSyndrome", "(I)Z"⟩
abbrev cX6_leader : ByteArray := prog_8_method_24_code
def yX6_leader : MethodName := ⟨RX6, "leader", "(I)I"⟩
abbrev cX6_cosetNow : ByteArray := prog_8_method_25_code
def yX6_cosetNow : MethodName := ⟨RX6, "cosetNow", "(II)I"⟩
abbrev cX6_coset : ByteArray := prog_8_method_26_code
def yX6_coset : MethodName := ⟨RX6, "coset", "(II)I"⟩
abbrev cX6_leadersNow : ByteArray := prog_8_method_27_code
def yX6_leadersNow : MethodName := ⟨RX6, "leadersNow", "(I)I"⟩
abbrev cX6_leaders : ByteArray := prog_8_method_28_code
def yX6_leaders : MethodName := ⟨RX6, "leaders", "(I)I"⟩
abbrev cX6_counted : ByteArray := prog_8_method_29_code
def yX6_counted : MethodName := ⟨RX6, "counted", "(I)I"⟩
abbrev cX6_betterNow : ByteArray := prog_8_method_30_code
def yX6_betterNow : MethodName := ⟨RX6, "betterNow", "(II)I"⟩
abbrev cX6_better : ByteArray := prog_8_method_31_code
def yX6_better : MethodName := ⟨RX6, "better", "(II)I"⟩
abbrev cX6_flipsOf : ByteArray := prog_8_method_32_code
def yX6_flipsOf : MethodName := ⟨RX6, "flipsOf", "(II)I"⟩
abbrev cX6_verdictOf : ByteArray := prog_8_method_33_code
def yX6_verdictOf : MethodName := ⟨RX6, "verdictOf", "(II)I"⟩
abbrev cX6_sendNow : ByteArray := prog_8_method_34_code
def yX6_sendNow : MethodName := ⟨RX6, "sendNow", "(II)I"⟩
abbrev cX6_send : ByteArray := prog_8_method_35_code
def yX6_send : MethodName := ⟨RX6, "send", "(II)I"⟩
abbrev cX6_plain : ByteArray := prog_8_method_36_code
def yX6_plain : MethodName := ⟨RX6, "plain", "(III)I"⟩
abbrev cX6_isEnough : ByteArray := prog_8_method_37_code
def yX6_isEnough : MethodName := ⟨RX6, "isEnough", "(I)Z"⟩
abbrev cX6_areSets : ByteArray := prog_8_method_38_code
def yX6_areSets : MethodName := ⟨RX6, "areSets", "(II)Z"⟩
abbrev cX6_share : ByteArray := prog_8_method_39_code
def yX6_share : MethodName := ⟨RX6, "share", "(III)I"⟩
abbrev cX6_sharedNow : ByteArray := prog_8_method_40_code
def yX6_sharedNow : MethodName := ⟨RX6, "sharedNow", "(IIIIZ)I"⟩
abbrev cX6_shared : ByteArray := prog_8_method_41_code
def yX6_shared : MethodName := ⟨RX6, "shared", "(IIIIZ)I"⟩
abbrev cX6_draw : ByteArray := prog_8_method_42_code
def yX6_draw : MethodName := ⟨RX6, "draw", "(I)I"⟩
abbrev cX6_runNow : ByteArray := prog_8_method_43_code
def yX6_runNow : MethodName := ⟨RX6, "runNow", "(III)I"⟩
abbrev cX6_run : ByteArray := prog_8_method_44_code
def yX6_run : MethodName := ⟨RX6, "run", "(III)I"⟩
abbrev cX6_seed : ByteArray := prog_8_method_45_code
def yX6_seed : MethodName := ⟨RX6, "seed", "()I"⟩
abbrev cX6_howMany : ByteArray := prog_8_method_46_code
def yX6_howMany : MethodName := ⟨RX6, "howMany", "(I)I"⟩
abbrev cX6_count : ByteArray := prog_8_method_47_code
def yX6_count : MethodName := ⟨RX6, "count", "(I)I"⟩
abbrev cX6_mix : ByteArray := prog_8_method_48_code
def yX6_mix : MethodName := ⟨RX6, "mix", "(J)V"⟩
abbrev cX6_mixSums : ByteArray := prog_8_method_49_code
def yX6_mixSums : MethodName := ⟨RX6, "mixSums", "()V"⟩
abbrev cX6_digest : ByteArray := prog_8_method_50_code
def yX6_digest : MethodName := ⟨RX6, "digest", "()J"⟩
def RJ6 : String := "java/lang/Integer"
def TJ6 : u_T := fun k => match k with
  | _ => ("", "", "", false)
def tyJ6 : Nat → FieldType := fun k => match k with
  | _ => .int
abbrev wsJ60 : List Cond := u_ws RJ6 TJ6 0
theorem nmJ6 : ∀ a, a < 0 → ∀ b, b < 0 → a ≠ b → (TJ6 a).2.1 ≠ (TJ6 b).2.1 := by decide +kernel
theorem tyJ6_ok : ∀ k, k < 0 → parseFieldDescriptor (TJ6 k).2.2.1 = some (tyJ6 k) := by decide +kernel
abbrev cJ6_bitCount_0f7a4 : ByteArray := prog_9_method_49_code
def yJ6_bitCount_0f7a4 : MethodName := ⟨RJ6, "bitCount", "(I)I"⟩
def RJ9 : String := "java/lang/Math"
def TJ9 : u_T := fun k => match k with
  | _ => ("", "", "", false)
def tyJ9 : Nat → FieldType := fun k => match k with
  | _ => .int
abbrev wsJ90 : List Cond := u_ws RJ9 TJ9 0
theorem nmJ9 : ∀ a, a < 0 → ∀ b, b < 0 → a ≠ b → (TJ9 a).2.1 ≠ (TJ9 b).2.1 := by decide +kernel
theorem tyJ9_ok : ∀ k, k < 0 → parseFieldDescriptor (TJ9 k).2.2.1 = some (tyJ9 k) := by decide +kernel
abbrev cJ9_max_7cf53 : ByteArray := prog_10_method_65_code
def yJ9_max_7cf53 : MethodName := ⟨RJ9, "max", "(II)I"⟩
def RL : String := "CosetGaugesLaw"
abbrev cL_law : ByteArray := code
def yL_law : MethodName := ⟨RL, "law", "([I)Z"⟩
def wsX0_init : List Cond := .code yX0_init cX0_init 1 none :: ([.methodLink RX0 1 objectInit, .instanceMethod objectInit, .code objectInit ⟨#[0xb1]⟩ 1 none, .fieldLink RX0 7 "CosetGauges$Draws" "seed" "I"] ++ wsX00)
def wsX0_startFrom : List Cond := .code yX0_startFrom cX0_startFrom 2 none :: ([.fieldLink RX0 7 "CosetGauges$Draws" "seed" "I"] ++ wsX00)
def wsX0_last : List Cond := .code yX0_last cX0_last 1 (some .int) :: ([.fieldLink RX0 7 "CosetGauges$Draws" "seed" "I"] ++ wsX00)
def wsX0_next : List Cond := .code yX0_next cX0_next 2 (some .int) :: ([.constantLong RX0 13 (1103515245), .fieldLink RX0 7 "CosetGauges$Draws" "seed" "I", .constantLong RX0 15 (12345), .constantLong RX0 17 (2147483647)] ++ wsX00)
def wsX1_init : List Cond := .code yX1_init cX1_init 1 none :: ([.methodLink RX1 3 objectInit, .instanceMethod objectInit, .code objectInit ⟨#[0xb1]⟩ 1 none, .arrayClass .int, .fieldLink RX1 9 "CosetGauges$Page" "letters" "[I", .fieldLink RX1 15 "CosetGauges$Page" "size" "I"] ++ wsX10)
def wsX1_size : List Cond := .code yX1_size cX1_size 1 (some .int) :: ([.fieldLink RX1 15 "CosetGauges$Page" "size" "I"] ++ wsX10)
def wsX1_append : List Cond := .code yX1_append cX1_append 2 (some .boolean) :: ([.fieldLink RX1 15 "CosetGauges$Page" "size" "I", .fieldLink RX1 9 "CosetGauges$Page" "letters" "[I"] ++ wsX10)
def wsX1_clear : List Cond := .code yX1_clear cX1_clear 1 none :: ([.fieldLink RX1 15 "CosetGauges$Page" "size" "I"] ++ wsX10)
def wsX1_letterAt : List Cond := .code yX1_letterAt cX1_letterAt 2 (some .int) :: ([.fieldLink RX1 9 "CosetGauges$Page" "letters" "[I"] ++ wsX10)
def wsX2_init : List Cond := .code yX2_init cX2_init 1 none :: ([.methodLink RX2 3 objectInit, .instanceMethod objectInit, .code objectInit ⟨#[0xb1]⟩ 1 none, .arrayClass .int, .fieldLink RX2 9 "CosetGauges$Reader" "rows" "[I", .fieldLink RX2 15 "CosetGauges$Reader" "row" "I", .fieldLink RX2 19 "CosetGauges$Reader" "signs" "I", .fieldLink RX2 22 "CosetGauges$Reader" "length" "I"] ++ wsX20)
def wsX2_start : List Cond := .code yX2_start cX2_start 2 none :: ([.fieldLink RX2 9 "CosetGauges$Reader" "rows" "[I", .fieldLink RX2 15 "CosetGauges$Reader" "row" "I", .fieldLink RX2 19 "CosetGauges$Reader" "signs" "I", .fieldLink RX2 22 "CosetGauges$Reader" "length" "I"] ++ wsX20)
def wsX2_rowIsWhole : List Cond := .code yX2_rowIsWhole cX2_rowIsWhole 1 (some .boolean) :: ([.fieldLink RX2 15 "CosetGauges$Reader" "row" "I", .fieldLink RX2 19 "CosetGauges$Reader" "signs" "I", .fieldLink RX2 22 "CosetGauges$Reader" "length" "I"] ++ wsX20)
def wsX2_takesEndOfRow : List Cond := .code yX2_takesEndOfRow cX2_takesEndOfRow 1 (some .boolean) :: ([.fieldLink RX2 15 "CosetGauges$Reader" "row" "I", .fieldLink RX2 19 "CosetGauges$Reader" "signs" "I", .fieldLink RX2 22 "CosetGauges$Reader" "length" "I", .methodLink RX2 49 yX2_rowIsWhole, .instanceMethod yX2_rowIsWhole, .selects RX2 yX2_rowIsWhole yX2_rowIsWhole, .initialized RX2, .code yX2_rowIsWhole cX2_rowIsWhole 1 (some .boolean)] ++ wsX20)
def wsX2_takesSign : List Cond := .code yX2_takesSign cX2_takesSign 3 (some .boolean) :: ([.fieldLink RX2 15 "CosetGauges$Reader" "row" "I", .fieldLink RX2 22 "CosetGauges$Reader" "length" "I", .fieldLink RX2 19 "CosetGauges$Reader" "signs" "I", .fieldLink RX2 9 "CosetGauges$Reader" "rows" "[I"] ++ wsX20)
def wsX2_takes : List Cond := .code yX2_takes cX2_takes 2 (some .boolean) :: ([.methodLink RX2 42 yX2_takesEndOfRow, .instanceMethod yX2_takesEndOfRow, .selects RX2 yX2_takesEndOfRow yX2_takesEndOfRow, .initialized RX2, .code yX2_takesEndOfRow cX2_takesEndOfRow 1 (some .boolean), .fieldLink RX2 15 "CosetGauges$Reader" "row" "I", .fieldLink RX2 19 "CosetGauges$Reader" "signs" "I", .fieldLink RX2 22 "CosetGauges$Reader" "length" "I", .methodLink RX2 49 yX2_rowIsWhole, .instanceMethod yX2_rowIsWhole, .selects RX2 yX2_rowIsWhole yX2_rowIsWhole, .code yX2_rowIsWhole cX2_rowIsWhole 1 (some .boolean), .methodLink RX2 46 yX2_takesSign, .instanceMethod yX2_takesSign, .selects RX2 yX2_takesSign yX2_takesSign, .code yX2_takesSign cX2_takesSign 3 (some .boolean), .fieldLink RX2 9 "CosetGauges$Reader" "rows" "[I"] ++ wsX20)
def wsX2_readAsFarAsItGoes_r1 : List Cond := [Cond.methodLink RX2 25 yX2_start, Cond.instanceMethod yX2_start, Cond.selects RX2 yX2_start yX2_start, Cond.initialized RX2, Cond.code yX2_start cX2_start 2 none, Cond.fieldLink RX2 9 "CosetGauges$Reader" "rows" "[I", Cond.fieldLink RX2 15 "CosetGauges$Reader" "row" "I", Cond.fieldLink RX2 19 "CosetGauges$Reader" "signs" "I", Cond.fieldLink RX2 22 "CosetGauges$Reader" "length" "I", Cond.methodLink RX2 28 yX1_size, Cond.instanceMethod yX1_size, Cond.selects RX1 yX1_size yX1_size, Cond.initialized RX1, Cond.code yX1_size cX1_size 1 (some .int), Cond.fieldLink RX1 15 "CosetGauges$Page" "size" "I", Cond.methodLink RX2 34 yX1_letterAt, Cond.instanceMethod yX1_letterAt, Cond.selects RX1 yX1_letterAt yX1_letterAt, Cond.code yX1_letterAt cX1_letterAt 2 (some .int), Cond.fieldLink RX1 9 "CosetGauges$Page" "letters" "[I", Cond.methodLink RX2 38 yX2_takes, Cond.instanceMethod yX2_takes, Cond.selects RX2 yX2_takes yX2_takes, Cond.code yX2_takes cX2_takes 2 (some .boolean)]
def wsX2_readAsFarAsItGoes_r2 : List Cond := [Cond.methodLink RX2 42 yX2_takesEndOfRow, Cond.instanceMethod yX2_takesEndOfRow, Cond.selects RX2 yX2_takesEndOfRow yX2_takesEndOfRow, Cond.code yX2_takesEndOfRow cX2_takesEndOfRow 1 (some .boolean), Cond.methodLink RX2 49 yX2_rowIsWhole, Cond.instanceMethod yX2_rowIsWhole, Cond.selects RX2 yX2_rowIsWhole yX2_rowIsWhole, Cond.code yX2_rowIsWhole cX2_rowIsWhole 1 (some .boolean), Cond.methodLink RX2 46 yX2_takesSign, Cond.instanceMethod yX2_takesSign, Cond.selects RX2 yX2_takesSign yX2_takesSign, Cond.code yX2_takesSign cX2_takesSign 3 (some .boolean)]
def wsX2_readAsFarAsItGoes : List Cond := .code yX2_readAsFarAsItGoes cX2_readAsFarAsItGoes 3 (some .int) :: ((wsX2_readAsFarAsItGoes_r1 ++ wsX2_readAsFarAsItGoes_r2) ++ wsX20 ++ wsX10)
def wsX2_rowsRead : List Cond := .code yX2_rowsRead cX2_rowsRead 1 (some .int) :: ([.fieldLink RX2 15 "CosetGauges$Reader" "row" "I"] ++ wsX20)
def wsX2_signsOfRow : List Cond := .code yX2_signsOfRow cX2_signsOfRow 1 (some .int) :: ([.fieldLink RX2 19 "CosetGauges$Reader" "signs" "I"] ++ wsX20)
def wsX2_rowAt : List Cond := .code yX2_rowAt cX2_rowAt 2 (some .int) :: ([.fieldLink RX2 9 "CosetGauges$Reader" "rows" "[I"] ++ wsX20)
def wsX3_init : List Cond := .code yX3_init cX3_init 1 none :: ([.methodLink RX3 3 objectInit, .instanceMethod objectInit, .code objectInit ⟨#[0xb1]⟩ 1 none, .arrayClass .int, .fieldLink RX3 9 "CosetGauges$Sums" "rows" "[I", .fieldLink RX3 15 "CosetGauges$Sums" "leaderBySyndrome" "[I", .fieldLink RX3 18 "CosetGauges$Sums" "leadersByWeight" "[I", .fieldLink RX3 21 "CosetGauges$Sums" "rowCount" "I", .fieldLink RX3 25 "CosetGauges$Sums" "length" "I", .fieldLink RX3 28 "CosetGauges$Sums" "rank" "I", .fieldLink RX3 31 "CosetGauges$Sums" "distance" "I", .fieldLink RX3 34 "CosetGauges$Sums" "sure" "I", .fieldLink RX3 37 "CosetGauges$Sums" "radius" "I"] ++ wsX30)
def wsX3_words : List Cond := .code yX3_words cX3_words 1 (some .int) :: ([.fieldLink RX3 25 "CosetGauges$Sums" "length" "I"] ++ wsX30)
def wsJ6_bitCount_0f7a4 : List Cond := .code yJ6_bitCount_0f7a4 cJ6_bitCount_0f7a4 1 (some .int) :: ([.constant RJ6 265 (1431655765), .constant RJ6 266 (858993459), .constant RJ6 267 (252645135)])
def wsX3_syndromeOf : List Cond := .code yX3_syndromeOf cX3_syndromeOf 4 (some .int) :: ([.fieldLink RX3 21 "CosetGauges$Sums" "rowCount" "I", .fieldLink RX3 9 "CosetGauges$Sums" "rows" "[I", .methodLink RX3 79 yJ6_bitCount_0f7a4, .static yJ6_bitCount_0f7a4, .initialized RJ6, .code yJ6_bitCount_0f7a4 cJ6_bitCount_0f7a4 1 (some .int), .constant RJ6 265 (1431655765), .constant RJ6 266 (858993459), .constant RJ6 267 (252645135)] ++ wsX30)
def wsX3_syndromes : List Cond := .code yX3_syndromes cX3_syndromes 1 (some .int) :: ([.fieldLink RX3 21 "CosetGauges$Sums" "rowCount" "I"] ++ wsX30)
def wsX3_isSyndrome : List Cond := .code yX3_isSyndrome cX3_isSyndrome 2 (some .boolean) :: ([.fieldLink RX3 15 "CosetGauges$Sums" "leaderBySyndrome" "[I", .methodLink RX3 90 yX3_syndromes, .instanceMethod yX3_syndromes, .selects RX3 yX3_syndromes yX3_syndromes, .initialized RX3, .code yX3_syndromes cX3_syndromes 1 (some .int), .fieldLink RX3 21 "CosetGauges$Sums" "rowCount" "I"] ++ wsX30)
def wsX3_leaderOf : List Cond := .code yX3_leaderOf cX3_leaderOf 2 (some .int) :: ([.fieldLink RX3 15 "CosetGauges$Sums" "leaderBySyndrome" "[I", .methodLink RX3 68 yX3_isSyndrome, .instanceMethod yX3_isSyndrome, .selects RX3 yX3_isSyndrome yX3_isSyndrome, .initialized RX3, .code yX3_isSyndrome cX3_isSyndrome 2 (some .boolean), .methodLink RX3 90 yX3_syndromes, .instanceMethod yX3_syndromes, .selects RX3 yX3_syndromes yX3_syndromes, .code yX3_syndromes cX3_syndromes 1 (some .int), .fieldLink RX3 21 "CosetGauges$Sums" "rowCount" "I"] ++ wsX30)
def wsX3_isNearer : List Cond := .code yX3_isNearer cX3_isNearer 2 (some .boolean) :: ([.methodLink RX3 79 yJ6_bitCount_0f7a4, .static yJ6_bitCount_0f7a4, .initialized RJ6, .code yJ6_bitCount_0f7a4 cJ6_bitCount_0f7a4 1 (some .int), .constant RJ6 265 (1431655765), .constant RJ6 266 (858993459), .constant RJ6 267 (252645135)])
def wsX3_findLeaders_r1 : List Cond := [Cond.fieldLink RX3 15 "CosetGauges$Sums" "leaderBySyndrome" "[I", Cond.methodLink RX3 62 yX3_words, Cond.instanceMethod yX3_words, Cond.selects RX3 yX3_words yX3_words, Cond.initialized RX3, Cond.code yX3_words cX3_words 1 (some .int), Cond.fieldLink RX3 25 "CosetGauges$Sums" "length" "I", Cond.methodLink RX3 65 yX3_syndromeOf, Cond.instanceMethod yX3_syndromeOf, Cond.selects RX3 yX3_syndromeOf yX3_syndromeOf, Cond.code yX3_syndromeOf cX3_syndromeOf 4 (some .int), Cond.fieldLink RX3 21 "CosetGauges$Sums" "rowCount" "I", Cond.fieldLink RX3 9 "CosetGauges$Sums" "rows" "[I", Cond.methodLink RX3 79 yJ6_bitCount_0f7a4, Cond.static yJ6_bitCount_0f7a4, Cond.initialized RJ6, Cond.code yJ6_bitCount_0f7a4 cJ6_bitCount_0f7a4 1 (some .int), Cond.constant RJ6 265 (1431655765), Cond.constant RJ6 266 (858993459), Cond.constant RJ6 267 (252645135), Cond.methodLink RX3 68 yX3_isSyndrome, Cond.instanceMethod yX3_isSyndrome, Cond.selects RX3 yX3_isSyndrome yX3_isSyndrome, Cond.code yX3_isSyndrome cX3_isSyndrome 2 (some .boolean)]
def wsX3_findLeaders_r2 : List Cond := [Cond.methodLink RX3 90 yX3_syndromes, Cond.instanceMethod yX3_syndromes, Cond.selects RX3 yX3_syndromes yX3_syndromes, Cond.code yX3_syndromes cX3_syndromes 1 (some .int), Cond.methodLink RX3 72 yX3_leaderOf, Cond.instanceMethod yX3_leaderOf, Cond.selects RX3 yX3_leaderOf yX3_leaderOf, Cond.code yX3_leaderOf cX3_leaderOf 2 (some .int), Cond.methodLink RX3 75 yX3_isNearer, Cond.static yX3_isNearer, Cond.code yX3_isNearer cX3_isNearer 2 (some .boolean)]
def wsX3_findLeaders : List Cond := .code yX3_findLeaders cX3_findLeaders 4 none :: ((wsX3_findLeaders_r1 ++ wsX3_findLeaders_r2) ++ wsX30)
def wsX3_countLeaders : List Cond := .code yX3_countLeaders cX3_countLeaders 4 none :: ([.fieldLink RX3 18 "CosetGauges$Sums" "leadersByWeight" "[I", .fieldLink RX3 37 "CosetGauges$Sums" "radius" "I", .fieldLink RX3 15 "CosetGauges$Sums" "leaderBySyndrome" "[I", .methodLink RX3 84 Lib.Math.max.name, .static Lib.Math.max.name, .initialized "java/lang/Math", .code Lib.Math.max.name Lib.Math.max.code 2 (some .int), .fieldLink RX3 28 "CosetGauges$Sums" "rank" "I", .methodLink RX3 79 yJ6_bitCount_0f7a4, .static yJ6_bitCount_0f7a4, .initialized RJ6, .code yJ6_bitCount_0f7a4 cJ6_bitCount_0f7a4 1 (some .int), .constant RJ6 265 (1431655765), .constant RJ6 266 (858993459), .constant RJ6 267 (252645135)] ++ wsX30)
def wsX3_leastWeightWithoutSyndrome : List Cond := .code yX3_leastWeightWithoutSyndrome cX3_leastWeightWithoutSyndrome 5 (some .int) :: ([.fieldLink RX3 25 "CosetGauges$Sums" "length" "I", .methodLink RX3 62 yX3_words, .instanceMethod yX3_words, .selects RX3 yX3_words yX3_words, .initialized RX3, .code yX3_words cX3_words 1 (some .int), .methodLink RX3 79 yJ6_bitCount_0f7a4, .static yJ6_bitCount_0f7a4, .initialized RJ6, .code yJ6_bitCount_0f7a4 cJ6_bitCount_0f7a4 1 (some .int), .constant RJ6 265 (1431655765), .constant RJ6 266 (858993459), .constant RJ6 267 (252645135), .methodLink RX3 65 yX3_syndromeOf, .instanceMethod yX3_syndromeOf, .selects RX3 yX3_syndromeOf yX3_syndromeOf, .code yX3_syndromeOf cX3_syndromeOf 4 (some .int), .fieldLink RX3 21 "CosetGauges$Sums" "rowCount" "I", .fieldLink RX3 9 "CosetGauges$Sums" "rows" "[I"] ++ wsX30)
def wsX3_become_r1 : List Cond := [Cond.fieldLink RX3 21 "CosetGauges$Sums" "rowCount" "I", Cond.fieldLink RX3 25 "CosetGauges$Sums" "length" "I", Cond.fieldLink RX3 9 "CosetGauges$Sums" "rows" "[I", Cond.fieldLink RX3 31 "CosetGauges$Sums" "distance" "I", Cond.fieldLink RX3 34 "CosetGauges$Sums" "sure" "I", Cond.methodLink RX3 40 yX2_rowsRead, Cond.instanceMethod yX2_rowsRead, Cond.selects RX2 yX2_rowsRead yX2_rowsRead, Cond.initialized RX2, Cond.code yX2_rowsRead cX2_rowsRead 1 (some .int), Cond.fieldLink RX2 15 "CosetGauges$Reader" "row" "I", Cond.methodLink RX3 46 yX2_signsOfRow, Cond.instanceMethod yX2_signsOfRow, Cond.selects RX2 yX2_signsOfRow yX2_signsOfRow, Cond.code yX2_signsOfRow cX2_signsOfRow 1 (some .int), Cond.fieldLink RX2 19 "CosetGauges$Reader" "signs" "I", Cond.methodLink RX3 49 yX2_rowAt, Cond.instanceMethod yX2_rowAt, Cond.selects RX2 yX2_rowAt yX2_rowAt, Cond.code yX2_rowAt cX2_rowAt 2 (some .int), Cond.fieldLink RX2 9 "CosetGauges$Reader" "rows" "[I", Cond.methodLink RX3 53 yX3_findLeaders, Cond.instanceMethod yX3_findLeaders, Cond.selects RX3 yX3_findLeaders yX3_findLeaders]
def wsX3_become_r2 : List Cond := [Cond.initialized RX3, Cond.code yX3_findLeaders cX3_findLeaders 4 none, Cond.fieldLink RX3 15 "CosetGauges$Sums" "leaderBySyndrome" "[I", Cond.methodLink RX3 62 yX3_words, Cond.instanceMethod yX3_words, Cond.selects RX3 yX3_words yX3_words, Cond.code yX3_words cX3_words 1 (some .int), Cond.methodLink RX3 65 yX3_syndromeOf, Cond.instanceMethod yX3_syndromeOf, Cond.selects RX3 yX3_syndromeOf yX3_syndromeOf, Cond.code yX3_syndromeOf cX3_syndromeOf 4 (some .int), Cond.methodLink RX3 79 yJ6_bitCount_0f7a4, Cond.static yJ6_bitCount_0f7a4, Cond.initialized RJ6, Cond.code yJ6_bitCount_0f7a4 cJ6_bitCount_0f7a4 1 (some .int), Cond.constant RJ6 265 (1431655765), Cond.constant RJ6 266 (858993459), Cond.constant RJ6 267 (252645135), Cond.methodLink RX3 68 yX3_isSyndrome, Cond.instanceMethod yX3_isSyndrome, Cond.selects RX3 yX3_isSyndrome yX3_isSyndrome, Cond.code yX3_isSyndrome cX3_isSyndrome 2 (some .boolean), Cond.methodLink RX3 90 yX3_syndromes, Cond.instanceMethod yX3_syndromes]
def wsX3_become_r3 : List Cond := [Cond.selects RX3 yX3_syndromes yX3_syndromes, Cond.code yX3_syndromes cX3_syndromes 1 (some .int), Cond.methodLink RX3 72 yX3_leaderOf, Cond.instanceMethod yX3_leaderOf, Cond.selects RX3 yX3_leaderOf yX3_leaderOf, Cond.code yX3_leaderOf cX3_leaderOf 2 (some .int), Cond.methodLink RX3 75 yX3_isNearer, Cond.static yX3_isNearer, Cond.code yX3_isNearer cX3_isNearer 2 (some .boolean), Cond.methodLink RX3 56 yX3_countLeaders, Cond.instanceMethod yX3_countLeaders, Cond.selects RX3 yX3_countLeaders yX3_countLeaders, Cond.code yX3_countLeaders cX3_countLeaders 4 none, Cond.fieldLink RX3 18 "CosetGauges$Sums" "leadersByWeight" "[I", Cond.fieldLink RX3 37 "CosetGauges$Sums" "radius" "I", Cond.methodLink RX3 84 Lib.Math.max.name, Cond.static Lib.Math.max.name, Cond.initialized "java/lang/Math", Cond.code Lib.Math.max.name Lib.Math.max.code 2 (some .int), Cond.fieldLink RX3 28 "CosetGauges$Sums" "rank" "I", Cond.methodLink RX3 59 yX3_leastWeightWithoutSyndrome, Cond.instanceMethod yX3_leastWeightWithoutSyndrome, Cond.selects RX3 yX3_leastWeightWithoutSyndrome yX3_leastWeightWithoutSyndrome, Cond.code yX3_leastWeightWithoutSyndrome cX3_leastWeightWithoutSyndrome 5 (some .int)]
def wsX3_become : List Cond := .code yX3_become cX3_become 3 none :: ((wsX3_become_r1 ++ (wsX3_become_r2 ++ wsX3_become_r3)) ++ wsX30 ++ wsX20)
def wsX3_areThere : List Cond := .code yX3_areThere cX3_areThere 1 (some .boolean) :: ([.fieldLink RX3 25 "CosetGauges$Sums" "length" "I"] ++ wsX30)
def wsX3_length : List Cond := .code yX3_length cX3_length 1 (some .int) :: ([.fieldLink RX3 25 "CosetGauges$Sums" "length" "I"] ++ wsX30)
def wsX3_rowCount : List Cond := .code yX3_rowCount cX3_rowCount 1 (some .int) :: ([.fieldLink RX3 21 "CosetGauges$Sums" "rowCount" "I"] ++ wsX30)
def wsX3_rank : List Cond := .code yX3_rank cX3_rank 1 (some .int) :: ([.fieldLink RX3 28 "CosetGauges$Sums" "rank" "I"] ++ wsX30)
def wsX3_distanceOrNone : List Cond := .code yX3_distanceOrNone cX3_distanceOrNone 1 (some .int) :: ([.fieldLink RX3 31 "CosetGauges$Sums" "distance" "I", .fieldLink RX3 25 "CosetGauges$Sums" "length" "I"] ++ wsX30)
def wsX3_sure : List Cond := .code yX3_sure cX3_sure 1 (some .int) :: ([.fieldLink RX3 34 "CosetGauges$Sums" "sure" "I"] ++ wsX30)
def wsX3_radius : List Cond := .code yX3_radius cX3_radius 1 (some .int) :: ([.fieldLink RX3 37 "CosetGauges$Sums" "radius" "I"] ++ wsX30)
def wsX3_isRow : List Cond := .code yX3_isRow cX3_isRow 2 (some .boolean) :: ([.fieldLink RX3 21 "CosetGauges$Sums" "rowCount" "I", .fieldLink RX3 9 "CosetGauges$Sums" "rows" "[I"] ++ wsX30)
def wsX3_isWord : List Cond := .code yX3_isWord cX3_isWord 2 (some .boolean) :: ([.methodLink RX3 62 yX3_words, .instanceMethod yX3_words, .selects RX3 yX3_words yX3_words, .initialized RX3, .code yX3_words cX3_words 1 (some .int), .fieldLink RX3 25 "CosetGauges$Sums" "length" "I"] ++ wsX30)
def wsX3_isWeight : List Cond := .code yX3_isWeight cX3_isWeight 2 (some .boolean) :: ([.fieldLink RX3 25 "CosetGauges$Sums" "length" "I", .fieldLink RX3 18 "CosetGauges$Sums" "leadersByWeight" "[I"] ++ wsX30)
def wsX3_areSharedSets : List Cond := .code yX3_areSharedSets cX3_areSharedSets 3 (some .boolean) :: ([.methodLink RX3 93 yX3_isWord, .instanceMethod yX3_isWord, .selects RX3 yX3_isWord yX3_isWord, .initialized RX3, .code yX3_isWord cX3_isWord 2 (some .boolean), .methodLink RX3 62 yX3_words, .instanceMethod yX3_words, .selects RX3 yX3_words yX3_words, .code yX3_words cX3_words 1 (some .int), .fieldLink RX3 25 "CosetGauges$Sums" "length" "I"] ++ wsX30)
def wsX3_rowAt : List Cond := .code yX3_rowAt cX3_rowAt 2 (some .int) :: ([.fieldLink RX3 9 "CosetGauges$Sums" "rows" "[I", .methodLink RX3 96 yX3_isRow, .instanceMethod yX3_isRow, .selects RX3 yX3_isRow yX3_isRow, .initialized RX3, .code yX3_isRow cX3_isRow 2 (some .boolean), .fieldLink RX3 21 "CosetGauges$Sums" "rowCount" "I"] ++ wsX30)
def wsX3_leadersOfWeight : List Cond := .code yX3_leadersOfWeight cX3_leadersOfWeight 2 (some .int) :: ([.fieldLink RX3 18 "CosetGauges$Sums" "leadersByWeight" "[I", .methodLink RX3 99 yX3_isWeight, .instanceMethod yX3_isWeight, .selects RX3 yX3_isWeight yX3_isWeight, .initialized RX3, .code yX3_isWeight cX3_isWeight 2 (some .boolean), .fieldLink RX3 25 "CosetGauges$Sums" "length" "I"] ++ wsX30)
def wsX3_wordOfCoset : List Cond := .code yX3_wordOfCoset cX3_wordOfCoset 6 (some .int) :: ([.methodLink RX3 62 yX3_words, .instanceMethod yX3_words, .selects RX3 yX3_words yX3_words, .initialized RX3, .code yX3_words cX3_words 1 (some .int), .fieldLink RX3 25 "CosetGauges$Sums" "length" "I", .methodLink RX3 65 yX3_syndromeOf, .instanceMethod yX3_syndromeOf, .selects RX3 yX3_syndromeOf yX3_syndromeOf, .code yX3_syndromeOf cX3_syndromeOf 4 (some .int), .fieldLink RX3 21 "CosetGauges$Sums" "rowCount" "I", .fieldLink RX3 9 "CosetGauges$Sums" "rows" "[I", .methodLink RX3 79 yJ6_bitCount_0f7a4, .static yJ6_bitCount_0f7a4, .initialized RJ6, .code yJ6_bitCount_0f7a4 cJ6_bitCount_0f7a4 1 (some .int), .constant RJ6 265 (1431655765), .constant RJ6 266 (858993459), .constant RJ6 267 (252645135)] ++ wsX30)
def wsX3_gainBy_r1 : List Cond := [Cond.fieldLink RX3 9 "CosetGauges$Sums" "rows" "[I", Cond.fieldLink RX3 31 "CosetGauges$Sums" "distance" "I", Cond.methodLink RX3 96 yX3_isRow, Cond.instanceMethod yX3_isRow, Cond.selects RX3 yX3_isRow yX3_isRow, Cond.initialized RX3, Cond.code yX3_isRow cX3_isRow 2 (some .boolean), Cond.fieldLink RX3 21 "CosetGauges$Sums" "rowCount" "I", Cond.methodLink RX3 59 yX3_leastWeightWithoutSyndrome, Cond.instanceMethod yX3_leastWeightWithoutSyndrome, Cond.selects RX3 yX3_leastWeightWithoutSyndrome yX3_leastWeightWithoutSyndrome, Cond.code yX3_leastWeightWithoutSyndrome cX3_leastWeightWithoutSyndrome 5 (some .int), Cond.fieldLink RX3 25 "CosetGauges$Sums" "length" "I", Cond.methodLink RX3 62 yX3_words, Cond.instanceMethod yX3_words, Cond.selects RX3 yX3_words yX3_words, Cond.code yX3_words cX3_words 1 (some .int), Cond.methodLink RX3 79 yJ6_bitCount_0f7a4, Cond.static yJ6_bitCount_0f7a4, Cond.initialized RJ6, Cond.code yJ6_bitCount_0f7a4 cJ6_bitCount_0f7a4 1 (some .int), Cond.constant RJ6 265 (1431655765), Cond.constant RJ6 266 (858993459), Cond.constant RJ6 267 (252645135)]
def wsX3_gainBy_r2 : List Cond := [Cond.methodLink RX3 65 yX3_syndromeOf, Cond.instanceMethod yX3_syndromeOf, Cond.selects RX3 yX3_syndromeOf yX3_syndromeOf, Cond.code yX3_syndromeOf cX3_syndromeOf 4 (some .int)]
def wsX3_gainBy : List Cond := .code yX3_gainBy cX3_gainBy 5 (some .int) :: ((wsX3_gainBy_r1 ++ wsX3_gainBy_r2) ++ wsX30)
def wsX3_flipsOf_r1 : List Cond := [Cond.methodLink RX3 65 yX3_syndromeOf, Cond.instanceMethod yX3_syndromeOf, Cond.selects RX3 yX3_syndromeOf yX3_syndromeOf, Cond.initialized RX3, Cond.code yX3_syndromeOf cX3_syndromeOf 4 (some .int), Cond.fieldLink RX3 21 "CosetGauges$Sums" "rowCount" "I", Cond.fieldLink RX3 9 "CosetGauges$Sums" "rows" "[I", Cond.methodLink RX3 79 yJ6_bitCount_0f7a4, Cond.static yJ6_bitCount_0f7a4, Cond.initialized RJ6, Cond.code yJ6_bitCount_0f7a4 cJ6_bitCount_0f7a4 1 (some .int), Cond.constant RJ6 265 (1431655765), Cond.constant RJ6 266 (858993459), Cond.constant RJ6 267 (252645135), Cond.methodLink RX3 72 yX3_leaderOf, Cond.instanceMethod yX3_leaderOf, Cond.selects RX3 yX3_leaderOf yX3_leaderOf, Cond.code yX3_leaderOf cX3_leaderOf 2 (some .int), Cond.fieldLink RX3 15 "CosetGauges$Sums" "leaderBySyndrome" "[I", Cond.methodLink RX3 68 yX3_isSyndrome, Cond.instanceMethod yX3_isSyndrome, Cond.selects RX3 yX3_isSyndrome yX3_isSyndrome, Cond.code yX3_isSyndrome cX3_isSyndrome 2 (some .boolean), Cond.methodLink RX3 90 yX3_syndromes]
def wsX3_flipsOf_r2 : List Cond := [Cond.instanceMethod yX3_syndromes, Cond.selects RX3 yX3_syndromes yX3_syndromes, Cond.code yX3_syndromes cX3_syndromes 1 (some .int)]
def wsX3_flipsOf : List Cond := .code yX3_flipsOf cX3_flipsOf 3 (some .int) :: ((wsX3_flipsOf_r1 ++ wsX3_flipsOf_r2) ++ wsX30)
def wsX3_verdictOf_r1 : List Cond := [Cond.fieldLink RX3 34 "CosetGauges$Sums" "sure" "I", Cond.methodLink RX3 102 yX3_flipsOf, Cond.instanceMethod yX3_flipsOf, Cond.selects RX3 yX3_flipsOf yX3_flipsOf, Cond.initialized RX3, Cond.code yX3_flipsOf cX3_flipsOf 3 (some .int), Cond.methodLink RX3 65 yX3_syndromeOf, Cond.instanceMethod yX3_syndromeOf, Cond.selects RX3 yX3_syndromeOf yX3_syndromeOf, Cond.code yX3_syndromeOf cX3_syndromeOf 4 (some .int), Cond.fieldLink RX3 21 "CosetGauges$Sums" "rowCount" "I", Cond.fieldLink RX3 9 "CosetGauges$Sums" "rows" "[I", Cond.methodLink RX3 79 yJ6_bitCount_0f7a4, Cond.static yJ6_bitCount_0f7a4, Cond.initialized RJ6, Cond.code yJ6_bitCount_0f7a4 cJ6_bitCount_0f7a4 1 (some .int), Cond.constant RJ6 265 (1431655765), Cond.constant RJ6 266 (858993459), Cond.constant RJ6 267 (252645135), Cond.methodLink RX3 72 yX3_leaderOf, Cond.instanceMethod yX3_leaderOf, Cond.selects RX3 yX3_leaderOf yX3_leaderOf, Cond.code yX3_leaderOf cX3_leaderOf 2 (some .int), Cond.fieldLink RX3 15 "CosetGauges$Sums" "leaderBySyndrome" "[I"]
def wsX3_verdictOf_r2 : List Cond := [Cond.methodLink RX3 68 yX3_isSyndrome, Cond.instanceMethod yX3_isSyndrome, Cond.selects RX3 yX3_isSyndrome yX3_isSyndrome, Cond.code yX3_isSyndrome cX3_isSyndrome 2 (some .boolean), Cond.methodLink RX3 90 yX3_syndromes, Cond.instanceMethod yX3_syndromes, Cond.selects RX3 yX3_syndromes yX3_syndromes, Cond.code yX3_syndromes cX3_syndromes 1 (some .int)]
def wsX3_verdictOf : List Cond := .code yX3_verdictOf cX3_verdictOf 5 (some .int) :: ((wsX3_verdictOf_r1 ++ wsX3_verdictOf_r2) ++ wsX30)
def wsX3_isEnough : List Cond := .code yX3_isEnough cX3_isEnough 4 (some .boolean) :: ([.methodLink RX3 62 yX3_words, .instanceMethod yX3_words, .selects RX3 yX3_words yX3_words, .initialized RX3, .code yX3_words cX3_words 1 (some .int), .fieldLink RX3 25 "CosetGauges$Sums" "length" "I", .methodLink RX3 65 yX3_syndromeOf, .instanceMethod yX3_syndromeOf, .selects RX3 yX3_syndromeOf yX3_syndromeOf, .code yX3_syndromeOf cX3_syndromeOf 4 (some .int), .fieldLink RX3 21 "CosetGauges$Sums" "rowCount" "I", .fieldLink RX3 9 "CosetGauges$Sums" "rows" "[I", .methodLink RX3 79 yJ6_bitCount_0f7a4, .static yJ6_bitCount_0f7a4, .initialized RJ6, .code yJ6_bitCount_0f7a4 cJ6_bitCount_0f7a4 1 (some .int), .constant RJ6 265 (1431655765), .constant RJ6 266 (858993459), .constant RJ6 267 (252645135)] ++ wsX30)
def wsX3_firstOfShared_r1 : List Cond := [Cond.methodLink RX3 105 yX3_isEnough, Cond.instanceMethod yX3_isEnough, Cond.selects RX3 yX3_isEnough yX3_isEnough, Cond.initialized RX3, Cond.code yX3_isEnough cX3_isEnough 4 (some .boolean), Cond.methodLink RX3 62 yX3_words, Cond.instanceMethod yX3_words, Cond.selects RX3 yX3_words yX3_words, Cond.code yX3_words cX3_words 1 (some .int), Cond.fieldLink RX3 25 "CosetGauges$Sums" "length" "I", Cond.methodLink RX3 65 yX3_syndromeOf, Cond.instanceMethod yX3_syndromeOf, Cond.selects RX3 yX3_syndromeOf yX3_syndromeOf, Cond.code yX3_syndromeOf cX3_syndromeOf 4 (some .int), Cond.fieldLink RX3 21 "CosetGauges$Sums" "rowCount" "I", Cond.fieldLink RX3 9 "CosetGauges$Sums" "rows" "[I", Cond.methodLink RX3 79 yJ6_bitCount_0f7a4, Cond.static yJ6_bitCount_0f7a4, Cond.initialized RJ6, Cond.code yJ6_bitCount_0f7a4 cJ6_bitCount_0f7a4 1 (some .int), Cond.constant RJ6 265 (1431655765), Cond.constant RJ6 266 (858993459), Cond.constant RJ6 267 (252645135), Cond.methodLink RX3 102 yX3_flipsOf]
def wsX3_firstOfShared_r2 : List Cond := [Cond.instanceMethod yX3_flipsOf, Cond.selects RX3 yX3_flipsOf yX3_flipsOf, Cond.code yX3_flipsOf cX3_flipsOf 3 (some .int), Cond.methodLink RX3 72 yX3_leaderOf, Cond.instanceMethod yX3_leaderOf, Cond.selects RX3 yX3_leaderOf yX3_leaderOf, Cond.code yX3_leaderOf cX3_leaderOf 2 (some .int), Cond.fieldLink RX3 15 "CosetGauges$Sums" "leaderBySyndrome" "[I", Cond.methodLink RX3 68 yX3_isSyndrome, Cond.instanceMethod yX3_isSyndrome, Cond.selects RX3 yX3_isSyndrome yX3_isSyndrome, Cond.code yX3_isSyndrome cX3_isSyndrome 2 (some .boolean), Cond.methodLink RX3 90 yX3_syndromes, Cond.instanceMethod yX3_syndromes, Cond.selects RX3 yX3_syndromes yX3_syndromes, Cond.code yX3_syndromes cX3_syndromes 1 (some .int)]
def wsX3_firstOfShared : List Cond := .code yX3_firstOfShared cX3_firstOfShared 10 (some .int) :: ((wsX3_firstOfShared_r1 ++ wsX3_firstOfShared_r2) ++ wsX30)
def wsX4_init : List Cond := .code yX4_init cX4_init 1 none :: ([.methodLink RX4 3 objectInit, .instanceMethod objectInit, .code objectInit ⟨#[0xb1]⟩ 1 none, .arrayClass .int, .fieldLink RX4 9 "CosetGauges$Tally" "sentByVerdict" "[I", .fieldLink RX4 15 "CosetGauges$Tally" "bitsSent" "I", .fieldLink RX4 19 "CosetGauges$Tally" "bitsSentByBothPlainly" "I", .fieldLink RX4 22 "CosetGauges$Tally" "timesSumsRead" "I"] ++ wsX40)
def wsX4_sumsRead : List Cond := .code yX4_sumsRead cX4_sumsRead 1 none :: ([.fieldLink RX4 22 "CosetGauges$Tally" "timesSumsRead" "I"] ++ wsX40)
def wsX4_sentPlain : List Cond := .code yX4_sentPlain cX4_sentPlain 4 none :: ([.fieldLink RX4 9 "CosetGauges$Tally" "sentByVerdict" "[I", .fieldLink RX4 15 "CosetGauges$Tally" "bitsSent" "I", .fieldLink RX4 19 "CosetGauges$Tally" "bitsSentByBothPlainly" "I"] ++ wsX40)
def wsX4_sentWith : List Cond := .code yX4_sentWith cX4_sentWith 2 (some .int) :: ([.fieldLink RX4 9 "CosetGauges$Tally" "sentByVerdict" "[I"] ++ wsX40)
def wsX4_bitsSent : List Cond := .code yX4_bitsSent cX4_bitsSent 1 (some .int) :: ([.fieldLink RX4 15 "CosetGauges$Tally" "bitsSent" "I"] ++ wsX40)
def wsX4_bitsSentByBothPlainly : List Cond := .code yX4_bitsSentByBothPlainly cX4_bitsSentByBothPlainly 1 (some .int) :: ([.fieldLink RX4 19 "CosetGauges$Tally" "bitsSentByBothPlainly" "I"] ++ wsX40)
def wsX4_timesSumsRead : List Cond := .code yX4_timesSumsRead cX4_timesSumsRead 1 (some .int) :: ([.fieldLink RX4 22 "CosetGauges$Tally" "timesSumsRead" "I"] ++ wsX40)
def wsX5_init_r1 : List Cond := [Cond.methodLink RX5 1 objectInit, Cond.instanceMethod objectInit, Cond.code objectInit ⟨#[0xb1]⟩ 1 none, Cond.classLink RX5 7 RX1, Cond.instantiable RX1 2, Cond.initialized RX1, Cond.fieldLink RX5 10 "CosetGauges" "page" "LCosetGauges$Page;", Cond.classLink RX5 16 RX2, Cond.instantiable RX2 4, Cond.initialized RX2, Cond.fieldLink RX5 19 "CosetGauges" "reader" "LCosetGauges$Reader;", Cond.classLink RX5 23 RX3, Cond.instantiable RX3 9, Cond.initialized RX3, Cond.fieldLink RX5 26 "CosetGauges" "current" "LCosetGauges$Sums;", Cond.classLink RX5 30 RX4, Cond.instantiable RX4 4, Cond.initialized RX4, Cond.fieldLink RX5 33 "CosetGauges" "tally" "LCosetGauges$Tally;", Cond.classLink RX5 37 RX0, Cond.instantiable RX0 1, Cond.initialized RX0, Cond.fieldLink RX5 40 "CosetGauges" "draws" "LCosetGauges$Draws;", Cond.methodLink RX5 9 yX1_init]
def wsX5_init_r2 : List Cond := [Cond.instanceMethod yX1_init, Cond.code yX1_init cX1_init 1 none, Cond.methodLink RX1 3 objectInit, Cond.arrayClass .int, Cond.fieldLink RX1 9 "CosetGauges$Page" "letters" "[I", Cond.fieldLink RX1 15 "CosetGauges$Page" "size" "I", Cond.methodLink RX5 18 yX2_init, Cond.instanceMethod yX2_init, Cond.code yX2_init cX2_init 1 none, Cond.methodLink RX2 3 objectInit, Cond.fieldLink RX2 9 "CosetGauges$Reader" "rows" "[I", Cond.fieldLink RX2 15 "CosetGauges$Reader" "row" "I", Cond.fieldLink RX2 19 "CosetGauges$Reader" "signs" "I", Cond.fieldLink RX2 22 "CosetGauges$Reader" "length" "I", Cond.methodLink RX5 25 yX3_init, Cond.instanceMethod yX3_init, Cond.code yX3_init cX3_init 1 none, Cond.methodLink RX3 3 objectInit, Cond.fieldLink RX3 9 "CosetGauges$Sums" "rows" "[I", Cond.fieldLink RX3 15 "CosetGauges$Sums" "leaderBySyndrome" "[I", Cond.fieldLink RX3 18 "CosetGauges$Sums" "leadersByWeight" "[I", Cond.fieldLink RX3 21 "CosetGauges$Sums" "rowCount" "I", Cond.fieldLink RX3 25 "CosetGauges$Sums" "length" "I", Cond.fieldLink RX3 28 "CosetGauges$Sums" "rank" "I"]
def wsX5_init_r3 : List Cond := [Cond.fieldLink RX3 31 "CosetGauges$Sums" "distance" "I", Cond.fieldLink RX3 34 "CosetGauges$Sums" "sure" "I", Cond.fieldLink RX3 37 "CosetGauges$Sums" "radius" "I", Cond.methodLink RX5 32 yX4_init, Cond.instanceMethod yX4_init, Cond.code yX4_init cX4_init 1 none, Cond.methodLink RX4 3 objectInit, Cond.fieldLink RX4 9 "CosetGauges$Tally" "sentByVerdict" "[I", Cond.fieldLink RX4 15 "CosetGauges$Tally" "bitsSent" "I", Cond.fieldLink RX4 19 "CosetGauges$Tally" "bitsSentByBothPlainly" "I", Cond.fieldLink RX4 22 "CosetGauges$Tally" "timesSumsRead" "I", Cond.methodLink RX5 39 yX0_init, Cond.instanceMethod yX0_init, Cond.code yX0_init cX0_init 1 none, Cond.methodLink RX0 1 objectInit, Cond.fieldLink RX0 7 "CosetGauges$Draws" "seed" "I"]
def wsX5_init : List Cond := .code yX5_init cX5_init 1 none :: ((wsX5_init_r1 ++ (wsX5_init_r2 ++ wsX5_init_r3)) ++ wsX10 ++ wsX50 ++ wsX20 ++ wsX30 ++ wsX40 ++ wsX00)
def wsX5_letter : List Cond := .code yX5_letter cX5_letter 2 (some .int) :: ([.fieldLink RX5 10 "CosetGauges" "page" "LCosetGauges$Page;", .methodLink RX5 44 yX1_append, .instanceMethod yX1_append, .selects RX1 yX1_append yX1_append, .initialized RX1, .code yX1_append cX1_append 2 (some .boolean), .fieldLink RX1 15 "CosetGauges$Page" "size" "I", .fieldLink RX1 9 "CosetGauges$Page" "letters" "[I", .methodLink RX5 48 yX1_size, .instanceMethod yX1_size, .selects RX1 yX1_size yX1_size, .code yX1_size cX1_size 1 (some .int)] ++ wsX50 ++ wsX10)
def wsX5_blank : List Cond := .code yX5_blank cX5_blank 2 (some .int) :: ([.fieldLink RX5 10 "CosetGauges" "page" "LCosetGauges$Page;", .methodLink RX5 48 yX1_size, .instanceMethod yX1_size, .selects RX1 yX1_size yX1_size, .initialized RX1, .code yX1_size cX1_size 1 (some .int), .fieldLink RX1 15 "CosetGauges$Page" "size" "I", .methodLink RX5 52 yX1_clear, .instanceMethod yX1_clear, .selects RX1 yX1_clear yX1_clear, .code yX1_clear cX1_clear 1 none] ++ wsX50 ++ wsX10)
def wsX5_fault_r1 : List Cond := [Cond.fieldLink RX5 19 "CosetGauges" "reader" "LCosetGauges$Reader;", Cond.fieldLink RX5 10 "CosetGauges" "page" "LCosetGauges$Page;", Cond.methodLink RX5 55 yX2_readAsFarAsItGoes, Cond.instanceMethod yX2_readAsFarAsItGoes, Cond.selects RX2 yX2_readAsFarAsItGoes yX2_readAsFarAsItGoes, Cond.initialized RX2, Cond.code yX2_readAsFarAsItGoes cX2_readAsFarAsItGoes 3 (some .int), Cond.methodLink RX2 25 yX2_start, Cond.instanceMethod yX2_start, Cond.selects RX2 yX2_start yX2_start, Cond.code yX2_start cX2_start 2 none, Cond.fieldLink RX2 9 "CosetGauges$Reader" "rows" "[I", Cond.fieldLink RX2 15 "CosetGauges$Reader" "row" "I", Cond.fieldLink RX2 19 "CosetGauges$Reader" "signs" "I", Cond.fieldLink RX2 22 "CosetGauges$Reader" "length" "I", Cond.methodLink RX2 28 yX1_size, Cond.instanceMethod yX1_size, Cond.selects RX1 yX1_size yX1_size, Cond.initialized RX1, Cond.code yX1_size cX1_size 1 (some .int), Cond.fieldLink RX1 15 "CosetGauges$Page" "size" "I", Cond.methodLink RX2 34 yX1_letterAt, Cond.instanceMethod yX1_letterAt, Cond.selects RX1 yX1_letterAt yX1_letterAt]
def wsX5_fault_r2 : List Cond := [Cond.code yX1_letterAt cX1_letterAt 2 (some .int), Cond.fieldLink RX1 9 "CosetGauges$Page" "letters" "[I", Cond.methodLink RX2 38 yX2_takes, Cond.instanceMethod yX2_takes, Cond.selects RX2 yX2_takes yX2_takes, Cond.code yX2_takes cX2_takes 2 (some .boolean), Cond.methodLink RX2 42 yX2_takesEndOfRow, Cond.instanceMethod yX2_takesEndOfRow, Cond.selects RX2 yX2_takesEndOfRow yX2_takesEndOfRow, Cond.code yX2_takesEndOfRow cX2_takesEndOfRow 1 (some .boolean), Cond.methodLink RX2 49 yX2_rowIsWhole, Cond.instanceMethod yX2_rowIsWhole, Cond.selects RX2 yX2_rowIsWhole yX2_rowIsWhole, Cond.code yX2_rowIsWhole cX2_rowIsWhole 1 (some .boolean), Cond.methodLink RX2 46 yX2_takesSign, Cond.instanceMethod yX2_takesSign, Cond.selects RX2 yX2_takesSign yX2_takesSign, Cond.code yX2_takesSign cX2_takesSign 3 (some .boolean)]
def wsX5_fault : List Cond := .code yX5_fault cX5_fault 1 (some .int) :: ((wsX5_fault_r1 ++ wsX5_fault_r2) ++ wsX50 ++ wsX20 ++ wsX10)
def wsX5_sums_r1 : List Cond := [Cond.fieldLink RX5 19 "CosetGauges" "reader" "LCosetGauges$Reader;", Cond.fieldLink RX5 10 "CosetGauges" "page" "LCosetGauges$Page;", Cond.fieldLink RX5 26 "CosetGauges" "current" "LCosetGauges$Sums;", Cond.fieldLink RX5 33 "CosetGauges" "tally" "LCosetGauges$Tally;", Cond.methodLink RX5 55 yX2_readAsFarAsItGoes, Cond.instanceMethod yX2_readAsFarAsItGoes, Cond.selects RX2 yX2_readAsFarAsItGoes yX2_readAsFarAsItGoes, Cond.initialized RX2, Cond.code yX2_readAsFarAsItGoes cX2_readAsFarAsItGoes 3 (some .int), Cond.methodLink RX2 25 yX2_start, Cond.instanceMethod yX2_start, Cond.selects RX2 yX2_start yX2_start, Cond.code yX2_start cX2_start 2 none, Cond.fieldLink RX2 9 "CosetGauges$Reader" "rows" "[I", Cond.fieldLink RX2 15 "CosetGauges$Reader" "row" "I", Cond.fieldLink RX2 19 "CosetGauges$Reader" "signs" "I", Cond.fieldLink RX2 22 "CosetGauges$Reader" "length" "I", Cond.methodLink RX2 28 yX1_size, Cond.instanceMethod yX1_size, Cond.selects RX1 yX1_size yX1_size, Cond.initialized RX1, Cond.code yX1_size cX1_size 1 (some .int), Cond.fieldLink RX1 15 "CosetGauges$Page" "size" "I", Cond.methodLink RX2 34 yX1_letterAt]
def wsX5_sums_r2 : List Cond := [Cond.instanceMethod yX1_letterAt, Cond.selects RX1 yX1_letterAt yX1_letterAt, Cond.code yX1_letterAt cX1_letterAt 2 (some .int), Cond.fieldLink RX1 9 "CosetGauges$Page" "letters" "[I", Cond.methodLink RX2 38 yX2_takes, Cond.instanceMethod yX2_takes, Cond.selects RX2 yX2_takes yX2_takes, Cond.code yX2_takes cX2_takes 2 (some .boolean), Cond.methodLink RX2 42 yX2_takesEndOfRow, Cond.instanceMethod yX2_takesEndOfRow, Cond.selects RX2 yX2_takesEndOfRow yX2_takesEndOfRow, Cond.code yX2_takesEndOfRow cX2_takesEndOfRow 1 (some .boolean), Cond.methodLink RX2 49 yX2_rowIsWhole, Cond.instanceMethod yX2_rowIsWhole, Cond.selects RX2 yX2_rowIsWhole yX2_rowIsWhole, Cond.code yX2_rowIsWhole cX2_rowIsWhole 1 (some .boolean), Cond.methodLink RX2 46 yX2_takesSign, Cond.instanceMethod yX2_takesSign, Cond.selects RX2 yX2_takesSign yX2_takesSign, Cond.code yX2_takesSign cX2_takesSign 3 (some .boolean), Cond.methodLink RX5 48 yX1_size, Cond.methodLink RX5 59 yX2_rowIsWhole, Cond.methodLink RX5 63 yX3_become, Cond.instanceMethod yX3_become]
def wsX5_sums_r3 : List Cond := [Cond.selects RX3 yX3_become yX3_become, Cond.initialized RX3, Cond.code yX3_become cX3_become 3 none, Cond.fieldLink RX3 21 "CosetGauges$Sums" "rowCount" "I", Cond.fieldLink RX3 25 "CosetGauges$Sums" "length" "I", Cond.fieldLink RX3 9 "CosetGauges$Sums" "rows" "[I", Cond.fieldLink RX3 31 "CosetGauges$Sums" "distance" "I", Cond.fieldLink RX3 34 "CosetGauges$Sums" "sure" "I", Cond.methodLink RX3 40 yX2_rowsRead, Cond.instanceMethod yX2_rowsRead, Cond.selects RX2 yX2_rowsRead yX2_rowsRead, Cond.code yX2_rowsRead cX2_rowsRead 1 (some .int), Cond.methodLink RX3 46 yX2_signsOfRow, Cond.instanceMethod yX2_signsOfRow, Cond.selects RX2 yX2_signsOfRow yX2_signsOfRow, Cond.code yX2_signsOfRow cX2_signsOfRow 1 (some .int), Cond.methodLink RX3 49 yX2_rowAt, Cond.instanceMethod yX2_rowAt, Cond.selects RX2 yX2_rowAt yX2_rowAt, Cond.code yX2_rowAt cX2_rowAt 2 (some .int), Cond.methodLink RX3 53 yX3_findLeaders, Cond.instanceMethod yX3_findLeaders, Cond.selects RX3 yX3_findLeaders yX3_findLeaders, Cond.code yX3_findLeaders cX3_findLeaders 4 none]
def wsX5_sums_r4 : List Cond := [Cond.fieldLink RX3 15 "CosetGauges$Sums" "leaderBySyndrome" "[I", Cond.methodLink RX3 62 yX3_words, Cond.instanceMethod yX3_words, Cond.selects RX3 yX3_words yX3_words, Cond.code yX3_words cX3_words 1 (some .int), Cond.methodLink RX3 65 yX3_syndromeOf, Cond.instanceMethod yX3_syndromeOf, Cond.selects RX3 yX3_syndromeOf yX3_syndromeOf, Cond.code yX3_syndromeOf cX3_syndromeOf 4 (some .int), Cond.methodLink RX3 79 yJ6_bitCount_0f7a4, Cond.static yJ6_bitCount_0f7a4, Cond.initialized RJ6, Cond.code yJ6_bitCount_0f7a4 cJ6_bitCount_0f7a4 1 (some .int), Cond.constant RJ6 265 (1431655765), Cond.constant RJ6 266 (858993459), Cond.constant RJ6 267 (252645135), Cond.methodLink RX3 68 yX3_isSyndrome, Cond.instanceMethod yX3_isSyndrome, Cond.selects RX3 yX3_isSyndrome yX3_isSyndrome, Cond.code yX3_isSyndrome cX3_isSyndrome 2 (some .boolean), Cond.methodLink RX3 90 yX3_syndromes, Cond.instanceMethod yX3_syndromes, Cond.selects RX3 yX3_syndromes yX3_syndromes, Cond.code yX3_syndromes cX3_syndromes 1 (some .int)]
def wsX5_sums_r5 : List Cond := [Cond.methodLink RX3 72 yX3_leaderOf, Cond.instanceMethod yX3_leaderOf, Cond.selects RX3 yX3_leaderOf yX3_leaderOf, Cond.code yX3_leaderOf cX3_leaderOf 2 (some .int), Cond.methodLink RX3 75 yX3_isNearer, Cond.static yX3_isNearer, Cond.code yX3_isNearer cX3_isNearer 2 (some .boolean), Cond.methodLink RX3 56 yX3_countLeaders, Cond.instanceMethod yX3_countLeaders, Cond.selects RX3 yX3_countLeaders yX3_countLeaders, Cond.code yX3_countLeaders cX3_countLeaders 4 none, Cond.fieldLink RX3 18 "CosetGauges$Sums" "leadersByWeight" "[I", Cond.fieldLink RX3 37 "CosetGauges$Sums" "radius" "I", Cond.methodLink RX3 84 Lib.Math.max.name, Cond.static Lib.Math.max.name, Cond.initialized "java/lang/Math", Cond.code Lib.Math.max.name Lib.Math.max.code 2 (some .int), Cond.fieldLink RX3 28 "CosetGauges$Sums" "rank" "I", Cond.methodLink RX3 59 yX3_leastWeightWithoutSyndrome, Cond.instanceMethod yX3_leastWeightWithoutSyndrome, Cond.selects RX3 yX3_leastWeightWithoutSyndrome yX3_leastWeightWithoutSyndrome, Cond.code yX3_leastWeightWithoutSyndrome cX3_leastWeightWithoutSyndrome 5 (some .int), Cond.methodLink RX5 67 yX4_sumsRead, Cond.instanceMethod yX4_sumsRead]
def wsX5_sums_r6 : List Cond := [Cond.selects RX4 yX4_sumsRead yX4_sumsRead, Cond.initialized RX4, Cond.code yX4_sumsRead cX4_sumsRead 1 none, Cond.fieldLink RX4 22 "CosetGauges$Tally" "timesSumsRead" "I", Cond.methodLink RX5 52 yX1_clear, Cond.instanceMethod yX1_clear, Cond.selects RX1 yX1_clear yX1_clear, Cond.code yX1_clear cX1_clear 1 none, Cond.methodLink RX5 70 yX3_length, Cond.instanceMethod yX3_length, Cond.selects RX3 yX3_length yX3_length, Cond.code yX3_length cX3_length 1 (some .int)]
def wsX5_sums : List Cond := .code yX5_sums cX5_sums 1 (some .int) :: ((wsX5_sums_r1 ++ (wsX5_sums_r2 ++ (wsX5_sums_r3 ++ (wsX5_sums_r4 ++ (wsX5_sums_r5 ++ wsX5_sums_r6))))) ++ wsX50 ++ wsX20 ++ wsX10 ++ wsX30 ++ wsX40)
def wsX5_code_r1 : List Cond := [Cond.fieldLink RX5 26 "CosetGauges" "current" "LCosetGauges$Sums;", Cond.methodLink RX5 73 yX3_areThere, Cond.instanceMethod yX3_areThere, Cond.selects RX3 yX3_areThere yX3_areThere, Cond.initialized RX3, Cond.code yX3_areThere cX3_areThere 1 (some .boolean), Cond.fieldLink RX3 25 "CosetGauges$Sums" "length" "I", Cond.methodLink RX5 70 yX3_length, Cond.instanceMethod yX3_length, Cond.selects RX3 yX3_length yX3_length, Cond.code yX3_length cX3_length 1 (some .int), Cond.methodLink RX5 76 yX3_rowCount, Cond.instanceMethod yX3_rowCount, Cond.selects RX3 yX3_rowCount yX3_rowCount, Cond.code yX3_rowCount cX3_rowCount 1 (some .int), Cond.fieldLink RX3 21 "CosetGauges$Sums" "rowCount" "I", Cond.methodLink RX5 79 yX3_rank, Cond.instanceMethod yX3_rank, Cond.selects RX3 yX3_rank yX3_rank, Cond.code yX3_rank cX3_rank 1 (some .int), Cond.fieldLink RX3 28 "CosetGauges$Sums" "rank" "I", Cond.methodLink RX5 82 yX3_distanceOrNone, Cond.instanceMethod yX3_distanceOrNone, Cond.selects RX3 yX3_distanceOrNone yX3_distanceOrNone]
def wsX5_code_r2 : List Cond := [Cond.code yX3_distanceOrNone cX3_distanceOrNone 1 (some .int), Cond.fieldLink RX3 31 "CosetGauges$Sums" "distance" "I", Cond.methodLink RX5 85 yX3_sure, Cond.instanceMethod yX3_sure, Cond.selects RX3 yX3_sure yX3_sure, Cond.code yX3_sure cX3_sure 1 (some .int), Cond.fieldLink RX3 34 "CosetGauges$Sums" "sure" "I", Cond.methodLink RX5 88 yX3_radius, Cond.instanceMethod yX3_radius, Cond.selects RX3 yX3_radius yX3_radius, Cond.code yX3_radius cX3_radius 1 (some .int), Cond.fieldLink RX3 37 "CosetGauges$Sums" "radius" "I"]
def wsX5_code : List Cond := .code yX5_code cX5_code 2 (some .int) :: ((wsX5_code_r1 ++ wsX5_code_r2) ++ wsX50 ++ wsX30)
def wsX5_row : List Cond := .code yX5_row cX5_row 2 (some .int) :: ([.fieldLink RX5 26 "CosetGauges" "current" "LCosetGauges$Sums;", .methodLink RX5 73 yX3_areThere, .instanceMethod yX3_areThere, .selects RX3 yX3_areThere yX3_areThere, .initialized RX3, .code yX3_areThere cX3_areThere 1 (some .boolean), .fieldLink RX3 25 "CosetGauges$Sums" "length" "I", .methodLink RX5 91 yX3_isRow, .instanceMethod yX3_isRow, .selects RX3 yX3_isRow yX3_isRow, .code yX3_isRow cX3_isRow 2 (some .boolean), .fieldLink RX3 21 "CosetGauges$Sums" "rowCount" "I", .fieldLink RX3 9 "CosetGauges$Sums" "rows" "[I", .methodLink RX5 94 yX3_rowAt, .instanceMethod yX3_rowAt, .selects RX3 yX3_rowAt yX3_rowAt, .code yX3_rowAt cX3_rowAt 2 (some .int), .methodLink RX3 96 yX3_isRow] ++ wsX50 ++ wsX30)
def wsX5_syndrome_r1 : List Cond := [Cond.fieldLink RX5 26 "CosetGauges" "current" "LCosetGauges$Sums;", Cond.methodLink RX5 73 yX3_areThere, Cond.instanceMethod yX3_areThere, Cond.selects RX3 yX3_areThere yX3_areThere, Cond.initialized RX3, Cond.code yX3_areThere cX3_areThere 1 (some .boolean), Cond.fieldLink RX3 25 "CosetGauges$Sums" "length" "I", Cond.methodLink RX5 98 yX3_isWord, Cond.instanceMethod yX3_isWord, Cond.selects RX3 yX3_isWord yX3_isWord, Cond.code yX3_isWord cX3_isWord 2 (some .boolean), Cond.methodLink RX3 62 yX3_words, Cond.instanceMethod yX3_words, Cond.selects RX3 yX3_words yX3_words, Cond.code yX3_words cX3_words 1 (some .int), Cond.methodLink RX5 101 yX3_syndromeOf, Cond.instanceMethod yX3_syndromeOf, Cond.selects RX3 yX3_syndromeOf yX3_syndromeOf, Cond.code yX3_syndromeOf cX3_syndromeOf 4 (some .int), Cond.fieldLink RX3 21 "CosetGauges$Sums" "rowCount" "I", Cond.fieldLink RX3 9 "CosetGauges$Sums" "rows" "[I", Cond.methodLink RX3 79 yJ6_bitCount_0f7a4, Cond.static yJ6_bitCount_0f7a4, Cond.initialized RJ6]
def wsX5_syndrome_r2 : List Cond := [Cond.code yJ6_bitCount_0f7a4 cJ6_bitCount_0f7a4 1 (some .int), Cond.constant RJ6 265 (1431655765), Cond.constant RJ6 266 (858993459), Cond.constant RJ6 267 (252645135)]
def wsX5_syndrome : List Cond := .code yX5_syndrome cX5_syndrome 2 (some .int) :: ((wsX5_syndrome_r1 ++ wsX5_syndrome_r2) ++ wsX50 ++ wsX30)
def wsX5_leader : List Cond := .code yX5_leader cX5_leader 2 (some .int) :: ([.fieldLink RX5 26 "CosetGauges" "current" "LCosetGauges$Sums;", .methodLink RX5 73 yX3_areThere, .instanceMethod yX3_areThere, .selects RX3 yX3_areThere yX3_areThere, .initialized RX3, .code yX3_areThere cX3_areThere 1 (some .boolean), .fieldLink RX3 25 "CosetGauges$Sums" "length" "I", .methodLink RX5 104 yX3_isSyndrome, .instanceMethod yX3_isSyndrome, .selects RX3 yX3_isSyndrome yX3_isSyndrome, .code yX3_isSyndrome cX3_isSyndrome 2 (some .boolean), .fieldLink RX3 15 "CosetGauges$Sums" "leaderBySyndrome" "[I", .methodLink RX3 90 yX3_syndromes, .instanceMethod yX3_syndromes, .selects RX3 yX3_syndromes yX3_syndromes, .code yX3_syndromes cX3_syndromes 1 (some .int), .fieldLink RX3 21 "CosetGauges$Sums" "rowCount" "I", .methodLink RX5 107 yX3_leaderOf, .instanceMethod yX3_leaderOf, .selects RX3 yX3_leaderOf yX3_leaderOf, .code yX3_leaderOf cX3_leaderOf 2 (some .int), .methodLink RX3 68 yX3_isSyndrome] ++ wsX50 ++ wsX30)
def wsX5_coset_r1 : List Cond := [Cond.fieldLink RX5 26 "CosetGauges" "current" "LCosetGauges$Sums;", Cond.methodLink RX5 73 yX3_areThere, Cond.instanceMethod yX3_areThere, Cond.selects RX3 yX3_areThere yX3_areThere, Cond.initialized RX3, Cond.code yX3_areThere cX3_areThere 1 (some .boolean), Cond.fieldLink RX3 25 "CosetGauges$Sums" "length" "I", Cond.methodLink RX5 104 yX3_isSyndrome, Cond.instanceMethod yX3_isSyndrome, Cond.selects RX3 yX3_isSyndrome yX3_isSyndrome, Cond.code yX3_isSyndrome cX3_isSyndrome 2 (some .boolean), Cond.fieldLink RX3 15 "CosetGauges$Sums" "leaderBySyndrome" "[I", Cond.methodLink RX3 90 yX3_syndromes, Cond.instanceMethod yX3_syndromes, Cond.selects RX3 yX3_syndromes yX3_syndromes, Cond.code yX3_syndromes cX3_syndromes 1 (some .int), Cond.fieldLink RX3 21 "CosetGauges$Sums" "rowCount" "I", Cond.methodLink RX5 110 yX3_wordOfCoset, Cond.instanceMethod yX3_wordOfCoset, Cond.selects RX3 yX3_wordOfCoset yX3_wordOfCoset, Cond.code yX3_wordOfCoset cX3_wordOfCoset 6 (some .int), Cond.methodLink RX3 62 yX3_words, Cond.instanceMethod yX3_words, Cond.selects RX3 yX3_words yX3_words]
def wsX5_coset_r2 : List Cond := [Cond.code yX3_words cX3_words 1 (some .int), Cond.methodLink RX3 65 yX3_syndromeOf, Cond.instanceMethod yX3_syndromeOf, Cond.selects RX3 yX3_syndromeOf yX3_syndromeOf, Cond.code yX3_syndromeOf cX3_syndromeOf 4 (some .int), Cond.fieldLink RX3 9 "CosetGauges$Sums" "rows" "[I", Cond.methodLink RX3 79 yJ6_bitCount_0f7a4, Cond.static yJ6_bitCount_0f7a4, Cond.initialized RJ6, Cond.code yJ6_bitCount_0f7a4 cJ6_bitCount_0f7a4 1 (some .int), Cond.constant RJ6 265 (1431655765), Cond.constant RJ6 266 (858993459), Cond.constant RJ6 267 (252645135)]
def wsX5_coset : List Cond := .code yX5_coset cX5_coset 3 (some .int) :: ((wsX5_coset_r1 ++ wsX5_coset_r2) ++ wsX50 ++ wsX30)
def wsX5_leaders : List Cond := .code yX5_leaders cX5_leaders 2 (some .int) :: ([.fieldLink RX5 26 "CosetGauges" "current" "LCosetGauges$Sums;", .methodLink RX5 73 yX3_areThere, .instanceMethod yX3_areThere, .selects RX3 yX3_areThere yX3_areThere, .initialized RX3, .code yX3_areThere cX3_areThere 1 (some .boolean), .fieldLink RX3 25 "CosetGauges$Sums" "length" "I", .methodLink RX5 114 yX3_isWeight, .instanceMethod yX3_isWeight, .selects RX3 yX3_isWeight yX3_isWeight, .code yX3_isWeight cX3_isWeight 2 (some .boolean), .fieldLink RX3 18 "CosetGauges$Sums" "leadersByWeight" "[I", .methodLink RX5 117 yX3_leadersOfWeight, .instanceMethod yX3_leadersOfWeight, .selects RX3 yX3_leadersOfWeight yX3_leadersOfWeight, .code yX3_leadersOfWeight cX3_leadersOfWeight 2 (some .int), .methodLink RX3 99 yX3_isWeight] ++ wsX50 ++ wsX30)
def wsX5_better_r1 : List Cond := [Cond.fieldLink RX5 26 "CosetGauges" "current" "LCosetGauges$Sums;", Cond.methodLink RX5 73 yX3_areThere, Cond.instanceMethod yX3_areThere, Cond.selects RX3 yX3_areThere yX3_areThere, Cond.initialized RX3, Cond.code yX3_areThere cX3_areThere 1 (some .boolean), Cond.fieldLink RX3 25 "CosetGauges$Sums" "length" "I", Cond.methodLink RX5 91 yX3_isRow, Cond.instanceMethod yX3_isRow, Cond.selects RX3 yX3_isRow yX3_isRow, Cond.code yX3_isRow cX3_isRow 2 (some .boolean), Cond.fieldLink RX3 21 "CosetGauges$Sums" "rowCount" "I", Cond.fieldLink RX3 9 "CosetGauges$Sums" "rows" "[I", Cond.methodLink RX5 98 yX3_isWord, Cond.instanceMethod yX3_isWord, Cond.selects RX3 yX3_isWord yX3_isWord, Cond.code yX3_isWord cX3_isWord 2 (some .boolean), Cond.methodLink RX3 62 yX3_words, Cond.instanceMethod yX3_words, Cond.selects RX3 yX3_words yX3_words, Cond.code yX3_words cX3_words 1 (some .int), Cond.methodLink RX5 120 yX3_gainBy, Cond.instanceMethod yX3_gainBy, Cond.selects RX3 yX3_gainBy yX3_gainBy]
def wsX5_better_r2 : List Cond := [Cond.code yX3_gainBy cX3_gainBy 5 (some .int), Cond.fieldLink RX3 31 "CosetGauges$Sums" "distance" "I", Cond.methodLink RX3 96 yX3_isRow, Cond.methodLink RX3 59 yX3_leastWeightWithoutSyndrome, Cond.instanceMethod yX3_leastWeightWithoutSyndrome, Cond.selects RX3 yX3_leastWeightWithoutSyndrome yX3_leastWeightWithoutSyndrome, Cond.code yX3_leastWeightWithoutSyndrome cX3_leastWeightWithoutSyndrome 5 (some .int), Cond.methodLink RX3 79 yJ6_bitCount_0f7a4, Cond.static yJ6_bitCount_0f7a4, Cond.initialized RJ6, Cond.code yJ6_bitCount_0f7a4 cJ6_bitCount_0f7a4 1 (some .int), Cond.constant RJ6 265 (1431655765), Cond.constant RJ6 266 (858993459), Cond.constant RJ6 267 (252645135), Cond.methodLink RX3 65 yX3_syndromeOf, Cond.instanceMethod yX3_syndromeOf, Cond.selects RX3 yX3_syndromeOf yX3_syndromeOf, Cond.code yX3_syndromeOf cX3_syndromeOf 4 (some .int)]
def wsX5_better : List Cond := .code yX5_better cX5_better 3 (some .int) :: ((wsX5_better_r1 ++ wsX5_better_r2) ++ wsX50 ++ wsX30)
def wsX5_sendAndCount_r1 : List Cond := [Cond.fieldLink RX5 26 "CosetGauges" "current" "LCosetGauges$Sums;", Cond.fieldLink RX5 33 "CosetGauges" "tally" "LCosetGauges$Tally;", Cond.methodLink RX5 126 yX3_verdictOf, Cond.instanceMethod yX3_verdictOf, Cond.selects RX3 yX3_verdictOf yX3_verdictOf, Cond.initialized RX3, Cond.code yX3_verdictOf cX3_verdictOf 5 (some .int), Cond.fieldLink RX3 34 "CosetGauges$Sums" "sure" "I", Cond.methodLink RX3 102 yX3_flipsOf, Cond.instanceMethod yX3_flipsOf, Cond.selects RX3 yX3_flipsOf yX3_flipsOf, Cond.code yX3_flipsOf cX3_flipsOf 3 (some .int), Cond.methodLink RX3 65 yX3_syndromeOf, Cond.instanceMethod yX3_syndromeOf, Cond.selects RX3 yX3_syndromeOf yX3_syndromeOf, Cond.code yX3_syndromeOf cX3_syndromeOf 4 (some .int), Cond.fieldLink RX3 21 "CosetGauges$Sums" "rowCount" "I", Cond.fieldLink RX3 9 "CosetGauges$Sums" "rows" "[I", Cond.methodLink RX3 79 yJ6_bitCount_0f7a4, Cond.static yJ6_bitCount_0f7a4, Cond.initialized RJ6, Cond.code yJ6_bitCount_0f7a4 cJ6_bitCount_0f7a4 1 (some .int), Cond.constant RJ6 265 (1431655765), Cond.constant RJ6 266 (858993459)]
def wsX5_sendAndCount_r2 : List Cond := [Cond.constant RJ6 267 (252645135), Cond.methodLink RX3 72 yX3_leaderOf, Cond.instanceMethod yX3_leaderOf, Cond.selects RX3 yX3_leaderOf yX3_leaderOf, Cond.code yX3_leaderOf cX3_leaderOf 2 (some .int), Cond.fieldLink RX3 15 "CosetGauges$Sums" "leaderBySyndrome" "[I", Cond.methodLink RX3 68 yX3_isSyndrome, Cond.instanceMethod yX3_isSyndrome, Cond.selects RX3 yX3_isSyndrome yX3_isSyndrome, Cond.code yX3_isSyndrome cX3_isSyndrome 2 (some .boolean), Cond.methodLink RX3 90 yX3_syndromes, Cond.instanceMethod yX3_syndromes, Cond.selects RX3 yX3_syndromes yX3_syndromes, Cond.code yX3_syndromes cX3_syndromes 1 (some .int), Cond.methodLink RX5 70 yX3_length, Cond.instanceMethod yX3_length, Cond.selects RX3 yX3_length yX3_length, Cond.code yX3_length cX3_length 1 (some .int), Cond.fieldLink RX3 25 "CosetGauges$Sums" "length" "I", Cond.methodLink RX5 79 yX3_rank, Cond.instanceMethod yX3_rank, Cond.selects RX3 yX3_rank yX3_rank, Cond.code yX3_rank cX3_rank 1 (some .int), Cond.fieldLink RX3 28 "CosetGauges$Sums" "rank" "I"]
def wsX5_sendAndCount_r3 : List Cond := [Cond.methodLink RX5 196 yX4_sentPlain, Cond.instanceMethod yX4_sentPlain, Cond.selects RX4 yX4_sentPlain yX4_sentPlain, Cond.initialized RX4, Cond.code yX4_sentPlain cX4_sentPlain 4 none, Cond.fieldLink RX4 9 "CosetGauges$Tally" "sentByVerdict" "[I", Cond.fieldLink RX4 15 "CosetGauges$Tally" "bitsSent" "I", Cond.fieldLink RX4 19 "CosetGauges$Tally" "bitsSentByBothPlainly" "I"]
def wsX5_sendAndCount : List Cond := .code yX5_sendAndCount cX5_sendAndCount 4 (some .int) :: ((wsX5_sendAndCount_r1 ++ (wsX5_sendAndCount_r2 ++ wsX5_sendAndCount_r3)) ++ wsX50 ++ wsX30 ++ wsX40)
def wsX5_send_r1 : List Cond := [Cond.fieldLink RX5 26 "CosetGauges" "current" "LCosetGauges$Sums;", Cond.methodLink RX5 73 yX3_areThere, Cond.instanceMethod yX3_areThere, Cond.selects RX3 yX3_areThere yX3_areThere, Cond.initialized RX3, Cond.code yX3_areThere cX3_areThere 1 (some .boolean), Cond.fieldLink RX3 25 "CosetGauges$Sums" "length" "I", Cond.methodLink RX5 98 yX3_isWord, Cond.instanceMethod yX3_isWord, Cond.selects RX3 yX3_isWord yX3_isWord, Cond.code yX3_isWord cX3_isWord 2 (some .boolean), Cond.methodLink RX3 62 yX3_words, Cond.instanceMethod yX3_words, Cond.selects RX3 yX3_words yX3_words, Cond.code yX3_words cX3_words 1 (some .int), Cond.methodLink RX5 123 yX5_sendAndCount, Cond.instanceMethod yX5_sendAndCount, Cond.selects RX5 yX5_sendAndCount yX5_sendAndCount, Cond.initialized RX5, Cond.code yX5_sendAndCount cX5_sendAndCount 4 (some .int), Cond.fieldLink RX5 33 "CosetGauges" "tally" "LCosetGauges$Tally;", Cond.methodLink RX5 126 yX3_verdictOf, Cond.instanceMethod yX3_verdictOf, Cond.selects RX3 yX3_verdictOf yX3_verdictOf]
def wsX5_send_r2 : List Cond := [Cond.code yX3_verdictOf cX3_verdictOf 5 (some .int), Cond.fieldLink RX3 34 "CosetGauges$Sums" "sure" "I", Cond.methodLink RX3 102 yX3_flipsOf, Cond.instanceMethod yX3_flipsOf, Cond.selects RX3 yX3_flipsOf yX3_flipsOf, Cond.code yX3_flipsOf cX3_flipsOf 3 (some .int), Cond.methodLink RX3 65 yX3_syndromeOf, Cond.instanceMethod yX3_syndromeOf, Cond.selects RX3 yX3_syndromeOf yX3_syndromeOf, Cond.code yX3_syndromeOf cX3_syndromeOf 4 (some .int), Cond.fieldLink RX3 21 "CosetGauges$Sums" "rowCount" "I", Cond.fieldLink RX3 9 "CosetGauges$Sums" "rows" "[I", Cond.methodLink RX3 79 yJ6_bitCount_0f7a4, Cond.static yJ6_bitCount_0f7a4, Cond.initialized RJ6, Cond.code yJ6_bitCount_0f7a4 cJ6_bitCount_0f7a4 1 (some .int), Cond.constant RJ6 265 (1431655765), Cond.constant RJ6 266 (858993459), Cond.constant RJ6 267 (252645135), Cond.methodLink RX3 72 yX3_leaderOf, Cond.instanceMethod yX3_leaderOf, Cond.selects RX3 yX3_leaderOf yX3_leaderOf, Cond.code yX3_leaderOf cX3_leaderOf 2 (some .int), Cond.fieldLink RX3 15 "CosetGauges$Sums" "leaderBySyndrome" "[I"]
def wsX5_send_r3 : List Cond := [Cond.methodLink RX3 68 yX3_isSyndrome, Cond.instanceMethod yX3_isSyndrome, Cond.selects RX3 yX3_isSyndrome yX3_isSyndrome, Cond.code yX3_isSyndrome cX3_isSyndrome 2 (some .boolean), Cond.methodLink RX3 90 yX3_syndromes, Cond.instanceMethod yX3_syndromes, Cond.selects RX3 yX3_syndromes yX3_syndromes, Cond.code yX3_syndromes cX3_syndromes 1 (some .int), Cond.methodLink RX5 70 yX3_length, Cond.instanceMethod yX3_length, Cond.selects RX3 yX3_length yX3_length, Cond.code yX3_length cX3_length 1 (some .int), Cond.methodLink RX5 79 yX3_rank, Cond.instanceMethod yX3_rank, Cond.selects RX3 yX3_rank yX3_rank, Cond.code yX3_rank cX3_rank 1 (some .int), Cond.fieldLink RX3 28 "CosetGauges$Sums" "rank" "I", Cond.methodLink RX5 196 yX4_sentPlain, Cond.instanceMethod yX4_sentPlain, Cond.selects RX4 yX4_sentPlain yX4_sentPlain, Cond.initialized RX4, Cond.code yX4_sentPlain cX4_sentPlain 4 none, Cond.fieldLink RX4 9 "CosetGauges$Tally" "sentByVerdict" "[I", Cond.fieldLink RX4 15 "CosetGauges$Tally" "bitsSent" "I"]
def wsX5_send_r4 : List Cond := [Cond.fieldLink RX4 19 "CosetGauges$Tally" "bitsSentByBothPlainly" "I"]
def wsX5_send : List Cond := .code yX5_send cX5_send 3 (some .int) :: ((wsX5_send_r1 ++ (wsX5_send_r2 ++ (wsX5_send_r3 ++ wsX5_send_r4))) ++ wsX50 ++ wsX30 ++ wsX40)
def wsX5_plain_r1 : List Cond := [Cond.fieldLink RX5 26 "CosetGauges" "current" "LCosetGauges$Sums;", Cond.methodLink RX5 73 yX3_areThere, Cond.instanceMethod yX3_areThere, Cond.selects RX3 yX3_areThere yX3_areThere, Cond.initialized RX3, Cond.code yX3_areThere cX3_areThere 1 (some .boolean), Cond.fieldLink RX3 25 "CosetGauges$Sums" "length" "I", Cond.methodLink RX5 98 yX3_isWord, Cond.instanceMethod yX3_isWord, Cond.selects RX3 yX3_isWord yX3_isWord, Cond.code yX3_isWord cX3_isWord 2 (some .boolean), Cond.methodLink RX3 62 yX3_words, Cond.instanceMethod yX3_words, Cond.selects RX3 yX3_words yX3_words, Cond.code yX3_words cX3_words 1 (some .int), Cond.methodLink RX5 126 yX3_verdictOf, Cond.instanceMethod yX3_verdictOf, Cond.selects RX3 yX3_verdictOf yX3_verdictOf, Cond.code yX3_verdictOf cX3_verdictOf 5 (some .int), Cond.fieldLink RX3 34 "CosetGauges$Sums" "sure" "I", Cond.methodLink RX3 102 yX3_flipsOf, Cond.instanceMethod yX3_flipsOf, Cond.selects RX3 yX3_flipsOf yX3_flipsOf, Cond.code yX3_flipsOf cX3_flipsOf 3 (some .int)]
def wsX5_plain_r2 : List Cond := [Cond.methodLink RX3 65 yX3_syndromeOf, Cond.instanceMethod yX3_syndromeOf, Cond.selects RX3 yX3_syndromeOf yX3_syndromeOf, Cond.code yX3_syndromeOf cX3_syndromeOf 4 (some .int), Cond.fieldLink RX3 21 "CosetGauges$Sums" "rowCount" "I", Cond.fieldLink RX3 9 "CosetGauges$Sums" "rows" "[I", Cond.methodLink RX3 79 yJ6_bitCount_0f7a4, Cond.static yJ6_bitCount_0f7a4, Cond.initialized RJ6, Cond.code yJ6_bitCount_0f7a4 cJ6_bitCount_0f7a4 1 (some .int), Cond.constant RJ6 265 (1431655765), Cond.constant RJ6 266 (858993459), Cond.constant RJ6 267 (252645135), Cond.methodLink RX3 72 yX3_leaderOf, Cond.instanceMethod yX3_leaderOf, Cond.selects RX3 yX3_leaderOf yX3_leaderOf, Cond.code yX3_leaderOf cX3_leaderOf 2 (some .int), Cond.fieldLink RX3 15 "CosetGauges$Sums" "leaderBySyndrome" "[I", Cond.methodLink RX3 68 yX3_isSyndrome, Cond.instanceMethod yX3_isSyndrome, Cond.selects RX3 yX3_isSyndrome yX3_isSyndrome, Cond.code yX3_isSyndrome cX3_isSyndrome 2 (some .boolean), Cond.methodLink RX3 90 yX3_syndromes, Cond.instanceMethod yX3_syndromes]
def wsX5_plain_r3 : List Cond := [Cond.selects RX3 yX3_syndromes yX3_syndromes, Cond.code yX3_syndromes cX3_syndromes 1 (some .int), Cond.methodLink RX5 129 yX3_flipsOf]
def wsX5_plain : List Cond := .code yX5_plain cX5_plain 4 (some .int) :: ((wsX5_plain_r1 ++ (wsX5_plain_r2 ++ wsX5_plain_r3)) ++ wsX50 ++ wsX30)
def wsX5_share_r1 : List Cond := [Cond.fieldLink RX5 26 "CosetGauges" "current" "LCosetGauges$Sums;", Cond.methodLink RX5 73 yX3_areThere, Cond.instanceMethod yX3_areThere, Cond.selects RX3 yX3_areThere yX3_areThere, Cond.initialized RX3, Cond.code yX3_areThere cX3_areThere 1 (some .boolean), Cond.fieldLink RX3 25 "CosetGauges$Sums" "length" "I", Cond.methodLink RX5 132 yX3_areSharedSets, Cond.instanceMethod yX3_areSharedSets, Cond.selects RX3 yX3_areSharedSets yX3_areSharedSets, Cond.code yX3_areSharedSets cX3_areSharedSets 3 (some .boolean), Cond.methodLink RX3 93 yX3_isWord, Cond.instanceMethod yX3_isWord, Cond.selects RX3 yX3_isWord yX3_isWord, Cond.code yX3_isWord cX3_isWord 2 (some .boolean), Cond.methodLink RX3 62 yX3_words, Cond.instanceMethod yX3_words, Cond.selects RX3 yX3_words yX3_words, Cond.code yX3_words cX3_words 1 (some .int), Cond.methodLink RX5 136 yX3_isEnough, Cond.instanceMethod yX3_isEnough, Cond.selects RX3 yX3_isEnough yX3_isEnough, Cond.code yX3_isEnough cX3_isEnough 4 (some .boolean), Cond.methodLink RX3 65 yX3_syndromeOf]
def wsX5_share_r2 : List Cond := [Cond.instanceMethod yX3_syndromeOf, Cond.selects RX3 yX3_syndromeOf yX3_syndromeOf, Cond.code yX3_syndromeOf cX3_syndromeOf 4 (some .int), Cond.fieldLink RX3 21 "CosetGauges$Sums" "rowCount" "I", Cond.fieldLink RX3 9 "CosetGauges$Sums" "rows" "[I", Cond.methodLink RX3 79 yJ6_bitCount_0f7a4, Cond.static yJ6_bitCount_0f7a4, Cond.initialized RJ6, Cond.code yJ6_bitCount_0f7a4 cJ6_bitCount_0f7a4 1 (some .int), Cond.constant RJ6 265 (1431655765), Cond.constant RJ6 266 (858993459), Cond.constant RJ6 267 (252645135), Cond.methodLink RX5 79 yX3_rank, Cond.instanceMethod yX3_rank, Cond.selects RX3 yX3_rank yX3_rank, Cond.code yX3_rank cX3_rank 1 (some .int), Cond.fieldLink RX3 28 "CosetGauges$Sums" "rank" "I", Cond.methodLink RX5 139 yJ6_bitCount_0f7a4]
def wsX5_share : List Cond := .code yX5_share cX5_share 5 (some .int) :: ((wsX5_share_r1 ++ wsX5_share_r2) ++ wsX50 ++ wsX30)
def wsX5_shared_r1 : List Cond := [Cond.fieldLink RX5 26 "CosetGauges" "current" "LCosetGauges$Sums;", Cond.methodLink RX5 73 yX3_areThere, Cond.instanceMethod yX3_areThere, Cond.selects RX3 yX3_areThere yX3_areThere, Cond.initialized RX3, Cond.code yX3_areThere cX3_areThere 1 (some .boolean), Cond.fieldLink RX3 25 "CosetGauges$Sums" "length" "I", Cond.methodLink RX5 132 yX3_areSharedSets, Cond.instanceMethod yX3_areSharedSets, Cond.selects RX3 yX3_areSharedSets yX3_areSharedSets, Cond.code yX3_areSharedSets cX3_areSharedSets 3 (some .boolean), Cond.methodLink RX3 93 yX3_isWord, Cond.instanceMethod yX3_isWord, Cond.selects RX3 yX3_isWord yX3_isWord, Cond.code yX3_isWord cX3_isWord 2 (some .boolean), Cond.methodLink RX3 62 yX3_words, Cond.instanceMethod yX3_words, Cond.selects RX3 yX3_words yX3_words, Cond.code yX3_words cX3_words 1 (some .int), Cond.methodLink RX5 98 yX3_isWord, Cond.methodLink RX5 144 yX3_firstOfShared, Cond.instanceMethod yX3_firstOfShared, Cond.selects RX3 yX3_firstOfShared yX3_firstOfShared, Cond.code yX3_firstOfShared cX3_firstOfShared 10 (some .int)]
def wsX5_shared_r2 : List Cond := [Cond.methodLink RX3 105 yX3_isEnough, Cond.instanceMethod yX3_isEnough, Cond.selects RX3 yX3_isEnough yX3_isEnough, Cond.code yX3_isEnough cX3_isEnough 4 (some .boolean), Cond.methodLink RX3 65 yX3_syndromeOf, Cond.instanceMethod yX3_syndromeOf, Cond.selects RX3 yX3_syndromeOf yX3_syndromeOf, Cond.code yX3_syndromeOf cX3_syndromeOf 4 (some .int), Cond.fieldLink RX3 21 "CosetGauges$Sums" "rowCount" "I", Cond.fieldLink RX3 9 "CosetGauges$Sums" "rows" "[I", Cond.methodLink RX3 79 yJ6_bitCount_0f7a4, Cond.static yJ6_bitCount_0f7a4, Cond.initialized RJ6, Cond.code yJ6_bitCount_0f7a4 cJ6_bitCount_0f7a4 1 (some .int), Cond.constant RJ6 265 (1431655765), Cond.constant RJ6 266 (858993459), Cond.constant RJ6 267 (252645135), Cond.methodLink RX3 102 yX3_flipsOf, Cond.instanceMethod yX3_flipsOf, Cond.selects RX3 yX3_flipsOf yX3_flipsOf, Cond.code yX3_flipsOf cX3_flipsOf 3 (some .int), Cond.methodLink RX3 72 yX3_leaderOf, Cond.instanceMethod yX3_leaderOf, Cond.selects RX3 yX3_leaderOf yX3_leaderOf]
def wsX5_shared_r3 : List Cond := [Cond.code yX3_leaderOf cX3_leaderOf 2 (some .int), Cond.fieldLink RX3 15 "CosetGauges$Sums" "leaderBySyndrome" "[I", Cond.methodLink RX3 68 yX3_isSyndrome, Cond.instanceMethod yX3_isSyndrome, Cond.selects RX3 yX3_isSyndrome yX3_isSyndrome, Cond.code yX3_isSyndrome cX3_isSyndrome 2 (some .boolean), Cond.methodLink RX3 90 yX3_syndromes, Cond.instanceMethod yX3_syndromes, Cond.selects RX3 yX3_syndromes yX3_syndromes, Cond.code yX3_syndromes cX3_syndromes 1 (some .int), Cond.methodLink RX5 129 yX3_flipsOf]
def wsX5_shared : List Cond := .code yX5_shared cX5_shared 7 (some .int) :: ((wsX5_shared_r1 ++ (wsX5_shared_r2 ++ wsX5_shared_r3)) ++ wsX50 ++ wsX30)
def wsX5_drawUnlikePlaces : List Cond := .code yX5_drawUnlikePlaces cX5_drawUnlikePlaces 4 (some .int) :: ([.fieldLink RX5 26 "CosetGauges" "current" "LCosetGauges$Sums;", .fieldLink RX5 40 "CosetGauges" "draws" "LCosetGauges$Draws;", .methodLink RX5 70 yX3_length, .instanceMethod yX3_length, .selects RX3 yX3_length yX3_length, .initialized RX3, .code yX3_length cX3_length 1 (some .int), .fieldLink RX3 25 "CosetGauges$Sums" "length" "I", .methodLink RX5 152 yX0_next, .instanceMethod yX0_next, .selects RX0 yX0_next yX0_next, .initialized RX0, .code yX0_next cX0_next 2 (some .int), .constantLong RX0 13 (1103515245), .fieldLink RX0 7 "CosetGauges$Draws" "seed" "I", .constantLong RX0 15 (12345), .constantLong RX0 17 (2147483647)] ++ wsX50 ++ wsX30 ++ wsX00)
def wsX5_run_r1 : List Cond := [Cond.fieldLink RX5 26 "CosetGauges" "current" "LCosetGauges$Sums;", Cond.fieldLink RX5 40 "CosetGauges" "draws" "LCosetGauges$Draws;", Cond.methodLink RX5 73 yX3_areThere, Cond.instanceMethod yX3_areThere, Cond.selects RX3 yX3_areThere yX3_areThere, Cond.initialized RX3, Cond.code yX3_areThere cX3_areThere 1 (some .boolean), Cond.fieldLink RX3 25 "CosetGauges$Sums" "length" "I", Cond.methodLink RX5 148 yX0_startFrom, Cond.instanceMethod yX0_startFrom, Cond.selects RX0 yX0_startFrom yX0_startFrom, Cond.initialized RX0, Cond.code yX0_startFrom cX0_startFrom 2 none, Cond.fieldLink RX0 7 "CosetGauges$Draws" "seed" "I", Cond.methodLink RX5 70 yX3_length, Cond.instanceMethod yX3_length, Cond.selects RX3 yX3_length yX3_length, Cond.code yX3_length cX3_length 1 (some .int), Cond.methodLink RX5 152 yX0_next, Cond.instanceMethod yX0_next, Cond.selects RX0 yX0_next yX0_next, Cond.code yX0_next cX0_next 2 (some .int), Cond.constantLong RX0 13 (1103515245), Cond.constantLong RX0 15 (12345)]
def wsX5_run_r2 : List Cond := [Cond.constantLong RX0 17 (2147483647), Cond.methodLink RX5 155 yX5_drawUnlikePlaces, Cond.instanceMethod yX5_drawUnlikePlaces, Cond.selects RX5 yX5_drawUnlikePlaces yX5_drawUnlikePlaces, Cond.initialized RX5, Cond.code yX5_drawUnlikePlaces cX5_drawUnlikePlaces 4 (some .int), Cond.methodLink RX5 123 yX5_sendAndCount, Cond.instanceMethod yX5_sendAndCount, Cond.selects RX5 yX5_sendAndCount yX5_sendAndCount, Cond.code yX5_sendAndCount cX5_sendAndCount 4 (some .int), Cond.fieldLink RX5 33 "CosetGauges" "tally" "LCosetGauges$Tally;", Cond.methodLink RX5 126 yX3_verdictOf, Cond.instanceMethod yX3_verdictOf, Cond.selects RX3 yX3_verdictOf yX3_verdictOf, Cond.code yX3_verdictOf cX3_verdictOf 5 (some .int), Cond.fieldLink RX3 34 "CosetGauges$Sums" "sure" "I", Cond.methodLink RX3 102 yX3_flipsOf, Cond.instanceMethod yX3_flipsOf, Cond.selects RX3 yX3_flipsOf yX3_flipsOf, Cond.code yX3_flipsOf cX3_flipsOf 3 (some .int), Cond.methodLink RX3 65 yX3_syndromeOf, Cond.instanceMethod yX3_syndromeOf, Cond.selects RX3 yX3_syndromeOf yX3_syndromeOf, Cond.code yX3_syndromeOf cX3_syndromeOf 4 (some .int)]
def wsX5_run_r3 : List Cond := [Cond.fieldLink RX3 21 "CosetGauges$Sums" "rowCount" "I", Cond.fieldLink RX3 9 "CosetGauges$Sums" "rows" "[I", Cond.methodLink RX3 79 yJ6_bitCount_0f7a4, Cond.static yJ6_bitCount_0f7a4, Cond.initialized RJ6, Cond.code yJ6_bitCount_0f7a4 cJ6_bitCount_0f7a4 1 (some .int), Cond.constant RJ6 265 (1431655765), Cond.constant RJ6 266 (858993459), Cond.constant RJ6 267 (252645135), Cond.methodLink RX3 72 yX3_leaderOf, Cond.instanceMethod yX3_leaderOf, Cond.selects RX3 yX3_leaderOf yX3_leaderOf, Cond.code yX3_leaderOf cX3_leaderOf 2 (some .int), Cond.fieldLink RX3 15 "CosetGauges$Sums" "leaderBySyndrome" "[I", Cond.methodLink RX3 68 yX3_isSyndrome, Cond.instanceMethod yX3_isSyndrome, Cond.selects RX3 yX3_isSyndrome yX3_isSyndrome, Cond.code yX3_isSyndrome cX3_isSyndrome 2 (some .boolean), Cond.methodLink RX3 90 yX3_syndromes, Cond.instanceMethod yX3_syndromes, Cond.selects RX3 yX3_syndromes yX3_syndromes, Cond.code yX3_syndromes cX3_syndromes 1 (some .int), Cond.methodLink RX5 79 yX3_rank, Cond.instanceMethod yX3_rank]
def wsX5_run_r4 : List Cond := [Cond.selects RX3 yX3_rank yX3_rank, Cond.code yX3_rank cX3_rank 1 (some .int), Cond.fieldLink RX3 28 "CosetGauges$Sums" "rank" "I", Cond.methodLink RX5 196 yX4_sentPlain, Cond.instanceMethod yX4_sentPlain, Cond.selects RX4 yX4_sentPlain yX4_sentPlain, Cond.initialized RX4, Cond.code yX4_sentPlain cX4_sentPlain 4 none, Cond.fieldLink RX4 9 "CosetGauges$Tally" "sentByVerdict" "[I", Cond.fieldLink RX4 15 "CosetGauges$Tally" "bitsSent" "I", Cond.fieldLink RX4 19 "CosetGauges$Tally" "bitsSentByBothPlainly" "I"]
def wsX5_run : List Cond := .code yX5_run cX5_run 8 (some .int) :: ((wsX5_run_r1 ++ (wsX5_run_r2 ++ (wsX5_run_r3 ++ wsX5_run_r4))) ++ wsX50 ++ wsX30 ++ wsX00 ++ wsX40)
def wsX5_seed : List Cond := .code yX5_seed cX5_seed 1 (some .int) :: ([.fieldLink RX5 40 "CosetGauges" "draws" "LCosetGauges$Draws;", .methodLink RX5 158 yX0_last, .instanceMethod yX0_last, .selects RX0 yX0_last yX0_last, .initialized RX0, .code yX0_last cX0_last 1 (some .int), .fieldLink RX0 7 "CosetGauges$Draws" "seed" "I"] ++ wsX50 ++ wsX00)
def wsX5_count_r1 : List Cond := [Cond.fieldLink RX5 10 "CosetGauges" "page" "LCosetGauges$Page;", Cond.fieldLink RX5 33 "CosetGauges" "tally" "LCosetGauges$Tally;", Cond.methodLink RX5 48 yX1_size, Cond.instanceMethod yX1_size, Cond.selects RX1 yX1_size yX1_size, Cond.initialized RX1, Cond.code yX1_size cX1_size 1 (some .int), Cond.fieldLink RX1 15 "CosetGauges$Page" "size" "I", Cond.methodLink RX5 161 yX4_bitsSent, Cond.instanceMethod yX4_bitsSent, Cond.selects RX4 yX4_bitsSent yX4_bitsSent, Cond.initialized RX4, Cond.code yX4_bitsSent cX4_bitsSent 1 (some .int), Cond.fieldLink RX4 15 "CosetGauges$Tally" "bitsSent" "I", Cond.methodLink RX5 164 yX4_bitsSentByBothPlainly, Cond.instanceMethod yX4_bitsSentByBothPlainly, Cond.selects RX4 yX4_bitsSentByBothPlainly yX4_bitsSentByBothPlainly, Cond.code yX4_bitsSentByBothPlainly cX4_bitsSentByBothPlainly 1 (some .int), Cond.fieldLink RX4 19 "CosetGauges$Tally" "bitsSentByBothPlainly" "I", Cond.methodLink RX5 167 yX4_timesSumsRead, Cond.instanceMethod yX4_timesSumsRead, Cond.selects RX4 yX4_timesSumsRead yX4_timesSumsRead, Cond.code yX4_timesSumsRead cX4_timesSumsRead 1 (some .int), Cond.fieldLink RX4 22 "CosetGauges$Tally" "timesSumsRead" "I"]
def wsX5_count_r2 : List Cond := [Cond.methodLink RX5 170 yX4_sentWith, Cond.instanceMethod yX4_sentWith, Cond.selects RX4 yX4_sentWith yX4_sentWith, Cond.code yX4_sentWith cX4_sentWith 2 (some .int), Cond.fieldLink RX4 9 "CosetGauges$Tally" "sentByVerdict" "[I"]
def wsX5_count : List Cond := .code yX5_count cX5_count 2 (some .int) :: ((wsX5_count_r1 ++ wsX5_count_r2) ++ wsX50 ++ wsX10 ++ wsX40)
def wsX5_withSums_r1 : List Cond := [Cond.constantLong RX5 179 (31), Cond.fieldLink RX5 26 "CosetGauges" "current" "LCosetGauges$Sums;", Cond.methodLink RX5 190 yX5_code, Cond.instanceMethod yX5_code, Cond.selects RX5 yX5_code yX5_code, Cond.initialized RX5, Cond.code yX5_code cX5_code 2 (some .int), Cond.methodLink RX5 73 yX3_areThere, Cond.instanceMethod yX3_areThere, Cond.selects RX3 yX3_areThere yX3_areThere, Cond.initialized RX3, Cond.code yX3_areThere cX3_areThere 1 (some .boolean), Cond.fieldLink RX3 25 "CosetGauges$Sums" "length" "I", Cond.methodLink RX5 70 yX3_length, Cond.instanceMethod yX3_length, Cond.selects RX3 yX3_length yX3_length, Cond.code yX3_length cX3_length 1 (some .int), Cond.methodLink RX5 76 yX3_rowCount, Cond.instanceMethod yX3_rowCount, Cond.selects RX3 yX3_rowCount yX3_rowCount, Cond.code yX3_rowCount cX3_rowCount 1 (some .int), Cond.fieldLink RX3 21 "CosetGauges$Sums" "rowCount" "I", Cond.methodLink RX5 79 yX3_rank, Cond.instanceMethod yX3_rank]
def wsX5_withSums_r2 : List Cond := [Cond.selects RX3 yX3_rank yX3_rank, Cond.code yX3_rank cX3_rank 1 (some .int), Cond.fieldLink RX3 28 "CosetGauges$Sums" "rank" "I", Cond.methodLink RX5 82 yX3_distanceOrNone, Cond.instanceMethod yX3_distanceOrNone, Cond.selects RX3 yX3_distanceOrNone yX3_distanceOrNone, Cond.code yX3_distanceOrNone cX3_distanceOrNone 1 (some .int), Cond.fieldLink RX3 31 "CosetGauges$Sums" "distance" "I", Cond.methodLink RX5 85 yX3_sure, Cond.instanceMethod yX3_sure, Cond.selects RX3 yX3_sure yX3_sure, Cond.code yX3_sure cX3_sure 1 (some .int), Cond.fieldLink RX3 34 "CosetGauges$Sums" "sure" "I", Cond.methodLink RX5 88 yX3_radius, Cond.instanceMethod yX3_radius, Cond.selects RX3 yX3_radius yX3_radius, Cond.code yX3_radius cX3_radius 1 (some .int), Cond.fieldLink RX3 37 "CosetGauges$Sums" "radius" "I", Cond.methodLink RX5 94 yX3_rowAt, Cond.instanceMethod yX3_rowAt, Cond.selects RX3 yX3_rowAt yX3_rowAt, Cond.code yX3_rowAt cX3_rowAt 2 (some .int), Cond.fieldLink RX3 9 "CosetGauges$Sums" "rows" "[I", Cond.methodLink RX3 96 yX3_isRow]
def wsX5_withSums_r3 : List Cond := [Cond.instanceMethod yX3_isRow, Cond.selects RX3 yX3_isRow yX3_isRow, Cond.code yX3_isRow cX3_isRow 2 (some .boolean), Cond.methodLink RX5 193 yX3_syndromes, Cond.instanceMethod yX3_syndromes, Cond.selects RX3 yX3_syndromes yX3_syndromes, Cond.code yX3_syndromes cX3_syndromes 1 (some .int), Cond.methodLink RX5 107 yX3_leaderOf, Cond.instanceMethod yX3_leaderOf, Cond.selects RX3 yX3_leaderOf yX3_leaderOf, Cond.code yX3_leaderOf cX3_leaderOf 2 (some .int), Cond.fieldLink RX3 15 "CosetGauges$Sums" "leaderBySyndrome" "[I", Cond.methodLink RX3 68 yX3_isSyndrome, Cond.instanceMethod yX3_isSyndrome, Cond.selects RX3 yX3_isSyndrome yX3_isSyndrome, Cond.code yX3_isSyndrome cX3_isSyndrome 2 (some .boolean), Cond.methodLink RX3 90 yX3_syndromes, Cond.methodLink RX5 117 yX3_leadersOfWeight, Cond.instanceMethod yX3_leadersOfWeight, Cond.selects RX3 yX3_leadersOfWeight yX3_leadersOfWeight, Cond.code yX3_leadersOfWeight cX3_leadersOfWeight 2 (some .int), Cond.fieldLink RX3 18 "CosetGauges$Sums" "leadersByWeight" "[I", Cond.methodLink RX3 99 yX3_isWeight, Cond.instanceMethod yX3_isWeight]
def wsX5_withSums_r4 : List Cond := [Cond.selects RX3 yX3_isWeight yX3_isWeight, Cond.code yX3_isWeight cX3_isWeight 2 (some .boolean)]
def wsX5_withSums : List Cond := .code yX5_withSums cX5_withSums 6 (some .long) :: ((wsX5_withSums_r1 ++ (wsX5_withSums_r2 ++ (wsX5_withSums_r3 ++ wsX5_withSums_r4))) ++ wsX50 ++ wsX30)
def wsX5_digest_r1 : List Cond := [Cond.constantLong RX5 173 (1667), Cond.fieldLink RX5 26 "CosetGauges" "current" "LCosetGauges$Sums;", Cond.constantLong RX5 179 (31), Cond.fieldLink RX5 10 "CosetGauges" "page" "LCosetGauges$Page;", Cond.methodLink RX5 73 yX3_areThere, Cond.instanceMethod yX3_areThere, Cond.selects RX3 yX3_areThere yX3_areThere, Cond.initialized RX3, Cond.code yX3_areThere cX3_areThere 1 (some .boolean), Cond.fieldLink RX3 25 "CosetGauges$Sums" "length" "I", Cond.methodLink RX5 175 yX5_withSums, Cond.instanceMethod yX5_withSums, Cond.selects RX5 yX5_withSums yX5_withSums, Cond.initialized RX5, Cond.code yX5_withSums cX5_withSums 6 (some .long), Cond.methodLink RX5 190 yX5_code, Cond.instanceMethod yX5_code, Cond.selects RX5 yX5_code yX5_code, Cond.code yX5_code cX5_code 2 (some .int), Cond.methodLink RX5 70 yX3_length, Cond.instanceMethod yX3_length, Cond.selects RX3 yX3_length yX3_length, Cond.code yX3_length cX3_length 1 (some .int), Cond.methodLink RX5 76 yX3_rowCount]
def wsX5_digest_r2 : List Cond := [Cond.instanceMethod yX3_rowCount, Cond.selects RX3 yX3_rowCount yX3_rowCount, Cond.code yX3_rowCount cX3_rowCount 1 (some .int), Cond.fieldLink RX3 21 "CosetGauges$Sums" "rowCount" "I", Cond.methodLink RX5 79 yX3_rank, Cond.instanceMethod yX3_rank, Cond.selects RX3 yX3_rank yX3_rank, Cond.code yX3_rank cX3_rank 1 (some .int), Cond.fieldLink RX3 28 "CosetGauges$Sums" "rank" "I", Cond.methodLink RX5 82 yX3_distanceOrNone, Cond.instanceMethod yX3_distanceOrNone, Cond.selects RX3 yX3_distanceOrNone yX3_distanceOrNone, Cond.code yX3_distanceOrNone cX3_distanceOrNone 1 (some .int), Cond.fieldLink RX3 31 "CosetGauges$Sums" "distance" "I", Cond.methodLink RX5 85 yX3_sure, Cond.instanceMethod yX3_sure, Cond.selects RX3 yX3_sure yX3_sure, Cond.code yX3_sure cX3_sure 1 (some .int), Cond.fieldLink RX3 34 "CosetGauges$Sums" "sure" "I", Cond.methodLink RX5 88 yX3_radius, Cond.instanceMethod yX3_radius, Cond.selects RX3 yX3_radius yX3_radius, Cond.code yX3_radius cX3_radius 1 (some .int), Cond.fieldLink RX3 37 "CosetGauges$Sums" "radius" "I"]
def wsX5_digest_r3 : List Cond := [Cond.methodLink RX5 94 yX3_rowAt, Cond.instanceMethod yX3_rowAt, Cond.selects RX3 yX3_rowAt yX3_rowAt, Cond.code yX3_rowAt cX3_rowAt 2 (some .int), Cond.fieldLink RX3 9 "CosetGauges$Sums" "rows" "[I", Cond.methodLink RX3 96 yX3_isRow, Cond.instanceMethod yX3_isRow, Cond.selects RX3 yX3_isRow yX3_isRow, Cond.code yX3_isRow cX3_isRow 2 (some .boolean), Cond.methodLink RX5 193 yX3_syndromes, Cond.instanceMethod yX3_syndromes, Cond.selects RX3 yX3_syndromes yX3_syndromes, Cond.code yX3_syndromes cX3_syndromes 1 (some .int), Cond.methodLink RX5 107 yX3_leaderOf, Cond.instanceMethod yX3_leaderOf, Cond.selects RX3 yX3_leaderOf yX3_leaderOf, Cond.code yX3_leaderOf cX3_leaderOf 2 (some .int), Cond.fieldLink RX3 15 "CosetGauges$Sums" "leaderBySyndrome" "[I", Cond.methodLink RX3 68 yX3_isSyndrome, Cond.instanceMethod yX3_isSyndrome, Cond.selects RX3 yX3_isSyndrome yX3_isSyndrome, Cond.code yX3_isSyndrome cX3_isSyndrome 2 (some .boolean), Cond.methodLink RX3 90 yX3_syndromes, Cond.methodLink RX5 117 yX3_leadersOfWeight]
def wsX5_digest_r4 : List Cond := [Cond.instanceMethod yX3_leadersOfWeight, Cond.selects RX3 yX3_leadersOfWeight yX3_leadersOfWeight, Cond.code yX3_leadersOfWeight cX3_leadersOfWeight 2 (some .int), Cond.fieldLink RX3 18 "CosetGauges$Sums" "leadersByWeight" "[I", Cond.methodLink RX3 99 yX3_isWeight, Cond.instanceMethod yX3_isWeight, Cond.selects RX3 yX3_isWeight yX3_isWeight, Cond.code yX3_isWeight cX3_isWeight 2 (some .boolean), Cond.methodLink RX5 181 yX5_seed, Cond.instanceMethod yX5_seed, Cond.selects RX5 yX5_seed yX5_seed, Cond.code yX5_seed cX5_seed 1 (some .int), Cond.fieldLink RX5 40 "CosetGauges" "draws" "LCosetGauges$Draws;", Cond.methodLink RX5 158 yX0_last, Cond.instanceMethod yX0_last, Cond.selects RX0 yX0_last yX0_last, Cond.initialized RX0, Cond.code yX0_last cX0_last 1 (some .int), Cond.fieldLink RX0 7 "CosetGauges$Draws" "seed" "I", Cond.methodLink RX5 48 yX1_size, Cond.instanceMethod yX1_size, Cond.selects RX1 yX1_size yX1_size, Cond.initialized RX1, Cond.code yX1_size cX1_size 1 (some .int)]
def wsX5_digest_r5 : List Cond := [Cond.fieldLink RX1 15 "CosetGauges$Page" "size" "I", Cond.methodLink RX5 184 yX1_letterAt, Cond.instanceMethod yX1_letterAt, Cond.selects RX1 yX1_letterAt yX1_letterAt, Cond.code yX1_letterAt cX1_letterAt 2 (some .int), Cond.fieldLink RX1 9 "CosetGauges$Page" "letters" "[I", Cond.methodLink RX5 187 yX5_count, Cond.instanceMethod yX5_count, Cond.selects RX5 yX5_count yX5_count, Cond.code yX5_count cX5_count 2 (some .int), Cond.fieldLink RX5 33 "CosetGauges" "tally" "LCosetGauges$Tally;", Cond.methodLink RX5 161 yX4_bitsSent, Cond.instanceMethod yX4_bitsSent, Cond.selects RX4 yX4_bitsSent yX4_bitsSent, Cond.initialized RX4, Cond.code yX4_bitsSent cX4_bitsSent 1 (some .int), Cond.fieldLink RX4 15 "CosetGauges$Tally" "bitsSent" "I", Cond.methodLink RX5 164 yX4_bitsSentByBothPlainly, Cond.instanceMethod yX4_bitsSentByBothPlainly, Cond.selects RX4 yX4_bitsSentByBothPlainly yX4_bitsSentByBothPlainly, Cond.code yX4_bitsSentByBothPlainly cX4_bitsSentByBothPlainly 1 (some .int), Cond.fieldLink RX4 19 "CosetGauges$Tally" "bitsSentByBothPlainly" "I", Cond.methodLink RX5 167 yX4_timesSumsRead, Cond.instanceMethod yX4_timesSumsRead]
def wsX5_digest_r6 : List Cond := [Cond.selects RX4 yX4_timesSumsRead yX4_timesSumsRead, Cond.code yX4_timesSumsRead cX4_timesSumsRead 1 (some .int), Cond.fieldLink RX4 22 "CosetGauges$Tally" "timesSumsRead" "I", Cond.methodLink RX5 170 yX4_sentWith, Cond.instanceMethod yX4_sentWith, Cond.selects RX4 yX4_sentWith yX4_sentWith, Cond.code yX4_sentWith cX4_sentWith 2 (some .int), Cond.fieldLink RX4 9 "CosetGauges$Tally" "sentByVerdict" "[I"]
def wsX5_digest : List Cond := .code yX5_digest cX5_digest 4 (some .long) :: ((wsX5_digest_r1 ++ (wsX5_digest_r2 ++ (wsX5_digest_r3 ++ (wsX5_digest_r4 ++ (wsX5_digest_r5 ++ wsX5_digest_r6))))) ++ wsX50 ++ wsX30 ++ wsX00 ++ wsX10 ++ wsX40)
def wsX6_init : List Cond := .code yX6_init cX6_init 1 none :: ([.methodLink RX6 1 objectInit, .instanceMethod objectInit, .code objectInit ⟨#[0xb1]⟩ 1 none, .arrayClass .int, .fieldLink RX6 7 "CosetGaugesModel" "page" "[I", .fieldLink RX6 13 "CosetGaugesModel" "rowOf" "[I", .fieldLink RX6 16 "CosetGaugesModel" "seedNow" "I", .fieldLink RX6 20 "CosetGaugesModel" "verdicts" "[I", .fieldLink RX6 23 "CosetGaugesModel" "newRow" "[I", .fieldLink RX6 26 "CosetGaugesModel" "syndromeOf" "[I", .fieldLink RX6 29 "CosetGaugesModel" "leaderOf" "[I"] ++ wsX60)
def wsX6_within : List Cond := .code yX6_within cX6_within 3 (some .boolean) :: ([])
def wsX6_ones : List Cond := .code yX6_ones cX6_ones 3 (some .int) :: ([])
def wsX6_letter : List Cond := .code yX6_letter cX6_letter 2 (some .int) :: ([.fieldLink RX6 36 "CosetGaugesModel" "pageLength" "I", .fieldLink RX6 7 "CosetGaugesModel" "page" "[I", .methodLink RX6 32 yX6_within, .static yX6_within, .initialized RX6, .code yX6_within cX6_within 3 (some .boolean)] ++ wsX60)
def wsX6_blank : List Cond := .code yX6_blank cX6_blank 2 (some .int) :: ([.fieldLink RX6 36 "CosetGaugesModel" "pageLength" "I"] ++ wsX60)
def wsX6_takes : List Cond := .code yX6_takes cX6_takes 3 (some .boolean) :: ([.fieldLink RX6 39 "CosetGaugesModel" "newRows" "I", .fieldLink RX6 42 "CosetGaugesModel" "newLength" "I", .fieldLink RX6 45 "CosetGaugesModel" "signs" "I", .fieldLink RX6 23 "CosetGaugesModel" "newRow" "[I"] ++ wsX60)
def wsX6_goAlong : List Cond := .code yX6_goAlong cX6_goAlong 2 (some .int) :: ([.fieldLink RX6 39 "CosetGaugesModel" "newRows" "I", .fieldLink RX6 45 "CosetGaugesModel" "signs" "I", .fieldLink RX6 42 "CosetGaugesModel" "newLength" "I", .fieldLink RX6 36 "CosetGaugesModel" "pageLength" "I", .fieldLink RX6 7 "CosetGaugesModel" "page" "[I", .methodLink RX6 48 yX6_takes, .instanceMethod yX6_takes, .selects RX6 yX6_takes yX6_takes, .initialized RX6, .code yX6_takes cX6_takes 3 (some .boolean), .fieldLink RX6 23 "CosetGaugesModel" "newRow" "[I"] ++ wsX60)
def wsX6_fault : List Cond := .code yX6_fault cX6_fault 1 (some .int) :: ([.methodLink RX6 52 yX6_goAlong, .instanceMethod yX6_goAlong, .selects RX6 yX6_goAlong yX6_goAlong, .initialized RX6, .code yX6_goAlong cX6_goAlong 2 (some .int), .fieldLink RX6 39 "CosetGaugesModel" "newRows" "I", .fieldLink RX6 45 "CosetGaugesModel" "signs" "I", .fieldLink RX6 42 "CosetGaugesModel" "newLength" "I", .fieldLink RX6 36 "CosetGaugesModel" "pageLength" "I", .fieldLink RX6 7 "CosetGaugesModel" "page" "[I", .methodLink RX6 48 yX6_takes, .instanceMethod yX6_takes, .selects RX6 yX6_takes yX6_takes, .code yX6_takes cX6_takes 3 (some .boolean), .fieldLink RX6 23 "CosetGaugesModel" "newRow" "[I"] ++ wsX60)
def wsX6_words : List Cond := .code yX6_words cX6_words 1 (some .int) :: ([.fieldLink RX6 59 "CosetGaugesModel" "length" "I"] ++ wsX60)
def wsX6_syndromeBy : List Cond := .code yX6_syndromeBy cX6_syndromeBy 4 (some .int) :: ([.fieldLink RX6 56 "CosetGaugesModel" "rows" "I", .fieldLink RX6 13 "CosetGaugesModel" "rowOf" "[I", .methodLink RX6 68 yX6_ones, .static yX6_ones, .initialized RX6, .code yX6_ones cX6_ones 3 (some .int)] ++ wsX60)
def wsX6_distanceNow : List Cond := .code yX6_distanceNow cX6_distanceNow 3 (some .int) :: ([.methodLink RX6 72 yX6_words, .instanceMethod yX6_words, .selects RX6 yX6_words yX6_words, .initialized RX6, .code yX6_words cX6_words 1 (some .int), .fieldLink RX6 59 "CosetGaugesModel" "length" "I", .methodLink RX6 75 yX6_syndromeBy, .instanceMethod yX6_syndromeBy, .selects RX6 yX6_syndromeBy yX6_syndromeBy, .code yX6_syndromeBy cX6_syndromeBy 4 (some .int), .fieldLink RX6 56 "CosetGaugesModel" "rows" "I", .fieldLink RX6 13 "CosetGaugesModel" "rowOf" "[I", .methodLink RX6 68 yX6_ones, .static yX6_ones, .code yX6_ones cX6_ones 3 (some .int)] ++ wsX60)
def wsX6_isSole : List Cond := .code yX6_isSole cX6_isSole 4 (some .boolean) :: ([.fieldLink RX6 26 "CosetGaugesModel" "syndromeOf" "[I", .methodLink RX6 72 yX6_words, .instanceMethod yX6_words, .selects RX6 yX6_words yX6_words, .initialized RX6, .code yX6_words cX6_words 1 (some .int), .fieldLink RX6 59 "CosetGaugesModel" "length" "I", .methodLink RX6 68 yX6_ones, .static yX6_ones, .code yX6_ones cX6_ones 3 (some .int)] ++ wsX60)
def wsX6_layReach : List Cond := .code yX6_layReach cX6_layReach 2 none :: ([.fieldLink RX6 59 "CosetGaugesModel" "length" "I", .fieldLink RX6 90 "CosetGaugesModel" "sure" "I", .fieldLink RX6 93 "CosetGaugesModel" "radius" "I", .fieldLink RX6 29 "CosetGaugesModel" "leaderOf" "[I", .fieldLink RX6 26 "CosetGaugesModel" "syndromeOf" "[I", .methodLink RX6 72 yX6_words, .instanceMethod yX6_words, .selects RX6 yX6_words yX6_words, .initialized RX6, .code yX6_words cX6_words 1 (some .int), .methodLink RX6 68 yX6_ones, .static yX6_ones, .code yX6_ones cX6_ones 3 (some .int), .methodLink RX6 96 yX6_isSole, .instanceMethod yX6_isSole, .selects RX6 yX6_isSole yX6_isSole, .code yX6_isSole cX6_isSole 4 (some .boolean)] ++ wsX60)
def wsX6_layAll_r1 : List Cond := [Cond.fieldLink RX6 29 "CosetGaugesModel" "leaderOf" "[I", Cond.fieldLink RX6 26 "CosetGaugesModel" "syndromeOf" "[I", Cond.fieldLink RX6 78 "CosetGaugesModel" "rank" "I", Cond.fieldLink RX6 84 "CosetGaugesModel" "distance" "I", Cond.methodLink RX6 72 yX6_words, Cond.instanceMethod yX6_words, Cond.selects RX6 yX6_words yX6_words, Cond.initialized RX6, Cond.code yX6_words cX6_words 1 (some .int), Cond.fieldLink RX6 59 "CosetGaugesModel" "length" "I", Cond.methodLink RX6 75 yX6_syndromeBy, Cond.instanceMethod yX6_syndromeBy, Cond.selects RX6 yX6_syndromeBy yX6_syndromeBy, Cond.code yX6_syndromeBy cX6_syndromeBy 4 (some .int), Cond.fieldLink RX6 56 "CosetGaugesModel" "rows" "I", Cond.fieldLink RX6 13 "CosetGaugesModel" "rowOf" "[I", Cond.methodLink RX6 68 yX6_ones, Cond.static yX6_ones, Cond.code yX6_ones cX6_ones 3 (some .int), Cond.methodLink RX6 81 yX6_distanceNow, Cond.instanceMethod yX6_distanceNow, Cond.selects RX6 yX6_distanceNow yX6_distanceNow, Cond.code yX6_distanceNow cX6_distanceNow 3 (some .int), Cond.methodLink RX6 87 yX6_layReach]
def wsX6_layAll_r2 : List Cond := [Cond.instanceMethod yX6_layReach, Cond.selects RX6 yX6_layReach yX6_layReach, Cond.code yX6_layReach cX6_layReach 2 none, Cond.fieldLink RX6 90 "CosetGaugesModel" "sure" "I", Cond.fieldLink RX6 93 "CosetGaugesModel" "radius" "I", Cond.methodLink RX6 96 yX6_isSole, Cond.instanceMethod yX6_isSole, Cond.selects RX6 yX6_isSole yX6_isSole, Cond.code yX6_isSole cX6_isSole 4 (some .boolean)]
def wsX6_layAll : List Cond := .code yX6_layAll cX6_layAll 4 none :: ((wsX6_layAll_r1 ++ wsX6_layAll_r2) ++ wsX60)
def wsX6_sums_r1 : List Cond := [Cond.fieldLink RX6 36 "CosetGaugesModel" "pageLength" "I", Cond.fieldLink RX6 42 "CosetGaugesModel" "newLength" "I", Cond.fieldLink RX6 45 "CosetGaugesModel" "signs" "I", Cond.fieldLink RX6 39 "CosetGaugesModel" "newRows" "I", Cond.fieldLink RX6 56 "CosetGaugesModel" "rows" "I", Cond.fieldLink RX6 59 "CosetGaugesModel" "length" "I", Cond.fieldLink RX6 13 "CosetGaugesModel" "rowOf" "[I", Cond.fieldLink RX6 23 "CosetGaugesModel" "newRow" "[I", Cond.fieldLink RX6 62 "CosetGaugesModel" "sumsRead" "I", Cond.methodLink RX6 52 yX6_goAlong, Cond.instanceMethod yX6_goAlong, Cond.selects RX6 yX6_goAlong yX6_goAlong, Cond.initialized RX6, Cond.code yX6_goAlong cX6_goAlong 2 (some .int), Cond.fieldLink RX6 7 "CosetGaugesModel" "page" "[I", Cond.methodLink RX6 48 yX6_takes, Cond.instanceMethod yX6_takes, Cond.selects RX6 yX6_takes yX6_takes, Cond.code yX6_takes cX6_takes 3 (some .boolean), Cond.methodLink RX6 65 yX6_layAll, Cond.instanceMethod yX6_layAll, Cond.selects RX6 yX6_layAll yX6_layAll, Cond.code yX6_layAll cX6_layAll 4 none, Cond.fieldLink RX6 29 "CosetGaugesModel" "leaderOf" "[I"]
def wsX6_sums_r2 : List Cond := [Cond.fieldLink RX6 26 "CosetGaugesModel" "syndromeOf" "[I", Cond.fieldLink RX6 78 "CosetGaugesModel" "rank" "I", Cond.fieldLink RX6 84 "CosetGaugesModel" "distance" "I", Cond.methodLink RX6 72 yX6_words, Cond.instanceMethod yX6_words, Cond.selects RX6 yX6_words yX6_words, Cond.code yX6_words cX6_words 1 (some .int), Cond.methodLink RX6 75 yX6_syndromeBy, Cond.instanceMethod yX6_syndromeBy, Cond.selects RX6 yX6_syndromeBy yX6_syndromeBy, Cond.code yX6_syndromeBy cX6_syndromeBy 4 (some .int), Cond.methodLink RX6 68 yX6_ones, Cond.static yX6_ones, Cond.code yX6_ones cX6_ones 3 (some .int), Cond.methodLink RX6 81 yX6_distanceNow, Cond.instanceMethod yX6_distanceNow, Cond.selects RX6 yX6_distanceNow yX6_distanceNow, Cond.code yX6_distanceNow cX6_distanceNow 3 (some .int), Cond.methodLink RX6 87 yX6_layReach, Cond.instanceMethod yX6_layReach, Cond.selects RX6 yX6_layReach yX6_layReach, Cond.code yX6_layReach cX6_layReach 2 none, Cond.fieldLink RX6 90 "CosetGaugesModel" "sure" "I", Cond.fieldLink RX6 93 "CosetGaugesModel" "radius" "I"]
def wsX6_sums_r3 : List Cond := [Cond.methodLink RX6 96 yX6_isSole, Cond.instanceMethod yX6_isSole, Cond.selects RX6 yX6_isSole yX6_isSole, Cond.code yX6_isSole cX6_isSole 4 (some .boolean)]
def wsX6_sums : List Cond := .code yX6_sums cX6_sums 2 (some .int) :: ((wsX6_sums_r1 ++ (wsX6_sums_r2 ++ wsX6_sums_r3)) ++ wsX60)
def wsX6_codeNow : List Cond := .code yX6_codeNow cX6_codeNow 2 (some .int) :: ([.fieldLink RX6 59 "CosetGaugesModel" "length" "I", .fieldLink RX6 56 "CosetGaugesModel" "rows" "I", .fieldLink RX6 78 "CosetGaugesModel" "rank" "I", .fieldLink RX6 84 "CosetGaugesModel" "distance" "I", .fieldLink RX6 90 "CosetGaugesModel" "sure" "I", .fieldLink RX6 93 "CosetGaugesModel" "radius" "I"] ++ wsX60)
def wsX6_isThere : List Cond := .code yX6_isThere cX6_isThere 1 (some .boolean) :: ([.fieldLink RX6 56 "CosetGaugesModel" "rows" "I"] ++ wsX60)
def wsX6_isWord : List Cond := .code yX6_isWord cX6_isWord 2 (some .boolean) :: ([.methodLink RX6 72 yX6_words, .instanceMethod yX6_words, .selects RX6 yX6_words yX6_words, .initialized RX6, .code yX6_words cX6_words 1 (some .int), .fieldLink RX6 59 "CosetGaugesModel" "length" "I", .methodLink RX6 32 yX6_within, .static yX6_within, .code yX6_within cX6_within 3 (some .boolean)] ++ wsX60)
def wsX6_code : List Cond := .code yX6_code cX6_code 2 (some .int) :: ([.methodLink RX6 32 yX6_within, .static yX6_within, .initialized RX6, .code yX6_within cX6_within 3 (some .boolean), .methodLink RX6 99 yX6_isThere, .instanceMethod yX6_isThere, .selects RX6 yX6_isThere yX6_isThere, .code yX6_isThere cX6_isThere 1 (some .boolean), .fieldLink RX6 56 "CosetGaugesModel" "rows" "I", .methodLink RX6 103 yX6_codeNow, .instanceMethod yX6_codeNow, .selects RX6 yX6_codeNow yX6_codeNow, .code yX6_codeNow cX6_codeNow 2 (some .int), .fieldLink RX6 59 "CosetGaugesModel" "length" "I", .fieldLink RX6 78 "CosetGaugesModel" "rank" "I", .fieldLink RX6 84 "CosetGaugesModel" "distance" "I", .fieldLink RX6 90 "CosetGaugesModel" "sure" "I", .fieldLink RX6 93 "CosetGaugesModel" "radius" "I"] ++ wsX60)
def wsX6_row : List Cond := .code yX6_row cX6_row 2 (some .int) :: ([.fieldLink RX6 56 "CosetGaugesModel" "rows" "I", .fieldLink RX6 13 "CosetGaugesModel" "rowOf" "[I", .methodLink RX6 99 yX6_isThere, .instanceMethod yX6_isThere, .selects RX6 yX6_isThere yX6_isThere, .initialized RX6, .code yX6_isThere cX6_isThere 1 (some .boolean), .methodLink RX6 32 yX6_within, .static yX6_within, .code yX6_within cX6_within 3 (some .boolean)] ++ wsX60)
def wsX6_syndrome : List Cond := .code yX6_syndrome cX6_syndrome 2 (some .int) :: ([.fieldLink RX6 26 "CosetGaugesModel" "syndromeOf" "[I", .methodLink RX6 99 yX6_isThere, .instanceMethod yX6_isThere, .selects RX6 yX6_isThere yX6_isThere, .initialized RX6, .code yX6_isThere cX6_isThere 1 (some .boolean), .fieldLink RX6 56 "CosetGaugesModel" "rows" "I", .methodLink RX6 106 yX6_isWord, .instanceMethod yX6_isWord, .selects RX6 yX6_isWord yX6_isWord, .code yX6_isWord cX6_isWord 2 (some .boolean), .methodLink RX6 72 yX6_words, .instanceMethod yX6_words, .selects RX6 yX6_words yX6_words, .code yX6_words cX6_words 1 (some .int), .fieldLink RX6 59 "CosetGaugesModel" "length" "I", .methodLink RX6 32 yX6_within, .static yX6_within, .code yX6_within cX6_within 3 (some .boolean)] ++ wsX60)
def wsX6_isSyndrome : List Cond := .code yX6_isSyndrome cX6_isSyndrome 2 (some .boolean) :: ([.fieldLink RX6 56 "CosetGaugesModel" "rows" "I", .methodLink RX6 32 yX6_within, .static yX6_within, .initialized RX6, .code yX6_within cX6_within 3 (some .boolean)] ++ wsX60)
def wsX6_leader : List Cond := .code yX6_leader cX6_leader 2 (some .int) :: ([.fieldLink RX6 29 "CosetGaugesModel" "leaderOf" "[I", .methodLink RX6 99 yX6_isThere, .instanceMethod yX6_isThere, .selects RX6 yX6_isThere yX6_isThere, .initialized RX6, .code yX6_isThere cX6_isThere 1 (some .boolean), .fieldLink RX6 56 "CosetGaugesModel" "rows" "I", .methodLink RX6 109 yX6_isSyndrome, .instanceMethod yX6_isSyndrome, .selects RX6 yX6_isSyndrome yX6_isSyndrome, .code yX6_isSyndrome cX6_isSyndrome 2 (some .boolean), .methodLink RX6 32 yX6_within, .static yX6_within, .code yX6_within cX6_within 3 (some .boolean)] ++ wsX60)
def wsX6_cosetNow : List Cond := .code yX6_cosetNow cX6_cosetNow 5 (some .int) :: ([.fieldLink RX6 26 "CosetGaugesModel" "syndromeOf" "[I", .methodLink RX6 72 yX6_words, .instanceMethod yX6_words, .selects RX6 yX6_words yX6_words, .initialized RX6, .code yX6_words cX6_words 1 (some .int), .fieldLink RX6 59 "CosetGaugesModel" "length" "I"] ++ wsX60)
def wsX6_coset : List Cond := .code yX6_coset cX6_coset 3 (some .int) :: ([.methodLink RX6 99 yX6_isThere, .instanceMethod yX6_isThere, .selects RX6 yX6_isThere yX6_isThere, .initialized RX6, .code yX6_isThere cX6_isThere 1 (some .boolean), .fieldLink RX6 56 "CosetGaugesModel" "rows" "I", .methodLink RX6 109 yX6_isSyndrome, .instanceMethod yX6_isSyndrome, .selects RX6 yX6_isSyndrome yX6_isSyndrome, .code yX6_isSyndrome cX6_isSyndrome 2 (some .boolean), .methodLink RX6 32 yX6_within, .static yX6_within, .code yX6_within cX6_within 3 (some .boolean), .methodLink RX6 112 yX6_cosetNow, .instanceMethod yX6_cosetNow, .selects RX6 yX6_cosetNow yX6_cosetNow, .code yX6_cosetNow cX6_cosetNow 5 (some .int), .fieldLink RX6 26 "CosetGaugesModel" "syndromeOf" "[I", .methodLink RX6 72 yX6_words, .instanceMethod yX6_words, .selects RX6 yX6_words yX6_words, .code yX6_words cX6_words 1 (some .int), .fieldLink RX6 59 "CosetGaugesModel" "length" "I"] ++ wsX60)
def wsX6_leadersNow : List Cond := .code yX6_leadersNow cX6_leadersNow 4 (some .int) :: ([.fieldLink RX6 29 "CosetGaugesModel" "leaderOf" "[I", .methodLink RX6 68 yX6_ones, .static yX6_ones, .initialized RX6, .code yX6_ones cX6_ones 3 (some .int)] ++ wsX60)
def wsX6_leaders : List Cond := .code yX6_leaders cX6_leaders 2 (some .int) :: ([.fieldLink RX6 59 "CosetGaugesModel" "length" "I", .methodLink RX6 99 yX6_isThere, .instanceMethod yX6_isThere, .selects RX6 yX6_isThere yX6_isThere, .initialized RX6, .code yX6_isThere cX6_isThere 1 (some .boolean), .fieldLink RX6 56 "CosetGaugesModel" "rows" "I", .methodLink RX6 32 yX6_within, .static yX6_within, .code yX6_within cX6_within 3 (some .boolean), .methodLink RX6 116 yX6_leadersNow, .instanceMethod yX6_leadersNow, .selects RX6 yX6_leadersNow yX6_leadersNow, .code yX6_leadersNow cX6_leadersNow 4 (some .int), .fieldLink RX6 29 "CosetGaugesModel" "leaderOf" "[I", .methodLink RX6 68 yX6_ones, .static yX6_ones, .code yX6_ones cX6_ones 3 (some .int)] ++ wsX60)
def wsX6_counted : List Cond := .code yX6_counted cX6_counted 2 (some .int) :: ([.fieldLink RX6 59 "CosetGaugesModel" "length" "I"] ++ wsX60)
def wsX6_betterNow : List Cond := .code yX6_betterNow cX6_betterNow 5 (some .int) :: ([.fieldLink RX6 13 "CosetGaugesModel" "rowOf" "[I", .fieldLink RX6 84 "CosetGaugesModel" "distance" "I", .methodLink RX6 81 yX6_distanceNow, .instanceMethod yX6_distanceNow, .selects RX6 yX6_distanceNow yX6_distanceNow, .initialized RX6, .code yX6_distanceNow cX6_distanceNow 3 (some .int), .methodLink RX6 72 yX6_words, .instanceMethod yX6_words, .selects RX6 yX6_words yX6_words, .code yX6_words cX6_words 1 (some .int), .fieldLink RX6 59 "CosetGaugesModel" "length" "I", .methodLink RX6 75 yX6_syndromeBy, .instanceMethod yX6_syndromeBy, .selects RX6 yX6_syndromeBy yX6_syndromeBy, .code yX6_syndromeBy cX6_syndromeBy 4 (some .int), .fieldLink RX6 56 "CosetGaugesModel" "rows" "I", .methodLink RX6 68 yX6_ones, .static yX6_ones, .code yX6_ones cX6_ones 3 (some .int), .methodLink RX6 119 yX6_counted, .instanceMethod yX6_counted, .selects RX6 yX6_counted yX6_counted, .code yX6_counted cX6_counted 2 (some .int)] ++ wsX60)
def wsX6_better_r1 : List Cond := [Cond.fieldLink RX6 56 "CosetGaugesModel" "rows" "I", Cond.methodLink RX6 99 yX6_isThere, Cond.instanceMethod yX6_isThere, Cond.selects RX6 yX6_isThere yX6_isThere, Cond.initialized RX6, Cond.code yX6_isThere cX6_isThere 1 (some .boolean), Cond.methodLink RX6 32 yX6_within, Cond.static yX6_within, Cond.code yX6_within cX6_within 3 (some .boolean), Cond.methodLink RX6 106 yX6_isWord, Cond.instanceMethod yX6_isWord, Cond.selects RX6 yX6_isWord yX6_isWord, Cond.code yX6_isWord cX6_isWord 2 (some .boolean), Cond.methodLink RX6 72 yX6_words, Cond.instanceMethod yX6_words, Cond.selects RX6 yX6_words yX6_words, Cond.code yX6_words cX6_words 1 (some .int), Cond.fieldLink RX6 59 "CosetGaugesModel" "length" "I", Cond.methodLink RX6 122 yX6_betterNow, Cond.instanceMethod yX6_betterNow, Cond.selects RX6 yX6_betterNow yX6_betterNow, Cond.code yX6_betterNow cX6_betterNow 5 (some .int), Cond.fieldLink RX6 13 "CosetGaugesModel" "rowOf" "[I", Cond.fieldLink RX6 84 "CosetGaugesModel" "distance" "I"]
def wsX6_better_r2 : List Cond := [Cond.methodLink RX6 81 yX6_distanceNow, Cond.instanceMethod yX6_distanceNow, Cond.selects RX6 yX6_distanceNow yX6_distanceNow, Cond.code yX6_distanceNow cX6_distanceNow 3 (some .int), Cond.methodLink RX6 75 yX6_syndromeBy, Cond.instanceMethod yX6_syndromeBy, Cond.selects RX6 yX6_syndromeBy yX6_syndromeBy, Cond.code yX6_syndromeBy cX6_syndromeBy 4 (some .int), Cond.methodLink RX6 68 yX6_ones, Cond.static yX6_ones, Cond.code yX6_ones cX6_ones 3 (some .int), Cond.methodLink RX6 119 yX6_counted, Cond.instanceMethod yX6_counted, Cond.selects RX6 yX6_counted yX6_counted, Cond.code yX6_counted cX6_counted 2 (some .int)]
def wsX6_better : List Cond := .code yX6_better cX6_better 3 (some .int) :: ((wsX6_better_r1 ++ wsX6_better_r2) ++ wsX60)
def wsX6_flipsOf : List Cond := .code yX6_flipsOf cX6_flipsOf 3 (some .int) :: ([.fieldLink RX6 29 "CosetGaugesModel" "leaderOf" "[I", .fieldLink RX6 26 "CosetGaugesModel" "syndromeOf" "[I"] ++ wsX60)
def wsX6_verdictOf : List Cond := .code yX6_verdictOf cX6_verdictOf 6 (some .int) :: ([.fieldLink RX6 90 "CosetGaugesModel" "sure" "I", .methodLink RX6 125 yX6_flipsOf, .instanceMethod yX6_flipsOf, .selects RX6 yX6_flipsOf yX6_flipsOf, .initialized RX6, .code yX6_flipsOf cX6_flipsOf 3 (some .int), .fieldLink RX6 29 "CosetGaugesModel" "leaderOf" "[I", .fieldLink RX6 26 "CosetGaugesModel" "syndromeOf" "[I", .methodLink RX6 68 yX6_ones, .static yX6_ones, .code yX6_ones cX6_ones 3 (some .int)] ++ wsX60)
def wsX6_sendNow : List Cond := .code yX6_sendNow cX6_sendNow 4 (some .int) :: ([.fieldLink RX6 20 "CosetGaugesModel" "verdicts" "[I", .fieldLink RX6 131 "CosetGaugesModel" "bitsSent" "I", .fieldLink RX6 59 "CosetGaugesModel" "length" "I", .fieldLink RX6 78 "CosetGaugesModel" "rank" "I", .fieldLink RX6 134 "CosetGaugesModel" "bitsPlain" "I", .methodLink RX6 128 yX6_verdictOf, .instanceMethod yX6_verdictOf, .selects RX6 yX6_verdictOf yX6_verdictOf, .initialized RX6, .code yX6_verdictOf cX6_verdictOf 6 (some .int), .fieldLink RX6 90 "CosetGaugesModel" "sure" "I", .methodLink RX6 125 yX6_flipsOf, .instanceMethod yX6_flipsOf, .selects RX6 yX6_flipsOf yX6_flipsOf, .code yX6_flipsOf cX6_flipsOf 3 (some .int), .fieldLink RX6 29 "CosetGaugesModel" "leaderOf" "[I", .fieldLink RX6 26 "CosetGaugesModel" "syndromeOf" "[I", .methodLink RX6 68 yX6_ones, .static yX6_ones, .code yX6_ones cX6_ones 3 (some .int)] ++ wsX60)
def wsX6_send_r1 : List Cond := [Cond.methodLink RX6 99 yX6_isThere, Cond.instanceMethod yX6_isThere, Cond.selects RX6 yX6_isThere yX6_isThere, Cond.initialized RX6, Cond.code yX6_isThere cX6_isThere 1 (some .boolean), Cond.fieldLink RX6 56 "CosetGaugesModel" "rows" "I", Cond.methodLink RX6 106 yX6_isWord, Cond.instanceMethod yX6_isWord, Cond.selects RX6 yX6_isWord yX6_isWord, Cond.code yX6_isWord cX6_isWord 2 (some .boolean), Cond.methodLink RX6 72 yX6_words, Cond.instanceMethod yX6_words, Cond.selects RX6 yX6_words yX6_words, Cond.code yX6_words cX6_words 1 (some .int), Cond.fieldLink RX6 59 "CosetGaugesModel" "length" "I", Cond.methodLink RX6 32 yX6_within, Cond.static yX6_within, Cond.code yX6_within cX6_within 3 (some .boolean), Cond.methodLink RX6 137 yX6_sendNow, Cond.instanceMethod yX6_sendNow, Cond.selects RX6 yX6_sendNow yX6_sendNow, Cond.code yX6_sendNow cX6_sendNow 4 (some .int), Cond.fieldLink RX6 20 "CosetGaugesModel" "verdicts" "[I", Cond.fieldLink RX6 131 "CosetGaugesModel" "bitsSent" "I"]
def wsX6_send_r2 : List Cond := [Cond.fieldLink RX6 78 "CosetGaugesModel" "rank" "I", Cond.fieldLink RX6 134 "CosetGaugesModel" "bitsPlain" "I", Cond.methodLink RX6 128 yX6_verdictOf, Cond.instanceMethod yX6_verdictOf, Cond.selects RX6 yX6_verdictOf yX6_verdictOf, Cond.code yX6_verdictOf cX6_verdictOf 6 (some .int), Cond.fieldLink RX6 90 "CosetGaugesModel" "sure" "I", Cond.methodLink RX6 125 yX6_flipsOf, Cond.instanceMethod yX6_flipsOf, Cond.selects RX6 yX6_flipsOf yX6_flipsOf, Cond.code yX6_flipsOf cX6_flipsOf 3 (some .int), Cond.fieldLink RX6 29 "CosetGaugesModel" "leaderOf" "[I", Cond.fieldLink RX6 26 "CosetGaugesModel" "syndromeOf" "[I", Cond.methodLink RX6 68 yX6_ones, Cond.static yX6_ones, Cond.code yX6_ones cX6_ones 3 (some .int)]
def wsX6_send : List Cond := .code yX6_send cX6_send 3 (some .int) :: ((wsX6_send_r1 ++ wsX6_send_r2) ++ wsX60)
def wsX6_plain_r1 : List Cond := [Cond.methodLink RX6 99 yX6_isThere, Cond.instanceMethod yX6_isThere, Cond.selects RX6 yX6_isThere yX6_isThere, Cond.initialized RX6, Cond.code yX6_isThere cX6_isThere 1 (some .boolean), Cond.fieldLink RX6 56 "CosetGaugesModel" "rows" "I", Cond.methodLink RX6 106 yX6_isWord, Cond.instanceMethod yX6_isWord, Cond.selects RX6 yX6_isWord yX6_isWord, Cond.code yX6_isWord cX6_isWord 2 (some .boolean), Cond.methodLink RX6 72 yX6_words, Cond.instanceMethod yX6_words, Cond.selects RX6 yX6_words yX6_words, Cond.code yX6_words cX6_words 1 (some .int), Cond.fieldLink RX6 59 "CosetGaugesModel" "length" "I", Cond.methodLink RX6 32 yX6_within, Cond.static yX6_within, Cond.code yX6_within cX6_within 3 (some .boolean), Cond.methodLink RX6 128 yX6_verdictOf, Cond.instanceMethod yX6_verdictOf, Cond.selects RX6 yX6_verdictOf yX6_verdictOf, Cond.code yX6_verdictOf cX6_verdictOf 6 (some .int), Cond.fieldLink RX6 90 "CosetGaugesModel" "sure" "I", Cond.methodLink RX6 125 yX6_flipsOf]
def wsX6_plain_r2 : List Cond := [Cond.instanceMethod yX6_flipsOf, Cond.selects RX6 yX6_flipsOf yX6_flipsOf, Cond.code yX6_flipsOf cX6_flipsOf 3 (some .int), Cond.fieldLink RX6 29 "CosetGaugesModel" "leaderOf" "[I", Cond.fieldLink RX6 26 "CosetGaugesModel" "syndromeOf" "[I", Cond.methodLink RX6 68 yX6_ones, Cond.static yX6_ones, Cond.code yX6_ones cX6_ones 3 (some .int)]
def wsX6_plain : List Cond := .code yX6_plain cX6_plain 4 (some .int) :: ((wsX6_plain_r1 ++ wsX6_plain_r2) ++ wsX60)
def wsX6_isEnough : List Cond := .code yX6_isEnough cX6_isEnough 4 (some .boolean) :: ([.fieldLink RX6 26 "CosetGaugesModel" "syndromeOf" "[I", .methodLink RX6 72 yX6_words, .instanceMethod yX6_words, .selects RX6 yX6_words yX6_words, .initialized RX6, .code yX6_words cX6_words 1 (some .int), .fieldLink RX6 59 "CosetGaugesModel" "length" "I"] ++ wsX60)
def wsX6_areSets : List Cond := .code yX6_areSets cX6_areSets 3 (some .boolean) :: ([.methodLink RX6 106 yX6_isWord, .instanceMethod yX6_isWord, .selects RX6 yX6_isWord yX6_isWord, .initialized RX6, .code yX6_isWord cX6_isWord 2 (some .boolean), .methodLink RX6 72 yX6_words, .instanceMethod yX6_words, .selects RX6 yX6_words yX6_words, .code yX6_words cX6_words 1 (some .int), .fieldLink RX6 59 "CosetGaugesModel" "length" "I", .methodLink RX6 32 yX6_within, .static yX6_within, .code yX6_within cX6_within 3 (some .boolean)] ++ wsX60)
def wsX6_share_r1 : List Cond := [Cond.fieldLink RX6 78 "CosetGaugesModel" "rank" "I", Cond.methodLink RX6 99 yX6_isThere, Cond.instanceMethod yX6_isThere, Cond.selects RX6 yX6_isThere yX6_isThere, Cond.initialized RX6, Cond.code yX6_isThere cX6_isThere 1 (some .boolean), Cond.fieldLink RX6 56 "CosetGaugesModel" "rows" "I", Cond.methodLink RX6 140 yX6_areSets, Cond.instanceMethod yX6_areSets, Cond.selects RX6 yX6_areSets yX6_areSets, Cond.code yX6_areSets cX6_areSets 3 (some .boolean), Cond.methodLink RX6 106 yX6_isWord, Cond.instanceMethod yX6_isWord, Cond.selects RX6 yX6_isWord yX6_isWord, Cond.code yX6_isWord cX6_isWord 2 (some .boolean), Cond.methodLink RX6 72 yX6_words, Cond.instanceMethod yX6_words, Cond.selects RX6 yX6_words yX6_words, Cond.code yX6_words cX6_words 1 (some .int), Cond.fieldLink RX6 59 "CosetGaugesModel" "length" "I", Cond.methodLink RX6 32 yX6_within, Cond.static yX6_within, Cond.code yX6_within cX6_within 3 (some .boolean), Cond.methodLink RX6 68 yX6_ones]
def wsX6_share_r2 : List Cond := [Cond.static yX6_ones, Cond.code yX6_ones cX6_ones 3 (some .int), Cond.methodLink RX6 144 yX6_isEnough, Cond.instanceMethod yX6_isEnough, Cond.selects RX6 yX6_isEnough yX6_isEnough, Cond.code yX6_isEnough cX6_isEnough 4 (some .boolean), Cond.fieldLink RX6 26 "CosetGaugesModel" "syndromeOf" "[I"]
def wsX6_share : List Cond := .code yX6_share cX6_share 4 (some .int) :: ((wsX6_share_r1 ++ wsX6_share_r2) ++ wsX60)
def wsX6_sharedNow : List Cond := .code yX6_sharedNow cX6_sharedNow 10 (some .int) :: ([.fieldLink RX6 26 "CosetGaugesModel" "syndromeOf" "[I", .methodLink RX6 144 yX6_isEnough, .instanceMethod yX6_isEnough, .selects RX6 yX6_isEnough yX6_isEnough, .initialized RX6, .code yX6_isEnough cX6_isEnough 4 (some .boolean), .methodLink RX6 72 yX6_words, .instanceMethod yX6_words, .selects RX6 yX6_words yX6_words, .code yX6_words cX6_words 1 (some .int), .fieldLink RX6 59 "CosetGaugesModel" "length" "I", .methodLink RX6 125 yX6_flipsOf, .instanceMethod yX6_flipsOf, .selects RX6 yX6_flipsOf yX6_flipsOf, .code yX6_flipsOf cX6_flipsOf 3 (some .int), .fieldLink RX6 29 "CosetGaugesModel" "leaderOf" "[I"] ++ wsX60)
def wsX6_shared_r1 : List Cond := [Cond.methodLink RX6 99 yX6_isThere, Cond.instanceMethod yX6_isThere, Cond.selects RX6 yX6_isThere yX6_isThere, Cond.initialized RX6, Cond.code yX6_isThere cX6_isThere 1 (some .boolean), Cond.fieldLink RX6 56 "CosetGaugesModel" "rows" "I", Cond.methodLink RX6 140 yX6_areSets, Cond.instanceMethod yX6_areSets, Cond.selects RX6 yX6_areSets yX6_areSets, Cond.code yX6_areSets cX6_areSets 3 (some .boolean), Cond.methodLink RX6 106 yX6_isWord, Cond.instanceMethod yX6_isWord, Cond.selects RX6 yX6_isWord yX6_isWord, Cond.code yX6_isWord cX6_isWord 2 (some .boolean), Cond.methodLink RX6 72 yX6_words, Cond.instanceMethod yX6_words, Cond.selects RX6 yX6_words yX6_words, Cond.code yX6_words cX6_words 1 (some .int), Cond.fieldLink RX6 59 "CosetGaugesModel" "length" "I", Cond.methodLink RX6 32 yX6_within, Cond.static yX6_within, Cond.code yX6_within cX6_within 3 (some .boolean), Cond.methodLink RX6 147 yX6_sharedNow, Cond.instanceMethod yX6_sharedNow]
def wsX6_shared_r2 : List Cond := [Cond.selects RX6 yX6_sharedNow yX6_sharedNow, Cond.code yX6_sharedNow cX6_sharedNow 10 (some .int), Cond.fieldLink RX6 26 "CosetGaugesModel" "syndromeOf" "[I", Cond.methodLink RX6 144 yX6_isEnough, Cond.instanceMethod yX6_isEnough, Cond.selects RX6 yX6_isEnough yX6_isEnough, Cond.code yX6_isEnough cX6_isEnough 4 (some .boolean), Cond.methodLink RX6 125 yX6_flipsOf, Cond.instanceMethod yX6_flipsOf, Cond.selects RX6 yX6_flipsOf yX6_flipsOf, Cond.code yX6_flipsOf cX6_flipsOf 3 (some .int), Cond.fieldLink RX6 29 "CosetGaugesModel" "leaderOf" "[I"]
def wsX6_shared : List Cond := .code yX6_shared cX6_shared 6 (some .int) :: ((wsX6_shared_r1 ++ wsX6_shared_r2) ++ wsX60)
def wsX6_draw : List Cond := .code yX6_draw cX6_draw 4 (some .int) :: ([.constantLong RX6 151 (1103515245), .fieldLink RX6 16 "CosetGaugesModel" "seedNow" "I", .constantLong RX6 153 (12345), .constantLong RX6 155 (2147483648), .constantLong RX6 157 (65536)] ++ wsX60)
def wsX6_runNow_r1 : List Cond := [Cond.fieldLink RX6 16 "CosetGaugesModel" "seedNow" "I", Cond.fieldLink RX6 59 "CosetGaugesModel" "length" "I", Cond.methodLink RX6 72 yX6_words, Cond.instanceMethod yX6_words, Cond.selects RX6 yX6_words yX6_words, Cond.initialized RX6, Cond.code yX6_words cX6_words 1 (some .int), Cond.methodLink RX6 159 yX6_draw, Cond.instanceMethod yX6_draw, Cond.selects RX6 yX6_draw yX6_draw, Cond.code yX6_draw cX6_draw 4 (some .int), Cond.constantLong RX6 151 (1103515245), Cond.constantLong RX6 153 (12345), Cond.constantLong RX6 155 (2147483648), Cond.constantLong RX6 157 (65536), Cond.methodLink RX6 137 yX6_sendNow, Cond.instanceMethod yX6_sendNow, Cond.selects RX6 yX6_sendNow yX6_sendNow, Cond.code yX6_sendNow cX6_sendNow 4 (some .int), Cond.fieldLink RX6 20 "CosetGaugesModel" "verdicts" "[I", Cond.fieldLink RX6 131 "CosetGaugesModel" "bitsSent" "I", Cond.fieldLink RX6 78 "CosetGaugesModel" "rank" "I", Cond.fieldLink RX6 134 "CosetGaugesModel" "bitsPlain" "I", Cond.methodLink RX6 128 yX6_verdictOf]
def wsX6_runNow_r2 : List Cond := [Cond.instanceMethod yX6_verdictOf, Cond.selects RX6 yX6_verdictOf yX6_verdictOf, Cond.code yX6_verdictOf cX6_verdictOf 6 (some .int), Cond.fieldLink RX6 90 "CosetGaugesModel" "sure" "I", Cond.methodLink RX6 125 yX6_flipsOf, Cond.instanceMethod yX6_flipsOf, Cond.selects RX6 yX6_flipsOf yX6_flipsOf, Cond.code yX6_flipsOf cX6_flipsOf 3 (some .int), Cond.fieldLink RX6 29 "CosetGaugesModel" "leaderOf" "[I", Cond.fieldLink RX6 26 "CosetGaugesModel" "syndromeOf" "[I", Cond.methodLink RX6 68 yX6_ones, Cond.static yX6_ones, Cond.code yX6_ones cX6_ones 3 (some .int)]
def wsX6_runNow : List Cond := .code yX6_runNow cX6_runNow 9 (some .int) :: ((wsX6_runNow_r1 ++ wsX6_runNow_r2) ++ wsX60)
def wsX6_run_r1 : List Cond := [Cond.methodLink RX6 99 yX6_isThere, Cond.instanceMethod yX6_isThere, Cond.selects RX6 yX6_isThere yX6_isThere, Cond.initialized RX6, Cond.code yX6_isThere cX6_isThere 1 (some .boolean), Cond.fieldLink RX6 56 "CosetGaugesModel" "rows" "I", Cond.methodLink RX6 32 yX6_within, Cond.static yX6_within, Cond.code yX6_within cX6_within 3 (some .boolean), Cond.methodLink RX6 162 yX6_runNow, Cond.instanceMethod yX6_runNow, Cond.selects RX6 yX6_runNow yX6_runNow, Cond.code yX6_runNow cX6_runNow 9 (some .int), Cond.fieldLink RX6 16 "CosetGaugesModel" "seedNow" "I", Cond.fieldLink RX6 59 "CosetGaugesModel" "length" "I", Cond.methodLink RX6 72 yX6_words, Cond.instanceMethod yX6_words, Cond.selects RX6 yX6_words yX6_words, Cond.code yX6_words cX6_words 1 (some .int), Cond.methodLink RX6 159 yX6_draw, Cond.instanceMethod yX6_draw, Cond.selects RX6 yX6_draw yX6_draw, Cond.code yX6_draw cX6_draw 4 (some .int), Cond.constantLong RX6 151 (1103515245)]
def wsX6_run_r2 : List Cond := [Cond.constantLong RX6 153 (12345), Cond.constantLong RX6 155 (2147483648), Cond.constantLong RX6 157 (65536), Cond.methodLink RX6 137 yX6_sendNow, Cond.instanceMethod yX6_sendNow, Cond.selects RX6 yX6_sendNow yX6_sendNow, Cond.code yX6_sendNow cX6_sendNow 4 (some .int), Cond.fieldLink RX6 20 "CosetGaugesModel" "verdicts" "[I", Cond.fieldLink RX6 131 "CosetGaugesModel" "bitsSent" "I", Cond.fieldLink RX6 78 "CosetGaugesModel" "rank" "I", Cond.fieldLink RX6 134 "CosetGaugesModel" "bitsPlain" "I", Cond.methodLink RX6 128 yX6_verdictOf, Cond.instanceMethod yX6_verdictOf, Cond.selects RX6 yX6_verdictOf yX6_verdictOf, Cond.code yX6_verdictOf cX6_verdictOf 6 (some .int), Cond.fieldLink RX6 90 "CosetGaugesModel" "sure" "I", Cond.methodLink RX6 125 yX6_flipsOf, Cond.instanceMethod yX6_flipsOf, Cond.selects RX6 yX6_flipsOf yX6_flipsOf, Cond.code yX6_flipsOf cX6_flipsOf 3 (some .int), Cond.fieldLink RX6 29 "CosetGaugesModel" "leaderOf" "[I", Cond.fieldLink RX6 26 "CosetGaugesModel" "syndromeOf" "[I", Cond.methodLink RX6 68 yX6_ones, Cond.static yX6_ones]
def wsX6_run_r3 : List Cond := [Cond.code yX6_ones cX6_ones 3 (some .int)]
def wsX6_run : List Cond := .code yX6_run cX6_run 4 (some .int) :: ((wsX6_run_r1 ++ (wsX6_run_r2 ++ wsX6_run_r3)) ++ wsX60)
def wsX6_seed : List Cond := .code yX6_seed cX6_seed 1 (some .int) :: ([.fieldLink RX6 16 "CosetGaugesModel" "seedNow" "I"] ++ wsX60)
def wsX6_howMany : List Cond := .code yX6_howMany cX6_howMany 2 (some .int) :: ([.fieldLink RX6 36 "CosetGaugesModel" "pageLength" "I", .fieldLink RX6 20 "CosetGaugesModel" "verdicts" "[I", .fieldLink RX6 131 "CosetGaugesModel" "bitsSent" "I", .fieldLink RX6 134 "CosetGaugesModel" "bitsPlain" "I", .fieldLink RX6 62 "CosetGaugesModel" "sumsRead" "I"] ++ wsX60)
def wsX6_count : List Cond := .code yX6_count cX6_count 2 (some .int) :: ([.methodLink RX6 166 yX6_howMany, .instanceMethod yX6_howMany, .selects RX6 yX6_howMany yX6_howMany, .initialized RX6, .code yX6_howMany cX6_howMany 2 (some .int), .fieldLink RX6 36 "CosetGaugesModel" "pageLength" "I", .fieldLink RX6 20 "CosetGaugesModel" "verdicts" "[I", .fieldLink RX6 131 "CosetGaugesModel" "bitsSent" "I", .fieldLink RX6 134 "CosetGaugesModel" "bitsPlain" "I", .fieldLink RX6 62 "CosetGaugesModel" "sumsRead" "I"] ++ wsX60)
def wsX6_mix : List Cond := .code yX6_mix cX6_mix 3 none :: ([.constantLong RX6 169 (31), .fieldLink RX6 171 "CosetGaugesModel" "h" "J"] ++ wsX60)
def wsX6_mixSums_r1 : List Cond := [Cond.fieldLink RX6 56 "CosetGaugesModel" "rows" "I", Cond.fieldLink RX6 13 "CosetGaugesModel" "rowOf" "[I", Cond.fieldLink RX6 29 "CosetGaugesModel" "leaderOf" "[I", Cond.fieldLink RX6 59 "CosetGaugesModel" "length" "I", Cond.methodLink RX6 103 yX6_codeNow, Cond.instanceMethod yX6_codeNow, Cond.selects RX6 yX6_codeNow yX6_codeNow, Cond.initialized RX6, Cond.code yX6_codeNow cX6_codeNow 2 (some .int), Cond.fieldLink RX6 78 "CosetGaugesModel" "rank" "I", Cond.fieldLink RX6 84 "CosetGaugesModel" "distance" "I", Cond.fieldLink RX6 90 "CosetGaugesModel" "sure" "I", Cond.fieldLink RX6 93 "CosetGaugesModel" "radius" "I", Cond.methodLink RX6 175 yX6_mix, Cond.instanceMethod yX6_mix, Cond.selects RX6 yX6_mix yX6_mix, Cond.code yX6_mix cX6_mix 3 none, Cond.constantLong RX6 169 (31), Cond.fieldLink RX6 171 "CosetGaugesModel" "h" "J", Cond.methodLink RX6 116 yX6_leadersNow, Cond.instanceMethod yX6_leadersNow, Cond.selects RX6 yX6_leadersNow yX6_leadersNow, Cond.code yX6_leadersNow cX6_leadersNow 4 (some .int), Cond.methodLink RX6 68 yX6_ones]
def wsX6_mixSums_r2 : List Cond := [Cond.static yX6_ones, Cond.code yX6_ones cX6_ones 3 (some .int)]
def wsX6_mixSums : List Cond := .code yX6_mixSums cX6_mixSums 2 none :: ((wsX6_mixSums_r1 ++ wsX6_mixSums_r2) ++ wsX60)
def wsX6_digest_r1 : List Cond := [Cond.constantLong RX6 179 (1667), Cond.fieldLink RX6 171 "CosetGaugesModel" "h" "J", Cond.fieldLink RX6 16 "CosetGaugesModel" "seedNow" "I", Cond.fieldLink RX6 36 "CosetGaugesModel" "pageLength" "I", Cond.fieldLink RX6 7 "CosetGaugesModel" "page" "[I", Cond.methodLink RX6 99 yX6_isThere, Cond.instanceMethod yX6_isThere, Cond.selects RX6 yX6_isThere yX6_isThere, Cond.initialized RX6, Cond.code yX6_isThere cX6_isThere 1 (some .boolean), Cond.fieldLink RX6 56 "CosetGaugesModel" "rows" "I", Cond.methodLink RX6 181 yX6_mixSums, Cond.instanceMethod yX6_mixSums, Cond.selects RX6 yX6_mixSums yX6_mixSums, Cond.code yX6_mixSums cX6_mixSums 2 none, Cond.fieldLink RX6 13 "CosetGaugesModel" "rowOf" "[I", Cond.fieldLink RX6 29 "CosetGaugesModel" "leaderOf" "[I", Cond.fieldLink RX6 59 "CosetGaugesModel" "length" "I", Cond.methodLink RX6 103 yX6_codeNow, Cond.instanceMethod yX6_codeNow, Cond.selects RX6 yX6_codeNow yX6_codeNow, Cond.code yX6_codeNow cX6_codeNow 2 (some .int), Cond.fieldLink RX6 78 "CosetGaugesModel" "rank" "I", Cond.fieldLink RX6 84 "CosetGaugesModel" "distance" "I"]
def wsX6_digest_r2 : List Cond := [Cond.fieldLink RX6 90 "CosetGaugesModel" "sure" "I", Cond.fieldLink RX6 93 "CosetGaugesModel" "radius" "I", Cond.methodLink RX6 175 yX6_mix, Cond.instanceMethod yX6_mix, Cond.selects RX6 yX6_mix yX6_mix, Cond.code yX6_mix cX6_mix 3 none, Cond.constantLong RX6 169 (31), Cond.methodLink RX6 116 yX6_leadersNow, Cond.instanceMethod yX6_leadersNow, Cond.selects RX6 yX6_leadersNow yX6_leadersNow, Cond.code yX6_leadersNow cX6_leadersNow 4 (some .int), Cond.methodLink RX6 68 yX6_ones, Cond.static yX6_ones, Cond.code yX6_ones cX6_ones 3 (some .int), Cond.methodLink RX6 166 yX6_howMany, Cond.instanceMethod yX6_howMany, Cond.selects RX6 yX6_howMany yX6_howMany, Cond.code yX6_howMany cX6_howMany 2 (some .int), Cond.fieldLink RX6 20 "CosetGaugesModel" "verdicts" "[I", Cond.fieldLink RX6 131 "CosetGaugesModel" "bitsSent" "I", Cond.fieldLink RX6 134 "CosetGaugesModel" "bitsPlain" "I", Cond.fieldLink RX6 62 "CosetGaugesModel" "sumsRead" "I"]
def wsX6_digest : List Cond := .code yX6_digest cX6_digest 2 (some .long) :: ((wsX6_digest_r1 ++ wsX6_digest_r2) ++ wsX60)
def wsJ9_max_7cf53 : List Cond := .code yJ9_max_7cf53 cJ9_max_7cf53 2 (some .int) :: ([])
def wsL_law_r1 : List Cond := [Cond.classLink RL 7 RX5, Cond.instantiable RX5 5, Cond.initialized RX5, Cond.classLink RL 10 RX6, Cond.instantiable RX6 21, Cond.initialized RX6, Cond.methodLink RL 9 yX5_init, Cond.instanceMethod yX5_init, Cond.code yX5_init cX5_init 1 none, Cond.methodLink RX5 1 objectInit, Cond.instanceMethod objectInit, Cond.code objectInit ⟨#[0xb1]⟩ 1 none, Cond.classLink RX5 7 RX1, Cond.instantiable RX1 2, Cond.initialized RX1, Cond.fieldLink RX5 10 "CosetGauges" "page" "LCosetGauges$Page;", Cond.classLink RX5 16 RX2, Cond.instantiable RX2 4, Cond.initialized RX2, Cond.fieldLink RX5 19 "CosetGauges" "reader" "LCosetGauges$Reader;", Cond.classLink RX5 23 RX3, Cond.instantiable RX3 9, Cond.initialized RX3, Cond.fieldLink RX5 26 "CosetGauges" "current" "LCosetGauges$Sums;"]
def wsL_law_r2 : List Cond := [Cond.classLink RX5 30 RX4, Cond.instantiable RX4 4, Cond.initialized RX4, Cond.fieldLink RX5 33 "CosetGauges" "tally" "LCosetGauges$Tally;", Cond.classLink RX5 37 RX0, Cond.instantiable RX0 1, Cond.initialized RX0, Cond.fieldLink RX5 40 "CosetGauges" "draws" "LCosetGauges$Draws;", Cond.methodLink RX5 9 yX1_init, Cond.instanceMethod yX1_init, Cond.code yX1_init cX1_init 1 none, Cond.methodLink RX1 3 objectInit, Cond.arrayClass .int, Cond.fieldLink RX1 9 "CosetGauges$Page" "letters" "[I", Cond.fieldLink RX1 15 "CosetGauges$Page" "size" "I", Cond.methodLink RX5 18 yX2_init, Cond.instanceMethod yX2_init, Cond.code yX2_init cX2_init 1 none, Cond.methodLink RX2 3 objectInit, Cond.fieldLink RX2 9 "CosetGauges$Reader" "rows" "[I", Cond.fieldLink RX2 15 "CosetGauges$Reader" "row" "I", Cond.fieldLink RX2 19 "CosetGauges$Reader" "signs" "I", Cond.fieldLink RX2 22 "CosetGauges$Reader" "length" "I", Cond.methodLink RX5 25 yX3_init]
def wsL_law_r3 : List Cond := [Cond.instanceMethod yX3_init, Cond.code yX3_init cX3_init 1 none, Cond.methodLink RX3 3 objectInit, Cond.fieldLink RX3 9 "CosetGauges$Sums" "rows" "[I", Cond.fieldLink RX3 15 "CosetGauges$Sums" "leaderBySyndrome" "[I", Cond.fieldLink RX3 18 "CosetGauges$Sums" "leadersByWeight" "[I", Cond.fieldLink RX3 21 "CosetGauges$Sums" "rowCount" "I", Cond.fieldLink RX3 25 "CosetGauges$Sums" "length" "I", Cond.fieldLink RX3 28 "CosetGauges$Sums" "rank" "I", Cond.fieldLink RX3 31 "CosetGauges$Sums" "distance" "I", Cond.fieldLink RX3 34 "CosetGauges$Sums" "sure" "I", Cond.fieldLink RX3 37 "CosetGauges$Sums" "radius" "I", Cond.methodLink RX5 32 yX4_init, Cond.instanceMethod yX4_init, Cond.code yX4_init cX4_init 1 none, Cond.methodLink RX4 3 objectInit, Cond.fieldLink RX4 9 "CosetGauges$Tally" "sentByVerdict" "[I", Cond.fieldLink RX4 15 "CosetGauges$Tally" "bitsSent" "I", Cond.fieldLink RX4 19 "CosetGauges$Tally" "bitsSentByBothPlainly" "I", Cond.fieldLink RX4 22 "CosetGauges$Tally" "timesSumsRead" "I", Cond.methodLink RX5 39 yX0_init, Cond.instanceMethod yX0_init, Cond.code yX0_init cX0_init 1 none, Cond.methodLink RX0 1 objectInit]
def wsL_law_r4 : List Cond := [Cond.fieldLink RX0 7 "CosetGauges$Draws" "seed" "I", Cond.methodLink RL 12 yX6_init, Cond.instanceMethod yX6_init, Cond.code yX6_init cX6_init 1 none, Cond.methodLink RX6 1 objectInit, Cond.fieldLink RX6 7 "CosetGaugesModel" "page" "[I", Cond.fieldLink RX6 13 "CosetGaugesModel" "rowOf" "[I", Cond.fieldLink RX6 16 "CosetGaugesModel" "seedNow" "I", Cond.fieldLink RX6 20 "CosetGaugesModel" "verdicts" "[I", Cond.fieldLink RX6 23 "CosetGaugesModel" "newRow" "[I", Cond.fieldLink RX6 26 "CosetGaugesModel" "syndromeOf" "[I", Cond.fieldLink RX6 29 "CosetGaugesModel" "leaderOf" "[I", Cond.methodLink RL 13 yX5_letter, Cond.instanceMethod yX5_letter, Cond.selects RX5 yX5_letter yX5_letter, Cond.code yX5_letter cX5_letter 2 (some .int), Cond.methodLink RX5 44 yX1_append, Cond.instanceMethod yX1_append, Cond.selects RX1 yX1_append yX1_append, Cond.code yX1_append cX1_append 2 (some .boolean), Cond.methodLink RX5 48 yX1_size, Cond.instanceMethod yX1_size, Cond.selects RX1 yX1_size yX1_size, Cond.code yX1_size cX1_size 1 (some .int)]
def wsL_law_r5 : List Cond := [Cond.methodLink RL 17 yX6_letter, Cond.instanceMethod yX6_letter, Cond.selects RX6 yX6_letter yX6_letter, Cond.code yX6_letter cX6_letter 2 (some .int), Cond.fieldLink RX6 36 "CosetGaugesModel" "pageLength" "I", Cond.methodLink RX6 32 yX6_within, Cond.static yX6_within, Cond.code yX6_within cX6_within 3 (some .boolean), Cond.methodLink RL 18 yX5_blank, Cond.instanceMethod yX5_blank, Cond.selects RX5 yX5_blank yX5_blank, Cond.code yX5_blank cX5_blank 2 (some .int), Cond.methodLink RX5 52 yX1_clear, Cond.instanceMethod yX1_clear, Cond.selects RX1 yX1_clear yX1_clear, Cond.code yX1_clear cX1_clear 1 none, Cond.methodLink RL 22 yX6_blank, Cond.instanceMethod yX6_blank, Cond.selects RX6 yX6_blank yX6_blank, Cond.code yX6_blank cX6_blank 2 (some .int), Cond.methodLink RL 23 yX5_fault, Cond.instanceMethod yX5_fault, Cond.selects RX5 yX5_fault yX5_fault, Cond.code yX5_fault cX5_fault 1 (some .int)]
def wsL_law_r6 : List Cond := [Cond.methodLink RX5 55 yX2_readAsFarAsItGoes, Cond.instanceMethod yX2_readAsFarAsItGoes, Cond.selects RX2 yX2_readAsFarAsItGoes yX2_readAsFarAsItGoes, Cond.code yX2_readAsFarAsItGoes cX2_readAsFarAsItGoes 3 (some .int), Cond.methodLink RX2 25 yX2_start, Cond.instanceMethod yX2_start, Cond.selects RX2 yX2_start yX2_start, Cond.code yX2_start cX2_start 2 none, Cond.methodLink RX2 28 yX1_size, Cond.methodLink RX2 34 yX1_letterAt, Cond.instanceMethod yX1_letterAt, Cond.selects RX1 yX1_letterAt yX1_letterAt, Cond.code yX1_letterAt cX1_letterAt 2 (some .int), Cond.methodLink RX2 38 yX2_takes, Cond.instanceMethod yX2_takes, Cond.selects RX2 yX2_takes yX2_takes, Cond.code yX2_takes cX2_takes 2 (some .boolean), Cond.methodLink RX2 42 yX2_takesEndOfRow, Cond.instanceMethod yX2_takesEndOfRow, Cond.selects RX2 yX2_takesEndOfRow yX2_takesEndOfRow, Cond.code yX2_takesEndOfRow cX2_takesEndOfRow 1 (some .boolean), Cond.methodLink RX2 49 yX2_rowIsWhole, Cond.instanceMethod yX2_rowIsWhole, Cond.selects RX2 yX2_rowIsWhole yX2_rowIsWhole]
def wsL_law_r7 : List Cond := [Cond.code yX2_rowIsWhole cX2_rowIsWhole 1 (some .boolean), Cond.methodLink RX2 46 yX2_takesSign, Cond.instanceMethod yX2_takesSign, Cond.selects RX2 yX2_takesSign yX2_takesSign, Cond.code yX2_takesSign cX2_takesSign 3 (some .boolean), Cond.methodLink RL 26 yX6_fault, Cond.instanceMethod yX6_fault, Cond.selects RX6 yX6_fault yX6_fault, Cond.code yX6_fault cX6_fault 1 (some .int), Cond.methodLink RX6 52 yX6_goAlong, Cond.instanceMethod yX6_goAlong, Cond.selects RX6 yX6_goAlong yX6_goAlong, Cond.code yX6_goAlong cX6_goAlong 2 (some .int), Cond.fieldLink RX6 39 "CosetGaugesModel" "newRows" "I", Cond.fieldLink RX6 45 "CosetGaugesModel" "signs" "I", Cond.fieldLink RX6 42 "CosetGaugesModel" "newLength" "I", Cond.methodLink RX6 48 yX6_takes, Cond.instanceMethod yX6_takes, Cond.selects RX6 yX6_takes yX6_takes, Cond.code yX6_takes cX6_takes 3 (some .boolean), Cond.methodLink RL 27 yX5_sums, Cond.instanceMethod yX5_sums, Cond.selects RX5 yX5_sums yX5_sums, Cond.code yX5_sums cX5_sums 1 (some .int)]
def wsL_law_r8 : List Cond := [Cond.methodLink RX5 59 yX2_rowIsWhole, Cond.methodLink RX5 63 yX3_become, Cond.instanceMethod yX3_become, Cond.selects RX3 yX3_become yX3_become, Cond.code yX3_become cX3_become 3 none, Cond.methodLink RX3 40 yX2_rowsRead, Cond.instanceMethod yX2_rowsRead, Cond.selects RX2 yX2_rowsRead yX2_rowsRead, Cond.code yX2_rowsRead cX2_rowsRead 1 (some .int), Cond.methodLink RX3 46 yX2_signsOfRow, Cond.instanceMethod yX2_signsOfRow, Cond.selects RX2 yX2_signsOfRow yX2_signsOfRow, Cond.code yX2_signsOfRow cX2_signsOfRow 1 (some .int), Cond.methodLink RX3 49 yX2_rowAt, Cond.instanceMethod yX2_rowAt, Cond.selects RX2 yX2_rowAt yX2_rowAt, Cond.code yX2_rowAt cX2_rowAt 2 (some .int), Cond.methodLink RX3 53 yX3_findLeaders, Cond.instanceMethod yX3_findLeaders, Cond.selects RX3 yX3_findLeaders yX3_findLeaders, Cond.code yX3_findLeaders cX3_findLeaders 4 none, Cond.methodLink RX3 62 yX3_words, Cond.instanceMethod yX3_words, Cond.selects RX3 yX3_words yX3_words]
def wsL_law_r9 : List Cond := [Cond.code yX3_words cX3_words 1 (some .int), Cond.methodLink RX3 65 yX3_syndromeOf, Cond.instanceMethod yX3_syndromeOf, Cond.selects RX3 yX3_syndromeOf yX3_syndromeOf, Cond.code yX3_syndromeOf cX3_syndromeOf 4 (some .int), Cond.methodLink RX3 79 yJ6_bitCount_0f7a4, Cond.static yJ6_bitCount_0f7a4, Cond.initialized RJ6, Cond.code yJ6_bitCount_0f7a4 cJ6_bitCount_0f7a4 1 (some .int), Cond.constant RJ6 265 (1431655765), Cond.constant RJ6 266 (858993459), Cond.constant RJ6 267 (252645135), Cond.methodLink RX3 68 yX3_isSyndrome, Cond.instanceMethod yX3_isSyndrome, Cond.selects RX3 yX3_isSyndrome yX3_isSyndrome, Cond.code yX3_isSyndrome cX3_isSyndrome 2 (some .boolean), Cond.methodLink RX3 90 yX3_syndromes, Cond.instanceMethod yX3_syndromes, Cond.selects RX3 yX3_syndromes yX3_syndromes, Cond.code yX3_syndromes cX3_syndromes 1 (some .int), Cond.methodLink RX3 72 yX3_leaderOf, Cond.instanceMethod yX3_leaderOf, Cond.selects RX3 yX3_leaderOf yX3_leaderOf, Cond.code yX3_leaderOf cX3_leaderOf 2 (some .int)]
def wsL_law_r10 : List Cond := [Cond.methodLink RX3 75 yX3_isNearer, Cond.static yX3_isNearer, Cond.code yX3_isNearer cX3_isNearer 2 (some .boolean), Cond.methodLink RX3 56 yX3_countLeaders, Cond.instanceMethod yX3_countLeaders, Cond.selects RX3 yX3_countLeaders yX3_countLeaders, Cond.code yX3_countLeaders cX3_countLeaders 4 none, Cond.methodLink RX3 84 Lib.Math.max.name, Cond.static Lib.Math.max.name, Cond.initialized "java/lang/Math", Cond.code Lib.Math.max.name Lib.Math.max.code 2 (some .int), Cond.methodLink RX3 59 yX3_leastWeightWithoutSyndrome, Cond.instanceMethod yX3_leastWeightWithoutSyndrome, Cond.selects RX3 yX3_leastWeightWithoutSyndrome yX3_leastWeightWithoutSyndrome, Cond.code yX3_leastWeightWithoutSyndrome cX3_leastWeightWithoutSyndrome 5 (some .int), Cond.methodLink RX5 67 yX4_sumsRead, Cond.instanceMethod yX4_sumsRead, Cond.selects RX4 yX4_sumsRead yX4_sumsRead, Cond.code yX4_sumsRead cX4_sumsRead 1 none, Cond.methodLink RX5 70 yX3_length, Cond.instanceMethod yX3_length, Cond.selects RX3 yX3_length yX3_length, Cond.code yX3_length cX3_length 1 (some .int), Cond.methodLink RL 30 yX6_sums]
def wsL_law_r11 : List Cond := [Cond.instanceMethod yX6_sums, Cond.selects RX6 yX6_sums yX6_sums, Cond.code yX6_sums cX6_sums 2 (some .int), Cond.fieldLink RX6 56 "CosetGaugesModel" "rows" "I", Cond.fieldLink RX6 59 "CosetGaugesModel" "length" "I", Cond.fieldLink RX6 62 "CosetGaugesModel" "sumsRead" "I", Cond.methodLink RX6 65 yX6_layAll, Cond.instanceMethod yX6_layAll, Cond.selects RX6 yX6_layAll yX6_layAll, Cond.code yX6_layAll cX6_layAll 4 none, Cond.fieldLink RX6 78 "CosetGaugesModel" "rank" "I", Cond.fieldLink RX6 84 "CosetGaugesModel" "distance" "I", Cond.methodLink RX6 72 yX6_words, Cond.instanceMethod yX6_words, Cond.selects RX6 yX6_words yX6_words, Cond.code yX6_words cX6_words 1 (some .int), Cond.methodLink RX6 75 yX6_syndromeBy, Cond.instanceMethod yX6_syndromeBy, Cond.selects RX6 yX6_syndromeBy yX6_syndromeBy, Cond.code yX6_syndromeBy cX6_syndromeBy 4 (some .int), Cond.methodLink RX6 68 yX6_ones, Cond.static yX6_ones, Cond.code yX6_ones cX6_ones 3 (some .int), Cond.methodLink RX6 81 yX6_distanceNow]
def wsL_law_r12 : List Cond := [Cond.instanceMethod yX6_distanceNow, Cond.selects RX6 yX6_distanceNow yX6_distanceNow, Cond.code yX6_distanceNow cX6_distanceNow 3 (some .int), Cond.methodLink RX6 87 yX6_layReach, Cond.instanceMethod yX6_layReach, Cond.selects RX6 yX6_layReach yX6_layReach, Cond.code yX6_layReach cX6_layReach 2 none, Cond.fieldLink RX6 90 "CosetGaugesModel" "sure" "I", Cond.fieldLink RX6 93 "CosetGaugesModel" "radius" "I", Cond.methodLink RX6 96 yX6_isSole, Cond.instanceMethod yX6_isSole, Cond.selects RX6 yX6_isSole yX6_isSole, Cond.code yX6_isSole cX6_isSole 4 (some .boolean), Cond.methodLink RL 31 yX5_code, Cond.instanceMethod yX5_code, Cond.selects RX5 yX5_code yX5_code, Cond.code yX5_code cX5_code 2 (some .int), Cond.methodLink RX5 73 yX3_areThere, Cond.instanceMethod yX3_areThere, Cond.selects RX3 yX3_areThere yX3_areThere, Cond.code yX3_areThere cX3_areThere 1 (some .boolean), Cond.methodLink RX5 76 yX3_rowCount, Cond.instanceMethod yX3_rowCount, Cond.selects RX3 yX3_rowCount yX3_rowCount]
def wsL_law_r13 : List Cond := [Cond.code yX3_rowCount cX3_rowCount 1 (some .int), Cond.methodLink RX5 79 yX3_rank, Cond.instanceMethod yX3_rank, Cond.selects RX3 yX3_rank yX3_rank, Cond.code yX3_rank cX3_rank 1 (some .int), Cond.methodLink RX5 82 yX3_distanceOrNone, Cond.instanceMethod yX3_distanceOrNone, Cond.selects RX3 yX3_distanceOrNone yX3_distanceOrNone, Cond.code yX3_distanceOrNone cX3_distanceOrNone 1 (some .int), Cond.methodLink RX5 85 yX3_sure, Cond.instanceMethod yX3_sure, Cond.selects RX3 yX3_sure yX3_sure, Cond.code yX3_sure cX3_sure 1 (some .int), Cond.methodLink RX5 88 yX3_radius, Cond.instanceMethod yX3_radius, Cond.selects RX3 yX3_radius yX3_radius, Cond.code yX3_radius cX3_radius 1 (some .int), Cond.methodLink RL 34 yX6_code, Cond.instanceMethod yX6_code, Cond.selects RX6 yX6_code yX6_code, Cond.code yX6_code cX6_code 2 (some .int), Cond.methodLink RX6 99 yX6_isThere, Cond.instanceMethod yX6_isThere, Cond.selects RX6 yX6_isThere yX6_isThere]
def wsL_law_r14 : List Cond := [Cond.code yX6_isThere cX6_isThere 1 (some .boolean), Cond.methodLink RX6 103 yX6_codeNow, Cond.instanceMethod yX6_codeNow, Cond.selects RX6 yX6_codeNow yX6_codeNow, Cond.code yX6_codeNow cX6_codeNow 2 (some .int), Cond.methodLink RL 35 yX5_row, Cond.instanceMethod yX5_row, Cond.selects RX5 yX5_row yX5_row, Cond.code yX5_row cX5_row 2 (some .int), Cond.methodLink RX5 91 yX3_isRow, Cond.instanceMethod yX3_isRow, Cond.selects RX3 yX3_isRow yX3_isRow, Cond.code yX3_isRow cX3_isRow 2 (some .boolean), Cond.methodLink RX5 94 yX3_rowAt, Cond.instanceMethod yX3_rowAt, Cond.selects RX3 yX3_rowAt yX3_rowAt, Cond.code yX3_rowAt cX3_rowAt 2 (some .int), Cond.methodLink RX3 96 yX3_isRow, Cond.methodLink RL 38 yX6_row, Cond.instanceMethod yX6_row, Cond.selects RX6 yX6_row yX6_row, Cond.code yX6_row cX6_row 2 (some .int), Cond.methodLink RL 39 yX5_syndrome, Cond.instanceMethod yX5_syndrome]
def wsL_law_r15 : List Cond := [Cond.selects RX5 yX5_syndrome yX5_syndrome, Cond.code yX5_syndrome cX5_syndrome 2 (some .int), Cond.methodLink RX5 98 yX3_isWord, Cond.instanceMethod yX3_isWord, Cond.selects RX3 yX3_isWord yX3_isWord, Cond.code yX3_isWord cX3_isWord 2 (some .boolean), Cond.methodLink RX5 101 yX3_syndromeOf, Cond.methodLink RL 42 yX6_syndrome, Cond.instanceMethod yX6_syndrome, Cond.selects RX6 yX6_syndrome yX6_syndrome, Cond.code yX6_syndrome cX6_syndrome 2 (some .int), Cond.methodLink RX6 106 yX6_isWord, Cond.instanceMethod yX6_isWord, Cond.selects RX6 yX6_isWord yX6_isWord, Cond.code yX6_isWord cX6_isWord 2 (some .boolean), Cond.methodLink RL 43 yX5_leader, Cond.instanceMethod yX5_leader, Cond.selects RX5 yX5_leader yX5_leader, Cond.code yX5_leader cX5_leader 2 (some .int), Cond.methodLink RX5 104 yX3_isSyndrome, Cond.methodLink RX5 107 yX3_leaderOf, Cond.methodLink RL 46 yX6_leader, Cond.instanceMethod yX6_leader, Cond.selects RX6 yX6_leader yX6_leader]
def wsL_law_r16 : List Cond := [Cond.code yX6_leader cX6_leader 2 (some .int), Cond.methodLink RX6 109 yX6_isSyndrome, Cond.instanceMethod yX6_isSyndrome, Cond.selects RX6 yX6_isSyndrome yX6_isSyndrome, Cond.code yX6_isSyndrome cX6_isSyndrome 2 (some .boolean), Cond.methodLink RL 47 yX5_coset, Cond.instanceMethod yX5_coset, Cond.selects RX5 yX5_coset yX5_coset, Cond.code yX5_coset cX5_coset 3 (some .int), Cond.methodLink RX5 110 yX3_wordOfCoset, Cond.instanceMethod yX3_wordOfCoset, Cond.selects RX3 yX3_wordOfCoset yX3_wordOfCoset, Cond.code yX3_wordOfCoset cX3_wordOfCoset 6 (some .int), Cond.methodLink RL 51 yX6_coset, Cond.instanceMethod yX6_coset, Cond.selects RX6 yX6_coset yX6_coset, Cond.code yX6_coset cX6_coset 3 (some .int), Cond.methodLink RX6 112 yX6_cosetNow, Cond.instanceMethod yX6_cosetNow, Cond.selects RX6 yX6_cosetNow yX6_cosetNow, Cond.code yX6_cosetNow cX6_cosetNow 5 (some .int), Cond.methodLink RL 52 yX5_leaders, Cond.instanceMethod yX5_leaders, Cond.selects RX5 yX5_leaders yX5_leaders]
def wsL_law_r17 : List Cond := [Cond.code yX5_leaders cX5_leaders 2 (some .int), Cond.methodLink RX5 114 yX3_isWeight, Cond.instanceMethod yX3_isWeight, Cond.selects RX3 yX3_isWeight yX3_isWeight, Cond.code yX3_isWeight cX3_isWeight 2 (some .boolean), Cond.methodLink RX5 117 yX3_leadersOfWeight, Cond.instanceMethod yX3_leadersOfWeight, Cond.selects RX3 yX3_leadersOfWeight yX3_leadersOfWeight, Cond.code yX3_leadersOfWeight cX3_leadersOfWeight 2 (some .int), Cond.methodLink RX3 99 yX3_isWeight, Cond.methodLink RL 55 yX6_leaders, Cond.instanceMethod yX6_leaders, Cond.selects RX6 yX6_leaders yX6_leaders, Cond.code yX6_leaders cX6_leaders 2 (some .int), Cond.methodLink RX6 116 yX6_leadersNow, Cond.instanceMethod yX6_leadersNow, Cond.selects RX6 yX6_leadersNow yX6_leadersNow, Cond.code yX6_leadersNow cX6_leadersNow 4 (some .int), Cond.methodLink RL 56 yX5_better, Cond.instanceMethod yX5_better, Cond.selects RX5 yX5_better yX5_better, Cond.code yX5_better cX5_better 3 (some .int), Cond.methodLink RX5 120 yX3_gainBy, Cond.instanceMethod yX3_gainBy]
def wsL_law_r18 : List Cond := [Cond.selects RX3 yX3_gainBy yX3_gainBy, Cond.code yX3_gainBy cX3_gainBy 5 (some .int), Cond.methodLink RL 59 yX6_better, Cond.instanceMethod yX6_better, Cond.selects RX6 yX6_better yX6_better, Cond.code yX6_better cX6_better 3 (some .int), Cond.methodLink RX6 122 yX6_betterNow, Cond.instanceMethod yX6_betterNow, Cond.selects RX6 yX6_betterNow yX6_betterNow, Cond.code yX6_betterNow cX6_betterNow 5 (some .int), Cond.methodLink RX6 119 yX6_counted, Cond.instanceMethod yX6_counted, Cond.selects RX6 yX6_counted yX6_counted, Cond.code yX6_counted cX6_counted 2 (some .int), Cond.methodLink RL 60 yX5_send, Cond.instanceMethod yX5_send, Cond.selects RX5 yX5_send yX5_send, Cond.code yX5_send cX5_send 3 (some .int), Cond.methodLink RX5 123 yX5_sendAndCount, Cond.instanceMethod yX5_sendAndCount, Cond.selects RX5 yX5_sendAndCount yX5_sendAndCount, Cond.code yX5_sendAndCount cX5_sendAndCount 4 (some .int), Cond.methodLink RX5 126 yX3_verdictOf, Cond.instanceMethod yX3_verdictOf]
def wsL_law_r19 : List Cond := [Cond.selects RX3 yX3_verdictOf yX3_verdictOf, Cond.code yX3_verdictOf cX3_verdictOf 5 (some .int), Cond.methodLink RX3 102 yX3_flipsOf, Cond.instanceMethod yX3_flipsOf, Cond.selects RX3 yX3_flipsOf yX3_flipsOf, Cond.code yX3_flipsOf cX3_flipsOf 3 (some .int), Cond.methodLink RX5 196 yX4_sentPlain, Cond.instanceMethod yX4_sentPlain, Cond.selects RX4 yX4_sentPlain yX4_sentPlain, Cond.code yX4_sentPlain cX4_sentPlain 4 none, Cond.methodLink RL 63 yX6_send, Cond.instanceMethod yX6_send, Cond.selects RX6 yX6_send yX6_send, Cond.code yX6_send cX6_send 3 (some .int), Cond.methodLink RX6 137 yX6_sendNow, Cond.instanceMethod yX6_sendNow, Cond.selects RX6 yX6_sendNow yX6_sendNow, Cond.code yX6_sendNow cX6_sendNow 4 (some .int), Cond.fieldLink RX6 131 "CosetGaugesModel" "bitsSent" "I", Cond.fieldLink RX6 134 "CosetGaugesModel" "bitsPlain" "I", Cond.methodLink RX6 128 yX6_verdictOf, Cond.instanceMethod yX6_verdictOf, Cond.selects RX6 yX6_verdictOf yX6_verdictOf, Cond.code yX6_verdictOf cX6_verdictOf 6 (some .int)]
def wsL_law_r20 : List Cond := [Cond.methodLink RX6 125 yX6_flipsOf, Cond.instanceMethod yX6_flipsOf, Cond.selects RX6 yX6_flipsOf yX6_flipsOf, Cond.code yX6_flipsOf cX6_flipsOf 3 (some .int), Cond.methodLink RL 64 yX5_plain, Cond.instanceMethod yX5_plain, Cond.selects RX5 yX5_plain yX5_plain, Cond.code yX5_plain cX5_plain 4 (some .int), Cond.methodLink RX5 129 yX3_flipsOf, Cond.methodLink RL 68 yX6_plain, Cond.instanceMethod yX6_plain, Cond.selects RX6 yX6_plain yX6_plain, Cond.code yX6_plain cX6_plain 4 (some .int), Cond.methodLink RL 69 yX5_share, Cond.instanceMethod yX5_share, Cond.selects RX5 yX5_share yX5_share, Cond.code yX5_share cX5_share 5 (some .int), Cond.methodLink RX5 132 yX3_areSharedSets, Cond.instanceMethod yX3_areSharedSets, Cond.selects RX3 yX3_areSharedSets yX3_areSharedSets, Cond.code yX3_areSharedSets cX3_areSharedSets 3 (some .boolean), Cond.methodLink RX3 93 yX3_isWord, Cond.methodLink RX5 136 yX3_isEnough, Cond.instanceMethod yX3_isEnough]
def wsL_law_r21 : List Cond := [Cond.selects RX3 yX3_isEnough yX3_isEnough, Cond.code yX3_isEnough cX3_isEnough 4 (some .boolean), Cond.methodLink RX5 139 yJ6_bitCount_0f7a4, Cond.methodLink RL 72 yX6_share, Cond.instanceMethod yX6_share, Cond.selects RX6 yX6_share yX6_share, Cond.code yX6_share cX6_share 4 (some .int), Cond.methodLink RX6 140 yX6_areSets, Cond.instanceMethod yX6_areSets, Cond.selects RX6 yX6_areSets yX6_areSets, Cond.code yX6_areSets cX6_areSets 3 (some .boolean), Cond.methodLink RX6 144 yX6_isEnough, Cond.instanceMethod yX6_isEnough, Cond.selects RX6 yX6_isEnough yX6_isEnough, Cond.code yX6_isEnough cX6_isEnough 4 (some .boolean), Cond.methodLink RL 73 yX5_shared, Cond.instanceMethod yX5_shared, Cond.selects RX5 yX5_shared yX5_shared, Cond.code yX5_shared cX5_shared 7 (some .int), Cond.methodLink RX5 144 yX3_firstOfShared, Cond.instanceMethod yX3_firstOfShared, Cond.selects RX3 yX3_firstOfShared yX3_firstOfShared, Cond.code yX3_firstOfShared cX3_firstOfShared 10 (some .int), Cond.methodLink RX3 105 yX3_isEnough]
def wsL_law_r22 : List Cond := [Cond.methodLink RL 77 yX6_shared, Cond.instanceMethod yX6_shared, Cond.selects RX6 yX6_shared yX6_shared, Cond.code yX6_shared cX6_shared 6 (some .int), Cond.methodLink RX6 147 yX6_sharedNow, Cond.instanceMethod yX6_sharedNow, Cond.selects RX6 yX6_sharedNow yX6_sharedNow, Cond.code yX6_sharedNow cX6_sharedNow 10 (some .int), Cond.methodLink RL 78 yX5_run, Cond.instanceMethod yX5_run, Cond.selects RX5 yX5_run yX5_run, Cond.code yX5_run cX5_run 8 (some .int), Cond.methodLink RX5 148 yX0_startFrom, Cond.instanceMethod yX0_startFrom, Cond.selects RX0 yX0_startFrom yX0_startFrom, Cond.code yX0_startFrom cX0_startFrom 2 none, Cond.methodLink RX5 152 yX0_next, Cond.instanceMethod yX0_next, Cond.selects RX0 yX0_next yX0_next, Cond.code yX0_next cX0_next 2 (some .int), Cond.constantLong RX0 13 (1103515245), Cond.constantLong RX0 15 (12345), Cond.constantLong RX0 17 (2147483647), Cond.methodLink RX5 155 yX5_drawUnlikePlaces]
def wsL_law_r23 : List Cond := [Cond.instanceMethod yX5_drawUnlikePlaces, Cond.selects RX5 yX5_drawUnlikePlaces yX5_drawUnlikePlaces, Cond.code yX5_drawUnlikePlaces cX5_drawUnlikePlaces 4 (some .int), Cond.methodLink RL 81 yX6_run, Cond.instanceMethod yX6_run, Cond.selects RX6 yX6_run yX6_run, Cond.code yX6_run cX6_run 4 (some .int), Cond.methodLink RX6 162 yX6_runNow, Cond.instanceMethod yX6_runNow, Cond.selects RX6 yX6_runNow yX6_runNow, Cond.code yX6_runNow cX6_runNow 9 (some .int), Cond.methodLink RX6 159 yX6_draw, Cond.instanceMethod yX6_draw, Cond.selects RX6 yX6_draw yX6_draw, Cond.code yX6_draw cX6_draw 4 (some .int), Cond.constantLong RX6 151 (1103515245), Cond.constantLong RX6 153 (12345), Cond.constantLong RX6 155 (2147483648), Cond.constantLong RX6 157 (65536), Cond.methodLink RL 82 yX5_seed, Cond.instanceMethod yX5_seed, Cond.selects RX5 yX5_seed yX5_seed, Cond.code yX5_seed cX5_seed 1 (some .int), Cond.methodLink RX5 158 yX0_last]
def wsL_law_r24 : List Cond := [Cond.instanceMethod yX0_last, Cond.selects RX0 yX0_last yX0_last, Cond.code yX0_last cX0_last 1 (some .int), Cond.methodLink RL 85 yX6_seed, Cond.instanceMethod yX6_seed, Cond.selects RX6 yX6_seed yX6_seed, Cond.code yX6_seed cX6_seed 1 (some .int), Cond.methodLink RL 86 yX5_count, Cond.instanceMethod yX5_count, Cond.selects RX5 yX5_count yX5_count, Cond.code yX5_count cX5_count 2 (some .int), Cond.methodLink RX5 161 yX4_bitsSent, Cond.instanceMethod yX4_bitsSent, Cond.selects RX4 yX4_bitsSent yX4_bitsSent, Cond.code yX4_bitsSent cX4_bitsSent 1 (some .int), Cond.methodLink RX5 164 yX4_bitsSentByBothPlainly, Cond.instanceMethod yX4_bitsSentByBothPlainly, Cond.selects RX4 yX4_bitsSentByBothPlainly yX4_bitsSentByBothPlainly, Cond.code yX4_bitsSentByBothPlainly cX4_bitsSentByBothPlainly 1 (some .int), Cond.methodLink RX5 167 yX4_timesSumsRead, Cond.instanceMethod yX4_timesSumsRead, Cond.selects RX4 yX4_timesSumsRead yX4_timesSumsRead, Cond.code yX4_timesSumsRead cX4_timesSumsRead 1 (some .int), Cond.methodLink RX5 170 yX4_sentWith]
def wsL_law_r25 : List Cond := [Cond.instanceMethod yX4_sentWith, Cond.selects RX4 yX4_sentWith yX4_sentWith, Cond.code yX4_sentWith cX4_sentWith 2 (some .int), Cond.methodLink RL 89 yX6_count, Cond.instanceMethod yX6_count, Cond.selects RX6 yX6_count yX6_count, Cond.code yX6_count cX6_count 2 (some .int), Cond.methodLink RX6 166 yX6_howMany, Cond.instanceMethod yX6_howMany, Cond.selects RX6 yX6_howMany yX6_howMany, Cond.code yX6_howMany cX6_howMany 2 (some .int), Cond.methodLink RL 90 yX5_digest, Cond.instanceMethod yX5_digest, Cond.selects RX5 yX5_digest yX5_digest, Cond.code yX5_digest cX5_digest 4 (some .long), Cond.constantLong RX5 173 (1667), Cond.constantLong RX5 179 (31), Cond.methodLink RX5 175 yX5_withSums, Cond.instanceMethod yX5_withSums, Cond.selects RX5 yX5_withSums yX5_withSums, Cond.code yX5_withSums cX5_withSums 6 (some .long), Cond.methodLink RX5 190 yX5_code, Cond.methodLink RX5 193 yX3_syndromes, Cond.methodLink RX5 181 yX5_seed]
def wsL_law_r26 : List Cond := [Cond.methodLink RX5 184 yX1_letterAt, Cond.methodLink RX5 187 yX5_count, Cond.methodLink RL 94 yX6_digest, Cond.instanceMethod yX6_digest, Cond.selects RX6 yX6_digest yX6_digest, Cond.code yX6_digest cX6_digest 2 (some .long), Cond.constantLong RX6 179 (1667), Cond.fieldLink RX6 171 "CosetGaugesModel" "h" "J", Cond.methodLink RX6 181 yX6_mixSums, Cond.instanceMethod yX6_mixSums, Cond.selects RX6 yX6_mixSums yX6_mixSums, Cond.code yX6_mixSums cX6_mixSums 2 none, Cond.methodLink RX6 175 yX6_mix, Cond.instanceMethod yX6_mix, Cond.selects RX6 yX6_mix yX6_mix, Cond.code yX6_mix cX6_mix 3 none, Cond.constantLong RX6 169 (31)]
def wsL_law : List Cond := (wsL_law_r1 ++ (wsL_law_r2 ++ (wsL_law_r3 ++ (wsL_law_r4 ++ (wsL_law_r5 ++ (wsL_law_r6 ++ (wsL_law_r7 ++ (wsL_law_r8 ++ (wsL_law_r9 ++ (wsL_law_r10 ++ (wsL_law_r11 ++ (wsL_law_r12 ++ (wsL_law_r13 ++ (wsL_law_r14 ++ (wsL_law_r15 ++ (wsL_law_r16 ++ (wsL_law_r17 ++ (wsL_law_r18 ++ (wsL_law_r19 ++ (wsL_law_r20 ++ (wsL_law_r21 ++ (wsL_law_r22 ++ (wsL_law_r23 ++ (wsL_law_r24 ++ (wsL_law_r25 ++ wsL_law_r26))))))))))))))))))))))))) ++ wsX50 ++ wsX60 ++ wsX10 ++ wsX20 ++ wsX30 ++ wsX40 ++ wsX00 ++ ([] : List Cond)
abbrev vwCl : List vw_C := [(RX0, TX0, 1), (RX1, TX1, 2), (RX2, TX2, 4), (RX3, TX3, 9), (RX4, TX4, 4), (RX5, TX5, 5), (RX6, TX6, 21)]
/-! ===== END printed: names ===== -/
end
section
/-! the words of the law among those of the tables, piece by piece -/
set_option maxRecDepth 20000 in
theorem in_wsL_law_r1 : ∀ w ∈ wsL_law_r1, w ∈ lw_tbl := fun w h => (goodIn_p (big := lw_tbl) wsL_law_r1 [51, 54] (by decide +kernel) (by decide +kernel) w h).1
set_option maxRecDepth 20000 in
theorem in_wsL_law_r2 : ∀ w ∈ wsL_law_r2, w ∈ lw_tbl := fun w h => (goodIn_p (big := lw_tbl) wsL_law_r2 [59, 73] (by decide +kernel) (by decide +kernel) w h).1
set_option maxRecDepth 20000 in
theorem in_wsL_law_r3 : ∀ w ∈ wsL_law_r3, w ∈ lw_tbl := fun w h => (goodIn_p (big := lw_tbl) wsL_law_r3 [92, 126, 145] (by decide +kernel) (by decide +kernel) w h).1
set_option maxRecDepth 20000 in
theorem in_wsL_law_r4 : ∀ w ∈ wsL_law_r4, w ∈ lw_tbl := fun w h => (goodIn_p (big := lw_tbl) wsL_law_r4 [492, 170, 174, 178] (by decide +kernel) (by decide +kernel) w h).1
set_option maxRecDepth 20000 in
theorem in_wsL_law_r5 : ∀ w ∈ wsL_law_r5, w ∈ lw_tbl := fun w h => (goodIn_p (big := lw_tbl) wsL_law_r5 [561, 564, 182, 186, 568, 190] (by decide +kernel) (by decide +kernel) w h).1
set_option maxRecDepth 20000 in
theorem in_wsL_law_r6 : ∀ w ∈ wsL_law_r6, w ∈ lw_tbl := fun w h => (goodIn_p (big := lw_tbl) wsL_law_r6 [194, 198, 203, 207, 211] (by decide +kernel) (by decide +kernel) w h).1
set_option maxRecDepth 20000 in
theorem in_wsL_law_r7 : ∀ w ∈ wsL_law_r7, w ∈ lw_tbl := fun w h => (goodIn_p (big := lw_tbl) wsL_law_r7 [215, 219, 572, 576, 580, 223] (by decide +kernel) (by decide +kernel) w h).1
set_option maxRecDepth 20000 in
theorem in_wsL_law_r8 : ∀ w ∈ wsL_law_r8, w ∈ lw_tbl := fun w h => (goodIn_p (big := lw_tbl) wsL_law_r8 [228, 232, 236, 240, 244] (by decide +kernel) (by decide +kernel) w h).1
set_option maxRecDepth 20000 in
theorem in_wsL_law_r9 : ∀ w ∈ wsL_law_r9, w ∈ lw_tbl := fun w h => (goodIn_p (big := lw_tbl) wsL_law_r9 [248, 252, 255, 262, 266, 270] (by decide +kernel) (by decide +kernel) w h).1
set_option maxRecDepth 20000 in
theorem in_wsL_law_r10 : ∀ w ∈ wsL_law_r10, w ∈ lw_tbl := fun w h => (goodIn_p (big := lw_tbl) wsL_law_r10 [273, 277, 280, 284, 288, 292] (by decide +kernel) (by decide +kernel) w h).1
set_option maxRecDepth 20000 in
theorem in_wsL_law_r11 : ∀ w ∈ wsL_law_r11, w ∈ lw_tbl := fun w h => (goodIn_p (big := lw_tbl) wsL_law_r11 [584, 588, 592, 596, 599] (by decide +kernel) (by decide +kernel) w h).1
set_option maxRecDepth 20000 in
theorem in_wsL_law_r12 : ∀ w ∈ wsL_law_r12, w ∈ lw_tbl := fun w h => (goodIn_p (big := lw_tbl) wsL_law_r12 [603, 607, 611, 296, 300] (by decide +kernel) (by decide +kernel) w h).1
set_option maxRecDepth 20000 in
theorem in_wsL_law_r13 : ∀ w ∈ wsL_law_r13, w ∈ lw_tbl := fun w h => (goodIn_p (big := lw_tbl) wsL_law_r13 [304, 308, 312, 316, 320, 615] (by decide +kernel) (by decide +kernel) w h).1
set_option maxRecDepth 20000 in
theorem in_wsL_law_r14 : ∀ w ∈ wsL_law_r14, w ∈ lw_tbl := fun w h => (goodIn_p (big := lw_tbl) wsL_law_r14 [619, 623, 324, 328, 332, 627] (by decide +kernel) (by decide +kernel) w h).1
set_option maxRecDepth 20000 in
theorem in_wsL_law_r15 : ∀ w ∈ wsL_law_r15, w ∈ lw_tbl := fun w h => (goodIn_p (big := lw_tbl) wsL_law_r15 [337, 341, 631, 635, 346] (by decide +kernel) (by decide +kernel) w h).1
set_option maxRecDepth 20000 in
theorem in_wsL_law_r16 : ∀ w ∈ wsL_law_r16, w ∈ lw_tbl := fun w h => (goodIn_p (big := lw_tbl) wsL_law_r16 [639, 643, 352, 356, 647, 651] (by decide +kernel) (by decide +kernel) w h).1
set_option maxRecDepth 20000 in
theorem in_wsL_law_r17 : ∀ w ∈ wsL_law_r17, w ∈ lw_tbl := fun w h => (goodIn_p (big := lw_tbl) wsL_law_r17 [360, 364, 368, 655, 659, 373] (by decide +kernel) (by decide +kernel) w h).1
set_option maxRecDepth 20000 in
theorem in_wsL_law_r18 : ∀ w ∈ wsL_law_r18, w ∈ lw_tbl := fun w h => (goodIn_p (big := lw_tbl) wsL_law_r18 [377, 663, 667, 671, 381, 385] (by decide +kernel) (by decide +kernel) w h).1
set_option maxRecDepth 20000 in
theorem in_wsL_law_r19 : ∀ w ∈ wsL_law_r19, w ∈ lw_tbl := fun w h => (goodIn_p (big := lw_tbl) wsL_law_r19 [389, 393, 397, 675, 679, 683] (by decide +kernel) (by decide +kernel) w h).1
set_option maxRecDepth 20000 in
theorem in_wsL_law_r20 : ∀ w ∈ wsL_law_r20, w ∈ lw_tbl := fun w h => (goodIn_p (big := lw_tbl) wsL_law_r20 [687, 401, 691, 406, 410] (by decide +kernel) (by decide +kernel) w h).1
set_option maxRecDepth 20000 in
theorem in_wsL_law_r21 : ∀ w ∈ wsL_law_r21, w ∈ lw_tbl := fun w h => (goodIn_p (big := lw_tbl) wsL_law_r21 [415, 695, 699, 703, 420, 424] (by decide +kernel) (by decide +kernel) w h).1
set_option maxRecDepth 20000 in
theorem in_wsL_law_r22 : ∀ w ∈ wsL_law_r22, w ∈ lw_tbl := fun w h => (goodIn_p (big := lw_tbl) wsL_law_r22 [707, 711, 429, 433, 437] (by decide +kernel) (by decide +kernel) w h).1
set_option maxRecDepth 20000 in
theorem in_wsL_law_r23 : ∀ w ∈ wsL_law_r23, w ∈ lw_tbl := fun w h => (goodIn_p (big := lw_tbl) wsL_law_r23 [444, 715, 719, 723, 448] (by decide +kernel) (by decide +kernel) w h).1
set_option maxRecDepth 20000 in
theorem in_wsL_law_r24 : ∀ w ∈ wsL_law_r24, w ∈ lw_tbl := fun w h => (goodIn_p (big := lw_tbl) wsL_law_r24 [452, 731, 456, 460, 464, 468] (by decide +kernel) (by decide +kernel) w h).1
set_option maxRecDepth 20000 in
theorem in_wsL_law_r25 : ∀ w ∈ wsL_law_r25, w ∈ lw_tbl := fun w h => (goodIn_p (big := lw_tbl) wsL_law_r25 [472, 735, 739, 476, 481] (by decide +kernel) (by decide +kernel) w h).1
set_option maxRecDepth 20000 in
theorem in_wsL_law_r26 : ∀ w ∈ wsL_law_r26, w ∈ lw_tbl := fun w h => (goodIn_p (big := lw_tbl) wsL_law_r26 [743, 748, 752] (by decide +kernel) (by decide +kernel) w h).1
set_option maxRecDepth 20000 in
theorem in_wsX50 : ∀ w ∈ wsX50, w ∈ lw_tbl := fun w h => (goodIn_p (big := lw_tbl) wsX50 [] (by decide +kernel) (by decide +kernel) w h).1
set_option maxRecDepth 20000 in
theorem in_wsX60 : ∀ w ∈ wsX60, w ∈ lw_tbl := fun w h => (goodIn_p (big := lw_tbl) wsX60 [] (by decide +kernel) (by decide +kernel) w h).1
set_option maxRecDepth 20000 in
theorem in_wsX10 : ∀ w ∈ wsX10, w ∈ lw_tbl := fun w h => (goodIn_p (big := lw_tbl) wsX10 [] (by decide +kernel) (by decide +kernel) w h).1
set_option maxRecDepth 20000 in
theorem in_wsX20 : ∀ w ∈ wsX20, w ∈ lw_tbl := fun w h => (goodIn_p (big := lw_tbl) wsX20 [] (by decide +kernel) (by decide +kernel) w h).1
set_option maxRecDepth 20000 in
theorem in_wsX30 : ∀ w ∈ wsX30, w ∈ lw_tbl := fun w h => (goodIn_p (big := lw_tbl) wsX30 [] (by decide +kernel) (by decide +kernel) w h).1
set_option maxRecDepth 20000 in
theorem in_wsX40 : ∀ w ∈ wsX40, w ∈ lw_tbl := fun w h => (goodIn_p (big := lw_tbl) wsX40 [] (by decide +kernel) (by decide +kernel) w h).1
set_option maxRecDepth 20000 in
theorem in_wsX00 : ∀ w ∈ wsX00, w ∈ lw_tbl := fun w h => (goodIn_p (big := lw_tbl) wsX00 [] (by decide +kernel) (by decide +kernel) w h).1
theorem in_app {a b : List Cond} (ha : ∀ w ∈ a, w ∈ lw_tbl) (hb : ∀ w ∈ b, w ∈ lw_tbl) : ∀ w ∈ a ++ b, w ∈ lw_tbl := fun w h => (List.mem_append.mp h).elim (ha w) (hb w)
theorem wsL_law_in : ∀ w ∈ wsL_law, w ∈ lw_tbl := (in_app (in_app (in_app (in_app (in_app (in_app (in_app (in_app (in_app in_wsL_law_r1 (in_app in_wsL_law_r2 (in_app in_wsL_law_r3 (in_app in_wsL_law_r4 (in_app in_wsL_law_r5 (in_app in_wsL_law_r6 (in_app in_wsL_law_r7 (in_app in_wsL_law_r8 (in_app in_wsL_law_r9 (in_app in_wsL_law_r10 (in_app in_wsL_law_r11 (in_app in_wsL_law_r12 (in_app in_wsL_law_r13 (in_app in_wsL_law_r14 (in_app in_wsL_law_r15 (in_app in_wsL_law_r16 (in_app in_wsL_law_r17 (in_app in_wsL_law_r18 (in_app in_wsL_law_r19 (in_app in_wsL_law_r20 (in_app in_wsL_law_r21 (in_app in_wsL_law_r22 (in_app in_wsL_law_r23 (in_app in_wsL_law_r24 (in_app in_wsL_law_r25 in_wsL_law_r26))))))))))))))))))))))))) in_wsX50) in_wsX60) in_wsX10) in_wsX20) in_wsX30) in_wsX40) in_wsX00) (fun w h => absurd h List.not_mem_nil))
theorem inlX0 : ∀ w ∈ wsX00, w ∈ wsL_law := fun _ h => List.mem_append_left _ (List.mem_append_right _ h)
theorem inX0 : ∀ w ∈ wsX00, w ∈ lw_tbl := fun w h => wsL_law_in w (inlX0 w h)
theorem inlX1 : ∀ w ∈ wsX10, w ∈ wsL_law := fun _ h => List.mem_append_left _ (List.mem_append_left _ (List.mem_append_left _ (List.mem_append_left _ (List.mem_append_left _ (List.mem_append_right _ h)))))
theorem inX1 : ∀ w ∈ wsX10, w ∈ lw_tbl := fun w h => wsL_law_in w (inlX1 w h)
theorem inlX2 : ∀ w ∈ wsX20, w ∈ wsL_law := fun _ h => List.mem_append_left _ (List.mem_append_left _ (List.mem_append_left _ (List.mem_append_left _ (List.mem_append_right _ h))))
theorem inX2 : ∀ w ∈ wsX20, w ∈ lw_tbl := fun w h => wsL_law_in w (inlX2 w h)
theorem inlX3 : ∀ w ∈ wsX30, w ∈ wsL_law := fun _ h => List.mem_append_left _ (List.mem_append_left _ (List.mem_append_left _ (List.mem_append_right _ h)))
theorem inX3 : ∀ w ∈ wsX30, w ∈ lw_tbl := fun w h => wsL_law_in w (inlX3 w h)
theorem inlX4 : ∀ w ∈ wsX40, w ∈ wsL_law := fun _ h => List.mem_append_left _ (List.mem_append_left _ (List.mem_append_right _ h))
theorem inX4 : ∀ w ∈ wsX40, w ∈ lw_tbl := fun w h => wsL_law_in w (inlX4 w h)
theorem inlX5 : ∀ w ∈ wsX50, w ∈ wsL_law := fun _ h => List.mem_append_left _ (List.mem_append_left _ (List.mem_append_left _ (List.mem_append_left _ (List.mem_append_left _ (List.mem_append_left _ (List.mem_append_left _ (List.mem_append_right _ h)))))))
theorem inX5 : ∀ w ∈ wsX50, w ∈ lw_tbl := fun w h => wsL_law_in w (inlX5 w h)
theorem inlX6 : ∀ w ∈ wsX60, w ∈ wsL_law := fun _ h => List.mem_append_left _ (List.mem_append_left _ (List.mem_append_left _ (List.mem_append_left _ (List.mem_append_left _ (List.mem_append_left _ (List.mem_append_right _ h))))))
theorem inX6 : ∀ w ∈ wsX60, w ∈ lw_tbl := fun w h => wsL_law_in w (inlX6 w h)
theorem inJ6 : ∀ w ∈ wsJ60, w ∈ lw_tbl := by decide +kernel
theorem inJ9 : ∀ w ∈ wsJ90, w ∈ lw_tbl := by decide +kernel
end
section
theorem dX0_init_0 : decode cX0_init 0 = .ok (.aload_n 0, 1) := by decide +kernel
theorem dX0_init_1 : decode cX0_init 1 = .ok (.invokespecial 1, 3) := by decide +kernel
theorem dX0_init_4 : decode cX0_init 4 = .ok (.aload_n 0, 1) := by decide +kernel
theorem dX0_init_5 : decode cX0_init 5 = .ok (.iconst (-1), 1) := by decide +kernel
theorem dX0_init_6 : decode cX0_init 6 = .ok (.putfield 7, 3) := by decide +kernel
theorem dX0_init_9 : decode cX0_init 9 = .ok (.return_, 1) := by decide +kernel
theorem dX0_startFrom_0 : decode cX0_startFrom 0 = .ok (.aload_n 0, 1) := by decide +kernel
theorem dX0_startFrom_1 : decode cX0_startFrom 1 = .ok (.iload_n 1, 1) := by decide +kernel
theorem dX0_startFrom_2 : decode cX0_startFrom 2 = .ok (.putfield 7, 3) := by decide +kernel
theorem dX0_startFrom_5 : decode cX0_startFrom 5 = .ok (.return_, 1) := by decide +kernel
theorem dX0_last_0 : decode cX0_last 0 = .ok (.aload_n 0, 1) := by decide +kernel
theorem dX0_last_1 : decode cX0_last 1 = .ok (.getfield 7, 3) := by decide +kernel
theorem dX0_last_4 : decode cX0_last 4 = .ok (.ireturn, 1) := by decide +kernel
theorem dX0_next_0 : decode cX0_next 0 = .ok (.aload_n 0, 1) := by decide +kernel
theorem dX0_next_1 : decode cX0_next 1 = .ok (.ldc2_w 13, 3) := by decide +kernel
theorem dX0_next_4 : decode cX0_next 4 = .ok (.aload_n 0, 1) := by decide +kernel
theorem dX0_next_5 : decode cX0_next 5 = .ok (.getfield 7, 3) := by decide +kernel
theorem dX0_next_8 : decode cX0_next 8 = .ok (.i2l, 1) := by decide +kernel
theorem dX0_next_9 : decode cX0_next 9 = .ok (.lmul, 1) := by decide +kernel
theorem dX0_next_10 : decode cX0_next 10 = .ok (.ldc2_w 15, 3) := by decide +kernel
theorem dX0_next_13 : decode cX0_next 13 = .ok (.ladd, 1) := by decide +kernel
theorem dX0_next_14 : decode cX0_next 14 = .ok (.ldc2_w 17, 3) := by decide +kernel
theorem dX0_next_17 : decode cX0_next 17 = .ok (.land, 1) := by decide +kernel
theorem dX0_next_18 : decode cX0_next 18 = .ok (.l2i, 1) := by decide +kernel
theorem dX0_next_19 : decode cX0_next 19 = .ok (.putfield 7, 3) := by decide +kernel
theorem dX0_next_22 : decode cX0_next 22 = .ok (.aload_n 0, 1) := by decide +kernel
theorem dX0_next_23 : decode cX0_next 23 = .ok (.getfield 7, 3) := by decide +kernel
theorem dX0_next_26 : decode cX0_next 26 = .ok (.bipush 16, 2) := by decide +kernel
theorem dX0_next_28 : decode cX0_next 28 = .ok (.ishr, 1) := by decide +kernel
theorem dX0_next_29 : decode cX0_next 29 = .ok (.iconst 1, 1) := by decide +kernel
theorem dX0_next_30 : decode cX0_next 30 = .ok (.iload_n 1, 1) := by decide +kernel
theorem dX0_next_31 : decode cX0_next 31 = .ok (.ishl, 1) := by decide +kernel
theorem dX0_next_32 : decode cX0_next 32 = .ok (.iconst 1, 1) := by decide +kernel
theorem dX0_next_33 : decode cX0_next 33 = .ok (.isub, 1) := by decide +kernel
theorem dX0_next_34 : decode cX0_next 34 = .ok (.iand, 1) := by decide +kernel
theorem dX0_next_35 : decode cX0_next 35 = .ok (.ireturn, 1) := by decide +kernel
theorem dX1_init_0 : decode cX1_init 0 = .ok (.aload_n 0, 1) := by decide +kernel
theorem dX1_init_1 : decode cX1_init 1 = .ok (.invokespecial 3, 3) := by decide +kernel
theorem dX1_init_4 : decode cX1_init 4 = .ok (.aload_n 0, 1) := by decide +kernel
theorem dX1_init_5 : decode cX1_init 5 = .ok (.bipush 56, 2) := by decide +kernel
theorem dX1_init_7 : decode cX1_init 7 = .ok (.newarray .int, 2) := by decide +kernel
theorem dX1_init_9 : decode cX1_init 9 = .ok (.putfield 9, 3) := by decide +kernel
theorem dX1_init_12 : decode cX1_init 12 = .ok (.aload_n 0, 1) := by decide +kernel
theorem dX1_init_13 : decode cX1_init 13 = .ok (.iconst 0, 1) := by decide +kernel
theorem dX1_init_14 : decode cX1_init 14 = .ok (.putfield 15, 3) := by decide +kernel
theorem dX1_init_17 : decode cX1_init 17 = .ok (.return_, 1) := by decide +kernel
theorem dX1_size_0 : decode cX1_size 0 = .ok (.aload_n 0, 1) := by decide +kernel
theorem dX1_size_1 : decode cX1_size 1 = .ok (.getfield 15, 3) := by decide +kernel
theorem dX1_size_4 : decode cX1_size 4 = .ok (.ireturn, 1) := by decide +kernel
theorem dX1_append_0 : decode cX1_append 0 = .ok (.aload_n 0, 1) := by decide +kernel
theorem dX1_append_1 : decode cX1_append 1 = .ok (.getfield 15, 3) := by decide +kernel
theorem dX1_append_4 : decode cX1_append 4 = .ok (.ifCond .lt 15, 3) := by decide +kernel
theorem dX1_append_7 : decode cX1_append 7 = .ok (.aload_n 0, 1) := by decide +kernel
theorem dX1_append_8 : decode cX1_append 8 = .ok (.getfield 15, 3) := by decide +kernel
theorem dX1_append_11 : decode cX1_append 11 = .ok (.aload_n 0, 1) := by decide +kernel
theorem dX1_append_12 : decode cX1_append 12 = .ok (.getfield 9, 3) := by decide +kernel
theorem dX1_append_15 : decode cX1_append 15 = .ok (.arraylength, 1) := by decide +kernel
theorem dX1_append_16 : decode cX1_append 16 = .ok (.if_icmp .lt 5, 3) := by decide +kernel
theorem dX1_append_19 : decode cX1_append 19 = .ok (.iconst 0, 1) := by decide +kernel
theorem dX1_append_20 : decode cX1_append 20 = .ok (.ireturn, 1) := by decide +kernel
theorem dX1_append_21 : decode cX1_append 21 = .ok (.aload_n 0, 1) := by decide +kernel
theorem dX1_append_22 : decode cX1_append 22 = .ok (.getfield 9, 3) := by decide +kernel
theorem dX1_append_25 : decode cX1_append 25 = .ok (.aload_n 0, 1) := by decide +kernel
theorem dX1_append_26 : decode cX1_append 26 = .ok (.getfield 15, 3) := by decide +kernel
theorem dX1_append_29 : decode cX1_append 29 = .ok (.iload_n 1, 1) := by decide +kernel
theorem dX1_append_30 : decode cX1_append 30 = .ok (.iastore, 1) := by decide +kernel
theorem dX1_append_31 : decode cX1_append 31 = .ok (.aload_n 0, 1) := by decide +kernel
theorem dX1_append_32 : decode cX1_append 32 = .ok (.dup, 1) := by decide +kernel
theorem dX1_append_33 : decode cX1_append 33 = .ok (.getfield 15, 3) := by decide +kernel
theorem dX1_append_36 : decode cX1_append 36 = .ok (.iconst 1, 1) := by decide +kernel
theorem dX1_append_37 : decode cX1_append 37 = .ok (.iadd, 1) := by decide +kernel
theorem dX1_append_38 : decode cX1_append 38 = .ok (.putfield 15, 3) := by decide +kernel
theorem dX1_append_41 : decode cX1_append 41 = .ok (.iconst 1, 1) := by decide +kernel
theorem dX1_append_42 : decode cX1_append 42 = .ok (.ireturn, 1) := by decide +kernel
theorem dX1_clear_0 : decode cX1_clear 0 = .ok (.aload_n 0, 1) := by decide +kernel
theorem dX1_clear_1 : decode cX1_clear 1 = .ok (.iconst 0, 1) := by decide +kernel
theorem dX1_clear_2 : decode cX1_clear 2 = .ok (.putfield 15, 3) := by decide +kernel
theorem dX1_clear_5 : decode cX1_clear 5 = .ok (.return_, 1) := by decide +kernel
theorem dX1_letterAt_0 : decode cX1_letterAt 0 = .ok (.iload_n 1, 1) := by decide +kernel
theorem dX1_letterAt_1 : decode cX1_letterAt 1 = .ok (.ifCond .lt 21, 3) := by decide +kernel
theorem dX1_letterAt_4 : decode cX1_letterAt 4 = .ok (.iload_n 1, 1) := by decide +kernel
theorem dX1_letterAt_5 : decode cX1_letterAt 5 = .ok (.aload_n 0, 1) := by decide +kernel
theorem dX1_letterAt_6 : decode cX1_letterAt 6 = .ok (.getfield 9, 3) := by decide +kernel
theorem dX1_letterAt_9 : decode cX1_letterAt 9 = .ok (.arraylength, 1) := by decide +kernel
theorem dX1_letterAt_10 : decode cX1_letterAt 10 = .ok (.if_icmp .ge 12, 3) := by decide +kernel
theorem dX1_letterAt_13 : decode cX1_letterAt 13 = .ok (.aload_n 0, 1) := by decide +kernel
theorem dX1_letterAt_14 : decode cX1_letterAt 14 = .ok (.getfield 9, 3) := by decide +kernel
theorem dX1_letterAt_17 : decode cX1_letterAt 17 = .ok (.iload_n 1, 1) := by decide +kernel
theorem dX1_letterAt_18 : decode cX1_letterAt 18 = .ok (.iaload, 1) := by decide +kernel
theorem dX1_letterAt_19 : decode cX1_letterAt 19 = .ok (.goto 4, 3) := by decide +kernel
theorem dX1_letterAt_22 : decode cX1_letterAt 22 = .ok (.iconst 0, 1) := by decide +kernel
theorem dX1_letterAt_23 : decode cX1_letterAt 23 = .ok (.ireturn, 1) := by decide +kernel
theorem dX2_init_0 : decode cX2_init 0 = .ok (.aload_n 0, 1) := by decide +kernel
theorem dX2_init_1 : decode cX2_init 1 = .ok (.invokespecial 3, 3) := by decide +kernel
theorem dX2_init_4 : decode cX2_init 4 = .ok (.aload_n 0, 1) := by decide +kernel
theorem dX2_init_5 : decode cX2_init 5 = .ok (.iconst 5, 1) := by decide +kernel
theorem dX2_init_6 : decode cX2_init 6 = .ok (.newarray .int, 2) := by decide +kernel
theorem dX2_init_8 : decode cX2_init 8 = .ok (.putfield 9, 3) := by decide +kernel
theorem dX2_init_11 : decode cX2_init 11 = .ok (.aload_n 0, 1) := by decide +kernel
theorem dX2_init_12 : decode cX2_init 12 = .ok (.iconst 0, 1) := by decide +kernel
theorem dX2_init_13 : decode cX2_init 13 = .ok (.putfield 15, 3) := by decide +kernel
theorem dX2_init_16 : decode cX2_init 16 = .ok (.aload_n 0, 1) := by decide +kernel
theorem dX2_init_17 : decode cX2_init 17 = .ok (.iconst 0, 1) := by decide +kernel
theorem dX2_init_18 : decode cX2_init 18 = .ok (.putfield 19, 3) := by decide +kernel
theorem dX2_init_21 : decode cX2_init 21 = .ok (.aload_n 0, 1) := by decide +kernel
theorem dX2_init_22 : decode cX2_init 22 = .ok (.iconst 0, 1) := by decide +kernel
theorem dX2_init_23 : decode cX2_init 23 = .ok (.putfield 22, 3) := by decide +kernel
theorem dX2_init_26 : decode cX2_init 26 = .ok (.return_, 1) := by decide +kernel
set_option maxRecDepth 20000 in
theorem ggX2_readAsFarAsItGoes_X2_start : GoodIn wsX2_readAsFarAsItGoes wsX2_start := goodIn_r _ [5, 6, 7, 8, 9, 37, 38, 39, 40] (by decide +kernel) (by decide +kernel)
set_option maxRecDepth 20000 in
theorem gX2_readAsFarAsItGoes_X2_start : GoodIn wsX2_readAsFarAsItGoes (wsV RX2 25 RX2 yX2_start wsX2_start) := goodIn_app (goodIn_of _ (by decide +kernel)) ggX2_readAsFarAsItGoes_X2_start
set_option maxRecDepth 20000 in
theorem ggX2_readAsFarAsItGoes_X1_size : GoodIn wsX2_readAsFarAsItGoes wsX1_size := goodIn_r _ [14, 15, 41, 42] (by decide +kernel) (by decide +kernel)
set_option maxRecDepth 20000 in
theorem gX2_readAsFarAsItGoes_X1_size : GoodIn wsX2_readAsFarAsItGoes (wsV RX2 28 RX1 yX1_size wsX1_size) := goodIn_app (goodIn_of _ (by decide +kernel)) ggX2_readAsFarAsItGoes_X1_size
set_option maxRecDepth 20000 in
theorem ggX2_readAsFarAsItGoes_X1_letterAt : GoodIn wsX2_readAsFarAsItGoes wsX1_letterAt := goodIn_r _ [19, 20, 41, 42] (by decide +kernel) (by decide +kernel)
set_option maxRecDepth 20000 in
theorem gX2_readAsFarAsItGoes_X1_letterAt : GoodIn wsX2_readAsFarAsItGoes (wsV RX2 34 RX1 yX1_letterAt wsX1_letterAt) := goodIn_app (goodIn_of _ (by decide +kernel)) ggX2_readAsFarAsItGoes_X1_letterAt
set_option maxRecDepth 20000 in
theorem ggX2_readAsFarAsItGoes_X2_takes : GoodIn wsX2_readAsFarAsItGoes wsX2_takes := goodIn_r _ [24, 25, 26, 27, 4, 28, 7, 8, 9, 29, 30, 31, 32, 33, 34, 35, 36, 6, 37, 38, 39, 40] (by decide +kernel) (by decide +kernel)
set_option maxRecDepth 20000 in
theorem gX2_readAsFarAsItGoes_X2_takes : GoodIn wsX2_readAsFarAsItGoes (wsV RX2 38 RX2 yX2_takes wsX2_takes) := goodIn_app (goodIn_of _ (by decide +kernel)) ggX2_readAsFarAsItGoes_X2_takes
theorem dX2_readAsFarAsItGoes_0 : decode cX2_readAsFarAsItGoes 0 = .ok (.aload_n 0, 1) := by decide +kernel
theorem dX2_readAsFarAsItGoes_1 : decode cX2_readAsFarAsItGoes 1 = .ok (.invokevirtual 25, 3) := by decide +kernel
theorem dX2_readAsFarAsItGoes_4 : decode cX2_readAsFarAsItGoes 4 = .ok (.iconst 0, 1) := by decide +kernel
theorem dX2_readAsFarAsItGoes_5 : decode cX2_readAsFarAsItGoes 5 = .ok (.istore_n 2, 1) := by decide +kernel
theorem dX2_readAsFarAsItGoes_6 : decode cX2_readAsFarAsItGoes 6 = .ok (.iload_n 2, 1) := by decide +kernel
theorem dX2_readAsFarAsItGoes_7 : decode cX2_readAsFarAsItGoes 7 = .ok (.aload_n 1, 1) := by decide +kernel
theorem dX2_readAsFarAsItGoes_8 : decode cX2_readAsFarAsItGoes 8 = .ok (.invokevirtual 28, 3) := by decide +kernel
theorem dX2_readAsFarAsItGoes_11 : decode cX2_readAsFarAsItGoes 11 = .ok (.if_icmp .ge 23, 3) := by decide +kernel
theorem dX2_readAsFarAsItGoes_14 : decode cX2_readAsFarAsItGoes 14 = .ok (.aload_n 0, 1) := by decide +kernel
theorem dX2_readAsFarAsItGoes_15 : decode cX2_readAsFarAsItGoes 15 = .ok (.aload_n 1, 1) := by decide +kernel
theorem dX2_readAsFarAsItGoes_16 : decode cX2_readAsFarAsItGoes 16 = .ok (.iload_n 2, 1) := by decide +kernel
theorem dX2_readAsFarAsItGoes_17 : decode cX2_readAsFarAsItGoes 17 = .ok (.invokevirtual 34, 3) := by decide +kernel
theorem dX2_readAsFarAsItGoes_20 : decode cX2_readAsFarAsItGoes 20 = .ok (.invokevirtual 38, 3) := by decide +kernel
theorem dX2_readAsFarAsItGoes_23 : decode cX2_readAsFarAsItGoes 23 = .ok (.ifCond .ne 5, 3) := by decide +kernel
theorem dX2_readAsFarAsItGoes_26 : decode cX2_readAsFarAsItGoes 26 = .ok (.iload_n 2, 1) := by decide +kernel
theorem dX2_readAsFarAsItGoes_27 : decode cX2_readAsFarAsItGoes 27 = .ok (.ireturn, 1) := by decide +kernel
theorem dX2_readAsFarAsItGoes_28 : decode cX2_readAsFarAsItGoes 28 = .ok (.iinc 2 1, 3) := by decide +kernel
theorem dX2_readAsFarAsItGoes_31 : decode cX2_readAsFarAsItGoes 31 = .ok (.goto (-25), 3) := by decide +kernel
theorem dX2_readAsFarAsItGoes_34 : decode cX2_readAsFarAsItGoes 34 = .ok (.aload_n 1, 1) := by decide +kernel
theorem dX2_readAsFarAsItGoes_35 : decode cX2_readAsFarAsItGoes 35 = .ok (.invokevirtual 28, 3) := by decide +kernel
theorem dX2_readAsFarAsItGoes_38 : decode cX2_readAsFarAsItGoes 38 = .ok (.ireturn, 1) := by decide +kernel
theorem dX2_start_0 : decode cX2_start 0 = .ok (.iconst 0, 1) := by decide +kernel
theorem dX2_start_1 : decode cX2_start 1 = .ok (.istore_n 1, 1) := by decide +kernel
theorem dX2_start_2 : decode cX2_start 2 = .ok (.iload_n 1, 1) := by decide +kernel
theorem dX2_start_3 : decode cX2_start 3 = .ok (.aload_n 0, 1) := by decide +kernel
theorem dX2_start_4 : decode cX2_start 4 = .ok (.getfield 9, 3) := by decide +kernel
theorem dX2_start_7 : decode cX2_start 7 = .ok (.arraylength, 1) := by decide +kernel
theorem dX2_start_8 : decode cX2_start 8 = .ok (.if_icmp .ge 16, 3) := by decide +kernel
theorem dX2_start_11 : decode cX2_start 11 = .ok (.aload_n 0, 1) := by decide +kernel
theorem dX2_start_12 : decode cX2_start 12 = .ok (.getfield 9, 3) := by decide +kernel
theorem dX2_start_15 : decode cX2_start 15 = .ok (.iload_n 1, 1) := by decide +kernel
theorem dX2_start_16 : decode cX2_start 16 = .ok (.iconst 0, 1) := by decide +kernel
theorem dX2_start_17 : decode cX2_start 17 = .ok (.iastore, 1) := by decide +kernel
theorem dX2_start_18 : decode cX2_start 18 = .ok (.iinc 1 1, 3) := by decide +kernel
theorem dX2_start_21 : decode cX2_start 21 = .ok (.goto (-19), 3) := by decide +kernel
theorem dX2_start_24 : decode cX2_start 24 = .ok (.aload_n 0, 1) := by decide +kernel
theorem dX2_start_25 : decode cX2_start 25 = .ok (.iconst 0, 1) := by decide +kernel
theorem dX2_start_26 : decode cX2_start 26 = .ok (.putfield 15, 3) := by decide +kernel
theorem dX2_start_29 : decode cX2_start 29 = .ok (.aload_n 0, 1) := by decide +kernel
theorem dX2_start_30 : decode cX2_start 30 = .ok (.iconst 0, 1) := by decide +kernel
theorem dX2_start_31 : decode cX2_start 31 = .ok (.putfield 19, 3) := by decide +kernel
theorem dX2_start_34 : decode cX2_start 34 = .ok (.aload_n 0, 1) := by decide +kernel
theorem dX2_start_35 : decode cX2_start 35 = .ok (.iconst 0, 1) := by decide +kernel
theorem dX2_start_36 : decode cX2_start 36 = .ok (.putfield 22, 3) := by decide +kernel
theorem dX2_start_39 : decode cX2_start 39 = .ok (.return_, 1) := by decide +kernel
set_option maxRecDepth 20000 in
theorem ggX2_takes_X2_takesEndOfRow : GoodIn wsX2_takes wsX2_takesEndOfRow := goodIn_r _ [5, 6, 7, 8, 9, 10, 11, 4, 12, 18, 19, 20, 21] (by decide +kernel) (by decide +kernel)
set_option maxRecDepth 20000 in
theorem gX2_takes_X2_takesEndOfRow : GoodIn wsX2_takes (wsV RX2 42 RX2 yX2_takesEndOfRow wsX2_takesEndOfRow) := goodIn_app (goodIn_of _ (by decide +kernel)) ggX2_takes_X2_takesEndOfRow
set_option maxRecDepth 20000 in
theorem ggX2_takes_X2_takesSign : GoodIn wsX2_takes wsX2_takesSign := goodIn_r _ [16, 6, 8, 7, 17, 18, 19, 20, 21] (by decide +kernel) (by decide +kernel)
set_option maxRecDepth 20000 in
theorem gX2_takes_X2_takesSign : GoodIn wsX2_takes (wsV RX2 46 RX2 yX2_takesSign wsX2_takesSign) := goodIn_app (goodIn_of _ (by decide +kernel)) ggX2_takes_X2_takesSign
theorem dX2_takes_0 : decode cX2_takes 0 = .ok (.iload_n 1, 1) := by decide +kernel
theorem dX2_takes_1 : decode cX2_takes 1 = .ok (.tableswitch 44 47 49 #[27, 32, 38], 27) := by decide +kernel
theorem dX2_takes_28 : decode cX2_takes 28 = .ok (.aload_n 0, 1) := by decide +kernel
theorem dX2_takes_29 : decode cX2_takes 29 = .ok (.invokevirtual 42, 3) := by decide +kernel
theorem dX2_takes_32 : decode cX2_takes 32 = .ok (.ireturn, 1) := by decide +kernel
theorem dX2_takes_33 : decode cX2_takes 33 = .ok (.aload_n 0, 1) := by decide +kernel
theorem dX2_takes_34 : decode cX2_takes 34 = .ok (.iconst 0, 1) := by decide +kernel
theorem dX2_takes_35 : decode cX2_takes 35 = .ok (.invokevirtual 46, 3) := by decide +kernel
theorem dX2_takes_38 : decode cX2_takes 38 = .ok (.ireturn, 1) := by decide +kernel
theorem dX2_takes_39 : decode cX2_takes 39 = .ok (.aload_n 0, 1) := by decide +kernel
theorem dX2_takes_40 : decode cX2_takes 40 = .ok (.iconst 1, 1) := by decide +kernel
theorem dX2_takes_41 : decode cX2_takes 41 = .ok (.invokevirtual 46, 3) := by decide +kernel
theorem dX2_takes_44 : decode cX2_takes 44 = .ok (.ireturn, 1) := by decide +kernel
theorem dX2_takes_45 : decode cX2_takes 45 = .ok (.iconst 0, 1) := by decide +kernel
theorem dX2_takes_46 : decode cX2_takes 46 = .ok (.ireturn, 1) := by decide +kernel
set_option maxRecDepth 20000 in
theorem ggX2_takesEndOfRow_X2_rowIsWhole : GoodIn wsX2_takesEndOfRow wsX2_rowIsWhole := goodIn_r _ [8, 1, 2, 3, 9, 10, 11, 12] (by decide +kernel) (by decide +kernel)
set_option maxRecDepth 20000 in
theorem gX2_takesEndOfRow_X2_rowIsWhole : GoodIn wsX2_takesEndOfRow (wsV RX2 49 RX2 yX2_rowIsWhole wsX2_rowIsWhole) := goodIn_app (goodIn_of _ (by decide +kernel)) ggX2_takesEndOfRow_X2_rowIsWhole
theorem dX2_takesEndOfRow_0 : decode cX2_takesEndOfRow 0 = .ok (.aload_n 0, 1) := by decide +kernel
theorem dX2_takesEndOfRow_1 : decode cX2_takesEndOfRow 1 = .ok (.invokevirtual 49, 3) := by decide +kernel
theorem dX2_takesEndOfRow_4 : decode cX2_takesEndOfRow 4 = .ok (.ifCond .eq 11, 3) := by decide +kernel
theorem dX2_takesEndOfRow_7 : decode cX2_takesEndOfRow 7 = .ok (.aload_n 0, 1) := by decide +kernel
theorem dX2_takesEndOfRow_8 : decode cX2_takesEndOfRow 8 = .ok (.getfield 15, 3) := by decide +kernel
theorem dX2_takesEndOfRow_11 : decode cX2_takesEndOfRow 11 = .ok (.iconst 4, 1) := by decide +kernel
theorem dX2_takesEndOfRow_12 : decode cX2_takesEndOfRow 12 = .ok (.if_icmp .lt 5, 3) := by decide +kernel
theorem dX2_takesEndOfRow_15 : decode cX2_takesEndOfRow 15 = .ok (.iconst 0, 1) := by decide +kernel
theorem dX2_takesEndOfRow_16 : decode cX2_takesEndOfRow 16 = .ok (.ireturn, 1) := by decide +kernel
theorem dX2_takesEndOfRow_17 : decode cX2_takesEndOfRow 17 = .ok (.aload_n 0, 1) := by decide +kernel
theorem dX2_takesEndOfRow_18 : decode cX2_takesEndOfRow 18 = .ok (.aload_n 0, 1) := by decide +kernel
theorem dX2_takesEndOfRow_19 : decode cX2_takesEndOfRow 19 = .ok (.getfield 19, 3) := by decide +kernel
theorem dX2_takesEndOfRow_22 : decode cX2_takesEndOfRow 22 = .ok (.putfield 22, 3) := by decide +kernel
theorem dX2_takesEndOfRow_25 : decode cX2_takesEndOfRow 25 = .ok (.aload_n 0, 1) := by decide +kernel
theorem dX2_takesEndOfRow_26 : decode cX2_takesEndOfRow 26 = .ok (.dup, 1) := by decide +kernel
theorem dX2_takesEndOfRow_27 : decode cX2_takesEndOfRow 27 = .ok (.getfield 15, 3) := by decide +kernel
theorem dX2_takesEndOfRow_30 : decode cX2_takesEndOfRow 30 = .ok (.iconst 1, 1) := by decide +kernel
theorem dX2_takesEndOfRow_31 : decode cX2_takesEndOfRow 31 = .ok (.iadd, 1) := by decide +kernel
theorem dX2_takesEndOfRow_32 : decode cX2_takesEndOfRow 32 = .ok (.putfield 15, 3) := by decide +kernel
theorem dX2_takesEndOfRow_35 : decode cX2_takesEndOfRow 35 = .ok (.aload_n 0, 1) := by decide +kernel
theorem dX2_takesEndOfRow_36 : decode cX2_takesEndOfRow 36 = .ok (.iconst 0, 1) := by decide +kernel
theorem dX2_takesEndOfRow_37 : decode cX2_takesEndOfRow 37 = .ok (.putfield 19, 3) := by decide +kernel
theorem dX2_takesEndOfRow_40 : decode cX2_takesEndOfRow 40 = .ok (.iconst 1, 1) := by decide +kernel
theorem dX2_takesEndOfRow_41 : decode cX2_takesEndOfRow 41 = .ok (.ireturn, 1) := by decide +kernel
theorem dX2_takesSign_0 : decode cX2_takesSign 0 = .ok (.aload_n 0, 1) := by decide +kernel
theorem dX2_takesSign_1 : decode cX2_takesSign 1 = .ok (.getfield 15, 3) := by decide +kernel
theorem dX2_takesSign_4 : decode cX2_takesSign 4 = .ok (.ifCond .ne 8, 3) := by decide +kernel
theorem dX2_takesSign_7 : decode cX2_takesSign 7 = .ok (.bipush 10, 2) := by decide +kernel
theorem dX2_takesSign_9 : decode cX2_takesSign 9 = .ok (.goto 7, 3) := by decide +kernel
theorem dX2_takesSign_12 : decode cX2_takesSign 12 = .ok (.aload_n 0, 1) := by decide +kernel
theorem dX2_takesSign_13 : decode cX2_takesSign 13 = .ok (.getfield 22, 3) := by decide +kernel
theorem dX2_takesSign_16 : decode cX2_takesSign 16 = .ok (.istore_n 2, 1) := by decide +kernel
theorem dX2_takesSign_17 : decode cX2_takesSign 17 = .ok (.aload_n 0, 1) := by decide +kernel
theorem dX2_takesSign_18 : decode cX2_takesSign 18 = .ok (.getfield 19, 3) := by decide +kernel
theorem dX2_takesSign_21 : decode cX2_takesSign 21 = .ok (.iload_n 2, 1) := by decide +kernel
theorem dX2_takesSign_22 : decode cX2_takesSign 22 = .ok (.if_icmp .ge 22, 3) := by decide +kernel
theorem dX2_takesSign_25 : decode cX2_takesSign 25 = .ok (.aload_n 0, 1) := by decide +kernel
theorem dX2_takesSign_26 : decode cX2_takesSign 26 = .ok (.getfield 15, 3) := by decide +kernel
theorem dX2_takesSign_29 : decode cX2_takesSign 29 = .ok (.ifCond .lt 15, 3) := by decide +kernel
theorem dX2_takesSign_32 : decode cX2_takesSign 32 = .ok (.aload_n 0, 1) := by decide +kernel
theorem dX2_takesSign_33 : decode cX2_takesSign 33 = .ok (.getfield 15, 3) := by decide +kernel
theorem dX2_takesSign_36 : decode cX2_takesSign 36 = .ok (.aload_n 0, 1) := by decide +kernel
theorem dX2_takesSign_37 : decode cX2_takesSign 37 = .ok (.getfield 9, 3) := by decide +kernel
theorem dX2_takesSign_40 : decode cX2_takesSign 40 = .ok (.arraylength, 1) := by decide +kernel
theorem dX2_takesSign_41 : decode cX2_takesSign 41 = .ok (.if_icmp .lt 5, 3) := by decide +kernel
theorem dX2_takesSign_44 : decode cX2_takesSign 44 = .ok (.iconst 0, 1) := by decide +kernel
theorem dX2_takesSign_45 : decode cX2_takesSign 45 = .ok (.ireturn, 1) := by decide +kernel
theorem dX2_takesSign_46 : decode cX2_takesSign 46 = .ok (.aload_n 0, 1) := by decide +kernel
theorem dX2_takesSign_47 : decode cX2_takesSign 47 = .ok (.getfield 9, 3) := by decide +kernel
theorem dX2_takesSign_50 : decode cX2_takesSign 50 = .ok (.aload_n 0, 1) := by decide +kernel
theorem dX2_takesSign_51 : decode cX2_takesSign 51 = .ok (.getfield 15, 3) := by decide +kernel
theorem dX2_takesSign_54 : decode cX2_takesSign 54 = .ok (.dup2, 1) := by decide +kernel
theorem dX2_takesSign_55 : decode cX2_takesSign 55 = .ok (.iaload, 1) := by decide +kernel
theorem dX2_takesSign_56 : decode cX2_takesSign 56 = .ok (.iload_n 1, 1) := by decide +kernel
theorem dX2_takesSign_57 : decode cX2_takesSign 57 = .ok (.aload_n 0, 1) := by decide +kernel
theorem dX2_takesSign_58 : decode cX2_takesSign 58 = .ok (.getfield 19, 3) := by decide +kernel
theorem dX2_takesSign_61 : decode cX2_takesSign 61 = .ok (.ishl, 1) := by decide +kernel
theorem dX2_takesSign_62 : decode cX2_takesSign 62 = .ok (.ior, 1) := by decide +kernel
theorem dX2_takesSign_63 : decode cX2_takesSign 63 = .ok (.iastore, 1) := by decide +kernel
theorem dX2_takesSign_64 : decode cX2_takesSign 64 = .ok (.aload_n 0, 1) := by decide +kernel
theorem dX2_takesSign_65 : decode cX2_takesSign 65 = .ok (.dup, 1) := by decide +kernel
theorem dX2_takesSign_66 : decode cX2_takesSign 66 = .ok (.getfield 19, 3) := by decide +kernel
theorem dX2_takesSign_69 : decode cX2_takesSign 69 = .ok (.iconst 1, 1) := by decide +kernel
theorem dX2_takesSign_70 : decode cX2_takesSign 70 = .ok (.iadd, 1) := by decide +kernel
theorem dX2_takesSign_71 : decode cX2_takesSign 71 = .ok (.putfield 19, 3) := by decide +kernel
theorem dX2_takesSign_74 : decode cX2_takesSign 74 = .ok (.iconst 1, 1) := by decide +kernel
theorem dX2_takesSign_75 : decode cX2_takesSign 75 = .ok (.ireturn, 1) := by decide +kernel
theorem dX2_rowIsWhole_0 : decode cX2_rowIsWhole 0 = .ok (.aload_n 0, 1) := by decide +kernel
theorem dX2_rowIsWhole_1 : decode cX2_rowIsWhole 1 = .ok (.getfield 15, 3) := by decide +kernel
theorem dX2_rowIsWhole_4 : decode cX2_rowIsWhole 4 = .ok (.ifCond .ne 19, 3) := by decide +kernel
theorem dX2_rowIsWhole_7 : decode cX2_rowIsWhole 7 = .ok (.aload_n 0, 1) := by decide +kernel
theorem dX2_rowIsWhole_8 : decode cX2_rowIsWhole 8 = .ok (.getfield 19, 3) := by decide +kernel
theorem dX2_rowIsWhole_11 : decode cX2_rowIsWhole 11 = .ok (.iconst 3, 1) := by decide +kernel
theorem dX2_rowIsWhole_12 : decode cX2_rowIsWhole 12 = .ok (.if_icmp .lt 7, 3) := by decide +kernel
theorem dX2_rowIsWhole_15 : decode cX2_rowIsWhole 15 = .ok (.iconst 1, 1) := by decide +kernel
theorem dX2_rowIsWhole_16 : decode cX2_rowIsWhole 16 = .ok (.goto 23, 3) := by decide +kernel
theorem dX2_rowIsWhole_19 : decode cX2_rowIsWhole 19 = .ok (.iconst 0, 1) := by decide +kernel
theorem dX2_rowIsWhole_20 : decode cX2_rowIsWhole 20 = .ok (.goto 19, 3) := by decide +kernel
theorem dX2_rowIsWhole_23 : decode cX2_rowIsWhole 23 = .ok (.aload_n 0, 1) := by decide +kernel
theorem dX2_rowIsWhole_24 : decode cX2_rowIsWhole 24 = .ok (.getfield 19, 3) := by decide +kernel
theorem dX2_rowIsWhole_27 : decode cX2_rowIsWhole 27 = .ok (.aload_n 0, 1) := by decide +kernel
theorem dX2_rowIsWhole_28 : decode cX2_rowIsWhole 28 = .ok (.getfield 22, 3) := by decide +kernel
theorem dX2_rowIsWhole_31 : decode cX2_rowIsWhole 31 = .ok (.if_icmp .ne 7, 3) := by decide +kernel
theorem dX2_rowIsWhole_34 : decode cX2_rowIsWhole 34 = .ok (.iconst 1, 1) := by decide +kernel
theorem dX2_rowIsWhole_35 : decode cX2_rowIsWhole 35 = .ok (.goto 4, 3) := by decide +kernel
theorem dX2_rowIsWhole_38 : decode cX2_rowIsWhole 38 = .ok (.iconst 0, 1) := by decide +kernel
theorem dX2_rowIsWhole_39 : decode cX2_rowIsWhole 39 = .ok (.ireturn, 1) := by decide +kernel
theorem dX2_rowsRead_0 : decode cX2_rowsRead 0 = .ok (.aload_n 0, 1) := by decide +kernel
theorem dX2_rowsRead_1 : decode cX2_rowsRead 1 = .ok (.getfield 15, 3) := by decide +kernel
theorem dX2_rowsRead_4 : decode cX2_rowsRead 4 = .ok (.iconst 1, 1) := by decide +kernel
theorem dX2_rowsRead_5 : decode cX2_rowsRead 5 = .ok (.iadd, 1) := by decide +kernel
theorem dX2_rowsRead_6 : decode cX2_rowsRead 6 = .ok (.ireturn, 1) := by decide +kernel
theorem dX2_signsOfRow_0 : decode cX2_signsOfRow 0 = .ok (.aload_n 0, 1) := by decide +kernel
theorem dX2_signsOfRow_1 : decode cX2_signsOfRow 1 = .ok (.getfield 19, 3) := by decide +kernel
theorem dX2_signsOfRow_4 : decode cX2_signsOfRow 4 = .ok (.ireturn, 1) := by decide +kernel
theorem dX2_rowAt_0 : decode cX2_rowAt 0 = .ok (.iload_n 1, 1) := by decide +kernel
theorem dX2_rowAt_1 : decode cX2_rowAt 1 = .ok (.ifCond .lt 21, 3) := by decide +kernel
theorem dX2_rowAt_4 : decode cX2_rowAt 4 = .ok (.iload_n 1, 1) := by decide +kernel
theorem dX2_rowAt_5 : decode cX2_rowAt 5 = .ok (.aload_n 0, 1) := by decide +kernel
theorem dX2_rowAt_6 : decode cX2_rowAt 6 = .ok (.getfield 9, 3) := by decide +kernel
theorem dX2_rowAt_9 : decode cX2_rowAt 9 = .ok (.arraylength, 1) := by decide +kernel
theorem dX2_rowAt_10 : decode cX2_rowAt 10 = .ok (.if_icmp .ge 12, 3) := by decide +kernel
theorem dX2_rowAt_13 : decode cX2_rowAt 13 = .ok (.aload_n 0, 1) := by decide +kernel
theorem dX2_rowAt_14 : decode cX2_rowAt 14 = .ok (.getfield 9, 3) := by decide +kernel
theorem dX2_rowAt_17 : decode cX2_rowAt 17 = .ok (.iload_n 1, 1) := by decide +kernel
theorem dX2_rowAt_18 : decode cX2_rowAt 18 = .ok (.iaload, 1) := by decide +kernel
theorem dX2_rowAt_19 : decode cX2_rowAt 19 = .ok (.goto 4, 3) := by decide +kernel
theorem dX2_rowAt_22 : decode cX2_rowAt 22 = .ok (.iconst 0, 1) := by decide +kernel
theorem dX2_rowAt_23 : decode cX2_rowAt 23 = .ok (.ireturn, 1) := by decide +kernel
theorem dX3_init_0 : decode cX3_init 0 = .ok (.aload_n 0, 1) := by decide +kernel
theorem dX3_init_1 : decode cX3_init 1 = .ok (.invokespecial 3, 3) := by decide +kernel
theorem dX3_init_4 : decode cX3_init 4 = .ok (.aload_n 0, 1) := by decide +kernel
theorem dX3_init_5 : decode cX3_init 5 = .ok (.iconst 5, 1) := by decide +kernel
theorem dX3_init_6 : decode cX3_init 6 = .ok (.newarray .int, 2) := by decide +kernel
theorem dX3_init_8 : decode cX3_init 8 = .ok (.putfield 9, 3) := by decide +kernel
theorem dX3_init_11 : decode cX3_init 11 = .ok (.aload_n 0, 1) := by decide +kernel
theorem dX3_init_12 : decode cX3_init 12 = .ok (.bipush 32, 2) := by decide +kernel
theorem dX3_init_14 : decode cX3_init 14 = .ok (.newarray .int, 2) := by decide +kernel
theorem dX3_init_16 : decode cX3_init 16 = .ok (.putfield 15, 3) := by decide +kernel
theorem dX3_init_19 : decode cX3_init 19 = .ok (.aload_n 0, 1) := by decide +kernel
theorem dX3_init_20 : decode cX3_init 20 = .ok (.bipush 11, 2) := by decide +kernel
theorem dX3_init_22 : decode cX3_init 22 = .ok (.newarray .int, 2) := by decide +kernel
theorem dX3_init_24 : decode cX3_init 24 = .ok (.putfield 18, 3) := by decide +kernel
theorem dX3_init_27 : decode cX3_init 27 = .ok (.aload_n 0, 1) := by decide +kernel
theorem dX3_init_28 : decode cX3_init 28 = .ok (.iconst 0, 1) := by decide +kernel
theorem dX3_init_29 : decode cX3_init 29 = .ok (.putfield 21, 3) := by decide +kernel
theorem dX3_init_32 : decode cX3_init 32 = .ok (.aload_n 0, 1) := by decide +kernel
theorem dX3_init_33 : decode cX3_init 33 = .ok (.iconst 0, 1) := by decide +kernel
theorem dX3_init_34 : decode cX3_init 34 = .ok (.putfield 25, 3) := by decide +kernel
theorem dX3_init_37 : decode cX3_init 37 = .ok (.aload_n 0, 1) := by decide +kernel
theorem dX3_init_38 : decode cX3_init 38 = .ok (.iconst 0, 1) := by decide +kernel
theorem dX3_init_39 : decode cX3_init 39 = .ok (.putfield 28, 3) := by decide +kernel
theorem dX3_init_42 : decode cX3_init 42 = .ok (.aload_n 0, 1) := by decide +kernel
theorem dX3_init_43 : decode cX3_init 43 = .ok (.iconst 0, 1) := by decide +kernel
theorem dX3_init_44 : decode cX3_init 44 = .ok (.putfield 31, 3) := by decide +kernel
theorem dX3_init_47 : decode cX3_init 47 = .ok (.aload_n 0, 1) := by decide +kernel
theorem dX3_init_48 : decode cX3_init 48 = .ok (.iconst 0, 1) := by decide +kernel
theorem dX3_init_49 : decode cX3_init 49 = .ok (.putfield 34, 3) := by decide +kernel
theorem dX3_init_52 : decode cX3_init 52 = .ok (.aload_n 0, 1) := by decide +kernel
theorem dX3_init_53 : decode cX3_init 53 = .ok (.iconst 0, 1) := by decide +kernel
theorem dX3_init_54 : decode cX3_init 54 = .ok (.putfield 37, 3) := by decide +kernel
theorem dX3_init_57 : decode cX3_init 57 = .ok (.return_, 1) := by decide +kernel
set_option maxRecDepth 20000 in
theorem ggX3_become_X2_rowsRead : GoodIn wsX3_become wsX2_rowsRead := goodIn_r _ [10, 11, 82, 83, 84, 85] (by decide +kernel) (by decide +kernel)
set_option maxRecDepth 20000 in
theorem gX3_become_X2_rowsRead : GoodIn wsX3_become (wsV RX3 40 RX2 yX2_rowsRead wsX2_rowsRead) := goodIn_app (goodIn_of _ (by decide +kernel)) ggX3_become_X2_rowsRead
set_option maxRecDepth 20000 in
theorem ggX3_become_X2_signsOfRow : GoodIn wsX3_become wsX2_signsOfRow := goodIn_r _ [15, 16, 82, 83, 84, 85] (by decide +kernel) (by decide +kernel)
set_option maxRecDepth 20000 in
theorem gX3_become_X2_signsOfRow : GoodIn wsX3_become (wsV RX3 46 RX2 yX2_signsOfRow wsX2_signsOfRow) := goodIn_app (goodIn_of _ (by decide +kernel)) ggX3_become_X2_signsOfRow
set_option maxRecDepth 20000 in
theorem ggX3_become_X2_rowAt : GoodIn wsX3_become wsX2_rowAt := goodIn_r _ [20, 21, 82, 83, 84, 85] (by decide +kernel) (by decide +kernel)
set_option maxRecDepth 20000 in
theorem gX3_become_X2_rowAt : GoodIn wsX3_become (wsV RX3 49 RX2 yX2_rowAt wsX2_rowAt) := goodIn_app (goodIn_of _ (by decide +kernel)) ggX3_become_X2_rowAt
set_option maxRecDepth 20000 in
theorem ggX3_become_X3_findLeaders : GoodIn wsX3_become wsX3_findLeaders := goodIn_r _ [26, 27, 28, 29, 30, 25, 31, 2, 32, 33, 34, 35, 1, 3, 36, 37, 38, 39, 40, 41, 42, 43, 44, 45, 46, 47, 48, 49, 50, 51, 52, 53, 54, 55, 56, 57, 73, 74, 75, 76, 77, 78, 79, 80, 81] (by decide +kernel) (by decide +kernel)
set_option maxRecDepth 20000 in
theorem gX3_become_X3_findLeaders : GoodIn wsX3_become (wsV RX3 53 RX3 yX3_findLeaders wsX3_findLeaders) := goodIn_app (goodIn_of _ (by decide +kernel)) ggX3_become_X3_findLeaders
set_option maxRecDepth 20000 in
theorem ggX3_become_X3_countLeaders : GoodIn wsX3_become wsX3_countLeaders := goodIn_r _ [61, 62, 63, 27, 64, 65, 66, 67, 68, 36, 37, 38, 39, 40, 41, 42, 73, 74, 75, 76, 77, 78, 79, 80, 81] (by decide +kernel) (by decide +kernel)
set_option maxRecDepth 20000 in
theorem gX3_become_X3_countLeaders : GoodIn wsX3_become (wsV RX3 56 RX3 yX3_countLeaders wsX3_countLeaders) := goodIn_app (goodIn_of _ (by decide +kernel)) ggX3_become_X3_countLeaders
set_option maxRecDepth 20000 in
theorem ggX3_become_X3_leastWeightWithoutSyndrome : GoodIn wsX3_become wsX3_leastWeightWithoutSyndrome := goodIn_r _ [72, 2, 28, 29, 30, 25, 31, 36, 37, 38, 39, 40, 41, 42, 32, 33, 34, 35, 1, 3, 73, 74, 75, 76, 77, 78, 79, 80, 81] (by decide +kernel) (by decide +kernel)
set_option maxRecDepth 20000 in
theorem gX3_become_X3_leastWeightWithoutSyndrome : GoodIn wsX3_become (wsV RX3 59 RX3 yX3_leastWeightWithoutSyndrome wsX3_leastWeightWithoutSyndrome) := goodIn_app (goodIn_of _ (by decide +kernel)) ggX3_become_X3_leastWeightWithoutSyndrome
theorem dX3_become_0 : decode cX3_become 0 = .ok (.aload_n 0, 1) := by decide +kernel
theorem dX3_become_1 : decode cX3_become 1 = .ok (.aload_n 1, 1) := by decide +kernel
theorem dX3_become_2 : decode cX3_become 2 = .ok (.invokevirtual 40, 3) := by decide +kernel
theorem dX3_become_5 : decode cX3_become 5 = .ok (.putfield 21, 3) := by decide +kernel
theorem dX3_become_8 : decode cX3_become 8 = .ok (.aload_n 0, 1) := by decide +kernel
theorem dX3_become_9 : decode cX3_become 9 = .ok (.aload_n 1, 1) := by decide +kernel
theorem dX3_become_10 : decode cX3_become 10 = .ok (.invokevirtual 46, 3) := by decide +kernel
theorem dX3_become_13 : decode cX3_become 13 = .ok (.putfield 25, 3) := by decide +kernel
theorem dX3_become_16 : decode cX3_become 16 = .ok (.iconst 0, 1) := by decide +kernel
theorem dX3_become_17 : decode cX3_become 17 = .ok (.istore_n 2, 1) := by decide +kernel
theorem dX3_become_18 : decode cX3_become 18 = .ok (.iload_n 2, 1) := by decide +kernel
theorem dX3_become_19 : decode cX3_become 19 = .ok (.aload_n 0, 1) := by decide +kernel
theorem dX3_become_20 : decode cX3_become 20 = .ok (.getfield 9, 3) := by decide +kernel
theorem dX3_become_23 : decode cX3_become 23 = .ok (.arraylength, 1) := by decide +kernel
theorem dX3_become_24 : decode cX3_become 24 = .ok (.if_icmp .ge 20, 3) := by decide +kernel
theorem dX3_become_27 : decode cX3_become 27 = .ok (.aload_n 0, 1) := by decide +kernel
theorem dX3_become_28 : decode cX3_become 28 = .ok (.getfield 9, 3) := by decide +kernel
theorem dX3_become_31 : decode cX3_become 31 = .ok (.iload_n 2, 1) := by decide +kernel
theorem dX3_become_32 : decode cX3_become 32 = .ok (.aload_n 1, 1) := by decide +kernel
theorem dX3_become_33 : decode cX3_become 33 = .ok (.iload_n 2, 1) := by decide +kernel
theorem dX3_become_34 : decode cX3_become 34 = .ok (.invokevirtual 49, 3) := by decide +kernel
theorem dX3_become_37 : decode cX3_become 37 = .ok (.iastore, 1) := by decide +kernel
theorem dX3_become_38 : decode cX3_become 38 = .ok (.iinc 2 1, 3) := by decide +kernel
theorem dX3_become_41 : decode cX3_become 41 = .ok (.goto (-23), 3) := by decide +kernel
theorem dX3_become_44 : decode cX3_become 44 = .ok (.aload_n 0, 1) := by decide +kernel
theorem dX3_become_45 : decode cX3_become 45 = .ok (.invokevirtual 53, 3) := by decide +kernel
theorem dX3_become_48 : decode cX3_become 48 = .ok (.aload_n 0, 1) := by decide +kernel
theorem dX3_become_49 : decode cX3_become 49 = .ok (.invokevirtual 56, 3) := by decide +kernel
theorem dX3_become_52 : decode cX3_become 52 = .ok (.aload_n 0, 1) := by decide +kernel
theorem dX3_become_53 : decode cX3_become 53 = .ok (.aload_n 0, 1) := by decide +kernel
theorem dX3_become_54 : decode cX3_become 54 = .ok (.invokevirtual 59, 3) := by decide +kernel
theorem dX3_become_57 : decode cX3_become 57 = .ok (.putfield 31, 3) := by decide +kernel
theorem dX3_become_60 : decode cX3_become 60 = .ok (.aload_n 0, 1) := by decide +kernel
theorem dX3_become_61 : decode cX3_become 61 = .ok (.aload_n 0, 1) := by decide +kernel
theorem dX3_become_62 : decode cX3_become 62 = .ok (.getfield 31, 3) := by decide +kernel
theorem dX3_become_65 : decode cX3_become 65 = .ok (.aload_n 0, 1) := by decide +kernel
theorem dX3_become_66 : decode cX3_become 66 = .ok (.getfield 25, 3) := by decide +kernel
theorem dX3_become_69 : decode cX3_become 69 = .ok (.if_icmp .le 10, 3) := by decide +kernel
theorem dX3_become_72 : decode cX3_become 72 = .ok (.aload_n 0, 1) := by decide +kernel
theorem dX3_become_73 : decode cX3_become 73 = .ok (.getfield 25, 3) := by decide +kernel
theorem dX3_become_76 : decode cX3_become 76 = .ok (.goto 11, 3) := by decide +kernel
theorem dX3_become_79 : decode cX3_become 79 = .ok (.aload_n 0, 1) := by decide +kernel
theorem dX3_become_80 : decode cX3_become 80 = .ok (.getfield 31, 3) := by decide +kernel
theorem dX3_become_83 : decode cX3_become 83 = .ok (.iconst 1, 1) := by decide +kernel
theorem dX3_become_84 : decode cX3_become 84 = .ok (.isub, 1) := by decide +kernel
theorem dX3_become_85 : decode cX3_become 85 = .ok (.iconst 2, 1) := by decide +kernel
theorem dX3_become_86 : decode cX3_become 86 = .ok (.idiv, 1) := by decide +kernel
theorem dX3_become_87 : decode cX3_become 87 = .ok (.putfield 34, 3) := by decide +kernel
theorem dX3_become_90 : decode cX3_become 90 = .ok (.return_, 1) := by decide +kernel
set_option maxRecDepth 20000 in
theorem ggX3_findLeaders_X3_words : GoodIn wsX3_findLeaders wsX3_words := goodIn_r _ [6, 7, 36, 37, 38, 39, 40, 41, 42, 43, 44] (by decide +kernel) (by decide +kernel)
set_option maxRecDepth 20000 in
theorem gX3_findLeaders_X3_words : GoodIn wsX3_findLeaders (wsV RX3 62 RX3 yX3_words wsX3_words) := goodIn_app (goodIn_of _ (by decide +kernel)) ggX3_findLeaders_X3_words
set_option maxRecDepth 20000 in
theorem ggX3_findLeaders_X3_syndromeOf : GoodIn wsX3_findLeaders wsX3_syndromeOf := goodIn_r _ [11, 12, 13, 14, 15, 16, 17, 18, 19, 20, 36, 37, 38, 39, 40, 41, 42, 43, 44] (by decide +kernel) (by decide +kernel)
set_option maxRecDepth 20000 in
theorem gX3_findLeaders_X3_syndromeOf : GoodIn wsX3_findLeaders (wsV RX3 65 RX3 yX3_syndromeOf wsX3_syndromeOf) := goodIn_app (goodIn_of _ (by decide +kernel)) ggX3_findLeaders_X3_syndromeOf
set_option maxRecDepth 20000 in
theorem ggX3_findLeaders_X3_isSyndrome : GoodIn wsX3_findLeaders wsX3_isSyndrome := goodIn_r _ [24, 1, 25, 26, 27, 5, 28, 12, 36, 37, 38, 39, 40, 41, 42, 43, 44] (by decide +kernel) (by decide +kernel)
set_option maxRecDepth 20000 in
theorem gX3_findLeaders_X3_isSyndrome : GoodIn wsX3_findLeaders (wsV RX3 68 RX3 yX3_isSyndrome wsX3_isSyndrome) := goodIn_app (goodIn_of _ (by decide +kernel)) ggX3_findLeaders_X3_isSyndrome
set_option maxRecDepth 20000 in
theorem ggX3_findLeaders_X3_leaderOf : GoodIn wsX3_findLeaders wsX3_leaderOf := goodIn_r _ [32, 1, 21, 22, 23, 5, 24, 25, 26, 27, 28, 12, 36, 37, 38, 39, 40, 41, 42, 43, 44] (by decide +kernel) (by decide +kernel)
set_option maxRecDepth 20000 in
theorem gX3_findLeaders_X3_leaderOf : GoodIn wsX3_findLeaders (wsV RX3 72 RX3 yX3_leaderOf wsX3_leaderOf) := goodIn_app (goodIn_of _ (by decide +kernel)) ggX3_findLeaders_X3_leaderOf
set_option maxRecDepth 20000 in
theorem ggX3_findLeaders_X3_isNearer : GoodIn wsX3_findLeaders wsX3_isNearer := goodIn_r _ [35, 14, 15, 16, 17, 18, 19, 20] (by decide +kernel) (by decide +kernel)
set_option maxRecDepth 20000 in
theorem gX3_findLeaders_X3_isNearer : GoodIn wsX3_findLeaders (va_wsS RX3 75 yX3_isNearer wsX3_isNearer) := goodIn_app (goodIn_of _ (by decide +kernel)) ggX3_findLeaders_X3_isNearer
theorem dX3_findLeaders_0 : decode cX3_findLeaders 0 = .ok (.iconst 0, 1) := by decide +kernel
theorem dX3_findLeaders_1 : decode cX3_findLeaders 1 = .ok (.istore_n 1, 1) := by decide +kernel
theorem dX3_findLeaders_2 : decode cX3_findLeaders 2 = .ok (.iload_n 1, 1) := by decide +kernel
theorem dX3_findLeaders_3 : decode cX3_findLeaders 3 = .ok (.aload_n 0, 1) := by decide +kernel
theorem dX3_findLeaders_4 : decode cX3_findLeaders 4 = .ok (.getfield 15, 3) := by decide +kernel
theorem dX3_findLeaders_7 : decode cX3_findLeaders 7 = .ok (.arraylength, 1) := by decide +kernel
theorem dX3_findLeaders_8 : decode cX3_findLeaders 8 = .ok (.if_icmp .ge 18, 3) := by decide +kernel
theorem dX3_findLeaders_11 : decode cX3_findLeaders 11 = .ok (.aload_n 0, 1) := by decide +kernel
theorem dX3_findLeaders_12 : decode cX3_findLeaders 12 = .ok (.getfield 15, 3) := by decide +kernel
theorem dX3_findLeaders_15 : decode cX3_findLeaders 15 = .ok (.iload_n 1, 1) := by decide +kernel
theorem dX3_findLeaders_16 : decode cX3_findLeaders 16 = .ok (.sipush (-1001), 3) := by decide +kernel
theorem dX3_findLeaders_19 : decode cX3_findLeaders 19 = .ok (.iastore, 1) := by decide +kernel
theorem dX3_findLeaders_20 : decode cX3_findLeaders 20 = .ok (.iinc 1 1, 3) := by decide +kernel
theorem dX3_findLeaders_23 : decode cX3_findLeaders 23 = .ok (.goto (-21), 3) := by decide +kernel
theorem dX3_findLeaders_26 : decode cX3_findLeaders 26 = .ok (.aload_n 0, 1) := by decide +kernel
theorem dX3_findLeaders_27 : decode cX3_findLeaders 27 = .ok (.invokevirtual 62, 3) := by decide +kernel
theorem dX3_findLeaders_30 : decode cX3_findLeaders 30 = .ok (.istore_n 1, 1) := by decide +kernel
theorem dX3_findLeaders_31 : decode cX3_findLeaders 31 = .ok (.iconst 0, 1) := by decide +kernel
theorem dX3_findLeaders_32 : decode cX3_findLeaders 32 = .ok (.istore_n 2, 1) := by decide +kernel
theorem dX3_findLeaders_33 : decode cX3_findLeaders 33 = .ok (.iload_n 2, 1) := by decide +kernel
theorem dX3_findLeaders_34 : decode cX3_findLeaders 34 = .ok (.iload_n 1, 1) := by decide +kernel
theorem dX3_findLeaders_35 : decode cX3_findLeaders 35 = .ok (.if_icmp .ge 42, 3) := by decide +kernel
theorem dX3_findLeaders_38 : decode cX3_findLeaders 38 = .ok (.aload_n 0, 1) := by decide +kernel
theorem dX3_findLeaders_39 : decode cX3_findLeaders 39 = .ok (.iload_n 2, 1) := by decide +kernel
theorem dX3_findLeaders_40 : decode cX3_findLeaders 40 = .ok (.invokevirtual 65, 3) := by decide +kernel
theorem dX3_findLeaders_43 : decode cX3_findLeaders 43 = .ok (.istore_n 3, 1) := by decide +kernel
theorem dX3_findLeaders_44 : decode cX3_findLeaders 44 = .ok (.aload_n 0, 1) := by decide +kernel
theorem dX3_findLeaders_45 : decode cX3_findLeaders 45 = .ok (.iload_n 3, 1) := by decide +kernel
theorem dX3_findLeaders_46 : decode cX3_findLeaders 46 = .ok (.invokevirtual 68, 3) := by decide +kernel
theorem dX3_findLeaders_49 : decode cX3_findLeaders 49 = .ok (.ifCond .eq 22, 3) := by decide +kernel
theorem dX3_findLeaders_52 : decode cX3_findLeaders 52 = .ok (.iload_n 2, 1) := by decide +kernel
theorem dX3_findLeaders_53 : decode cX3_findLeaders 53 = .ok (.aload_n 0, 1) := by decide +kernel
theorem dX3_findLeaders_54 : decode cX3_findLeaders 54 = .ok (.iload_n 3, 1) := by decide +kernel
theorem dX3_findLeaders_55 : decode cX3_findLeaders 55 = .ok (.invokevirtual 72, 3) := by decide +kernel
theorem dX3_findLeaders_58 : decode cX3_findLeaders 58 = .ok (.invokestatic 75, 3) := by decide +kernel
theorem dX3_findLeaders_61 : decode cX3_findLeaders 61 = .ok (.ifCond .eq 10, 3) := by decide +kernel
theorem dX3_findLeaders_64 : decode cX3_findLeaders 64 = .ok (.aload_n 0, 1) := by decide +kernel
theorem dX3_findLeaders_65 : decode cX3_findLeaders 65 = .ok (.getfield 15, 3) := by decide +kernel
theorem dX3_findLeaders_68 : decode cX3_findLeaders 68 = .ok (.iload_n 3, 1) := by decide +kernel
theorem dX3_findLeaders_69 : decode cX3_findLeaders 69 = .ok (.iload_n 2, 1) := by decide +kernel
theorem dX3_findLeaders_70 : decode cX3_findLeaders 70 = .ok (.iastore, 1) := by decide +kernel
theorem dX3_findLeaders_71 : decode cX3_findLeaders 71 = .ok (.iinc 2 1, 3) := by decide +kernel
theorem dX3_findLeaders_74 : decode cX3_findLeaders 74 = .ok (.goto (-41), 3) := by decide +kernel
theorem dX3_findLeaders_77 : decode cX3_findLeaders 77 = .ok (.return_, 1) := by decide +kernel
set_option maxRecDepth 20000 in
theorem ggX3_isNearer_J6_bitCount_0f7a4 : GoodIn wsX3_isNearer wsJ6_bitCount_0f7a4 := goodIn_r _ [4, 5, 6, 7] (by decide +kernel) (by decide +kernel)
set_option maxRecDepth 20000 in
theorem gX3_isNearer_J6_bitCount_0f7a4 : GoodIn wsX3_isNearer (va_wsS RX3 79 yJ6_bitCount_0f7a4 wsJ6_bitCount_0f7a4) := goodIn_app (goodIn_of _ (by decide +kernel)) ggX3_isNearer_J6_bitCount_0f7a4
theorem dX3_isNearer_0 : decode cX3_isNearer 0 = .ok (.iload_n 1, 1) := by decide +kernel
theorem dX3_isNearer_1 : decode cX3_isNearer 1 = .ok (.sipush (-1001), 3) := by decide +kernel
theorem dX3_isNearer_4 : decode cX3_isNearer 4 = .ok (.if_icmp .eq 14, 3) := by decide +kernel
theorem dX3_isNearer_7 : decode cX3_isNearer 7 = .ok (.iload_n 0, 1) := by decide +kernel
theorem dX3_isNearer_8 : decode cX3_isNearer 8 = .ok (.invokestatic 79, 3) := by decide +kernel
theorem dX3_isNearer_11 : decode cX3_isNearer 11 = .ok (.iload_n 1, 1) := by decide +kernel
theorem dX3_isNearer_12 : decode cX3_isNearer 12 = .ok (.invokestatic 79, 3) := by decide +kernel
theorem dX3_isNearer_15 : decode cX3_isNearer 15 = .ok (.if_icmp .ge 7, 3) := by decide +kernel
theorem dX3_isNearer_18 : decode cX3_isNearer 18 = .ok (.iconst 1, 1) := by decide +kernel
theorem dX3_isNearer_19 : decode cX3_isNearer 19 = .ok (.goto 4, 3) := by decide +kernel
theorem dX3_isNearer_22 : decode cX3_isNearer 22 = .ok (.iconst 0, 1) := by decide +kernel
theorem dX3_isNearer_23 : decode cX3_isNearer 23 = .ok (.ireturn, 1) := by decide +kernel
set_option maxRecDepth 20000 in
theorem ggX3_countLeaders_J6_bitCount_0f7a4 : GoodIn wsX3_countLeaders wsJ6_bitCount_0f7a4 := goodIn_r _ [12, 13, 14, 15] (by decide +kernel) (by decide +kernel)
set_option maxRecDepth 20000 in
theorem gX3_countLeaders_J6_bitCount_0f7a4 : GoodIn wsX3_countLeaders (va_wsS RX3 79 yJ6_bitCount_0f7a4 wsJ6_bitCount_0f7a4) := goodIn_app (goodIn_of _ (by decide +kernel)) ggX3_countLeaders_J6_bitCount_0f7a4
theorem dX3_countLeaders_0 : decode cX3_countLeaders 0 = .ok (.iconst 0, 1) := by decide +kernel
theorem dX3_countLeaders_1 : decode cX3_countLeaders 1 = .ok (.istore_n 1, 1) := by decide +kernel
theorem dX3_countLeaders_2 : decode cX3_countLeaders 2 = .ok (.iload_n 1, 1) := by decide +kernel
theorem dX3_countLeaders_3 : decode cX3_countLeaders 3 = .ok (.aload_n 0, 1) := by decide +kernel
theorem dX3_countLeaders_4 : decode cX3_countLeaders 4 = .ok (.getfield 18, 3) := by decide +kernel
theorem dX3_countLeaders_7 : decode cX3_countLeaders 7 = .ok (.arraylength, 1) := by decide +kernel
theorem dX3_countLeaders_8 : decode cX3_countLeaders 8 = .ok (.if_icmp .ge 16, 3) := by decide +kernel
theorem dX3_countLeaders_11 : decode cX3_countLeaders 11 = .ok (.aload_n 0, 1) := by decide +kernel
theorem dX3_countLeaders_12 : decode cX3_countLeaders 12 = .ok (.getfield 18, 3) := by decide +kernel
theorem dX3_countLeaders_15 : decode cX3_countLeaders 15 = .ok (.iload_n 1, 1) := by decide +kernel
theorem dX3_countLeaders_16 : decode cX3_countLeaders 16 = .ok (.iconst 0, 1) := by decide +kernel
theorem dX3_countLeaders_17 : decode cX3_countLeaders 17 = .ok (.iastore, 1) := by decide +kernel
theorem dX3_countLeaders_18 : decode cX3_countLeaders 18 = .ok (.iinc 1 1, 3) := by decide +kernel
theorem dX3_countLeaders_21 : decode cX3_countLeaders 21 = .ok (.goto (-19), 3) := by decide +kernel
theorem dX3_countLeaders_24 : decode cX3_countLeaders 24 = .ok (.iconst 0, 1) := by decide +kernel
theorem dX3_countLeaders_25 : decode cX3_countLeaders 25 = .ok (.istore_n 1, 1) := by decide +kernel
theorem dX3_countLeaders_26 : decode cX3_countLeaders 26 = .ok (.aload_n 0, 1) := by decide +kernel
theorem dX3_countLeaders_27 : decode cX3_countLeaders 27 = .ok (.iconst 0, 1) := by decide +kernel
theorem dX3_countLeaders_28 : decode cX3_countLeaders 28 = .ok (.putfield 37, 3) := by decide +kernel
theorem dX3_countLeaders_31 : decode cX3_countLeaders 31 = .ok (.iconst 0, 1) := by decide +kernel
theorem dX3_countLeaders_32 : decode cX3_countLeaders 32 = .ok (.istore_n 2, 1) := by decide +kernel
theorem dX3_countLeaders_33 : decode cX3_countLeaders 33 = .ok (.iload_n 2, 1) := by decide +kernel
theorem dX3_countLeaders_34 : decode cX3_countLeaders 34 = .ok (.aload_n 0, 1) := by decide +kernel
theorem dX3_countLeaders_35 : decode cX3_countLeaders 35 = .ok (.getfield 15, 3) := by decide +kernel
theorem dX3_countLeaders_38 : decode cX3_countLeaders 38 = .ok (.arraylength, 1) := by decide +kernel
theorem dX3_countLeaders_39 : decode cX3_countLeaders 39 = .ok (.if_icmp .ge 65, 3) := by decide +kernel
theorem dX3_countLeaders_42 : decode cX3_countLeaders 42 = .ok (.aload_n 0, 1) := by decide +kernel
theorem dX3_countLeaders_43 : decode cX3_countLeaders 43 = .ok (.getfield 15, 3) := by decide +kernel
theorem dX3_countLeaders_46 : decode cX3_countLeaders 46 = .ok (.iload_n 2, 1) := by decide +kernel
theorem dX3_countLeaders_47 : decode cX3_countLeaders 47 = .ok (.iaload, 1) := by decide +kernel
theorem dX3_countLeaders_48 : decode cX3_countLeaders 48 = .ok (.sipush (-1001), 3) := by decide +kernel
theorem dX3_countLeaders_51 : decode cX3_countLeaders 51 = .ok (.if_icmp .eq 47, 3) := by decide +kernel
theorem dX3_countLeaders_54 : decode cX3_countLeaders 54 = .ok (.aload_n 0, 1) := by decide +kernel
theorem dX3_countLeaders_55 : decode cX3_countLeaders 55 = .ok (.getfield 15, 3) := by decide +kernel
theorem dX3_countLeaders_58 : decode cX3_countLeaders 58 = .ok (.iload_n 2, 1) := by decide +kernel
theorem dX3_countLeaders_59 : decode cX3_countLeaders 59 = .ok (.iaload, 1) := by decide +kernel
theorem dX3_countLeaders_60 : decode cX3_countLeaders 60 = .ok (.invokestatic 79, 3) := by decide +kernel
theorem dX3_countLeaders_63 : decode cX3_countLeaders 63 = .ok (.istore_n 3, 1) := by decide +kernel
theorem dX3_countLeaders_64 : decode cX3_countLeaders 64 = .ok (.iinc 1 1, 3) := by decide +kernel
theorem dX3_countLeaders_67 : decode cX3_countLeaders 67 = .ok (.aload_n 0, 1) := by decide +kernel
theorem dX3_countLeaders_68 : decode cX3_countLeaders 68 = .ok (.aload_n 0, 1) := by decide +kernel
theorem dX3_countLeaders_69 : decode cX3_countLeaders 69 = .ok (.getfield 37, 3) := by decide +kernel
theorem dX3_countLeaders_72 : decode cX3_countLeaders 72 = .ok (.iload_n 3, 1) := by decide +kernel
theorem dX3_countLeaders_73 : decode cX3_countLeaders 73 = .ok (.invokestatic 84, 3) := by decide +kernel
theorem dX3_countLeaders_76 : decode cX3_countLeaders 76 = .ok (.putfield 37, 3) := by decide +kernel
theorem dX3_countLeaders_79 : decode cX3_countLeaders 79 = .ok (.iload_n 3, 1) := by decide +kernel
theorem dX3_countLeaders_80 : decode cX3_countLeaders 80 = .ok (.aload_n 0, 1) := by decide +kernel
theorem dX3_countLeaders_81 : decode cX3_countLeaders 81 = .ok (.getfield 18, 3) := by decide +kernel
theorem dX3_countLeaders_84 : decode cX3_countLeaders 84 = .ok (.arraylength, 1) := by decide +kernel
theorem dX3_countLeaders_85 : decode cX3_countLeaders 85 = .ok (.if_icmp .ge 13, 3) := by decide +kernel
theorem dX3_countLeaders_88 : decode cX3_countLeaders 88 = .ok (.aload_n 0, 1) := by decide +kernel
theorem dX3_countLeaders_89 : decode cX3_countLeaders 89 = .ok (.getfield 18, 3) := by decide +kernel
theorem dX3_countLeaders_92 : decode cX3_countLeaders 92 = .ok (.iload_n 3, 1) := by decide +kernel
theorem dX3_countLeaders_93 : decode cX3_countLeaders 93 = .ok (.dup2, 1) := by decide +kernel
theorem dX3_countLeaders_94 : decode cX3_countLeaders 94 = .ok (.iaload, 1) := by decide +kernel
theorem dX3_countLeaders_95 : decode cX3_countLeaders 95 = .ok (.iconst 1, 1) := by decide +kernel
theorem dX3_countLeaders_96 : decode cX3_countLeaders 96 = .ok (.iadd, 1) := by decide +kernel
theorem dX3_countLeaders_97 : decode cX3_countLeaders 97 = .ok (.iastore, 1) := by decide +kernel
theorem dX3_countLeaders_98 : decode cX3_countLeaders 98 = .ok (.iinc 2 1, 3) := by decide +kernel
theorem dX3_countLeaders_101 : decode cX3_countLeaders 101 = .ok (.goto (-68), 3) := by decide +kernel
theorem dX3_countLeaders_104 : decode cX3_countLeaders 104 = .ok (.aload_n 0, 1) := by decide +kernel
theorem dX3_countLeaders_105 : decode cX3_countLeaders 105 = .ok (.iload_n 1, 1) := by decide +kernel
theorem dX3_countLeaders_106 : decode cX3_countLeaders 106 = .ok (.iconst 1, 1) := by decide +kernel
theorem dX3_countLeaders_107 : decode cX3_countLeaders 107 = .ok (.isub, 1) := by decide +kernel
theorem dX3_countLeaders_108 : decode cX3_countLeaders 108 = .ok (.invokestatic 79, 3) := by decide +kernel
theorem dX3_countLeaders_111 : decode cX3_countLeaders 111 = .ok (.putfield 28, 3) := by decide +kernel
theorem dX3_countLeaders_114 : decode cX3_countLeaders 114 = .ok (.return_, 1) := by decide +kernel
set_option maxRecDepth 20000 in
theorem ggX3_leastWeightWithoutSyndrome_X3_words : GoodIn wsX3_leastWeightWithoutSyndrome wsX3_words := goodIn_r _ [6, 1, 20, 21, 22, 23, 24, 25, 26, 27, 28] (by decide +kernel) (by decide +kernel)
set_option maxRecDepth 20000 in
theorem gX3_leastWeightWithoutSyndrome_X3_words : GoodIn wsX3_leastWeightWithoutSyndrome (wsV RX3 62 RX3 yX3_words wsX3_words) := goodIn_app (goodIn_of _ (by decide +kernel)) ggX3_leastWeightWithoutSyndrome_X3_words
set_option maxRecDepth 20000 in
theorem ggX3_leastWeightWithoutSyndrome_J6_bitCount_0f7a4 : GoodIn wsX3_leastWeightWithoutSyndrome wsJ6_bitCount_0f7a4 := goodIn_r _ [10, 11, 12, 13] (by decide +kernel) (by decide +kernel)
set_option maxRecDepth 20000 in
theorem gX3_leastWeightWithoutSyndrome_J6_bitCount_0f7a4 : GoodIn wsX3_leastWeightWithoutSyndrome (va_wsS RX3 79 yJ6_bitCount_0f7a4 wsJ6_bitCount_0f7a4) := goodIn_app (goodIn_of _ (by decide +kernel)) ggX3_leastWeightWithoutSyndrome_J6_bitCount_0f7a4
set_option maxRecDepth 20000 in
theorem ggX3_leastWeightWithoutSyndrome_X3_syndromeOf : GoodIn wsX3_leastWeightWithoutSyndrome wsX3_syndromeOf := goodIn_r _ [17, 18, 19, 7, 8, 9, 10, 11, 12, 13, 20, 21, 22, 23, 24, 25, 26, 27, 28] (by decide +kernel) (by decide +kernel)
set_option maxRecDepth 20000 in
theorem gX3_leastWeightWithoutSyndrome_X3_syndromeOf : GoodIn wsX3_leastWeightWithoutSyndrome (wsV RX3 65 RX3 yX3_syndromeOf wsX3_syndromeOf) := goodIn_app (goodIn_of _ (by decide +kernel)) ggX3_leastWeightWithoutSyndrome_X3_syndromeOf
theorem dX3_leastWeightWithoutSyndrome_0 : decode cX3_leastWeightWithoutSyndrome 0 = .ok (.aload_n 0, 1) := by decide +kernel
theorem dX3_leastWeightWithoutSyndrome_1 : decode cX3_leastWeightWithoutSyndrome 1 = .ok (.invokevirtual 62, 3) := by decide +kernel
theorem dX3_leastWeightWithoutSyndrome_4 : decode cX3_leastWeightWithoutSyndrome 4 = .ok (.istore_n 1, 1) := by decide +kernel
theorem dX3_leastWeightWithoutSyndrome_5 : decode cX3_leastWeightWithoutSyndrome 5 = .ok (.aload_n 0, 1) := by decide +kernel
theorem dX3_leastWeightWithoutSyndrome_6 : decode cX3_leastWeightWithoutSyndrome 6 = .ok (.getfield 25, 3) := by decide +kernel
theorem dX3_leastWeightWithoutSyndrome_9 : decode cX3_leastWeightWithoutSyndrome 9 = .ok (.iconst 1, 1) := by decide +kernel
theorem dX3_leastWeightWithoutSyndrome_10 : decode cX3_leastWeightWithoutSyndrome 10 = .ok (.iadd, 1) := by decide +kernel
theorem dX3_leastWeightWithoutSyndrome_11 : decode cX3_leastWeightWithoutSyndrome 11 = .ok (.istore_n 2, 1) := by decide +kernel
theorem dX3_leastWeightWithoutSyndrome_12 : decode cX3_leastWeightWithoutSyndrome 12 = .ok (.iconst 1, 1) := by decide +kernel
theorem dX3_leastWeightWithoutSyndrome_13 : decode cX3_leastWeightWithoutSyndrome 13 = .ok (.istore_n 3, 1) := by decide +kernel
theorem dX3_leastWeightWithoutSyndrome_14 : decode cX3_leastWeightWithoutSyndrome 14 = .ok (.iload_n 3, 1) := by decide +kernel
theorem dX3_leastWeightWithoutSyndrome_15 : decode cX3_leastWeightWithoutSyndrome 15 = .ok (.iload_n 1, 1) := by decide +kernel
theorem dX3_leastWeightWithoutSyndrome_16 : decode cX3_leastWeightWithoutSyndrome 16 = .ok (.if_icmp .ge 32, 3) := by decide +kernel
theorem dX3_leastWeightWithoutSyndrome_19 : decode cX3_leastWeightWithoutSyndrome 19 = .ok (.iload_n 3, 1) := by decide +kernel
theorem dX3_leastWeightWithoutSyndrome_20 : decode cX3_leastWeightWithoutSyndrome 20 = .ok (.invokestatic 79, 3) := by decide +kernel
theorem dX3_leastWeightWithoutSyndrome_23 : decode cX3_leastWeightWithoutSyndrome 23 = .ok (.istore 4, 2) := by decide +kernel
theorem dX3_leastWeightWithoutSyndrome_25 : decode cX3_leastWeightWithoutSyndrome 25 = .ok (.iload 4, 2) := by decide +kernel
theorem dX3_leastWeightWithoutSyndrome_27 : decode cX3_leastWeightWithoutSyndrome 27 = .ok (.iload_n 2, 1) := by decide +kernel
theorem dX3_leastWeightWithoutSyndrome_28 : decode cX3_leastWeightWithoutSyndrome 28 = .ok (.if_icmp .ge 14, 3) := by decide +kernel
theorem dX3_leastWeightWithoutSyndrome_31 : decode cX3_leastWeightWithoutSyndrome 31 = .ok (.aload_n 0, 1) := by decide +kernel
theorem dX3_leastWeightWithoutSyndrome_32 : decode cX3_leastWeightWithoutSyndrome 32 = .ok (.iload_n 3, 1) := by decide +kernel
theorem dX3_leastWeightWithoutSyndrome_33 : decode cX3_leastWeightWithoutSyndrome 33 = .ok (.invokevirtual 65, 3) := by decide +kernel
theorem dX3_leastWeightWithoutSyndrome_36 : decode cX3_leastWeightWithoutSyndrome 36 = .ok (.ifCond .ne 6, 3) := by decide +kernel
theorem dX3_leastWeightWithoutSyndrome_39 : decode cX3_leastWeightWithoutSyndrome 39 = .ok (.iload 4, 2) := by decide +kernel
theorem dX3_leastWeightWithoutSyndrome_41 : decode cX3_leastWeightWithoutSyndrome 41 = .ok (.istore_n 2, 1) := by decide +kernel
theorem dX3_leastWeightWithoutSyndrome_42 : decode cX3_leastWeightWithoutSyndrome 42 = .ok (.iinc 3 1, 3) := by decide +kernel
theorem dX3_leastWeightWithoutSyndrome_45 : decode cX3_leastWeightWithoutSyndrome 45 = .ok (.goto (-31), 3) := by decide +kernel
theorem dX3_leastWeightWithoutSyndrome_48 : decode cX3_leastWeightWithoutSyndrome 48 = .ok (.iload_n 2, 1) := by decide +kernel
theorem dX3_leastWeightWithoutSyndrome_49 : decode cX3_leastWeightWithoutSyndrome 49 = .ok (.ireturn, 1) := by decide +kernel
theorem dX3_areThere_0 : decode cX3_areThere 0 = .ok (.aload_n 0, 1) := by decide +kernel
theorem dX3_areThere_1 : decode cX3_areThere 1 = .ok (.getfield 25, 3) := by decide +kernel
theorem dX3_areThere_4 : decode cX3_areThere 4 = .ok (.ifCond .le 7, 3) := by decide +kernel
theorem dX3_areThere_7 : decode cX3_areThere 7 = .ok (.iconst 1, 1) := by decide +kernel
theorem dX3_areThere_8 : decode cX3_areThere 8 = .ok (.goto 4, 3) := by decide +kernel
theorem dX3_areThere_11 : decode cX3_areThere 11 = .ok (.iconst 0, 1) := by decide +kernel
theorem dX3_areThere_12 : decode cX3_areThere 12 = .ok (.ireturn, 1) := by decide +kernel
theorem dX3_length_0 : decode cX3_length 0 = .ok (.aload_n 0, 1) := by decide +kernel
theorem dX3_length_1 : decode cX3_length 1 = .ok (.getfield 25, 3) := by decide +kernel
theorem dX3_length_4 : decode cX3_length 4 = .ok (.ireturn, 1) := by decide +kernel
theorem dX3_rowCount_0 : decode cX3_rowCount 0 = .ok (.aload_n 0, 1) := by decide +kernel
theorem dX3_rowCount_1 : decode cX3_rowCount 1 = .ok (.getfield 21, 3) := by decide +kernel
theorem dX3_rowCount_4 : decode cX3_rowCount 4 = .ok (.ireturn, 1) := by decide +kernel
theorem dX3_words_0 : decode cX3_words 0 = .ok (.iconst 1, 1) := by decide +kernel
theorem dX3_words_1 : decode cX3_words 1 = .ok (.aload_n 0, 1) := by decide +kernel
theorem dX3_words_2 : decode cX3_words 2 = .ok (.getfield 25, 3) := by decide +kernel
theorem dX3_words_5 : decode cX3_words 5 = .ok (.ishl, 1) := by decide +kernel
theorem dX3_words_6 : decode cX3_words 6 = .ok (.ireturn, 1) := by decide +kernel
theorem dX3_syndromes_0 : decode cX3_syndromes 0 = .ok (.iconst 1, 1) := by decide +kernel
theorem dX3_syndromes_1 : decode cX3_syndromes 1 = .ok (.aload_n 0, 1) := by decide +kernel
theorem dX3_syndromes_2 : decode cX3_syndromes 2 = .ok (.getfield 21, 3) := by decide +kernel
theorem dX3_syndromes_5 : decode cX3_syndromes 5 = .ok (.ishl, 1) := by decide +kernel
theorem dX3_syndromes_6 : decode cX3_syndromes 6 = .ok (.ireturn, 1) := by decide +kernel
theorem dX3_rank_0 : decode cX3_rank 0 = .ok (.aload_n 0, 1) := by decide +kernel
theorem dX3_rank_1 : decode cX3_rank 1 = .ok (.getfield 28, 3) := by decide +kernel
theorem dX3_rank_4 : decode cX3_rank 4 = .ok (.ireturn, 1) := by decide +kernel
theorem dX3_distanceOrNone_0 : decode cX3_distanceOrNone 0 = .ok (.aload_n 0, 1) := by decide +kernel
theorem dX3_distanceOrNone_1 : decode cX3_distanceOrNone 1 = .ok (.getfield 31, 3) := by decide +kernel
theorem dX3_distanceOrNone_4 : decode cX3_distanceOrNone 4 = .ok (.aload_n 0, 1) := by decide +kernel
theorem dX3_distanceOrNone_5 : decode cX3_distanceOrNone 5 = .ok (.getfield 25, 3) := by decide +kernel
theorem dX3_distanceOrNone_8 : decode cX3_distanceOrNone 8 = .ok (.if_icmp .le 9, 3) := by decide +kernel
theorem dX3_distanceOrNone_11 : decode cX3_distanceOrNone 11 = .ok (.sipush (-1001), 3) := by decide +kernel
theorem dX3_distanceOrNone_14 : decode cX3_distanceOrNone 14 = .ok (.goto 7, 3) := by decide +kernel
theorem dX3_distanceOrNone_17 : decode cX3_distanceOrNone 17 = .ok (.aload_n 0, 1) := by decide +kernel
theorem dX3_distanceOrNone_18 : decode cX3_distanceOrNone 18 = .ok (.getfield 31, 3) := by decide +kernel
theorem dX3_distanceOrNone_21 : decode cX3_distanceOrNone 21 = .ok (.ireturn, 1) := by decide +kernel
theorem dX3_sure_0 : decode cX3_sure 0 = .ok (.aload_n 0, 1) := by decide +kernel
theorem dX3_sure_1 : decode cX3_sure 1 = .ok (.getfield 34, 3) := by decide +kernel
theorem dX3_sure_4 : decode cX3_sure 4 = .ok (.ireturn, 1) := by decide +kernel
theorem dX3_radius_0 : decode cX3_radius 0 = .ok (.aload_n 0, 1) := by decide +kernel
theorem dX3_radius_1 : decode cX3_radius 1 = .ok (.getfield 37, 3) := by decide +kernel
theorem dX3_radius_4 : decode cX3_radius 4 = .ok (.ireturn, 1) := by decide +kernel
theorem dX3_isRow_0 : decode cX3_isRow 0 = .ok (.iload_n 1, 1) := by decide +kernel
theorem dX3_isRow_1 : decode cX3_isRow 1 = .ok (.ifCond .lt 24, 3) := by decide +kernel
theorem dX3_isRow_4 : decode cX3_isRow 4 = .ok (.iload_n 1, 1) := by decide +kernel
theorem dX3_isRow_5 : decode cX3_isRow 5 = .ok (.aload_n 0, 1) := by decide +kernel
theorem dX3_isRow_6 : decode cX3_isRow 6 = .ok (.getfield 21, 3) := by decide +kernel
theorem dX3_isRow_9 : decode cX3_isRow 9 = .ok (.if_icmp .ge 16, 3) := by decide +kernel
theorem dX3_isRow_12 : decode cX3_isRow 12 = .ok (.iload_n 1, 1) := by decide +kernel
theorem dX3_isRow_13 : decode cX3_isRow 13 = .ok (.aload_n 0, 1) := by decide +kernel
theorem dX3_isRow_14 : decode cX3_isRow 14 = .ok (.getfield 9, 3) := by decide +kernel
theorem dX3_isRow_17 : decode cX3_isRow 17 = .ok (.arraylength, 1) := by decide +kernel
theorem dX3_isRow_18 : decode cX3_isRow 18 = .ok (.if_icmp .ge 7, 3) := by decide +kernel
theorem dX3_isRow_21 : decode cX3_isRow 21 = .ok (.iconst 1, 1) := by decide +kernel
theorem dX3_isRow_22 : decode cX3_isRow 22 = .ok (.goto 4, 3) := by decide +kernel
theorem dX3_isRow_25 : decode cX3_isRow 25 = .ok (.iconst 0, 1) := by decide +kernel
theorem dX3_isRow_26 : decode cX3_isRow 26 = .ok (.ireturn, 1) := by decide +kernel
set_option maxRecDepth 20000 in
theorem ggX3_isWord_X3_words : GoodIn wsX3_isWord wsX3_words := goodIn_r _ [5, 6, 7, 8, 9, 10, 11, 12, 13, 14, 15] (by decide +kernel) (by decide +kernel)
set_option maxRecDepth 20000 in
theorem gX3_isWord_X3_words : GoodIn wsX3_isWord (wsV RX3 62 RX3 yX3_words wsX3_words) := goodIn_app (goodIn_of _ (by decide +kernel)) ggX3_isWord_X3_words
theorem dX3_isWord_0 : decode cX3_isWord 0 = .ok (.iload_n 1, 1) := by decide +kernel
theorem dX3_isWord_1 : decode cX3_isWord 1 = .ok (.ifCond .lt 15, 3) := by decide +kernel
theorem dX3_isWord_4 : decode cX3_isWord 4 = .ok (.iload_n 1, 1) := by decide +kernel
theorem dX3_isWord_5 : decode cX3_isWord 5 = .ok (.aload_n 0, 1) := by decide +kernel
theorem dX3_isWord_6 : decode cX3_isWord 6 = .ok (.invokevirtual 62, 3) := by decide +kernel
theorem dX3_isWord_9 : decode cX3_isWord 9 = .ok (.if_icmp .ge 7, 3) := by decide +kernel
theorem dX3_isWord_12 : decode cX3_isWord 12 = .ok (.iconst 1, 1) := by decide +kernel
theorem dX3_isWord_13 : decode cX3_isWord 13 = .ok (.goto 4, 3) := by decide +kernel
theorem dX3_isWord_16 : decode cX3_isWord 16 = .ok (.iconst 0, 1) := by decide +kernel
theorem dX3_isWord_17 : decode cX3_isWord 17 = .ok (.ireturn, 1) := by decide +kernel
set_option maxRecDepth 20000 in
theorem ggX3_isSyndrome_X3_syndromes : GoodIn wsX3_isSyndrome wsX3_syndromes := goodIn_r _ [6, 7, 8, 9, 10, 11, 12, 13, 14, 15, 16] (by decide +kernel) (by decide +kernel)
set_option maxRecDepth 20000 in
theorem gX3_isSyndrome_X3_syndromes : GoodIn wsX3_isSyndrome (wsV RX3 90 RX3 yX3_syndromes wsX3_syndromes) := goodIn_app (goodIn_of _ (by decide +kernel)) ggX3_isSyndrome_X3_syndromes
theorem dX3_isSyndrome_0 : decode cX3_isSyndrome 0 = .ok (.iload_n 1, 1) := by decide +kernel
theorem dX3_isSyndrome_1 : decode cX3_isSyndrome 1 = .ok (.ifCond .lt 24, 3) := by decide +kernel
theorem dX3_isSyndrome_4 : decode cX3_isSyndrome 4 = .ok (.iload_n 1, 1) := by decide +kernel
theorem dX3_isSyndrome_5 : decode cX3_isSyndrome 5 = .ok (.aload_n 0, 1) := by decide +kernel
theorem dX3_isSyndrome_6 : decode cX3_isSyndrome 6 = .ok (.invokevirtual 90, 3) := by decide +kernel
theorem dX3_isSyndrome_9 : decode cX3_isSyndrome 9 = .ok (.if_icmp .ge 16, 3) := by decide +kernel
theorem dX3_isSyndrome_12 : decode cX3_isSyndrome 12 = .ok (.iload_n 1, 1) := by decide +kernel
theorem dX3_isSyndrome_13 : decode cX3_isSyndrome 13 = .ok (.aload_n 0, 1) := by decide +kernel
theorem dX3_isSyndrome_14 : decode cX3_isSyndrome 14 = .ok (.getfield 15, 3) := by decide +kernel
theorem dX3_isSyndrome_17 : decode cX3_isSyndrome 17 = .ok (.arraylength, 1) := by decide +kernel
theorem dX3_isSyndrome_18 : decode cX3_isSyndrome 18 = .ok (.if_icmp .ge 7, 3) := by decide +kernel
theorem dX3_isSyndrome_21 : decode cX3_isSyndrome 21 = .ok (.iconst 1, 1) := by decide +kernel
theorem dX3_isSyndrome_22 : decode cX3_isSyndrome 22 = .ok (.goto 4, 3) := by decide +kernel
theorem dX3_isSyndrome_25 : decode cX3_isSyndrome 25 = .ok (.iconst 0, 1) := by decide +kernel
theorem dX3_isSyndrome_26 : decode cX3_isSyndrome 26 = .ok (.ireturn, 1) := by decide +kernel
theorem dX3_isWeight_0 : decode cX3_isWeight 0 = .ok (.iload_n 1, 1) := by decide +kernel
theorem dX3_isWeight_1 : decode cX3_isWeight 1 = .ok (.ifCond .lt 24, 3) := by decide +kernel
theorem dX3_isWeight_4 : decode cX3_isWeight 4 = .ok (.iload_n 1, 1) := by decide +kernel
theorem dX3_isWeight_5 : decode cX3_isWeight 5 = .ok (.aload_n 0, 1) := by decide +kernel
theorem dX3_isWeight_6 : decode cX3_isWeight 6 = .ok (.getfield 25, 3) := by decide +kernel
theorem dX3_isWeight_9 : decode cX3_isWeight 9 = .ok (.if_icmp .gt 16, 3) := by decide +kernel
theorem dX3_isWeight_12 : decode cX3_isWeight 12 = .ok (.iload_n 1, 1) := by decide +kernel
theorem dX3_isWeight_13 : decode cX3_isWeight 13 = .ok (.aload_n 0, 1) := by decide +kernel
theorem dX3_isWeight_14 : decode cX3_isWeight 14 = .ok (.getfield 18, 3) := by decide +kernel
theorem dX3_isWeight_17 : decode cX3_isWeight 17 = .ok (.arraylength, 1) := by decide +kernel
theorem dX3_isWeight_18 : decode cX3_isWeight 18 = .ok (.if_icmp .ge 7, 3) := by decide +kernel
theorem dX3_isWeight_21 : decode cX3_isWeight 21 = .ok (.iconst 1, 1) := by decide +kernel
theorem dX3_isWeight_22 : decode cX3_isWeight 22 = .ok (.goto 4, 3) := by decide +kernel
theorem dX3_isWeight_25 : decode cX3_isWeight 25 = .ok (.iconst 0, 1) := by decide +kernel
theorem dX3_isWeight_26 : decode cX3_isWeight 26 = .ok (.ireturn, 1) := by decide +kernel
set_option maxRecDepth 20000 in
theorem ggX3_areSharedSets_X3_isWord : GoodIn wsX3_areSharedSets wsX3_isWord := goodIn_r _ [5, 6, 7, 8, 4, 9, 10, 11, 12, 13, 14, 15, 16, 17, 18, 19] (by decide +kernel) (by decide +kernel)
set_option maxRecDepth 20000 in
theorem gX3_areSharedSets_X3_isWord : GoodIn wsX3_areSharedSets (wsV RX3 93 RX3 yX3_isWord wsX3_isWord) := goodIn_app (goodIn_of _ (by decide +kernel)) ggX3_areSharedSets_X3_isWord
theorem dX3_areSharedSets_0 : decode cX3_areSharedSets 0 = .ok (.aload_n 0, 1) := by decide +kernel
theorem dX3_areSharedSets_1 : decode cX3_areSharedSets 1 = .ok (.iload_n 1, 1) := by decide +kernel
theorem dX3_areSharedSets_2 : decode cX3_areSharedSets 2 = .ok (.invokevirtual 93, 3) := by decide +kernel
theorem dX3_areSharedSets_5 : decode cX3_areSharedSets 5 = .ok (.ifCond .eq 21, 3) := by decide +kernel
theorem dX3_areSharedSets_8 : decode cX3_areSharedSets 8 = .ok (.aload_n 0, 1) := by decide +kernel
theorem dX3_areSharedSets_9 : decode cX3_areSharedSets 9 = .ok (.iload_n 2, 1) := by decide +kernel
theorem dX3_areSharedSets_10 : decode cX3_areSharedSets 10 = .ok (.invokevirtual 93, 3) := by decide +kernel
theorem dX3_areSharedSets_13 : decode cX3_areSharedSets 13 = .ok (.ifCond .eq 13, 3) := by decide +kernel
theorem dX3_areSharedSets_16 : decode cX3_areSharedSets 16 = .ok (.iload_n 1, 1) := by decide +kernel
theorem dX3_areSharedSets_17 : decode cX3_areSharedSets 17 = .ok (.iload_n 2, 1) := by decide +kernel
theorem dX3_areSharedSets_18 : decode cX3_areSharedSets 18 = .ok (.iand, 1) := by decide +kernel
theorem dX3_areSharedSets_19 : decode cX3_areSharedSets 19 = .ok (.ifCond .ne 7, 3) := by decide +kernel
theorem dX3_areSharedSets_22 : decode cX3_areSharedSets 22 = .ok (.iconst 1, 1) := by decide +kernel
theorem dX3_areSharedSets_23 : decode cX3_areSharedSets 23 = .ok (.goto 4, 3) := by decide +kernel
theorem dX3_areSharedSets_26 : decode cX3_areSharedSets 26 = .ok (.iconst 0, 1) := by decide +kernel
theorem dX3_areSharedSets_27 : decode cX3_areSharedSets 27 = .ok (.ireturn, 1) := by decide +kernel
set_option maxRecDepth 20000 in
theorem ggX3_rowAt_X3_isRow : GoodIn wsX3_rowAt wsX3_isRow := goodIn_r _ [6, 7, 1, 8, 9, 10, 11, 12, 13, 14, 15, 16] (by decide +kernel) (by decide +kernel)
set_option maxRecDepth 20000 in
theorem gX3_rowAt_X3_isRow : GoodIn wsX3_rowAt (wsV RX3 96 RX3 yX3_isRow wsX3_isRow) := goodIn_app (goodIn_of _ (by decide +kernel)) ggX3_rowAt_X3_isRow
theorem dX3_rowAt_0 : decode cX3_rowAt 0 = .ok (.aload_n 0, 1) := by decide +kernel
theorem dX3_rowAt_1 : decode cX3_rowAt 1 = .ok (.iload_n 1, 1) := by decide +kernel
theorem dX3_rowAt_2 : decode cX3_rowAt 2 = .ok (.invokevirtual 96, 3) := by decide +kernel
theorem dX3_rowAt_5 : decode cX3_rowAt 5 = .ok (.ifCond .eq 12, 3) := by decide +kernel
theorem dX3_rowAt_8 : decode cX3_rowAt 8 = .ok (.aload_n 0, 1) := by decide +kernel
theorem dX3_rowAt_9 : decode cX3_rowAt 9 = .ok (.getfield 9, 3) := by decide +kernel
theorem dX3_rowAt_12 : decode cX3_rowAt 12 = .ok (.iload_n 1, 1) := by decide +kernel
theorem dX3_rowAt_13 : decode cX3_rowAt 13 = .ok (.iaload, 1) := by decide +kernel
theorem dX3_rowAt_14 : decode cX3_rowAt 14 = .ok (.goto 4, 3) := by decide +kernel
theorem dX3_rowAt_17 : decode cX3_rowAt 17 = .ok (.iconst 0, 1) := by decide +kernel
theorem dX3_rowAt_18 : decode cX3_rowAt 18 = .ok (.ireturn, 1) := by decide +kernel
set_option maxRecDepth 20000 in
theorem ggX3_leaderOf_X3_isSyndrome : GoodIn wsX3_leaderOf wsX3_isSyndrome := goodIn_r _ [6, 1, 7, 8, 9, 5, 10, 11, 12, 13, 14, 15, 16, 17, 18, 19, 20] (by decide +kernel) (by decide +kernel)
set_option maxRecDepth 20000 in
theorem gX3_leaderOf_X3_isSyndrome : GoodIn wsX3_leaderOf (wsV RX3 68 RX3 yX3_isSyndrome wsX3_isSyndrome) := goodIn_app (goodIn_of _ (by decide +kernel)) ggX3_leaderOf_X3_isSyndrome
theorem dX3_leaderOf_0 : decode cX3_leaderOf 0 = .ok (.aload_n 0, 1) := by decide +kernel
theorem dX3_leaderOf_1 : decode cX3_leaderOf 1 = .ok (.iload_n 1, 1) := by decide +kernel
theorem dX3_leaderOf_2 : decode cX3_leaderOf 2 = .ok (.invokevirtual 68, 3) := by decide +kernel
theorem dX3_leaderOf_5 : decode cX3_leaderOf 5 = .ok (.ifCond .eq 12, 3) := by decide +kernel
theorem dX3_leaderOf_8 : decode cX3_leaderOf 8 = .ok (.aload_n 0, 1) := by decide +kernel
theorem dX3_leaderOf_9 : decode cX3_leaderOf 9 = .ok (.getfield 15, 3) := by decide +kernel
theorem dX3_leaderOf_12 : decode cX3_leaderOf 12 = .ok (.iload_n 1, 1) := by decide +kernel
theorem dX3_leaderOf_13 : decode cX3_leaderOf 13 = .ok (.iaload, 1) := by decide +kernel
theorem dX3_leaderOf_14 : decode cX3_leaderOf 14 = .ok (.goto 6, 3) := by decide +kernel
theorem dX3_leaderOf_17 : decode cX3_leaderOf 17 = .ok (.sipush (-1001), 3) := by decide +kernel
theorem dX3_leaderOf_20 : decode cX3_leaderOf 20 = .ok (.ireturn, 1) := by decide +kernel
set_option maxRecDepth 20000 in
theorem ggX3_leadersOfWeight_X3_isWeight : GoodIn wsX3_leadersOfWeight wsX3_isWeight := goodIn_r _ [6, 7, 1, 8, 9, 10, 11, 12, 13, 14, 15, 16] (by decide +kernel) (by decide +kernel)
set_option maxRecDepth 20000 in
theorem gX3_leadersOfWeight_X3_isWeight : GoodIn wsX3_leadersOfWeight (wsV RX3 99 RX3 yX3_isWeight wsX3_isWeight) := goodIn_app (goodIn_of _ (by decide +kernel)) ggX3_leadersOfWeight_X3_isWeight
theorem dX3_leadersOfWeight_0 : decode cX3_leadersOfWeight 0 = .ok (.aload_n 0, 1) := by decide +kernel
theorem dX3_leadersOfWeight_1 : decode cX3_leadersOfWeight 1 = .ok (.iload_n 1, 1) := by decide +kernel
theorem dX3_leadersOfWeight_2 : decode cX3_leadersOfWeight 2 = .ok (.invokevirtual 99, 3) := by decide +kernel
theorem dX3_leadersOfWeight_5 : decode cX3_leadersOfWeight 5 = .ok (.ifCond .eq 12, 3) := by decide +kernel
theorem dX3_leadersOfWeight_8 : decode cX3_leadersOfWeight 8 = .ok (.aload_n 0, 1) := by decide +kernel
theorem dX3_leadersOfWeight_9 : decode cX3_leadersOfWeight 9 = .ok (.getfield 18, 3) := by decide +kernel
theorem dX3_leadersOfWeight_12 : decode cX3_leadersOfWeight 12 = .ok (.iload_n 1, 1) := by decide +kernel
theorem dX3_leadersOfWeight_13 : decode cX3_leadersOfWeight 13 = .ok (.iaload, 1) := by decide +kernel
theorem dX3_leadersOfWeight_14 : decode cX3_leadersOfWeight 14 = .ok (.goto 4, 3) := by decide +kernel
theorem dX3_leadersOfWeight_17 : decode cX3_leadersOfWeight 17 = .ok (.iconst 0, 1) := by decide +kernel
theorem dX3_leadersOfWeight_18 : decode cX3_leadersOfWeight 18 = .ok (.ireturn, 1) := by decide +kernel
set_option maxRecDepth 20000 in
theorem ggX3_syndromeOf_J6_bitCount_0f7a4 : GoodIn wsX3_syndromeOf wsJ6_bitCount_0f7a4 := goodIn_r _ [6, 7, 8, 9] (by decide +kernel) (by decide +kernel)
set_option maxRecDepth 20000 in
theorem gX3_syndromeOf_J6_bitCount_0f7a4 : GoodIn wsX3_syndromeOf (va_wsS RX3 79 yJ6_bitCount_0f7a4 wsJ6_bitCount_0f7a4) := goodIn_app (goodIn_of _ (by decide +kernel)) ggX3_syndromeOf_J6_bitCount_0f7a4
theorem dX3_syndromeOf_0 : decode cX3_syndromeOf 0 = .ok (.iconst 0, 1) := by decide +kernel
theorem dX3_syndromeOf_1 : decode cX3_syndromeOf 1 = .ok (.istore_n 2, 1) := by decide +kernel
theorem dX3_syndromeOf_2 : decode cX3_syndromeOf 2 = .ok (.iconst 0, 1) := by decide +kernel
theorem dX3_syndromeOf_3 : decode cX3_syndromeOf 3 = .ok (.istore_n 3, 1) := by decide +kernel
theorem dX3_syndromeOf_4 : decode cX3_syndromeOf 4 = .ok (.iload_n 3, 1) := by decide +kernel
theorem dX3_syndromeOf_5 : decode cX3_syndromeOf 5 = .ok (.aload_n 0, 1) := by decide +kernel
theorem dX3_syndromeOf_6 : decode cX3_syndromeOf 6 = .ok (.getfield 21, 3) := by decide +kernel
theorem dX3_syndromeOf_9 : decode cX3_syndromeOf 9 = .ok (.if_icmp .ge 36, 3) := by decide +kernel
theorem dX3_syndromeOf_12 : decode cX3_syndromeOf 12 = .ok (.iload_n 3, 1) := by decide +kernel
theorem dX3_syndromeOf_13 : decode cX3_syndromeOf 13 = .ok (.aload_n 0, 1) := by decide +kernel
theorem dX3_syndromeOf_14 : decode cX3_syndromeOf 14 = .ok (.getfield 9, 3) := by decide +kernel
theorem dX3_syndromeOf_17 : decode cX3_syndromeOf 17 = .ok (.arraylength, 1) := by decide +kernel
theorem dX3_syndromeOf_18 : decode cX3_syndromeOf 18 = .ok (.if_icmp .ge 27, 3) := by decide +kernel
theorem dX3_syndromeOf_21 : decode cX3_syndromeOf 21 = .ok (.iload_n 2, 1) := by decide +kernel
theorem dX3_syndromeOf_22 : decode cX3_syndromeOf 22 = .ok (.aload_n 0, 1) := by decide +kernel
theorem dX3_syndromeOf_23 : decode cX3_syndromeOf 23 = .ok (.getfield 9, 3) := by decide +kernel
theorem dX3_syndromeOf_26 : decode cX3_syndromeOf 26 = .ok (.iload_n 3, 1) := by decide +kernel
theorem dX3_syndromeOf_27 : decode cX3_syndromeOf 27 = .ok (.iaload, 1) := by decide +kernel
theorem dX3_syndromeOf_28 : decode cX3_syndromeOf 28 = .ok (.iload_n 1, 1) := by decide +kernel
theorem dX3_syndromeOf_29 : decode cX3_syndromeOf 29 = .ok (.iand, 1) := by decide +kernel
theorem dX3_syndromeOf_30 : decode cX3_syndromeOf 30 = .ok (.invokestatic 79, 3) := by decide +kernel
theorem dX3_syndromeOf_33 : decode cX3_syndromeOf 33 = .ok (.iconst 1, 1) := by decide +kernel
theorem dX3_syndromeOf_34 : decode cX3_syndromeOf 34 = .ok (.iand, 1) := by decide +kernel
theorem dX3_syndromeOf_35 : decode cX3_syndromeOf 35 = .ok (.iload_n 3, 1) := by decide +kernel
theorem dX3_syndromeOf_36 : decode cX3_syndromeOf 36 = .ok (.ishl, 1) := by decide +kernel
theorem dX3_syndromeOf_37 : decode cX3_syndromeOf 37 = .ok (.ior, 1) := by decide +kernel
theorem dX3_syndromeOf_38 : decode cX3_syndromeOf 38 = .ok (.istore_n 2, 1) := by decide +kernel
theorem dX3_syndromeOf_39 : decode cX3_syndromeOf 39 = .ok (.iinc 3 1, 3) := by decide +kernel
theorem dX3_syndromeOf_42 : decode cX3_syndromeOf 42 = .ok (.goto (-38), 3) := by decide +kernel
theorem dX3_syndromeOf_45 : decode cX3_syndromeOf 45 = .ok (.iload_n 2, 1) := by decide +kernel
theorem dX3_syndromeOf_46 : decode cX3_syndromeOf 46 = .ok (.ireturn, 1) := by decide +kernel
set_option maxRecDepth 20000 in
theorem ggX3_wordOfCoset_X3_words : GoodIn wsX3_wordOfCoset wsX3_words := goodIn_r _ [5, 6, 20, 21, 22, 23, 24, 25, 26, 27, 28] (by decide +kernel) (by decide +kernel)
set_option maxRecDepth 20000 in
theorem gX3_wordOfCoset_X3_words : GoodIn wsX3_wordOfCoset (wsV RX3 62 RX3 yX3_words wsX3_words) := goodIn_app (goodIn_of _ (by decide +kernel)) ggX3_wordOfCoset_X3_words
set_option maxRecDepth 20000 in
theorem ggX3_wordOfCoset_X3_syndromeOf : GoodIn wsX3_wordOfCoset wsX3_syndromeOf := goodIn_r _ [10, 11, 12, 13, 14, 15, 16, 17, 18, 19, 20, 21, 22, 23, 24, 25, 26, 27, 28] (by decide +kernel) (by decide +kernel)
set_option maxRecDepth 20000 in
theorem gX3_wordOfCoset_X3_syndromeOf : GoodIn wsX3_wordOfCoset (wsV RX3 65 RX3 yX3_syndromeOf wsX3_syndromeOf) := goodIn_app (goodIn_of _ (by decide +kernel)) ggX3_wordOfCoset_X3_syndromeOf
theorem dX3_wordOfCoset_0 : decode cX3_wordOfCoset 0 = .ok (.aload_n 0, 1) := by decide +kernel
theorem dX3_wordOfCoset_1 : decode cX3_wordOfCoset 1 = .ok (.invokevirtual 62, 3) := by decide +kernel
theorem dX3_wordOfCoset_4 : decode cX3_wordOfCoset 4 = .ok (.istore_n 3, 1) := by decide +kernel
theorem dX3_wordOfCoset_5 : decode cX3_wordOfCoset 5 = .ok (.iconst 0, 1) := by decide +kernel
theorem dX3_wordOfCoset_6 : decode cX3_wordOfCoset 6 = .ok (.istore 4, 2) := by decide +kernel
theorem dX3_wordOfCoset_8 : decode cX3_wordOfCoset 8 = .ok (.iconst 0, 1) := by decide +kernel
theorem dX3_wordOfCoset_9 : decode cX3_wordOfCoset 9 = .ok (.istore 5, 2) := by decide +kernel
theorem dX3_wordOfCoset_11 : decode cX3_wordOfCoset 11 = .ok (.iload 5, 2) := by decide +kernel
theorem dX3_wordOfCoset_13 : decode cX3_wordOfCoset 13 = .ok (.iload_n 3, 1) := by decide +kernel
theorem dX3_wordOfCoset_14 : decode cX3_wordOfCoset 14 = .ok (.if_icmp .ge 31, 3) := by decide +kernel
theorem dX3_wordOfCoset_17 : decode cX3_wordOfCoset 17 = .ok (.aload_n 0, 1) := by decide +kernel
theorem dX3_wordOfCoset_18 : decode cX3_wordOfCoset 18 = .ok (.iload 5, 2) := by decide +kernel
theorem dX3_wordOfCoset_20 : decode cX3_wordOfCoset 20 = .ok (.invokevirtual 65, 3) := by decide +kernel
theorem dX3_wordOfCoset_23 : decode cX3_wordOfCoset 23 = .ok (.iload_n 1, 1) := by decide +kernel
theorem dX3_wordOfCoset_24 : decode cX3_wordOfCoset 24 = .ok (.if_icmp .ne 15, 3) := by decide +kernel
theorem dX3_wordOfCoset_27 : decode cX3_wordOfCoset 27 = .ok (.iload 4, 2) := by decide +kernel
theorem dX3_wordOfCoset_29 : decode cX3_wordOfCoset 29 = .ok (.iload_n 2, 1) := by decide +kernel
theorem dX3_wordOfCoset_30 : decode cX3_wordOfCoset 30 = .ok (.if_icmp .ne 6, 3) := by decide +kernel
theorem dX3_wordOfCoset_33 : decode cX3_wordOfCoset 33 = .ok (.iload 5, 2) := by decide +kernel
theorem dX3_wordOfCoset_35 : decode cX3_wordOfCoset 35 = .ok (.ireturn, 1) := by decide +kernel
theorem dX3_wordOfCoset_36 : decode cX3_wordOfCoset 36 = .ok (.iinc 4 1, 3) := by decide +kernel
theorem dX3_wordOfCoset_39 : decode cX3_wordOfCoset 39 = .ok (.iinc 5 1, 3) := by decide +kernel
theorem dX3_wordOfCoset_42 : decode cX3_wordOfCoset 42 = .ok (.goto (-31), 3) := by decide +kernel
theorem dX3_wordOfCoset_45 : decode cX3_wordOfCoset 45 = .ok (.sipush (-1001), 3) := by decide +kernel
theorem dX3_wordOfCoset_48 : decode cX3_wordOfCoset 48 = .ok (.ireturn, 1) := by decide +kernel
set_option maxRecDepth 20000 in
theorem ggX3_gainBy_X3_isRow : GoodIn wsX3_gainBy wsX3_isRow := goodIn_r _ [7, 8, 1, 29, 30, 31, 32, 33, 34, 35, 36, 37] (by decide +kernel) (by decide +kernel)
set_option maxRecDepth 20000 in
theorem gX3_gainBy_X3_isRow : GoodIn wsX3_gainBy (wsV RX3 96 RX3 yX3_isRow wsX3_isRow) := goodIn_app (goodIn_of _ (by decide +kernel)) ggX3_gainBy_X3_isRow
set_option maxRecDepth 20000 in
theorem ggX3_gainBy_X3_leastWeightWithoutSyndrome : GoodIn wsX3_gainBy wsX3_leastWeightWithoutSyndrome := goodIn_r _ [12, 13, 14, 15, 16, 6, 17, 18, 19, 20, 21, 22, 23, 24, 25, 26, 27, 28, 8, 1, 29, 30, 31, 32, 33, 34, 35, 36, 37] (by decide +kernel) (by decide +kernel)
set_option maxRecDepth 20000 in
theorem gX3_gainBy_X3_leastWeightWithoutSyndrome : GoodIn wsX3_gainBy (wsV RX3 59 RX3 yX3_leastWeightWithoutSyndrome wsX3_leastWeightWithoutSyndrome) := goodIn_app (goodIn_of _ (by decide +kernel)) ggX3_gainBy_X3_leastWeightWithoutSyndrome
theorem dX3_gainBy_0 : decode cX3_gainBy 0 = .ok (.aload_n 0, 1) := by decide +kernel
theorem dX3_gainBy_1 : decode cX3_gainBy 1 = .ok (.iload_n 1, 1) := by decide +kernel
theorem dX3_gainBy_2 : decode cX3_gainBy 2 = .ok (.invokevirtual 96, 3) := by decide +kernel
theorem dX3_gainBy_5 : decode cX3_gainBy 5 = .ok (.ifCond .ne 5, 3) := by decide +kernel
theorem dX3_gainBy_8 : decode cX3_gainBy 8 = .ok (.iconst 0, 1) := by decide +kernel
theorem dX3_gainBy_9 : decode cX3_gainBy 9 = .ok (.ireturn, 1) := by decide +kernel
theorem dX3_gainBy_10 : decode cX3_gainBy 10 = .ok (.aload_n 0, 1) := by decide +kernel
theorem dX3_gainBy_11 : decode cX3_gainBy 11 = .ok (.getfield 9, 3) := by decide +kernel
theorem dX3_gainBy_14 : decode cX3_gainBy 14 = .ok (.iload_n 1, 1) := by decide +kernel
theorem dX3_gainBy_15 : decode cX3_gainBy 15 = .ok (.iaload, 1) := by decide +kernel
theorem dX3_gainBy_16 : decode cX3_gainBy 16 = .ok (.istore_n 3, 1) := by decide +kernel
theorem dX3_gainBy_17 : decode cX3_gainBy 17 = .ok (.aload_n 0, 1) := by decide +kernel
theorem dX3_gainBy_18 : decode cX3_gainBy 18 = .ok (.getfield 9, 3) := by decide +kernel
theorem dX3_gainBy_21 : decode cX3_gainBy 21 = .ok (.iload_n 1, 1) := by decide +kernel
theorem dX3_gainBy_22 : decode cX3_gainBy 22 = .ok (.iload_n 2, 1) := by decide +kernel
theorem dX3_gainBy_23 : decode cX3_gainBy 23 = .ok (.iastore, 1) := by decide +kernel
theorem dX3_gainBy_24 : decode cX3_gainBy 24 = .ok (.aload_n 0, 1) := by decide +kernel
theorem dX3_gainBy_25 : decode cX3_gainBy 25 = .ok (.invokevirtual 59, 3) := by decide +kernel
theorem dX3_gainBy_28 : decode cX3_gainBy 28 = .ok (.istore 4, 2) := by decide +kernel
theorem dX3_gainBy_30 : decode cX3_gainBy 30 = .ok (.aload_n 0, 1) := by decide +kernel
theorem dX3_gainBy_31 : decode cX3_gainBy 31 = .ok (.getfield 9, 3) := by decide +kernel
theorem dX3_gainBy_34 : decode cX3_gainBy 34 = .ok (.iload_n 1, 1) := by decide +kernel
theorem dX3_gainBy_35 : decode cX3_gainBy 35 = .ok (.iload_n 3, 1) := by decide +kernel
theorem dX3_gainBy_36 : decode cX3_gainBy 36 = .ok (.iastore, 1) := by decide +kernel
theorem dX3_gainBy_37 : decode cX3_gainBy 37 = .ok (.iload 4, 2) := by decide +kernel
theorem dX3_gainBy_39 : decode cX3_gainBy 39 = .ok (.aload_n 0, 1) := by decide +kernel
theorem dX3_gainBy_40 : decode cX3_gainBy 40 = .ok (.getfield 31, 3) := by decide +kernel
theorem dX3_gainBy_43 : decode cX3_gainBy 43 = .ok (.isub, 1) := by decide +kernel
theorem dX3_gainBy_44 : decode cX3_gainBy 44 = .ok (.ireturn, 1) := by decide +kernel
set_option maxRecDepth 20000 in
theorem ggX3_flipsOf_X3_syndromeOf : GoodIn wsX3_flipsOf wsX3_syndromeOf := goodIn_r _ [5, 6, 7, 8, 9, 10, 11, 12, 13, 14, 28, 29, 30, 31, 32, 33, 34, 35, 36] (by decide +kernel) (by decide +kernel)
set_option maxRecDepth 20000 in
theorem gX3_flipsOf_X3_syndromeOf : GoodIn wsX3_flipsOf (wsV RX3 65 RX3 yX3_syndromeOf wsX3_syndromeOf) := goodIn_app (goodIn_of _ (by decide +kernel)) ggX3_flipsOf_X3_syndromeOf
set_option maxRecDepth 20000 in
theorem ggX3_flipsOf_X3_leaderOf : GoodIn wsX3_flipsOf wsX3_leaderOf := goodIn_r _ [18, 19, 20, 21, 22, 4, 23, 24, 25, 26, 27, 6, 28, 29, 30, 31, 32, 33, 34, 35, 36] (by decide +kernel) (by decide +kernel)
set_option maxRecDepth 20000 in
theorem gX3_flipsOf_X3_leaderOf : GoodIn wsX3_flipsOf (wsV RX3 72 RX3 yX3_leaderOf wsX3_leaderOf) := goodIn_app (goodIn_of _ (by decide +kernel)) ggX3_flipsOf_X3_leaderOf
theorem dX3_flipsOf_0 : decode cX3_flipsOf 0 = .ok (.aload_n 0, 1) := by decide +kernel
theorem dX3_flipsOf_1 : decode cX3_flipsOf 1 = .ok (.aload_n 0, 1) := by decide +kernel
theorem dX3_flipsOf_2 : decode cX3_flipsOf 2 = .ok (.iload_n 1, 1) := by decide +kernel
theorem dX3_flipsOf_3 : decode cX3_flipsOf 3 = .ok (.iload_n 2, 1) := by decide +kernel
theorem dX3_flipsOf_4 : decode cX3_flipsOf 4 = .ok (.ixor, 1) := by decide +kernel
theorem dX3_flipsOf_5 : decode cX3_flipsOf 5 = .ok (.invokevirtual 65, 3) := by decide +kernel
theorem dX3_flipsOf_8 : decode cX3_flipsOf 8 = .ok (.invokevirtual 72, 3) := by decide +kernel
theorem dX3_flipsOf_11 : decode cX3_flipsOf 11 = .ok (.ireturn, 1) := by decide +kernel
set_option maxRecDepth 20000 in
theorem ggX3_verdictOf_X3_flipsOf : GoodIn wsX3_verdictOf wsX3_flipsOf := goodIn_r _ [6, 7, 8, 9, 5, 10, 11, 12, 13, 14, 15, 16, 17, 18, 19, 20, 21, 22, 23, 24, 25, 26, 27, 28, 29, 30, 31, 32, 33, 34, 35, 36, 37, 38, 39, 40, 41] (by decide +kernel) (by decide +kernel)
set_option maxRecDepth 20000 in
theorem gX3_verdictOf_X3_flipsOf : GoodIn wsX3_verdictOf (wsV RX3 102 RX3 yX3_flipsOf wsX3_flipsOf) := goodIn_app (goodIn_of _ (by decide +kernel)) ggX3_verdictOf_X3_flipsOf
set_option maxRecDepth 20000 in
theorem ggX3_verdictOf_J6_bitCount_0f7a4 : GoodIn wsX3_verdictOf wsJ6_bitCount_0f7a4 := goodIn_r _ [16, 17, 18, 19] (by decide +kernel) (by decide +kernel)
set_option maxRecDepth 20000 in
theorem gX3_verdictOf_J6_bitCount_0f7a4 : GoodIn wsX3_verdictOf (va_wsS RX3 79 yJ6_bitCount_0f7a4 wsJ6_bitCount_0f7a4) := goodIn_app (goodIn_of _ (by decide +kernel)) ggX3_verdictOf_J6_bitCount_0f7a4
theorem dX3_verdictOf_0 : decode cX3_verdictOf 0 = .ok (.aload_n 0, 1) := by decide +kernel
theorem dX3_verdictOf_1 : decode cX3_verdictOf 1 = .ok (.iload_n 1, 1) := by decide +kernel
theorem dX3_verdictOf_2 : decode cX3_verdictOf 2 = .ok (.iload_n 2, 1) := by decide +kernel
theorem dX3_verdictOf_3 : decode cX3_verdictOf 3 = .ok (.invokevirtual 102, 3) := by decide +kernel
theorem dX3_verdictOf_6 : decode cX3_verdictOf 6 = .ok (.istore_n 3, 1) := by decide +kernel
theorem dX3_verdictOf_7 : decode cX3_verdictOf 7 = .ok (.iload_n 3, 1) := by decide +kernel
theorem dX3_verdictOf_8 : decode cX3_verdictOf 8 = .ok (.invokestatic 79, 3) := by decide +kernel
theorem dX3_verdictOf_11 : decode cX3_verdictOf 11 = .ok (.aload_n 0, 1) := by decide +kernel
theorem dX3_verdictOf_12 : decode cX3_verdictOf 12 = .ok (.getfield 34, 3) := by decide +kernel
theorem dX3_verdictOf_15 : decode cX3_verdictOf 15 = .ok (.if_icmp .gt 7, 3) := by decide +kernel
theorem dX3_verdictOf_18 : decode cX3_verdictOf 18 = .ok (.iconst 1, 1) := by decide +kernel
theorem dX3_verdictOf_19 : decode cX3_verdictOf 19 = .ok (.goto 4, 3) := by decide +kernel
theorem dX3_verdictOf_22 : decode cX3_verdictOf 22 = .ok (.iconst 0, 1) := by decide +kernel
theorem dX3_verdictOf_23 : decode cX3_verdictOf 23 = .ok (.istore 4, 2) := by decide +kernel
theorem dX3_verdictOf_25 : decode cX3_verdictOf 25 = .ok (.iload_n 1, 1) := by decide +kernel
theorem dX3_verdictOf_26 : decode cX3_verdictOf 26 = .ok (.iload_n 3, 1) := by decide +kernel
theorem dX3_verdictOf_27 : decode cX3_verdictOf 27 = .ok (.ixor, 1) := by decide +kernel
theorem dX3_verdictOf_28 : decode cX3_verdictOf 28 = .ok (.iload_n 2, 1) := by decide +kernel
theorem dX3_verdictOf_29 : decode cX3_verdictOf 29 = .ok (.if_icmp .ne 14, 3) := by decide +kernel
theorem dX3_verdictOf_32 : decode cX3_verdictOf 32 = .ok (.iload 4, 2) := by decide +kernel
theorem dX3_verdictOf_34 : decode cX3_verdictOf 34 = .ok (.ifCond .eq 7, 3) := by decide +kernel
theorem dX3_verdictOf_37 : decode cX3_verdictOf 37 = .ok (.iconst 0, 1) := by decide +kernel
theorem dX3_verdictOf_38 : decode cX3_verdictOf 38 = .ok (.goto 4, 3) := by decide +kernel
theorem dX3_verdictOf_41 : decode cX3_verdictOf 41 = .ok (.iconst 1, 1) := by decide +kernel
theorem dX3_verdictOf_42 : decode cX3_verdictOf 42 = .ok (.ireturn, 1) := by decide +kernel
theorem dX3_verdictOf_43 : decode cX3_verdictOf 43 = .ok (.iload 4, 2) := by decide +kernel
theorem dX3_verdictOf_45 : decode cX3_verdictOf 45 = .ok (.ifCond .eq 7, 3) := by decide +kernel
theorem dX3_verdictOf_48 : decode cX3_verdictOf 48 = .ok (.iconst 3, 1) := by decide +kernel
theorem dX3_verdictOf_49 : decode cX3_verdictOf 49 = .ok (.goto 4, 3) := by decide +kernel
theorem dX3_verdictOf_52 : decode cX3_verdictOf 52 = .ok (.iconst 2, 1) := by decide +kernel
theorem dX3_verdictOf_53 : decode cX3_verdictOf 53 = .ok (.ireturn, 1) := by decide +kernel
set_option maxRecDepth 20000 in
theorem ggX3_isEnough_X3_words : GoodIn wsX3_isEnough wsX3_words := goodIn_r _ [5, 6, 20, 21, 22, 23, 24, 25, 26, 27, 28] (by decide +kernel) (by decide +kernel)
set_option maxRecDepth 20000 in
theorem gX3_isEnough_X3_words : GoodIn wsX3_isEnough (wsV RX3 62 RX3 yX3_words wsX3_words) := goodIn_app (goodIn_of _ (by decide +kernel)) ggX3_isEnough_X3_words
set_option maxRecDepth 20000 in
theorem ggX3_isEnough_X3_syndromeOf : GoodIn wsX3_isEnough wsX3_syndromeOf := goodIn_r _ [10, 11, 12, 13, 14, 15, 16, 17, 18, 19, 20, 21, 22, 23, 24, 25, 26, 27, 28] (by decide +kernel) (by decide +kernel)
set_option maxRecDepth 20000 in
theorem gX3_isEnough_X3_syndromeOf : GoodIn wsX3_isEnough (wsV RX3 65 RX3 yX3_syndromeOf wsX3_syndromeOf) := goodIn_app (goodIn_of _ (by decide +kernel)) ggX3_isEnough_X3_syndromeOf
theorem dX3_isEnough_0 : decode cX3_isEnough 0 = .ok (.aload_n 0, 1) := by decide +kernel
theorem dX3_isEnough_1 : decode cX3_isEnough 1 = .ok (.invokevirtual 62, 3) := by decide +kernel
theorem dX3_isEnough_4 : decode cX3_isEnough 4 = .ok (.istore_n 2, 1) := by decide +kernel
theorem dX3_isEnough_5 : decode cX3_isEnough 5 = .ok (.iconst 1, 1) := by decide +kernel
theorem dX3_isEnough_6 : decode cX3_isEnough 6 = .ok (.istore_n 3, 1) := by decide +kernel
theorem dX3_isEnough_7 : decode cX3_isEnough 7 = .ok (.iload_n 3, 1) := by decide +kernel
theorem dX3_isEnough_8 : decode cX3_isEnough 8 = .ok (.iload_n 2, 1) := by decide +kernel
theorem dX3_isEnough_9 : decode cX3_isEnough 9 = .ok (.if_icmp .ge 25, 3) := by decide +kernel
theorem dX3_isEnough_12 : decode cX3_isEnough 12 = .ok (.iload_n 3, 1) := by decide +kernel
theorem dX3_isEnough_13 : decode cX3_isEnough 13 = .ok (.iload_n 1, 1) := by decide +kernel
theorem dX3_isEnough_14 : decode cX3_isEnough 14 = .ok (.iand, 1) := by decide +kernel
theorem dX3_isEnough_15 : decode cX3_isEnough 15 = .ok (.ifCond .ne 13, 3) := by decide +kernel
theorem dX3_isEnough_18 : decode cX3_isEnough 18 = .ok (.aload_n 0, 1) := by decide +kernel
theorem dX3_isEnough_19 : decode cX3_isEnough 19 = .ok (.iload_n 3, 1) := by decide +kernel
theorem dX3_isEnough_20 : decode cX3_isEnough 20 = .ok (.invokevirtual 65, 3) := by decide +kernel
theorem dX3_isEnough_23 : decode cX3_isEnough 23 = .ok (.ifCond .ne 5, 3) := by decide +kernel
theorem dX3_isEnough_26 : decode cX3_isEnough 26 = .ok (.iconst 0, 1) := by decide +kernel
theorem dX3_isEnough_27 : decode cX3_isEnough 27 = .ok (.ireturn, 1) := by decide +kernel
theorem dX3_isEnough_28 : decode cX3_isEnough 28 = .ok (.iinc 3 1, 3) := by decide +kernel
theorem dX3_isEnough_31 : decode cX3_isEnough 31 = .ok (.goto (-24), 3) := by decide +kernel
theorem dX3_isEnough_34 : decode cX3_isEnough 34 = .ok (.iconst 1, 1) := by decide +kernel
theorem dX3_isEnough_35 : decode cX3_isEnough 35 = .ok (.ireturn, 1) := by decide +kernel
set_option maxRecDepth 20000 in
theorem ggX3_firstOfShared_X3_isEnough : GoodIn wsX3_firstOfShared wsX3_isEnough := goodIn_r _ [5, 6, 7, 8, 4, 9, 10, 11, 12, 13, 14, 15, 16, 17, 18, 19, 20, 21, 22, 23, 41, 42, 43, 44, 45, 46, 47, 48, 49] (by decide +kernel) (by decide +kernel)
set_option maxRecDepth 20000 in
theorem gX3_firstOfShared_X3_isEnough : GoodIn wsX3_firstOfShared (wsV RX3 105 RX3 yX3_isEnough wsX3_isEnough) := goodIn_app (goodIn_of _ (by decide +kernel)) ggX3_firstOfShared_X3_isEnough
set_option maxRecDepth 20000 in
theorem ggX3_firstOfShared_X3_flipsOf : GoodIn wsX3_firstOfShared wsX3_flipsOf := goodIn_r _ [27, 11, 12, 13, 4, 14, 15, 16, 17, 18, 19, 20, 21, 22, 23, 28, 29, 30, 31, 32, 33, 34, 35, 36, 37, 38, 39, 40, 41, 42, 43, 44, 45, 46, 47, 48, 49] (by decide +kernel) (by decide +kernel)
set_option maxRecDepth 20000 in
theorem gX3_firstOfShared_X3_flipsOf : GoodIn wsX3_firstOfShared (wsV RX3 102 RX3 yX3_flipsOf wsX3_flipsOf) := goodIn_app (goodIn_of _ (by decide +kernel)) ggX3_firstOfShared_X3_flipsOf
set_option maxRecDepth 20000 in
theorem ggX3_firstOfShared_X3_syndromeOf : GoodIn wsX3_firstOfShared wsX3_syndromeOf := goodIn_r _ [14, 15, 16, 17, 18, 19, 20, 21, 22, 23, 41, 42, 43, 44, 45, 46, 47, 48, 49] (by decide +kernel) (by decide +kernel)
set_option maxRecDepth 20000 in
theorem gX3_firstOfShared_X3_syndromeOf : GoodIn wsX3_firstOfShared (wsV RX3 65 RX3 yX3_syndromeOf wsX3_syndromeOf) := goodIn_app (goodIn_of _ (by decide +kernel)) ggX3_firstOfShared_X3_syndromeOf
set_option maxRecDepth 20000 in
theorem ggX3_firstOfShared_X3_words : GoodIn wsX3_firstOfShared wsX3_words := goodIn_r _ [9, 10, 41, 42, 43, 44, 45, 46, 47, 48, 49] (by decide +kernel) (by decide +kernel)
set_option maxRecDepth 20000 in
theorem gX3_firstOfShared_X3_words : GoodIn wsX3_firstOfShared (wsV RX3 62 RX3 yX3_words wsX3_words) := goodIn_app (goodIn_of _ (by decide +kernel)) ggX3_firstOfShared_X3_words
theorem dX3_firstOfShared_0 : decode cX3_firstOfShared 0 = .ok (.iload_n 1, 1) := by decide +kernel
theorem dX3_firstOfShared_1 : decode cX3_firstOfShared 1 = .ok (.iload_n 2, 1) := by decide +kernel
theorem dX3_firstOfShared_2 : decode cX3_firstOfShared 2 = .ok (.ior, 1) := by decide +kernel
theorem dX3_firstOfShared_3 : decode cX3_firstOfShared 3 = .ok (.istore 5, 2) := by decide +kernel
theorem dX3_firstOfShared_5 : decode cX3_firstOfShared 5 = .ok (.aload_n 0, 1) := by decide +kernel
theorem dX3_firstOfShared_6 : decode cX3_firstOfShared 6 = .ok (.iload 5, 2) := by decide +kernel
theorem dX3_firstOfShared_8 : decode cX3_firstOfShared 8 = .ok (.invokevirtual 105, 3) := by decide +kernel
theorem dX3_firstOfShared_11 : decode cX3_firstOfShared 11 = .ok (.ifCond .ne 7, 3) := by decide +kernel
theorem dX3_firstOfShared_14 : decode cX3_firstOfShared 14 = .ok (.sipush (-1001), 3) := by decide +kernel
theorem dX3_firstOfShared_17 : decode cX3_firstOfShared 17 = .ok (.ireturn, 1) := by decide +kernel
theorem dX3_firstOfShared_18 : decode cX3_firstOfShared 18 = .ok (.iload_n 3, 1) := by decide +kernel
theorem dX3_firstOfShared_19 : decode cX3_firstOfShared 19 = .ok (.iload_n 1, 1) := by decide +kernel
theorem dX3_firstOfShared_20 : decode cX3_firstOfShared 20 = .ok (.iand, 1) := by decide +kernel
theorem dX3_firstOfShared_21 : decode cX3_firstOfShared 21 = .ok (.iload 4, 2) := by decide +kernel
theorem dX3_firstOfShared_23 : decode cX3_firstOfShared 23 = .ok (.aload_n 0, 1) := by decide +kernel
theorem dX3_firstOfShared_24 : decode cX3_firstOfShared 24 = .ok (.iload_n 3, 1) := by decide +kernel
theorem dX3_firstOfShared_25 : decode cX3_firstOfShared 25 = .ok (.iload 4, 2) := by decide +kernel
theorem dX3_firstOfShared_27 : decode cX3_firstOfShared 27 = .ok (.invokevirtual 102, 3) := by decide +kernel
theorem dX3_firstOfShared_30 : decode cX3_firstOfShared 30 = .ok (.ixor, 1) := by decide +kernel
theorem dX3_firstOfShared_31 : decode cX3_firstOfShared 31 = .ok (.iload_n 2, 1) := by decide +kernel
theorem dX3_firstOfShared_32 : decode cX3_firstOfShared 32 = .ok (.iand, 1) := by decide +kernel
theorem dX3_firstOfShared_33 : decode cX3_firstOfShared 33 = .ok (.ior, 1) := by decide +kernel
theorem dX3_firstOfShared_34 : decode cX3_firstOfShared 34 = .ok (.istore 6, 2) := by decide +kernel
theorem dX3_firstOfShared_36 : decode cX3_firstOfShared 36 = .ok (.aload_n 0, 1) := by decide +kernel
theorem dX3_firstOfShared_37 : decode cX3_firstOfShared 37 = .ok (.iload_n 3, 1) := by decide +kernel
theorem dX3_firstOfShared_38 : decode cX3_firstOfShared 38 = .ok (.invokevirtual 65, 3) := by decide +kernel
theorem dX3_firstOfShared_41 : decode cX3_firstOfShared 41 = .ok (.istore 7, 2) := by decide +kernel
theorem dX3_firstOfShared_43 : decode cX3_firstOfShared 43 = .ok (.aload_n 0, 1) := by decide +kernel
theorem dX3_firstOfShared_44 : decode cX3_firstOfShared 44 = .ok (.invokevirtual 62, 3) := by decide +kernel
theorem dX3_firstOfShared_47 : decode cX3_firstOfShared 47 = .ok (.istore 8, 2) := by decide +kernel
theorem dX3_firstOfShared_49 : decode cX3_firstOfShared 49 = .ok (.iconst 0, 1) := by decide +kernel
theorem dX3_firstOfShared_50 : decode cX3_firstOfShared 50 = .ok (.istore 9, 2) := by decide +kernel
theorem dX3_firstOfShared_52 : decode cX3_firstOfShared 52 = .ok (.iload 9, 2) := by decide +kernel
theorem dX3_firstOfShared_54 : decode cX3_firstOfShared 54 = .ok (.iload 8, 2) := by decide +kernel
theorem dX3_firstOfShared_56 : decode cX3_firstOfShared 56 = .ok (.if_icmp .ge 33, 3) := by decide +kernel
theorem dX3_firstOfShared_59 : decode cX3_firstOfShared 59 = .ok (.iload 9, 2) := by decide +kernel
theorem dX3_firstOfShared_61 : decode cX3_firstOfShared 61 = .ok (.iload 5, 2) := by decide +kernel
theorem dX3_firstOfShared_63 : decode cX3_firstOfShared 63 = .ok (.iand, 1) := by decide +kernel
theorem dX3_firstOfShared_64 : decode cX3_firstOfShared 64 = .ok (.iload 6, 2) := by decide +kernel
theorem dX3_firstOfShared_66 : decode cX3_firstOfShared 66 = .ok (.if_icmp .ne 17, 3) := by decide +kernel
theorem dX3_firstOfShared_69 : decode cX3_firstOfShared 69 = .ok (.aload_n 0, 1) := by decide +kernel
theorem dX3_firstOfShared_70 : decode cX3_firstOfShared 70 = .ok (.iload 9, 2) := by decide +kernel
theorem dX3_firstOfShared_72 : decode cX3_firstOfShared 72 = .ok (.invokevirtual 65, 3) := by decide +kernel
theorem dX3_firstOfShared_75 : decode cX3_firstOfShared 75 = .ok (.iload 7, 2) := by decide +kernel
theorem dX3_firstOfShared_77 : decode cX3_firstOfShared 77 = .ok (.if_icmp .ne 6, 3) := by decide +kernel
theorem dX3_firstOfShared_80 : decode cX3_firstOfShared 80 = .ok (.iload 9, 2) := by decide +kernel
theorem dX3_firstOfShared_82 : decode cX3_firstOfShared 82 = .ok (.ireturn, 1) := by decide +kernel
theorem dX3_firstOfShared_83 : decode cX3_firstOfShared 83 = .ok (.iinc 9 1, 3) := by decide +kernel
theorem dX3_firstOfShared_86 : decode cX3_firstOfShared 86 = .ok (.goto (-34), 3) := by decide +kernel
theorem dX3_firstOfShared_89 : decode cX3_firstOfShared 89 = .ok (.sipush (-1001), 3) := by decide +kernel
theorem dX3_firstOfShared_92 : decode cX3_firstOfShared 92 = .ok (.ireturn, 1) := by decide +kernel
theorem dX4_init_0 : decode cX4_init 0 = .ok (.aload_n 0, 1) := by decide +kernel
theorem dX4_init_1 : decode cX4_init 1 = .ok (.invokespecial 3, 3) := by decide +kernel
theorem dX4_init_4 : decode cX4_init 4 = .ok (.aload_n 0, 1) := by decide +kernel
theorem dX4_init_5 : decode cX4_init 5 = .ok (.iconst 4, 1) := by decide +kernel
theorem dX4_init_6 : decode cX4_init 6 = .ok (.newarray .int, 2) := by decide +kernel
theorem dX4_init_8 : decode cX4_init 8 = .ok (.putfield 9, 3) := by decide +kernel
theorem dX4_init_11 : decode cX4_init 11 = .ok (.aload_n 0, 1) := by decide +kernel
theorem dX4_init_12 : decode cX4_init 12 = .ok (.iconst 0, 1) := by decide +kernel
theorem dX4_init_13 : decode cX4_init 13 = .ok (.putfield 15, 3) := by decide +kernel
theorem dX4_init_16 : decode cX4_init 16 = .ok (.aload_n 0, 1) := by decide +kernel
theorem dX4_init_17 : decode cX4_init 17 = .ok (.iconst 0, 1) := by decide +kernel
theorem dX4_init_18 : decode cX4_init 18 = .ok (.putfield 19, 3) := by decide +kernel
theorem dX4_init_21 : decode cX4_init 21 = .ok (.aload_n 0, 1) := by decide +kernel
theorem dX4_init_22 : decode cX4_init 22 = .ok (.iconst 0, 1) := by decide +kernel
theorem dX4_init_23 : decode cX4_init 23 = .ok (.putfield 22, 3) := by decide +kernel
theorem dX4_init_26 : decode cX4_init 26 = .ok (.return_, 1) := by decide +kernel
theorem dX4_sumsRead_0 : decode cX4_sumsRead 0 = .ok (.aload_n 0, 1) := by decide +kernel
theorem dX4_sumsRead_1 : decode cX4_sumsRead 1 = .ok (.dup, 1) := by decide +kernel
theorem dX4_sumsRead_2 : decode cX4_sumsRead 2 = .ok (.getfield 22, 3) := by decide +kernel
theorem dX4_sumsRead_5 : decode cX4_sumsRead 5 = .ok (.iconst 1, 1) := by decide +kernel
theorem dX4_sumsRead_6 : decode cX4_sumsRead 6 = .ok (.iadd, 1) := by decide +kernel
theorem dX4_sumsRead_7 : decode cX4_sumsRead 7 = .ok (.putfield 22, 3) := by decide +kernel
theorem dX4_sumsRead_10 : decode cX4_sumsRead 10 = .ok (.return_, 1) := by decide +kernel
theorem dX4_sentPlain_0 : decode cX4_sentPlain 0 = .ok (.iload_n 1, 1) := by decide +kernel
theorem dX4_sentPlain_1 : decode cX4_sentPlain 1 = .ok (.ifCond .lt 22, 3) := by decide +kernel
theorem dX4_sentPlain_4 : decode cX4_sentPlain 4 = .ok (.iload_n 1, 1) := by decide +kernel
theorem dX4_sentPlain_5 : decode cX4_sentPlain 5 = .ok (.aload_n 0, 1) := by decide +kernel
theorem dX4_sentPlain_6 : decode cX4_sentPlain 6 = .ok (.getfield 9, 3) := by decide +kernel
theorem dX4_sentPlain_9 : decode cX4_sentPlain 9 = .ok (.arraylength, 1) := by decide +kernel
theorem dX4_sentPlain_10 : decode cX4_sentPlain 10 = .ok (.if_icmp .ge 13, 3) := by decide +kernel
theorem dX4_sentPlain_13 : decode cX4_sentPlain 13 = .ok (.aload_n 0, 1) := by decide +kernel
theorem dX4_sentPlain_14 : decode cX4_sentPlain 14 = .ok (.getfield 9, 3) := by decide +kernel
theorem dX4_sentPlain_17 : decode cX4_sentPlain 17 = .ok (.iload_n 1, 1) := by decide +kernel
theorem dX4_sentPlain_18 : decode cX4_sentPlain 18 = .ok (.dup2, 1) := by decide +kernel
theorem dX4_sentPlain_19 : decode cX4_sentPlain 19 = .ok (.iaload, 1) := by decide +kernel
theorem dX4_sentPlain_20 : decode cX4_sentPlain 20 = .ok (.iconst 1, 1) := by decide +kernel
theorem dX4_sentPlain_21 : decode cX4_sentPlain 21 = .ok (.iadd, 1) := by decide +kernel
theorem dX4_sentPlain_22 : decode cX4_sentPlain 22 = .ok (.iastore, 1) := by decide +kernel
theorem dX4_sentPlain_23 : decode cX4_sentPlain 23 = .ok (.aload_n 0, 1) := by decide +kernel
theorem dX4_sentPlain_24 : decode cX4_sentPlain 24 = .ok (.dup, 1) := by decide +kernel
theorem dX4_sentPlain_25 : decode cX4_sentPlain 25 = .ok (.getfield 15, 3) := by decide +kernel
theorem dX4_sentPlain_28 : decode cX4_sentPlain 28 = .ok (.iload_n 2, 1) := by decide +kernel
theorem dX4_sentPlain_29 : decode cX4_sentPlain 29 = .ok (.iload_n 3, 1) := by decide +kernel
theorem dX4_sentPlain_30 : decode cX4_sentPlain 30 = .ok (.iadd, 1) := by decide +kernel
theorem dX4_sentPlain_31 : decode cX4_sentPlain 31 = .ok (.iadd, 1) := by decide +kernel
theorem dX4_sentPlain_32 : decode cX4_sentPlain 32 = .ok (.putfield 15, 3) := by decide +kernel
theorem dX4_sentPlain_35 : decode cX4_sentPlain 35 = .ok (.aload_n 0, 1) := by decide +kernel
theorem dX4_sentPlain_36 : decode cX4_sentPlain 36 = .ok (.dup, 1) := by decide +kernel
theorem dX4_sentPlain_37 : decode cX4_sentPlain 37 = .ok (.getfield 19, 3) := by decide +kernel
theorem dX4_sentPlain_40 : decode cX4_sentPlain 40 = .ok (.iconst 2, 1) := by decide +kernel
theorem dX4_sentPlain_41 : decode cX4_sentPlain 41 = .ok (.iload_n 2, 1) := by decide +kernel
theorem dX4_sentPlain_42 : decode cX4_sentPlain 42 = .ok (.imul, 1) := by decide +kernel
theorem dX4_sentPlain_43 : decode cX4_sentPlain 43 = .ok (.iadd, 1) := by decide +kernel
theorem dX4_sentPlain_44 : decode cX4_sentPlain 44 = .ok (.putfield 19, 3) := by decide +kernel
theorem dX4_sentPlain_47 : decode cX4_sentPlain 47 = .ok (.return_, 1) := by decide +kernel
theorem dX4_sentWith_0 : decode cX4_sentWith 0 = .ok (.iload_n 1, 1) := by decide +kernel
theorem dX4_sentWith_1 : decode cX4_sentWith 1 = .ok (.ifCond .lt 21, 3) := by decide +kernel
theorem dX4_sentWith_4 : decode cX4_sentWith 4 = .ok (.iload_n 1, 1) := by decide +kernel
theorem dX4_sentWith_5 : decode cX4_sentWith 5 = .ok (.aload_n 0, 1) := by decide +kernel
theorem dX4_sentWith_6 : decode cX4_sentWith 6 = .ok (.getfield 9, 3) := by decide +kernel
theorem dX4_sentWith_9 : decode cX4_sentWith 9 = .ok (.arraylength, 1) := by decide +kernel
theorem dX4_sentWith_10 : decode cX4_sentWith 10 = .ok (.if_icmp .ge 12, 3) := by decide +kernel
theorem dX4_sentWith_13 : decode cX4_sentWith 13 = .ok (.aload_n 0, 1) := by decide +kernel
theorem dX4_sentWith_14 : decode cX4_sentWith 14 = .ok (.getfield 9, 3) := by decide +kernel
theorem dX4_sentWith_17 : decode cX4_sentWith 17 = .ok (.iload_n 1, 1) := by decide +kernel
theorem dX4_sentWith_18 : decode cX4_sentWith 18 = .ok (.iaload, 1) := by decide +kernel
theorem dX4_sentWith_19 : decode cX4_sentWith 19 = .ok (.goto 4, 3) := by decide +kernel
theorem dX4_sentWith_22 : decode cX4_sentWith 22 = .ok (.iconst 0, 1) := by decide +kernel
theorem dX4_sentWith_23 : decode cX4_sentWith 23 = .ok (.ireturn, 1) := by decide +kernel
theorem dX4_bitsSent_0 : decode cX4_bitsSent 0 = .ok (.aload_n 0, 1) := by decide +kernel
theorem dX4_bitsSent_1 : decode cX4_bitsSent 1 = .ok (.getfield 15, 3) := by decide +kernel
theorem dX4_bitsSent_4 : decode cX4_bitsSent 4 = .ok (.ireturn, 1) := by decide +kernel
theorem dX4_bitsSentByBothPlainly_0 : decode cX4_bitsSentByBothPlainly 0 = .ok (.aload_n 0, 1) := by decide +kernel
theorem dX4_bitsSentByBothPlainly_1 : decode cX4_bitsSentByBothPlainly 1 = .ok (.getfield 19, 3) := by decide +kernel
theorem dX4_bitsSentByBothPlainly_4 : decode cX4_bitsSentByBothPlainly 4 = .ok (.ireturn, 1) := by decide +kernel
theorem dX4_timesSumsRead_0 : decode cX4_timesSumsRead 0 = .ok (.aload_n 0, 1) := by decide +kernel
theorem dX4_timesSumsRead_1 : decode cX4_timesSumsRead 1 = .ok (.getfield 22, 3) := by decide +kernel
theorem dX4_timesSumsRead_4 : decode cX4_timesSumsRead 4 = .ok (.ireturn, 1) := by decide +kernel
set_option maxRecDepth 20000 in
theorem ggX5_init_X1_init : GoodIn wsX5_init wsX1_init := goodIn_r _ [26, 27, 2, 3, 28, 29, 30, 65, 66] (by decide +kernel) (by decide +kernel)
set_option maxRecDepth 20000 in
theorem gX5_init_X1_init : GoodIn wsX5_init (wsX1_init) := ggX5_init_X1_init
set_option maxRecDepth 20000 in
theorem ggX5_init_X2_init : GoodIn wsX5_init wsX2_init := goodIn_r _ [33, 34, 2, 3, 28, 35, 36, 37, 38, 72, 73, 74, 75] (by decide +kernel) (by decide +kernel)
set_option maxRecDepth 20000 in
theorem gX5_init_X2_init : GoodIn wsX5_init (wsX2_init) := ggX5_init_X2_init
set_option maxRecDepth 20000 in
theorem ggX5_init_X3_init : GoodIn wsX5_init wsX3_init := goodIn_r _ [41, 42, 2, 3, 28, 43, 44, 45, 46, 47, 48, 49, 50, 51, 76, 77, 78, 79, 80, 81, 82, 83, 84] (by decide +kernel) (by decide +kernel)
set_option maxRecDepth 20000 in
theorem gX5_init_X3_init : GoodIn wsX5_init (wsX3_init) := ggX5_init_X3_init
set_option maxRecDepth 20000 in
theorem ggX5_init_X4_init : GoodIn wsX5_init wsX4_init := goodIn_r _ [54, 55, 2, 3, 28, 56, 57, 58, 59, 85, 86, 87, 88] (by decide +kernel) (by decide +kernel)
set_option maxRecDepth 20000 in
theorem gX5_init_X4_init : GoodIn wsX5_init (wsX4_init) := ggX5_init_X4_init
set_option maxRecDepth 20000 in
theorem ggX5_init_X0_init : GoodIn wsX5_init wsX0_init := goodIn_r _ [62, 63, 2, 3, 64, 89] (by decide +kernel) (by decide +kernel)
set_option maxRecDepth 20000 in
theorem gX5_init_X0_init : GoodIn wsX5_init (wsX0_init) := ggX5_init_X0_init
end
section
theorem dX5_init_0 : decode cX5_init 0 = .ok (.aload_n 0, 1) := by decide +kernel
theorem dX5_init_1 : decode cX5_init 1 = .ok (.invokespecial 1, 3) := by decide +kernel
theorem dX5_init_4 : decode cX5_init 4 = .ok (.aload_n 0, 1) := by decide +kernel
theorem dX5_init_5 : decode cX5_init 5 = .ok (.new 7, 3) := by decide +kernel
theorem dX5_init_8 : decode cX5_init 8 = .ok (.dup, 1) := by decide +kernel
theorem dX5_init_9 : decode cX5_init 9 = .ok (.invokespecial 9, 3) := by decide +kernel
theorem dX5_init_12 : decode cX5_init 12 = .ok (.putfield 10, 3) := by decide +kernel
theorem dX5_init_15 : decode cX5_init 15 = .ok (.aload_n 0, 1) := by decide +kernel
theorem dX5_init_16 : decode cX5_init 16 = .ok (.new 16, 3) := by decide +kernel
theorem dX5_init_19 : decode cX5_init 19 = .ok (.dup, 1) := by decide +kernel
theorem dX5_init_20 : decode cX5_init 20 = .ok (.invokespecial 18, 3) := by decide +kernel
theorem dX5_init_23 : decode cX5_init 23 = .ok (.putfield 19, 3) := by decide +kernel
theorem dX5_init_26 : decode cX5_init 26 = .ok (.aload_n 0, 1) := by decide +kernel
theorem dX5_init_27 : decode cX5_init 27 = .ok (.new 23, 3) := by decide +kernel
theorem dX5_init_30 : decode cX5_init 30 = .ok (.dup, 1) := by decide +kernel
theorem dX5_init_31 : decode cX5_init 31 = .ok (.invokespecial 25, 3) := by decide +kernel
theorem dX5_init_34 : decode cX5_init 34 = .ok (.putfield 26, 3) := by decide +kernel
theorem dX5_init_37 : decode cX5_init 37 = .ok (.aload_n 0, 1) := by decide +kernel
theorem dX5_init_38 : decode cX5_init 38 = .ok (.new 30, 3) := by decide +kernel
theorem dX5_init_41 : decode cX5_init 41 = .ok (.dup, 1) := by decide +kernel
theorem dX5_init_42 : decode cX5_init 42 = .ok (.invokespecial 32, 3) := by decide +kernel
theorem dX5_init_45 : decode cX5_init 45 = .ok (.putfield 33, 3) := by decide +kernel
theorem dX5_init_48 : decode cX5_init 48 = .ok (.aload_n 0, 1) := by decide +kernel
theorem dX5_init_49 : decode cX5_init 49 = .ok (.new 37, 3) := by decide +kernel
theorem dX5_init_52 : decode cX5_init 52 = .ok (.dup, 1) := by decide +kernel
theorem dX5_init_53 : decode cX5_init 53 = .ok (.invokespecial 39, 3) := by decide +kernel
theorem dX5_init_56 : decode cX5_init 56 = .ok (.putfield 40, 3) := by decide +kernel
theorem dX5_init_59 : decode cX5_init 59 = .ok (.return_, 1) := by decide +kernel
set_option maxRecDepth 20000 in
theorem ggX5_letter_X1_append : GoodIn wsX5_letter wsX1_append := goodIn_r _ [6, 7, 8, 18, 19] (by decide +kernel) (by decide +kernel)
set_option maxRecDepth 20000 in
theorem gX5_letter_X1_append : GoodIn wsX5_letter (wsV RX5 44 RX1 yX1_append wsX1_append) := goodIn_app (goodIn_of _ (by decide +kernel)) ggX5_letter_X1_append
set_option maxRecDepth 20000 in
theorem ggX5_letter_X1_size : GoodIn wsX5_letter wsX1_size := goodIn_r _ [12, 7, 18, 19] (by decide +kernel) (by decide +kernel)
set_option maxRecDepth 20000 in
theorem gX5_letter_X1_size : GoodIn wsX5_letter (wsV RX5 48 RX1 yX1_size wsX1_size) := goodIn_app (goodIn_of _ (by decide +kernel)) ggX5_letter_X1_size
theorem dX5_letter_0 : decode cX5_letter 0 = .ok (.iload_n 1, 1) := by decide +kernel
theorem dX5_letter_1 : decode cX5_letter 1 = .ok (.bipush 32, 2) := by decide +kernel
theorem dX5_letter_3 : decode cX5_letter 3 = .ok (.if_icmp .lt 9, 3) := by decide +kernel
theorem dX5_letter_6 : decode cX5_letter 6 = .ok (.iload_n 1, 1) := by decide +kernel
theorem dX5_letter_7 : decode cX5_letter 7 = .ok (.bipush 126, 2) := by decide +kernel
theorem dX5_letter_9 : decode cX5_letter 9 = .ok (.if_icmp .le 7, 3) := by decide +kernel
theorem dX5_letter_12 : decode cX5_letter 12 = .ok (.sipush (-1002), 3) := by decide +kernel
theorem dX5_letter_15 : decode cX5_letter 15 = .ok (.ireturn, 1) := by decide +kernel
theorem dX5_letter_16 : decode cX5_letter 16 = .ok (.aload_n 0, 1) := by decide +kernel
theorem dX5_letter_17 : decode cX5_letter 17 = .ok (.getfield 10, 3) := by decide +kernel
theorem dX5_letter_20 : decode cX5_letter 20 = .ok (.iload_n 1, 1) := by decide +kernel
theorem dX5_letter_21 : decode cX5_letter 21 = .ok (.invokevirtual 44, 3) := by decide +kernel
theorem dX5_letter_24 : decode cX5_letter 24 = .ok (.ifCond .eq 13, 3) := by decide +kernel
theorem dX5_letter_27 : decode cX5_letter 27 = .ok (.aload_n 0, 1) := by decide +kernel
theorem dX5_letter_28 : decode cX5_letter 28 = .ok (.getfield 10, 3) := by decide +kernel
theorem dX5_letter_31 : decode cX5_letter 31 = .ok (.invokevirtual 48, 3) := by decide +kernel
theorem dX5_letter_34 : decode cX5_letter 34 = .ok (.goto 6, 3) := by decide +kernel
theorem dX5_letter_37 : decode cX5_letter 37 = .ok (.sipush (-1004), 3) := by decide +kernel
theorem dX5_letter_40 : decode cX5_letter 40 = .ok (.ireturn, 1) := by decide +kernel
set_option maxRecDepth 20000 in
theorem ggX5_blank_X1_size : GoodIn wsX5_blank wsX1_size := goodIn_r _ [6, 7, 17, 18] (by decide +kernel) (by decide +kernel)
set_option maxRecDepth 20000 in
theorem gX5_blank_X1_size : GoodIn wsX5_blank (wsV RX5 48 RX1 yX1_size wsX1_size) := goodIn_app (goodIn_of _ (by decide +kernel)) ggX5_blank_X1_size
set_option maxRecDepth 20000 in
theorem ggX5_blank_X1_clear : GoodIn wsX5_blank wsX1_clear := goodIn_r _ [11, 7, 17, 18] (by decide +kernel) (by decide +kernel)
set_option maxRecDepth 20000 in
theorem gX5_blank_X1_clear : GoodIn wsX5_blank (wsV RX5 52 RX1 yX1_clear wsX1_clear) := goodIn_app (goodIn_of _ (by decide +kernel)) ggX5_blank_X1_clear
theorem dX5_blank_0 : decode cX5_blank 0 = .ok (.aload_n 0, 1) := by decide +kernel
theorem dX5_blank_1 : decode cX5_blank 1 = .ok (.getfield 10, 3) := by decide +kernel
theorem dX5_blank_4 : decode cX5_blank 4 = .ok (.invokevirtual 48, 3) := by decide +kernel
theorem dX5_blank_7 : decode cX5_blank 7 = .ok (.istore_n 1, 1) := by decide +kernel
theorem dX5_blank_8 : decode cX5_blank 8 = .ok (.aload_n 0, 1) := by decide +kernel
theorem dX5_blank_9 : decode cX5_blank 9 = .ok (.getfield 10, 3) := by decide +kernel
theorem dX5_blank_12 : decode cX5_blank 12 = .ok (.invokevirtual 52, 3) := by decide +kernel
theorem dX5_blank_15 : decode cX5_blank 15 = .ok (.iload_n 1, 1) := by decide +kernel
theorem dX5_blank_16 : decode cX5_blank 16 = .ok (.ireturn, 1) := by decide +kernel
set_option maxRecDepth 20000 in
theorem ggX5_fault_X2_readAsFarAsItGoes : GoodIn wsX5_fault wsX2_readAsFarAsItGoes := goodIn_r _ [7, 8, 9, 10, 6, 11, 12, 13, 14, 15, 16, 17, 18, 19, 20, 21, 22, 23, 24, 25, 26, 27, 28, 29, 30, 31, 32, 33, 34, 35, 36, 37, 38, 39, 40, 41, 42, 48, 49, 50, 51, 52, 53] (by decide +kernel) (by decide +kernel)
set_option maxRecDepth 20000 in
theorem gX5_fault_X2_readAsFarAsItGoes : GoodIn wsX5_fault (wsV RX5 55 RX2 yX2_readAsFarAsItGoes wsX2_readAsFarAsItGoes) := goodIn_app (goodIn_of _ (by decide +kernel)) ggX5_fault_X2_readAsFarAsItGoes
theorem dX5_fault_0 : decode cX5_fault 0 = .ok (.aload_n 0, 1) := by decide +kernel
theorem dX5_fault_1 : decode cX5_fault 1 = .ok (.getfield 19, 3) := by decide +kernel
theorem dX5_fault_4 : decode cX5_fault 4 = .ok (.aload_n 0, 1) := by decide +kernel
theorem dX5_fault_5 : decode cX5_fault 5 = .ok (.getfield 10, 3) := by decide +kernel
theorem dX5_fault_8 : decode cX5_fault 8 = .ok (.invokevirtual 55, 3) := by decide +kernel
theorem dX5_fault_11 : decode cX5_fault 11 = .ok (.ireturn, 1) := by decide +kernel
set_option maxRecDepth 20000 in
theorem ggX5_sums_X2_readAsFarAsItGoes : GoodIn wsX5_sums wsX2_readAsFarAsItGoes := goodIn_r _ [9, 10, 11, 12, 8, 13, 14, 15, 16, 17, 18, 19, 20, 21, 22, 23, 24, 25, 26, 27, 28, 29, 30, 31, 32, 33, 34, 35, 36, 37, 38, 39, 40, 41, 42, 43, 44, 138, 139, 140, 141, 142, 143] (by decide +kernel) (by decide +kernel)
set_option maxRecDepth 20000 in
theorem gX5_sums_X2_readAsFarAsItGoes : GoodIn wsX5_sums (wsV RX5 55 RX2 yX2_readAsFarAsItGoes wsX2_readAsFarAsItGoes) := goodIn_app (goodIn_of _ (by decide +kernel)) ggX5_sums_X2_readAsFarAsItGoes
set_option maxRecDepth 20000 in
theorem ggX5_sums_X1_size : GoodIn wsX5_sums wsX1_size := goodIn_r _ [22, 23, 142, 143] (by decide +kernel) (by decide +kernel)
set_option maxRecDepth 20000 in
theorem gX5_sums_X1_size : GoodIn wsX5_sums (wsV RX5 48 RX1 yX1_size wsX1_size) := goodIn_app (goodIn_of _ (by decide +kernel)) ggX5_sums_X1_size
set_option maxRecDepth 20000 in
theorem ggX5_sums_X2_rowIsWhole : GoodIn wsX5_sums wsX2_rowIsWhole := goodIn_r _ [40, 15, 16, 17, 138, 139, 140, 141] (by decide +kernel) (by decide +kernel)
set_option maxRecDepth 20000 in
theorem gX5_sums_X2_rowIsWhole : GoodIn wsX5_sums (wsV RX5 59 RX2 yX2_rowIsWhole wsX2_rowIsWhole) := goodIn_app (goodIn_of _ (by decide +kernel)) ggX5_sums_X2_rowIsWhole
set_option maxRecDepth 20000 in
theorem ggX5_sums_X3_become : GoodIn wsX5_sums wsX3_become := goodIn_r _ [51, 52, 53, 54, 55, 56, 57, 58, 59, 8, 60, 15, 61, 62, 63, 64, 16, 65, 66, 67, 68, 14, 69, 70, 71, 50, 72, 73, 74, 75, 76, 77, 78, 79, 80, 81, 82, 83, 84, 85, 86, 87, 88, 89, 90, 91, 92, 93, 94, 95, 96, 97, 98, 99, 100, 101, 102, 103, 104, 105, 106, 107, 108, 109, 110, 111, 112, 113, 114, 115, 116, 117, 118, 144, 145, 146, 147, 148, 149, 150, 151, 152, 138, 139, 140, 141] (by decide +kernel) (by decide +kernel)
set_option maxRecDepth 20000 in
theorem gX5_sums_X3_become : GoodIn wsX5_sums (wsV RX5 63 RX3 yX3_become wsX3_become) := goodIn_app (goodIn_of _ (by decide +kernel)) ggX5_sums_X3_become
set_option maxRecDepth 20000 in
theorem ggX5_sums_X4_sumsRead : GoodIn wsX5_sums wsX4_sumsRead := goodIn_r _ [123, 124, 153, 154, 155, 156] (by decide +kernel) (by decide +kernel)
set_option maxRecDepth 20000 in
theorem gX5_sums_X4_sumsRead : GoodIn wsX5_sums (wsV RX5 67 RX4 yX4_sumsRead wsX4_sumsRead) := goodIn_app (goodIn_of _ (by decide +kernel)) ggX5_sums_X4_sumsRead
set_option maxRecDepth 20000 in
theorem ggX5_sums_X1_clear : GoodIn wsX5_sums wsX1_clear := goodIn_r _ [128, 23, 142, 143] (by decide +kernel) (by decide +kernel)
set_option maxRecDepth 20000 in
theorem gX5_sums_X1_clear : GoodIn wsX5_sums (wsV RX5 52 RX1 yX1_clear wsX1_clear) := goodIn_app (goodIn_of _ (by decide +kernel)) ggX5_sums_X1_clear
set_option maxRecDepth 20000 in
theorem ggX5_sums_X3_length : GoodIn wsX5_sums wsX3_length := goodIn_r _ [132, 53, 144, 145, 146, 147, 148, 149, 150, 151, 152] (by decide +kernel) (by decide +kernel)
set_option maxRecDepth 20000 in
theorem gX5_sums_X3_length : GoodIn wsX5_sums (wsV RX5 70 RX3 yX3_length wsX3_length) := goodIn_app (goodIn_of _ (by decide +kernel)) ggX5_sums_X3_length
theorem dX5_sums_0 : decode cX5_sums 0 = .ok (.aload_n 0, 1) := by decide +kernel
theorem dX5_sums_1 : decode cX5_sums 1 = .ok (.getfield 19, 3) := by decide +kernel
theorem dX5_sums_4 : decode cX5_sums 4 = .ok (.aload_n 0, 1) := by decide +kernel
theorem dX5_sums_5 : decode cX5_sums 5 = .ok (.getfield 10, 3) := by decide +kernel
theorem dX5_sums_8 : decode cX5_sums 8 = .ok (.invokevirtual 55, 3) := by decide +kernel
theorem dX5_sums_11 : decode cX5_sums 11 = .ok (.aload_n 0, 1) := by decide +kernel
theorem dX5_sums_12 : decode cX5_sums 12 = .ok (.getfield 10, 3) := by decide +kernel
theorem dX5_sums_15 : decode cX5_sums 15 = .ok (.invokevirtual 48, 3) := by decide +kernel
theorem dX5_sums_18 : decode cX5_sums 18 = .ok (.if_icmp .lt 13, 3) := by decide +kernel
theorem dX5_sums_21 : decode cX5_sums 21 = .ok (.aload_n 0, 1) := by decide +kernel
theorem dX5_sums_22 : decode cX5_sums 22 = .ok (.getfield 19, 3) := by decide +kernel
theorem dX5_sums_25 : decode cX5_sums 25 = .ok (.invokevirtual 59, 3) := by decide +kernel
theorem dX5_sums_28 : decode cX5_sums 28 = .ok (.ifCond .ne 7, 3) := by decide +kernel
theorem dX5_sums_31 : decode cX5_sums 31 = .ok (.sipush (-1003), 3) := by decide +kernel
theorem dX5_sums_34 : decode cX5_sums 34 = .ok (.ireturn, 1) := by decide +kernel
theorem dX5_sums_35 : decode cX5_sums 35 = .ok (.aload_n 0, 1) := by decide +kernel
theorem dX5_sums_36 : decode cX5_sums 36 = .ok (.getfield 26, 3) := by decide +kernel
theorem dX5_sums_39 : decode cX5_sums 39 = .ok (.aload_n 0, 1) := by decide +kernel
theorem dX5_sums_40 : decode cX5_sums 40 = .ok (.getfield 19, 3) := by decide +kernel
theorem dX5_sums_43 : decode cX5_sums 43 = .ok (.invokevirtual 63, 3) := by decide +kernel
theorem dX5_sums_46 : decode cX5_sums 46 = .ok (.aload_n 0, 1) := by decide +kernel
theorem dX5_sums_47 : decode cX5_sums 47 = .ok (.getfield 33, 3) := by decide +kernel
theorem dX5_sums_50 : decode cX5_sums 50 = .ok (.invokevirtual 67, 3) := by decide +kernel
theorem dX5_sums_53 : decode cX5_sums 53 = .ok (.aload_n 0, 1) := by decide +kernel
theorem dX5_sums_54 : decode cX5_sums 54 = .ok (.getfield 10, 3) := by decide +kernel
theorem dX5_sums_57 : decode cX5_sums 57 = .ok (.invokevirtual 52, 3) := by decide +kernel
theorem dX5_sums_60 : decode cX5_sums 60 = .ok (.aload_n 0, 1) := by decide +kernel
theorem dX5_sums_61 : decode cX5_sums 61 = .ok (.getfield 26, 3) := by decide +kernel
theorem dX5_sums_64 : decode cX5_sums 64 = .ok (.invokevirtual 70, 3) := by decide +kernel
theorem dX5_sums_67 : decode cX5_sums 67 = .ok (.ireturn, 1) := by decide +kernel
set_option maxRecDepth 20000 in
theorem ggX5_code_X3_areThere : GoodIn wsX5_code wsX3_areThere := goodIn_r _ [6, 7, 42, 43, 44, 45, 46, 47, 48, 49, 50] (by decide +kernel) (by decide +kernel)
set_option maxRecDepth 20000 in
theorem gX5_code_X3_areThere : GoodIn wsX5_code (wsV RX5 73 RX3 yX3_areThere wsX3_areThere) := goodIn_app (goodIn_of _ (by decide +kernel)) ggX5_code_X3_areThere
set_option maxRecDepth 20000 in
theorem ggX5_code_X3_length : GoodIn wsX5_code wsX3_length := goodIn_r _ [11, 7, 42, 43, 44, 45, 46, 47, 48, 49, 50] (by decide +kernel) (by decide +kernel)
set_option maxRecDepth 20000 in
theorem gX5_code_X3_length : GoodIn wsX5_code (wsV RX5 70 RX3 yX3_length wsX3_length) := goodIn_app (goodIn_of _ (by decide +kernel)) ggX5_code_X3_length
set_option maxRecDepth 20000 in
theorem ggX5_code_X3_rowCount : GoodIn wsX5_code wsX3_rowCount := goodIn_r _ [15, 16, 42, 43, 44, 45, 46, 47, 48, 49, 50] (by decide +kernel) (by decide +kernel)
set_option maxRecDepth 20000 in
theorem gX5_code_X3_rowCount : GoodIn wsX5_code (wsV RX5 76 RX3 yX3_rowCount wsX3_rowCount) := goodIn_app (goodIn_of _ (by decide +kernel)) ggX5_code_X3_rowCount
set_option maxRecDepth 20000 in
theorem ggX5_code_X3_rank : GoodIn wsX5_code wsX3_rank := goodIn_r _ [20, 21, 42, 43, 44, 45, 46, 47, 48, 49, 50] (by decide +kernel) (by decide +kernel)
set_option maxRecDepth 20000 in
theorem gX5_code_X3_rank : GoodIn wsX5_code (wsV RX5 79 RX3 yX3_rank wsX3_rank) := goodIn_app (goodIn_of _ (by decide +kernel)) ggX5_code_X3_rank
set_option maxRecDepth 20000 in
theorem ggX5_code_X3_distanceOrNone : GoodIn wsX5_code wsX3_distanceOrNone := goodIn_r _ [25, 26, 7, 42, 43, 44, 45, 46, 47, 48, 49, 50] (by decide +kernel) (by decide +kernel)
set_option maxRecDepth 20000 in
theorem gX5_code_X3_distanceOrNone : GoodIn wsX5_code (wsV RX5 82 RX3 yX3_distanceOrNone wsX3_distanceOrNone) := goodIn_app (goodIn_of _ (by decide +kernel)) ggX5_code_X3_distanceOrNone
set_option maxRecDepth 20000 in
theorem ggX5_code_X3_sure : GoodIn wsX5_code wsX3_sure := goodIn_r _ [30, 31, 42, 43, 44, 45, 46, 47, 48, 49, 50] (by decide +kernel) (by decide +kernel)
set_option maxRecDepth 20000 in
theorem gX5_code_X3_sure : GoodIn wsX5_code (wsV RX5 85 RX3 yX3_sure wsX3_sure) := goodIn_app (goodIn_of _ (by decide +kernel)) ggX5_code_X3_sure
set_option maxRecDepth 20000 in
theorem ggX5_code_X3_radius : GoodIn wsX5_code wsX3_radius := goodIn_r _ [35, 36, 42, 43, 44, 45, 46, 47, 48, 49, 50] (by decide +kernel) (by decide +kernel)
set_option maxRecDepth 20000 in
theorem gX5_code_X3_radius : GoodIn wsX5_code (wsV RX5 88 RX3 yX3_radius wsX3_radius) := goodIn_app (goodIn_of _ (by decide +kernel)) ggX5_code_X3_radius
theorem dX5_code_0 : decode cX5_code 0 = .ok (.iload_n 1, 1) := by decide +kernel
theorem dX5_code_1 : decode cX5_code 1 = .ok (.ifCond .lt 9, 3) := by decide +kernel
theorem dX5_code_4 : decode cX5_code 4 = .ok (.iload_n 1, 1) := by decide +kernel
theorem dX5_code_5 : decode cX5_code 5 = .ok (.bipush 6, 2) := by decide +kernel
theorem dX5_code_7 : decode cX5_code 7 = .ok (.if_icmp .le 7, 3) := by decide +kernel
theorem dX5_code_10 : decode cX5_code 10 = .ok (.sipush (-1002), 3) := by decide +kernel
theorem dX5_code_13 : decode cX5_code 13 = .ok (.ireturn, 1) := by decide +kernel
theorem dX5_code_14 : decode cX5_code 14 = .ok (.aload_n 0, 1) := by decide +kernel
theorem dX5_code_15 : decode cX5_code 15 = .ok (.getfield 26, 3) := by decide +kernel
theorem dX5_code_18 : decode cX5_code 18 = .ok (.invokevirtual 73, 3) := by decide +kernel
theorem dX5_code_21 : decode cX5_code 21 = .ok (.ifCond .ne 7, 3) := by decide +kernel
theorem dX5_code_24 : decode cX5_code 24 = .ok (.sipush (-1003), 3) := by decide +kernel
theorem dX5_code_27 : decode cX5_code 27 = .ok (.ireturn, 1) := by decide +kernel
theorem dX5_code_28 : decode cX5_code 28 = .ok (.iload_n 1, 1) := by decide +kernel
theorem dX5_code_29 : decode cX5_code 29 = .ok (.tableswitch 87 0 5 #[39, 47, 55, 63, 71, 79], 39) := by decide +kernel
theorem dX5_code_68 : decode cX5_code 68 = .ok (.aload_n 0, 1) := by decide +kernel
theorem dX5_code_69 : decode cX5_code 69 = .ok (.getfield 26, 3) := by decide +kernel
theorem dX5_code_72 : decode cX5_code 72 = .ok (.invokevirtual 70, 3) := by decide +kernel
theorem dX5_code_75 : decode cX5_code 75 = .ok (.ireturn, 1) := by decide +kernel
theorem dX5_code_76 : decode cX5_code 76 = .ok (.aload_n 0, 1) := by decide +kernel
theorem dX5_code_77 : decode cX5_code 77 = .ok (.getfield 26, 3) := by decide +kernel
theorem dX5_code_80 : decode cX5_code 80 = .ok (.invokevirtual 76, 3) := by decide +kernel
theorem dX5_code_83 : decode cX5_code 83 = .ok (.ireturn, 1) := by decide +kernel
theorem dX5_code_84 : decode cX5_code 84 = .ok (.aload_n 0, 1) := by decide +kernel
theorem dX5_code_85 : decode cX5_code 85 = .ok (.getfield 26, 3) := by decide +kernel
theorem dX5_code_88 : decode cX5_code 88 = .ok (.invokevirtual 79, 3) := by decide +kernel
theorem dX5_code_91 : decode cX5_code 91 = .ok (.ireturn, 1) := by decide +kernel
theorem dX5_code_92 : decode cX5_code 92 = .ok (.aload_n 0, 1) := by decide +kernel
theorem dX5_code_93 : decode cX5_code 93 = .ok (.getfield 26, 3) := by decide +kernel
theorem dX5_code_96 : decode cX5_code 96 = .ok (.invokevirtual 82, 3) := by decide +kernel
theorem dX5_code_99 : decode cX5_code 99 = .ok (.ireturn, 1) := by decide +kernel
theorem dX5_code_100 : decode cX5_code 100 = .ok (.aload_n 0, 1) := by decide +kernel
theorem dX5_code_101 : decode cX5_code 101 = .ok (.getfield 26, 3) := by decide +kernel
theorem dX5_code_104 : decode cX5_code 104 = .ok (.invokevirtual 85, 3) := by decide +kernel
theorem dX5_code_107 : decode cX5_code 107 = .ok (.ireturn, 1) := by decide +kernel
theorem dX5_code_108 : decode cX5_code 108 = .ok (.aload_n 0, 1) := by decide +kernel
theorem dX5_code_109 : decode cX5_code 109 = .ok (.getfield 26, 3) := by decide +kernel
theorem dX5_code_112 : decode cX5_code 112 = .ok (.invokevirtual 88, 3) := by decide +kernel
theorem dX5_code_115 : decode cX5_code 115 = .ok (.ireturn, 1) := by decide +kernel
theorem dX5_code_116 : decode cX5_code 116 = .ok (.aload_n 0, 1) := by decide +kernel
theorem dX5_code_117 : decode cX5_code 117 = .ok (.getfield 26, 3) := by decide +kernel
theorem dX5_code_120 : decode cX5_code 120 = .ok (.invokevirtual 88, 3) := by decide +kernel
theorem dX5_code_123 : decode cX5_code 123 = .ok (.aload_n 0, 1) := by decide +kernel
theorem dX5_code_124 : decode cX5_code 124 = .ok (.getfield 26, 3) := by decide +kernel
theorem dX5_code_127 : decode cX5_code 127 = .ok (.invokevirtual 85, 3) := by decide +kernel
theorem dX5_code_130 : decode cX5_code 130 = .ok (.if_icmp .ne 7, 3) := by decide +kernel
theorem dX5_code_133 : decode cX5_code 133 = .ok (.iconst 1, 1) := by decide +kernel
theorem dX5_code_134 : decode cX5_code 134 = .ok (.goto 4, 3) := by decide +kernel
theorem dX5_code_137 : decode cX5_code 137 = .ok (.iconst 0, 1) := by decide +kernel
theorem dX5_code_138 : decode cX5_code 138 = .ok (.ireturn, 1) := by decide +kernel
set_option maxRecDepth 20000 in
theorem ggX5_row_X3_areThere : GoodIn wsX5_row wsX3_areThere := goodIn_r _ [6, 7, 24, 25, 26, 27, 28, 29, 30, 31, 32] (by decide +kernel) (by decide +kernel)
set_option maxRecDepth 20000 in
theorem gX5_row_X3_areThere : GoodIn wsX5_row (wsV RX5 73 RX3 yX3_areThere wsX3_areThere) := goodIn_app (goodIn_of _ (by decide +kernel)) ggX5_row_X3_areThere
set_option maxRecDepth 20000 in
theorem ggX5_row_X3_isRow : GoodIn wsX5_row wsX3_isRow := goodIn_r _ [11, 12, 13, 24, 25, 26, 27, 28, 29, 30, 31, 32] (by decide +kernel) (by decide +kernel)
set_option maxRecDepth 20000 in
theorem gX5_row_X3_isRow : GoodIn wsX5_row (wsV RX5 91 RX3 yX3_isRow wsX3_isRow) := goodIn_app (goodIn_of _ (by decide +kernel)) ggX5_row_X3_isRow
set_option maxRecDepth 20000 in
theorem ggX5_row_X3_rowAt : GoodIn wsX5_row wsX3_rowAt := goodIn_r _ [17, 13, 18, 9, 10, 5, 11, 12, 24, 25, 26, 27, 28, 29, 30, 31, 32] (by decide +kernel) (by decide +kernel)
set_option maxRecDepth 20000 in
theorem gX5_row_X3_rowAt : GoodIn wsX5_row (wsV RX5 94 RX3 yX3_rowAt wsX3_rowAt) := goodIn_app (goodIn_of _ (by decide +kernel)) ggX5_row_X3_rowAt
theorem dX5_row_0 : decode cX5_row 0 = .ok (.aload_n 0, 1) := by decide +kernel
theorem dX5_row_1 : decode cX5_row 1 = .ok (.getfield 26, 3) := by decide +kernel
theorem dX5_row_4 : decode cX5_row 4 = .ok (.invokevirtual 73, 3) := by decide +kernel
theorem dX5_row_7 : decode cX5_row 7 = .ok (.ifCond .ne 7, 3) := by decide +kernel
theorem dX5_row_10 : decode cX5_row 10 = .ok (.sipush (-1003), 3) := by decide +kernel
theorem dX5_row_13 : decode cX5_row 13 = .ok (.ireturn, 1) := by decide +kernel
theorem dX5_row_14 : decode cX5_row 14 = .ok (.aload_n 0, 1) := by decide +kernel
theorem dX5_row_15 : decode cX5_row 15 = .ok (.getfield 26, 3) := by decide +kernel
theorem dX5_row_18 : decode cX5_row 18 = .ok (.iload_n 1, 1) := by decide +kernel
theorem dX5_row_19 : decode cX5_row 19 = .ok (.invokevirtual 91, 3) := by decide +kernel
theorem dX5_row_22 : decode cX5_row 22 = .ok (.ifCond .eq 14, 3) := by decide +kernel
theorem dX5_row_25 : decode cX5_row 25 = .ok (.aload_n 0, 1) := by decide +kernel
theorem dX5_row_26 : decode cX5_row 26 = .ok (.getfield 26, 3) := by decide +kernel
theorem dX5_row_29 : decode cX5_row 29 = .ok (.iload_n 1, 1) := by decide +kernel
theorem dX5_row_30 : decode cX5_row 30 = .ok (.invokevirtual 94, 3) := by decide +kernel
theorem dX5_row_33 : decode cX5_row 33 = .ok (.goto 6, 3) := by decide +kernel
theorem dX5_row_36 : decode cX5_row 36 = .ok (.sipush (-1002), 3) := by decide +kernel
theorem dX5_row_39 : decode cX5_row 39 = .ok (.ireturn, 1) := by decide +kernel
set_option maxRecDepth 20000 in
theorem ggX5_syndrome_X3_areThere : GoodIn wsX5_syndrome wsX3_areThere := goodIn_r _ [6, 7, 34, 35, 36, 37, 38, 39, 40, 41, 42] (by decide +kernel) (by decide +kernel)
set_option maxRecDepth 20000 in
theorem gX5_syndrome_X3_areThere : GoodIn wsX5_syndrome (wsV RX5 73 RX3 yX3_areThere wsX3_areThere) := goodIn_app (goodIn_of _ (by decide +kernel)) ggX5_syndrome_X3_areThere
set_option maxRecDepth 20000 in
theorem ggX5_syndrome_X3_isWord : GoodIn wsX5_syndrome wsX3_isWord := goodIn_r _ [11, 12, 13, 14, 5, 15, 7, 34, 35, 36, 37, 38, 39, 40, 41, 42] (by decide +kernel) (by decide +kernel)
set_option maxRecDepth 20000 in
theorem gX5_syndrome_X3_isWord : GoodIn wsX5_syndrome (wsV RX5 98 RX3 yX3_isWord wsX3_isWord) := goodIn_app (goodIn_of _ (by decide +kernel)) ggX5_syndrome_X3_isWord
set_option maxRecDepth 20000 in
theorem ggX5_syndrome_X3_syndromeOf : GoodIn wsX5_syndrome wsX3_syndromeOf := goodIn_r _ [19, 20, 21, 22, 23, 24, 25, 26, 27, 28, 34, 35, 36, 37, 38, 39, 40, 41, 42] (by decide +kernel) (by decide +kernel)
set_option maxRecDepth 20000 in
theorem gX5_syndrome_X3_syndromeOf : GoodIn wsX5_syndrome (wsV RX5 101 RX3 yX3_syndromeOf wsX3_syndromeOf) := goodIn_app (goodIn_of _ (by decide +kernel)) ggX5_syndrome_X3_syndromeOf
theorem dX5_syndrome_0 : decode cX5_syndrome 0 = .ok (.aload_n 0, 1) := by decide +kernel
theorem dX5_syndrome_1 : decode cX5_syndrome 1 = .ok (.getfield 26, 3) := by decide +kernel
theorem dX5_syndrome_4 : decode cX5_syndrome 4 = .ok (.invokevirtual 73, 3) := by decide +kernel
theorem dX5_syndrome_7 : decode cX5_syndrome 7 = .ok (.ifCond .ne 7, 3) := by decide +kernel
theorem dX5_syndrome_10 : decode cX5_syndrome 10 = .ok (.sipush (-1003), 3) := by decide +kernel
theorem dX5_syndrome_13 : decode cX5_syndrome 13 = .ok (.ireturn, 1) := by decide +kernel
theorem dX5_syndrome_14 : decode cX5_syndrome 14 = .ok (.aload_n 0, 1) := by decide +kernel
theorem dX5_syndrome_15 : decode cX5_syndrome 15 = .ok (.getfield 26, 3) := by decide +kernel
theorem dX5_syndrome_18 : decode cX5_syndrome 18 = .ok (.iload_n 1, 1) := by decide +kernel
theorem dX5_syndrome_19 : decode cX5_syndrome 19 = .ok (.invokevirtual 98, 3) := by decide +kernel
theorem dX5_syndrome_22 : decode cX5_syndrome 22 = .ok (.ifCond .eq 14, 3) := by decide +kernel
theorem dX5_syndrome_25 : decode cX5_syndrome 25 = .ok (.aload_n 0, 1) := by decide +kernel
theorem dX5_syndrome_26 : decode cX5_syndrome 26 = .ok (.getfield 26, 3) := by decide +kernel
theorem dX5_syndrome_29 : decode cX5_syndrome 29 = .ok (.iload_n 1, 1) := by decide +kernel
theorem dX5_syndrome_30 : decode cX5_syndrome 30 = .ok (.invokevirtual 101, 3) := by decide +kernel
theorem dX5_syndrome_33 : decode cX5_syndrome 33 = .ok (.goto 6, 3) := by decide +kernel
theorem dX5_syndrome_36 : decode cX5_syndrome 36 = .ok (.sipush (-1002), 3) := by decide +kernel
theorem dX5_syndrome_39 : decode cX5_syndrome 39 = .ok (.ireturn, 1) := by decide +kernel
set_option maxRecDepth 20000 in
theorem ggX5_leader_X3_areThere : GoodIn wsX5_leader wsX3_areThere := goodIn_r _ [6, 7, 28, 29, 30, 31, 32, 33, 34, 35, 36] (by decide +kernel) (by decide +kernel)
set_option maxRecDepth 20000 in
theorem gX5_leader_X3_areThere : GoodIn wsX5_leader (wsV RX5 73 RX3 yX3_areThere wsX3_areThere) := goodIn_app (goodIn_of _ (by decide +kernel)) ggX5_leader_X3_areThere
set_option maxRecDepth 20000 in
theorem ggX5_leader_X3_isSyndrome : GoodIn wsX5_leader wsX3_isSyndrome := goodIn_r _ [11, 12, 13, 14, 15, 5, 16, 17, 28, 29, 30, 31, 32, 33, 34, 35, 36] (by decide +kernel) (by decide +kernel)
set_option maxRecDepth 20000 in
theorem gX5_leader_X3_isSyndrome : GoodIn wsX5_leader (wsV RX5 104 RX3 yX3_isSyndrome wsX3_isSyndrome) := goodIn_app (goodIn_of _ (by decide +kernel)) ggX5_leader_X3_isSyndrome
set_option maxRecDepth 20000 in
theorem ggX5_leader_X3_leaderOf : GoodIn wsX5_leader wsX3_leaderOf := goodIn_r _ [21, 12, 22, 9, 10, 5, 11, 13, 14, 15, 16, 17, 28, 29, 30, 31, 32, 33, 34, 35, 36] (by decide +kernel) (by decide +kernel)
set_option maxRecDepth 20000 in
theorem gX5_leader_X3_leaderOf : GoodIn wsX5_leader (wsV RX5 107 RX3 yX3_leaderOf wsX3_leaderOf) := goodIn_app (goodIn_of _ (by decide +kernel)) ggX5_leader_X3_leaderOf
theorem dX5_leader_0 : decode cX5_leader 0 = .ok (.aload_n 0, 1) := by decide +kernel
theorem dX5_leader_1 : decode cX5_leader 1 = .ok (.getfield 26, 3) := by decide +kernel
theorem dX5_leader_4 : decode cX5_leader 4 = .ok (.invokevirtual 73, 3) := by decide +kernel
theorem dX5_leader_7 : decode cX5_leader 7 = .ok (.ifCond .ne 7, 3) := by decide +kernel
theorem dX5_leader_10 : decode cX5_leader 10 = .ok (.sipush (-1003), 3) := by decide +kernel
theorem dX5_leader_13 : decode cX5_leader 13 = .ok (.ireturn, 1) := by decide +kernel
theorem dX5_leader_14 : decode cX5_leader 14 = .ok (.aload_n 0, 1) := by decide +kernel
theorem dX5_leader_15 : decode cX5_leader 15 = .ok (.getfield 26, 3) := by decide +kernel
theorem dX5_leader_18 : decode cX5_leader 18 = .ok (.iload_n 1, 1) := by decide +kernel
theorem dX5_leader_19 : decode cX5_leader 19 = .ok (.invokevirtual 104, 3) := by decide +kernel
theorem dX5_leader_22 : decode cX5_leader 22 = .ok (.ifCond .eq 14, 3) := by decide +kernel
theorem dX5_leader_25 : decode cX5_leader 25 = .ok (.aload_n 0, 1) := by decide +kernel
theorem dX5_leader_26 : decode cX5_leader 26 = .ok (.getfield 26, 3) := by decide +kernel
theorem dX5_leader_29 : decode cX5_leader 29 = .ok (.iload_n 1, 1) := by decide +kernel
theorem dX5_leader_30 : decode cX5_leader 30 = .ok (.invokevirtual 107, 3) := by decide +kernel
theorem dX5_leader_33 : decode cX5_leader 33 = .ok (.goto 6, 3) := by decide +kernel
theorem dX5_leader_36 : decode cX5_leader 36 = .ok (.sipush (-1002), 3) := by decide +kernel
theorem dX5_leader_39 : decode cX5_leader 39 = .ok (.ireturn, 1) := by decide +kernel
set_option maxRecDepth 20000 in
theorem ggX5_coset_X3_areThere : GoodIn wsX5_coset wsX3_areThere := goodIn_r _ [6, 7, 43, 44, 45, 46, 47, 48, 49, 50, 51] (by decide +kernel) (by decide +kernel)
set_option maxRecDepth 20000 in
theorem gX5_coset_X3_areThere : GoodIn wsX5_coset (wsV RX5 73 RX3 yX3_areThere wsX3_areThere) := goodIn_app (goodIn_of _ (by decide +kernel)) ggX5_coset_X3_areThere
set_option maxRecDepth 20000 in
theorem ggX5_coset_X3_isSyndrome : GoodIn wsX5_coset wsX3_isSyndrome := goodIn_r _ [11, 12, 13, 14, 15, 5, 16, 17, 43, 44, 45, 46, 47, 48, 49, 50, 51] (by decide +kernel) (by decide +kernel)
set_option maxRecDepth 20000 in
theorem gX5_coset_X3_isSyndrome : GoodIn wsX5_coset (wsV RX5 104 RX3 yX3_isSyndrome wsX3_isSyndrome) := goodIn_app (goodIn_of _ (by decide +kernel)) ggX5_coset_X3_isSyndrome
set_option maxRecDepth 20000 in
theorem ggX5_coset_X3_wordOfCoset : GoodIn wsX5_coset wsX3_wordOfCoset := goodIn_r _ [21, 22, 23, 24, 5, 25, 7, 26, 27, 28, 29, 17, 30, 31, 32, 33, 34, 35, 36, 37, 43, 44, 45, 46, 47, 48, 49, 50, 51] (by decide +kernel) (by decide +kernel)
set_option maxRecDepth 20000 in
theorem gX5_coset_X3_wordOfCoset : GoodIn wsX5_coset (wsV RX5 110 RX3 yX3_wordOfCoset wsX3_wordOfCoset) := goodIn_app (goodIn_of _ (by decide +kernel)) ggX5_coset_X3_wordOfCoset
theorem dX5_coset_0 : decode cX5_coset 0 = .ok (.aload_n 0, 1) := by decide +kernel
theorem dX5_coset_1 : decode cX5_coset 1 = .ok (.getfield 26, 3) := by decide +kernel
theorem dX5_coset_4 : decode cX5_coset 4 = .ok (.invokevirtual 73, 3) := by decide +kernel
theorem dX5_coset_7 : decode cX5_coset 7 = .ok (.ifCond .ne 7, 3) := by decide +kernel
theorem dX5_coset_10 : decode cX5_coset 10 = .ok (.sipush (-1003), 3) := by decide +kernel
theorem dX5_coset_13 : decode cX5_coset 13 = .ok (.ireturn, 1) := by decide +kernel
theorem dX5_coset_14 : decode cX5_coset 14 = .ok (.aload_n 0, 1) := by decide +kernel
theorem dX5_coset_15 : decode cX5_coset 15 = .ok (.getfield 26, 3) := by decide +kernel
theorem dX5_coset_18 : decode cX5_coset 18 = .ok (.iload_n 1, 1) := by decide +kernel
theorem dX5_coset_19 : decode cX5_coset 19 = .ok (.invokevirtual 104, 3) := by decide +kernel
theorem dX5_coset_22 : decode cX5_coset 22 = .ok (.ifCond .eq 15, 3) := by decide +kernel
theorem dX5_coset_25 : decode cX5_coset 25 = .ok (.aload_n 0, 1) := by decide +kernel
theorem dX5_coset_26 : decode cX5_coset 26 = .ok (.getfield 26, 3) := by decide +kernel
theorem dX5_coset_29 : decode cX5_coset 29 = .ok (.iload_n 1, 1) := by decide +kernel
theorem dX5_coset_30 : decode cX5_coset 30 = .ok (.iload_n 2, 1) := by decide +kernel
theorem dX5_coset_31 : decode cX5_coset 31 = .ok (.invokevirtual 110, 3) := by decide +kernel
theorem dX5_coset_34 : decode cX5_coset 34 = .ok (.goto 6, 3) := by decide +kernel
theorem dX5_coset_37 : decode cX5_coset 37 = .ok (.sipush (-1002), 3) := by decide +kernel
theorem dX5_coset_40 : decode cX5_coset 40 = .ok (.ireturn, 1) := by decide +kernel
set_option maxRecDepth 20000 in
theorem ggX5_leaders_X3_areThere : GoodIn wsX5_leaders wsX3_areThere := goodIn_r _ [6, 7, 23, 24, 25, 26, 27, 28, 29, 30, 31] (by decide +kernel) (by decide +kernel)
set_option maxRecDepth 20000 in
theorem gX5_leaders_X3_areThere : GoodIn wsX5_leaders (wsV RX5 73 RX3 yX3_areThere wsX3_areThere) := goodIn_app (goodIn_of _ (by decide +kernel)) ggX5_leaders_X3_areThere
set_option maxRecDepth 20000 in
theorem ggX5_leaders_X3_isWeight : GoodIn wsX5_leaders wsX3_isWeight := goodIn_r _ [11, 7, 12, 23, 24, 25, 26, 27, 28, 29, 30, 31] (by decide +kernel) (by decide +kernel)
set_option maxRecDepth 20000 in
theorem gX5_leaders_X3_isWeight : GoodIn wsX5_leaders (wsV RX5 114 RX3 yX3_isWeight wsX3_isWeight) := goodIn_app (goodIn_of _ (by decide +kernel)) ggX5_leaders_X3_isWeight
set_option maxRecDepth 20000 in
theorem ggX5_leaders_X3_leadersOfWeight : GoodIn wsX5_leaders wsX3_leadersOfWeight := goodIn_r _ [16, 12, 17, 9, 10, 5, 11, 7, 23, 24, 25, 26, 27, 28, 29, 30, 31] (by decide +kernel) (by decide +kernel)
set_option maxRecDepth 20000 in
theorem gX5_leaders_X3_leadersOfWeight : GoodIn wsX5_leaders (wsV RX5 117 RX3 yX3_leadersOfWeight wsX3_leadersOfWeight) := goodIn_app (goodIn_of _ (by decide +kernel)) ggX5_leaders_X3_leadersOfWeight
theorem dX5_leaders_0 : decode cX5_leaders 0 = .ok (.aload_n 0, 1) := by decide +kernel
theorem dX5_leaders_1 : decode cX5_leaders 1 = .ok (.getfield 26, 3) := by decide +kernel
theorem dX5_leaders_4 : decode cX5_leaders 4 = .ok (.invokevirtual 73, 3) := by decide +kernel
theorem dX5_leaders_7 : decode cX5_leaders 7 = .ok (.ifCond .ne 7, 3) := by decide +kernel
theorem dX5_leaders_10 : decode cX5_leaders 10 = .ok (.sipush (-1003), 3) := by decide +kernel
theorem dX5_leaders_13 : decode cX5_leaders 13 = .ok (.ireturn, 1) := by decide +kernel
theorem dX5_leaders_14 : decode cX5_leaders 14 = .ok (.aload_n 0, 1) := by decide +kernel
theorem dX5_leaders_15 : decode cX5_leaders 15 = .ok (.getfield 26, 3) := by decide +kernel
theorem dX5_leaders_18 : decode cX5_leaders 18 = .ok (.iload_n 1, 1) := by decide +kernel
theorem dX5_leaders_19 : decode cX5_leaders 19 = .ok (.invokevirtual 114, 3) := by decide +kernel
theorem dX5_leaders_22 : decode cX5_leaders 22 = .ok (.ifCond .eq 14, 3) := by decide +kernel
theorem dX5_leaders_25 : decode cX5_leaders 25 = .ok (.aload_n 0, 1) := by decide +kernel
theorem dX5_leaders_26 : decode cX5_leaders 26 = .ok (.getfield 26, 3) := by decide +kernel
theorem dX5_leaders_29 : decode cX5_leaders 29 = .ok (.iload_n 1, 1) := by decide +kernel
theorem dX5_leaders_30 : decode cX5_leaders 30 = .ok (.invokevirtual 117, 3) := by decide +kernel
theorem dX5_leaders_33 : decode cX5_leaders 33 = .ok (.goto 6, 3) := by decide +kernel
theorem dX5_leaders_36 : decode cX5_leaders 36 = .ok (.sipush (-1002), 3) := by decide +kernel
theorem dX5_leaders_39 : decode cX5_leaders 39 = .ok (.ireturn, 1) := by decide +kernel
set_option maxRecDepth 20000 in
theorem ggX5_better_X3_areThere : GoodIn wsX5_better wsX3_areThere := goodIn_r _ [6, 7, 48, 49, 50, 51, 52, 53, 54, 55, 56] (by decide +kernel) (by decide +kernel)
set_option maxRecDepth 20000 in
theorem gX5_better_X3_areThere : GoodIn wsX5_better (wsV RX5 73 RX3 yX3_areThere wsX3_areThere) := goodIn_app (goodIn_of _ (by decide +kernel)) ggX5_better_X3_areThere
set_option maxRecDepth 20000 in
theorem ggX5_better_X3_isRow : GoodIn wsX5_better wsX3_isRow := goodIn_r _ [11, 12, 13, 48, 49, 50, 51, 52, 53, 54, 55, 56] (by decide +kernel) (by decide +kernel)
set_option maxRecDepth 20000 in
theorem gX5_better_X3_isRow : GoodIn wsX5_better (wsV RX5 91 RX3 yX3_isRow wsX3_isRow) := goodIn_app (goodIn_of _ (by decide +kernel)) ggX5_better_X3_isRow
set_option maxRecDepth 20000 in
theorem ggX5_better_X3_isWord : GoodIn wsX5_better wsX3_isWord := goodIn_r _ [17, 18, 19, 20, 5, 21, 7, 48, 49, 50, 51, 52, 53, 54, 55, 56] (by decide +kernel) (by decide +kernel)
set_option maxRecDepth 20000 in
theorem gX5_better_X3_isWord : GoodIn wsX5_better (wsV RX5 98 RX3 yX3_isWord wsX3_isWord) := goodIn_app (goodIn_of _ (by decide +kernel)) ggX5_better_X3_isWord
set_option maxRecDepth 20000 in
theorem ggX5_better_X3_gainBy : GoodIn wsX5_better wsX3_gainBy := goodIn_r _ [25, 13, 26, 27, 9, 10, 5, 11, 12, 28, 29, 30, 31, 7, 18, 19, 20, 21, 32, 33, 34, 35, 36, 37, 38, 39, 40, 41, 42, 48, 49, 50, 51, 52, 53, 54, 55, 56] (by decide +kernel) (by decide +kernel)
set_option maxRecDepth 20000 in
theorem gX5_better_X3_gainBy : GoodIn wsX5_better (wsV RX5 120 RX3 yX3_gainBy wsX3_gainBy) := goodIn_app (goodIn_of _ (by decide +kernel)) ggX5_better_X3_gainBy
theorem dX5_better_0 : decode cX5_better 0 = .ok (.aload_n 0, 1) := by decide +kernel
theorem dX5_better_1 : decode cX5_better 1 = .ok (.getfield 26, 3) := by decide +kernel
theorem dX5_better_4 : decode cX5_better 4 = .ok (.invokevirtual 73, 3) := by decide +kernel
theorem dX5_better_7 : decode cX5_better 7 = .ok (.ifCond .ne 7, 3) := by decide +kernel
theorem dX5_better_10 : decode cX5_better 10 = .ok (.sipush (-1003), 3) := by decide +kernel
theorem dX5_better_13 : decode cX5_better 13 = .ok (.ireturn, 1) := by decide +kernel
theorem dX5_better_14 : decode cX5_better 14 = .ok (.aload_n 0, 1) := by decide +kernel
theorem dX5_better_15 : decode cX5_better 15 = .ok (.getfield 26, 3) := by decide +kernel
theorem dX5_better_18 : decode cX5_better 18 = .ok (.iload_n 1, 1) := by decide +kernel
theorem dX5_better_19 : decode cX5_better 19 = .ok (.invokevirtual 91, 3) := by decide +kernel
theorem dX5_better_22 : decode cX5_better 22 = .ok (.ifCond .eq 14, 3) := by decide +kernel
theorem dX5_better_25 : decode cX5_better 25 = .ok (.aload_n 0, 1) := by decide +kernel
theorem dX5_better_26 : decode cX5_better 26 = .ok (.getfield 26, 3) := by decide +kernel
theorem dX5_better_29 : decode cX5_better 29 = .ok (.iload_n 2, 1) := by decide +kernel
theorem dX5_better_30 : decode cX5_better 30 = .ok (.invokevirtual 98, 3) := by decide +kernel
theorem dX5_better_33 : decode cX5_better 33 = .ok (.ifCond .ne 7, 3) := by decide +kernel
theorem dX5_better_36 : decode cX5_better 36 = .ok (.sipush (-1002), 3) := by decide +kernel
theorem dX5_better_39 : decode cX5_better 39 = .ok (.ireturn, 1) := by decide +kernel
theorem dX5_better_40 : decode cX5_better 40 = .ok (.aload_n 0, 1) := by decide +kernel
theorem dX5_better_41 : decode cX5_better 41 = .ok (.getfield 26, 3) := by decide +kernel
theorem dX5_better_44 : decode cX5_better 44 = .ok (.iload_n 1, 1) := by decide +kernel
theorem dX5_better_45 : decode cX5_better 45 = .ok (.iload_n 2, 1) := by decide +kernel
theorem dX5_better_46 : decode cX5_better 46 = .ok (.invokevirtual 120, 3) := by decide +kernel
theorem dX5_better_49 : decode cX5_better 49 = .ok (.ireturn, 1) := by decide +kernel
set_option maxRecDepth 20000 in
theorem ggX5_send_X3_areThere : GoodIn wsX5_send wsX3_areThere := goodIn_r _ [6, 7, 79, 80, 81, 82, 83, 84, 85, 86, 87] (by decide +kernel) (by decide +kernel)
set_option maxRecDepth 20000 in
theorem gX5_send_X3_areThere : GoodIn wsX5_send (wsV RX5 73 RX3 yX3_areThere wsX3_areThere) := goodIn_app (goodIn_of _ (by decide +kernel)) ggX5_send_X3_areThere
set_option maxRecDepth 20000 in
theorem ggX5_send_X3_isWord : GoodIn wsX5_send wsX3_isWord := goodIn_r _ [11, 12, 13, 14, 5, 15, 7, 79, 80, 81, 82, 83, 84, 85, 86, 87] (by decide +kernel) (by decide +kernel)
set_option maxRecDepth 20000 in
theorem gX5_send_X3_isWord : GoodIn wsX5_send (wsV RX5 98 RX3 yX3_isWord wsX3_isWord) := goodIn_app (goodIn_of _ (by decide +kernel)) ggX5_send_X3_isWord
set_option maxRecDepth 20000 in
theorem ggX5_send_X5_sendAndCount : GoodIn wsX5_send wsX5_sendAndCount := goodIn_r _ [20, 1, 21, 22, 23, 24, 5, 25, 26, 27, 28, 29, 30, 31, 32, 33, 34, 35, 36, 37, 38, 39, 40, 41, 42, 43, 44, 45, 46, 47, 48, 49, 50, 51, 52, 53, 54, 55, 56, 57, 58, 59, 60, 7, 61, 62, 63, 64, 65, 66, 67, 68, 69, 70, 71, 72, 73, 74, 75, 76, 77, 78, 79, 80, 81, 82, 83, 84, 85, 86, 87, 88, 89, 90, 91] (by decide +kernel) (by decide +kernel)
set_option maxRecDepth 20000 in
theorem gX5_send_X5_sendAndCount : GoodIn wsX5_send (wsV RX5 123 RX5 yX5_sendAndCount wsX5_sendAndCount) := goodIn_app (goodIn_of _ (by decide +kernel)) ggX5_send_X5_sendAndCount
theorem dX5_send_0 : decode cX5_send 0 = .ok (.aload_n 0, 1) := by decide +kernel
theorem dX5_send_1 : decode cX5_send 1 = .ok (.getfield 26, 3) := by decide +kernel
theorem dX5_send_4 : decode cX5_send 4 = .ok (.invokevirtual 73, 3) := by decide +kernel
theorem dX5_send_7 : decode cX5_send 7 = .ok (.ifCond .ne 7, 3) := by decide +kernel
theorem dX5_send_10 : decode cX5_send 10 = .ok (.sipush (-1003), 3) := by decide +kernel
theorem dX5_send_13 : decode cX5_send 13 = .ok (.ireturn, 1) := by decide +kernel
theorem dX5_send_14 : decode cX5_send 14 = .ok (.aload_n 0, 1) := by decide +kernel
theorem dX5_send_15 : decode cX5_send 15 = .ok (.getfield 26, 3) := by decide +kernel
theorem dX5_send_18 : decode cX5_send 18 = .ok (.iload_n 1, 1) := by decide +kernel
theorem dX5_send_19 : decode cX5_send 19 = .ok (.invokevirtual 98, 3) := by decide +kernel
theorem dX5_send_22 : decode cX5_send 22 = .ok (.ifCond .eq 14, 3) := by decide +kernel
theorem dX5_send_25 : decode cX5_send 25 = .ok (.aload_n 0, 1) := by decide +kernel
theorem dX5_send_26 : decode cX5_send 26 = .ok (.getfield 26, 3) := by decide +kernel
theorem dX5_send_29 : decode cX5_send 29 = .ok (.iload_n 2, 1) := by decide +kernel
theorem dX5_send_30 : decode cX5_send 30 = .ok (.invokevirtual 98, 3) := by decide +kernel
theorem dX5_send_33 : decode cX5_send 33 = .ok (.ifCond .ne 7, 3) := by decide +kernel
theorem dX5_send_36 : decode cX5_send 36 = .ok (.sipush (-1002), 3) := by decide +kernel
theorem dX5_send_39 : decode cX5_send 39 = .ok (.ireturn, 1) := by decide +kernel
theorem dX5_send_40 : decode cX5_send 40 = .ok (.aload_n 0, 1) := by decide +kernel
theorem dX5_send_41 : decode cX5_send 41 = .ok (.iload_n 1, 1) := by decide +kernel
theorem dX5_send_42 : decode cX5_send 42 = .ok (.iload_n 2, 1) := by decide +kernel
theorem dX5_send_43 : decode cX5_send 43 = .ok (.invokevirtual 123, 3) := by decide +kernel
theorem dX5_send_46 : decode cX5_send 46 = .ok (.ireturn, 1) := by decide +kernel
set_option maxRecDepth 20000 in
theorem ggX5_plain_X3_areThere : GoodIn wsX5_plain wsX3_areThere := goodIn_r _ [6, 7, 57, 58, 59, 60, 61, 62, 63, 64, 65] (by decide +kernel) (by decide +kernel)
set_option maxRecDepth 20000 in
theorem gX5_plain_X3_areThere : GoodIn wsX5_plain (wsV RX5 73 RX3 yX3_areThere wsX3_areThere) := goodIn_app (goodIn_of _ (by decide +kernel)) ggX5_plain_X3_areThere
set_option maxRecDepth 20000 in
theorem ggX5_plain_X3_isWord : GoodIn wsX5_plain wsX3_isWord := goodIn_r _ [11, 12, 13, 14, 5, 15, 7, 57, 58, 59, 60, 61, 62, 63, 64, 65] (by decide +kernel) (by decide +kernel)
set_option maxRecDepth 20000 in
theorem gX5_plain_X3_isWord : GoodIn wsX5_plain (wsV RX5 98 RX3 yX3_isWord wsX3_isWord) := goodIn_app (goodIn_of _ (by decide +kernel)) ggX5_plain_X3_isWord
set_option maxRecDepth 20000 in
theorem ggX5_plain_X3_verdictOf : GoodIn wsX5_plain wsX3_verdictOf := goodIn_r _ [19, 20, 21, 22, 23, 5, 24, 25, 26, 27, 28, 29, 30, 31, 32, 33, 34, 35, 36, 37, 38, 39, 40, 41, 42, 43, 44, 45, 46, 47, 48, 49, 50, 57, 58, 59, 60, 61, 62, 63, 64, 65] (by decide +kernel) (by decide +kernel)
set_option maxRecDepth 20000 in
theorem gX5_plain_X3_verdictOf : GoodIn wsX5_plain (wsV RX5 126 RX3 yX3_verdictOf wsX3_verdictOf) := goodIn_app (goodIn_of _ (by decide +kernel)) ggX5_plain_X3_verdictOf
set_option maxRecDepth 20000 in
theorem ggX5_plain_X3_flipsOf : GoodIn wsX5_plain wsX3_flipsOf := goodIn_r _ [24, 25, 26, 27, 5, 28, 29, 30, 31, 32, 33, 34, 35, 36, 37, 38, 39, 40, 41, 42, 43, 44, 45, 46, 47, 48, 49, 50, 57, 58, 59, 60, 61, 62, 63, 64, 65] (by decide +kernel) (by decide +kernel)
set_option maxRecDepth 20000 in
theorem gX5_plain_X3_flipsOf : GoodIn wsX5_plain (wsV RX5 129 RX3 yX3_flipsOf wsX3_flipsOf) := goodIn_app (goodIn_of _ (by decide +kernel)) ggX5_plain_X3_flipsOf
theorem dX5_plain_0 : decode cX5_plain 0 = .ok (.aload_n 0, 1) := by decide +kernel
theorem dX5_plain_1 : decode cX5_plain 1 = .ok (.getfield 26, 3) := by decide +kernel
theorem dX5_plain_4 : decode cX5_plain 4 = .ok (.invokevirtual 73, 3) := by decide +kernel
theorem dX5_plain_7 : decode cX5_plain 7 = .ok (.ifCond .ne 7, 3) := by decide +kernel
theorem dX5_plain_10 : decode cX5_plain 10 = .ok (.sipush (-1003), 3) := by decide +kernel
theorem dX5_plain_13 : decode cX5_plain 13 = .ok (.ireturn, 1) := by decide +kernel
theorem dX5_plain_14 : decode cX5_plain 14 = .ok (.aload_n 0, 1) := by decide +kernel
theorem dX5_plain_15 : decode cX5_plain 15 = .ok (.getfield 26, 3) := by decide +kernel
theorem dX5_plain_18 : decode cX5_plain 18 = .ok (.iload_n 1, 1) := by decide +kernel
theorem dX5_plain_19 : decode cX5_plain 19 = .ok (.invokevirtual 98, 3) := by decide +kernel
theorem dX5_plain_22 : decode cX5_plain 22 = .ok (.ifCond .eq 23, 3) := by decide +kernel
theorem dX5_plain_25 : decode cX5_plain 25 = .ok (.aload_n 0, 1) := by decide +kernel
theorem dX5_plain_26 : decode cX5_plain 26 = .ok (.getfield 26, 3) := by decide +kernel
theorem dX5_plain_29 : decode cX5_plain 29 = .ok (.iload_n 2, 1) := by decide +kernel
theorem dX5_plain_30 : decode cX5_plain 30 = .ok (.invokevirtual 98, 3) := by decide +kernel
theorem dX5_plain_33 : decode cX5_plain 33 = .ok (.ifCond .eq 12, 3) := by decide +kernel
theorem dX5_plain_36 : decode cX5_plain 36 = .ok (.iload_n 3, 1) := by decide +kernel
theorem dX5_plain_37 : decode cX5_plain 37 = .ok (.ifCond .lt 8, 3) := by decide +kernel
theorem dX5_plain_40 : decode cX5_plain 40 = .ok (.iload_n 3, 1) := by decide +kernel
theorem dX5_plain_41 : decode cX5_plain 41 = .ok (.iconst 2, 1) := by decide +kernel
theorem dX5_plain_42 : decode cX5_plain 42 = .ok (.if_icmp .le 7, 3) := by decide +kernel
theorem dX5_plain_45 : decode cX5_plain 45 = .ok (.sipush (-1002), 3) := by decide +kernel
theorem dX5_plain_48 : decode cX5_plain 48 = .ok (.ireturn, 1) := by decide +kernel
theorem dX5_plain_49 : decode cX5_plain 49 = .ok (.iload_n 3, 1) := by decide +kernel
theorem dX5_plain_50 : decode cX5_plain 50 = .ok (.lookupswitch 46 #[(0, 26), (1, 36)], 26) := by decide +kernel
theorem dX5_plain_76 : decode cX5_plain 76 = .ok (.aload_n 0, 1) := by decide +kernel
theorem dX5_plain_77 : decode cX5_plain 77 = .ok (.getfield 26, 3) := by decide +kernel
theorem dX5_plain_80 : decode cX5_plain 80 = .ok (.iload_n 1, 1) := by decide +kernel
theorem dX5_plain_81 : decode cX5_plain 81 = .ok (.iload_n 2, 1) := by decide +kernel
theorem dX5_plain_82 : decode cX5_plain 82 = .ok (.invokevirtual 126, 3) := by decide +kernel
theorem dX5_plain_85 : decode cX5_plain 85 = .ok (.ireturn, 1) := by decide +kernel
theorem dX5_plain_86 : decode cX5_plain 86 = .ok (.aload_n 0, 1) := by decide +kernel
theorem dX5_plain_87 : decode cX5_plain 87 = .ok (.getfield 26, 3) := by decide +kernel
theorem dX5_plain_90 : decode cX5_plain 90 = .ok (.iload_n 1, 1) := by decide +kernel
theorem dX5_plain_91 : decode cX5_plain 91 = .ok (.iload_n 2, 1) := by decide +kernel
theorem dX5_plain_92 : decode cX5_plain 92 = .ok (.invokevirtual 129, 3) := by decide +kernel
theorem dX5_plain_95 : decode cX5_plain 95 = .ok (.ireturn, 1) := by decide +kernel
theorem dX5_plain_96 : decode cX5_plain 96 = .ok (.iload_n 1, 1) := by decide +kernel
theorem dX5_plain_97 : decode cX5_plain 97 = .ok (.aload_n 0, 1) := by decide +kernel
theorem dX5_plain_98 : decode cX5_plain 98 = .ok (.getfield 26, 3) := by decide +kernel
theorem dX5_plain_101 : decode cX5_plain 101 = .ok (.iload_n 1, 1) := by decide +kernel
theorem dX5_plain_102 : decode cX5_plain 102 = .ok (.iload_n 2, 1) := by decide +kernel
theorem dX5_plain_103 : decode cX5_plain 103 = .ok (.invokevirtual 129, 3) := by decide +kernel
theorem dX5_plain_106 : decode cX5_plain 106 = .ok (.ixor, 1) := by decide +kernel
theorem dX5_plain_107 : decode cX5_plain 107 = .ok (.ireturn, 1) := by decide +kernel
set_option maxRecDepth 20000 in
theorem ggX5_share_X3_areThere : GoodIn wsX5_share wsX3_areThere := goodIn_r _ [6, 7, 48, 49, 50, 51, 52, 53, 54, 55, 56] (by decide +kernel) (by decide +kernel)
set_option maxRecDepth 20000 in
theorem gX5_share_X3_areThere : GoodIn wsX5_share (wsV RX5 73 RX3 yX3_areThere wsX3_areThere) := goodIn_app (goodIn_of _ (by decide +kernel)) ggX5_share_X3_areThere
set_option maxRecDepth 20000 in
theorem ggX5_share_X3_areSharedSets : GoodIn wsX5_share wsX3_areSharedSets := goodIn_r _ [11, 12, 13, 14, 5, 15, 16, 17, 18, 19, 7, 48, 49, 50, 51, 52, 53, 54, 55, 56] (by decide +kernel) (by decide +kernel)
set_option maxRecDepth 20000 in
theorem gX5_share_X3_areSharedSets : GoodIn wsX5_share (wsV RX5 132 RX3 yX3_areSharedSets wsX3_areSharedSets) := goodIn_app (goodIn_of _ (by decide +kernel)) ggX5_share_X3_areSharedSets
set_option maxRecDepth 20000 in
theorem ggX5_share_X3_isEnough : GoodIn wsX5_share wsX3_isEnough := goodIn_r _ [23, 16, 17, 18, 5, 19, 7, 24, 25, 26, 27, 28, 29, 30, 31, 32, 33, 34, 35, 36, 48, 49, 50, 51, 52, 53, 54, 55, 56] (by decide +kernel) (by decide +kernel)
set_option maxRecDepth 20000 in
theorem gX5_share_X3_isEnough : GoodIn wsX5_share (wsV RX5 136 RX3 yX3_isEnough wsX3_isEnough) := goodIn_app (goodIn_of _ (by decide +kernel)) ggX5_share_X3_isEnough
set_option maxRecDepth 20000 in
theorem ggX5_share_X3_rank : GoodIn wsX5_share wsX3_rank := goodIn_r _ [40, 41, 48, 49, 50, 51, 52, 53, 54, 55, 56] (by decide +kernel) (by decide +kernel)
set_option maxRecDepth 20000 in
theorem gX5_share_X3_rank : GoodIn wsX5_share (wsV RX5 79 RX3 yX3_rank wsX3_rank) := goodIn_app (goodIn_of _ (by decide +kernel)) ggX5_share_X3_rank
set_option maxRecDepth 20000 in
theorem ggX5_share_J6_bitCount_0f7a4 : GoodIn wsX5_share wsJ6_bitCount_0f7a4 := goodIn_r _ [33, 34, 35, 36] (by decide +kernel) (by decide +kernel)
set_option maxRecDepth 20000 in
theorem gX5_share_J6_bitCount_0f7a4 : GoodIn wsX5_share (va_wsS RX5 139 yJ6_bitCount_0f7a4 wsJ6_bitCount_0f7a4) := goodIn_app (goodIn_of _ (by decide +kernel)) ggX5_share_J6_bitCount_0f7a4
theorem dX5_share_0 : decode cX5_share 0 = .ok (.aload_n 0, 1) := by decide +kernel
theorem dX5_share_1 : decode cX5_share 1 = .ok (.getfield 26, 3) := by decide +kernel
theorem dX5_share_4 : decode cX5_share 4 = .ok (.invokevirtual 73, 3) := by decide +kernel
theorem dX5_share_7 : decode cX5_share 7 = .ok (.ifCond .ne 7, 3) := by decide +kernel
theorem dX5_share_10 : decode cX5_share 10 = .ok (.sipush (-1003), 3) := by decide +kernel
theorem dX5_share_13 : decode cX5_share 13 = .ok (.ireturn, 1) := by decide +kernel
theorem dX5_share_14 : decode cX5_share 14 = .ok (.aload_n 0, 1) := by decide +kernel
theorem dX5_share_15 : decode cX5_share 15 = .ok (.getfield 26, 3) := by decide +kernel
theorem dX5_share_18 : decode cX5_share 18 = .ok (.iload_n 1, 1) := by decide +kernel
theorem dX5_share_19 : decode cX5_share 19 = .ok (.iload_n 2, 1) := by decide +kernel
theorem dX5_share_20 : decode cX5_share 20 = .ok (.invokevirtual 132, 3) := by decide +kernel
theorem dX5_share_23 : decode cX5_share 23 = .ok (.ifCond .eq 12, 3) := by decide +kernel
theorem dX5_share_26 : decode cX5_share 26 = .ok (.iload_n 3, 1) := by decide +kernel
theorem dX5_share_27 : decode cX5_share 27 = .ok (.ifCond .lt 8, 3) := by decide +kernel
theorem dX5_share_30 : decode cX5_share 30 = .ok (.iload_n 3, 1) := by decide +kernel
theorem dX5_share_31 : decode cX5_share 31 = .ok (.iconst 1, 1) := by decide +kernel
theorem dX5_share_32 : decode cX5_share 32 = .ok (.if_icmp .le 7, 3) := by decide +kernel
theorem dX5_share_35 : decode cX5_share 35 = .ok (.sipush (-1002), 3) := by decide +kernel
theorem dX5_share_38 : decode cX5_share 38 = .ok (.ireturn, 1) := by decide +kernel
theorem dX5_share_39 : decode cX5_share 39 = .ok (.iload_n 1, 1) := by decide +kernel
theorem dX5_share_40 : decode cX5_share 40 = .ok (.iload_n 2, 1) := by decide +kernel
theorem dX5_share_41 : decode cX5_share 41 = .ok (.ior, 1) := by decide +kernel
theorem dX5_share_42 : decode cX5_share 42 = .ok (.istore 4, 2) := by decide +kernel
theorem dX5_share_44 : decode cX5_share 44 = .ok (.iload_n 3, 1) := by decide +kernel
theorem dX5_share_45 : decode cX5_share 45 = .ok (.ifCond .ne 21, 3) := by decide +kernel
theorem dX5_share_48 : decode cX5_share 48 = .ok (.aload_n 0, 1) := by decide +kernel
theorem dX5_share_49 : decode cX5_share 49 = .ok (.getfield 26, 3) := by decide +kernel
theorem dX5_share_52 : decode cX5_share 52 = .ok (.iload 4, 2) := by decide +kernel
theorem dX5_share_54 : decode cX5_share 54 = .ok (.invokevirtual 136, 3) := by decide +kernel
theorem dX5_share_57 : decode cX5_share 57 = .ok (.ifCond .eq 7, 3) := by decide +kernel
theorem dX5_share_60 : decode cX5_share 60 = .ok (.iconst 1, 1) := by decide +kernel
theorem dX5_share_61 : decode cX5_share 61 = .ok (.goto 4, 3) := by decide +kernel
theorem dX5_share_64 : decode cX5_share 64 = .ok (.iconst 0, 1) := by decide +kernel
theorem dX5_share_65 : decode cX5_share 65 = .ok (.ireturn, 1) := by decide +kernel
theorem dX5_share_66 : decode cX5_share 66 = .ok (.iconst 2, 1) := by decide +kernel
theorem dX5_share_67 : decode cX5_share 67 = .ok (.aload_n 0, 1) := by decide +kernel
theorem dX5_share_68 : decode cX5_share 68 = .ok (.getfield 26, 3) := by decide +kernel
theorem dX5_share_71 : decode cX5_share 71 = .ok (.invokevirtual 79, 3) := by decide +kernel
theorem dX5_share_74 : decode cX5_share 74 = .ok (.imul, 1) := by decide +kernel
theorem dX5_share_75 : decode cX5_share 75 = .ok (.iload 4, 2) := by decide +kernel
theorem dX5_share_77 : decode cX5_share 77 = .ok (.invokestatic 139, 3) := by decide +kernel
theorem dX5_share_80 : decode cX5_share 80 = .ok (.iadd, 1) := by decide +kernel
theorem dX5_share_81 : decode cX5_share 81 = .ok (.ireturn, 1) := by decide +kernel
set_option maxRecDepth 20000 in
theorem ggX5_shared_X3_areThere : GoodIn wsX5_shared wsX3_areThere := goodIn_r _ [6, 7, 65, 66, 67, 68, 69, 70, 71, 72, 73] (by decide +kernel) (by decide +kernel)
set_option maxRecDepth 20000 in
theorem gX5_shared_X3_areThere : GoodIn wsX5_shared (wsV RX5 73 RX3 yX3_areThere wsX3_areThere) := goodIn_app (goodIn_of _ (by decide +kernel)) ggX5_shared_X3_areThere
set_option maxRecDepth 20000 in
theorem ggX5_shared_X3_areSharedSets : GoodIn wsX5_shared wsX3_areSharedSets := goodIn_r _ [11, 12, 13, 14, 5, 15, 16, 17, 18, 19, 7, 65, 66, 67, 68, 69, 70, 71, 72, 73] (by decide +kernel) (by decide +kernel)
set_option maxRecDepth 20000 in
theorem gX5_shared_X3_areSharedSets : GoodIn wsX5_shared (wsV RX5 132 RX3 yX3_areSharedSets wsX3_areSharedSets) := goodIn_app (goodIn_of _ (by decide +kernel)) ggX5_shared_X3_areSharedSets
set_option maxRecDepth 20000 in
theorem ggX5_shared_X3_isWord : GoodIn wsX5_shared wsX3_isWord := goodIn_r _ [15, 16, 17, 18, 5, 19, 7, 65, 66, 67, 68, 69, 70, 71, 72, 73] (by decide +kernel) (by decide +kernel)
set_option maxRecDepth 20000 in
theorem gX5_shared_X3_isWord : GoodIn wsX5_shared (wsV RX5 98 RX3 yX3_isWord wsX3_isWord) := goodIn_app (goodIn_of _ (by decide +kernel)) ggX5_shared_X3_isWord
set_option maxRecDepth 20000 in
theorem ggX5_shared_X3_firstOfShared : GoodIn wsX5_shared wsX3_firstOfShared := goodIn_r _ [24, 25, 26, 27, 5, 28, 16, 17, 18, 19, 7, 29, 30, 31, 32, 33, 34, 35, 36, 37, 38, 39, 40, 41, 42, 43, 44, 45, 46, 47, 48, 49, 50, 51, 52, 53, 54, 55, 56, 57, 58, 65, 66, 67, 68, 69, 70, 71, 72, 73] (by decide +kernel) (by decide +kernel)
set_option maxRecDepth 20000 in
theorem gX5_shared_X3_firstOfShared : GoodIn wsX5_shared (wsV RX5 144 RX3 yX3_firstOfShared wsX3_firstOfShared) := goodIn_app (goodIn_of _ (by decide +kernel)) ggX5_shared_X3_firstOfShared
set_option maxRecDepth 20000 in
theorem ggX5_shared_X3_flipsOf : GoodIn wsX5_shared wsX3_flipsOf := goodIn_r _ [45, 29, 30, 31, 5, 32, 33, 34, 35, 36, 37, 38, 39, 40, 41, 46, 47, 48, 49, 50, 51, 52, 53, 54, 55, 56, 57, 58, 65, 66, 67, 68, 69, 70, 71, 72, 73] (by decide +kernel) (by decide +kernel)
set_option maxRecDepth 20000 in
theorem gX5_shared_X3_flipsOf : GoodIn wsX5_shared (wsV RX5 129 RX3 yX3_flipsOf wsX3_flipsOf) := goodIn_app (goodIn_of _ (by decide +kernel)) ggX5_shared_X3_flipsOf
theorem dX5_shared_0 : decode cX5_shared 0 = .ok (.aload_n 0, 1) := by decide +kernel
theorem dX5_shared_1 : decode cX5_shared 1 = .ok (.getfield 26, 3) := by decide +kernel
theorem dX5_shared_4 : decode cX5_shared 4 = .ok (.invokevirtual 73, 3) := by decide +kernel
theorem dX5_shared_7 : decode cX5_shared 7 = .ok (.ifCond .ne 7, 3) := by decide +kernel
theorem dX5_shared_10 : decode cX5_shared 10 = .ok (.sipush (-1003), 3) := by decide +kernel
theorem dX5_shared_13 : decode cX5_shared 13 = .ok (.ireturn, 1) := by decide +kernel
theorem dX5_shared_14 : decode cX5_shared 14 = .ok (.aload_n 0, 1) := by decide +kernel
theorem dX5_shared_15 : decode cX5_shared 15 = .ok (.getfield 26, 3) := by decide +kernel
theorem dX5_shared_18 : decode cX5_shared 18 = .ok (.iload_n 1, 1) := by decide +kernel
theorem dX5_shared_19 : decode cX5_shared 19 = .ok (.iload_n 2, 1) := by decide +kernel
theorem dX5_shared_20 : decode cX5_shared 20 = .ok (.invokevirtual 132, 3) := by decide +kernel
theorem dX5_shared_23 : decode cX5_shared 23 = .ok (.ifCond .eq 26, 3) := by decide +kernel
theorem dX5_shared_26 : decode cX5_shared 26 = .ok (.aload_n 0, 1) := by decide +kernel
theorem dX5_shared_27 : decode cX5_shared 27 = .ok (.getfield 26, 3) := by decide +kernel
theorem dX5_shared_30 : decode cX5_shared 30 = .ok (.iload_n 3, 1) := by decide +kernel
theorem dX5_shared_31 : decode cX5_shared 31 = .ok (.invokevirtual 98, 3) := by decide +kernel
theorem dX5_shared_34 : decode cX5_shared 34 = .ok (.ifCond .eq 15, 3) := by decide +kernel
theorem dX5_shared_37 : decode cX5_shared 37 = .ok (.aload_n 0, 1) := by decide +kernel
theorem dX5_shared_38 : decode cX5_shared 38 = .ok (.getfield 26, 3) := by decide +kernel
theorem dX5_shared_41 : decode cX5_shared 41 = .ok (.iload 4, 2) := by decide +kernel
theorem dX5_shared_43 : decode cX5_shared 43 = .ok (.invokevirtual 98, 3) := by decide +kernel
theorem dX5_shared_46 : decode cX5_shared 46 = .ok (.ifCond .ne 7, 3) := by decide +kernel
theorem dX5_shared_49 : decode cX5_shared 49 = .ok (.sipush (-1002), 3) := by decide +kernel
theorem dX5_shared_52 : decode cX5_shared 52 = .ok (.ireturn, 1) := by decide +kernel
theorem dX5_shared_53 : decode cX5_shared 53 = .ok (.aload_n 0, 1) := by decide +kernel
theorem dX5_shared_54 : decode cX5_shared 54 = .ok (.getfield 26, 3) := by decide +kernel
theorem dX5_shared_57 : decode cX5_shared 57 = .ok (.iload_n 1, 1) := by decide +kernel
theorem dX5_shared_58 : decode cX5_shared 58 = .ok (.iload_n 2, 1) := by decide +kernel
theorem dX5_shared_59 : decode cX5_shared 59 = .ok (.iload_n 3, 1) := by decide +kernel
theorem dX5_shared_60 : decode cX5_shared 60 = .ok (.iload 4, 2) := by decide +kernel
theorem dX5_shared_62 : decode cX5_shared 62 = .ok (.invokevirtual 144, 3) := by decide +kernel
theorem dX5_shared_65 : decode cX5_shared 65 = .ok (.istore 6, 2) := by decide +kernel
theorem dX5_shared_67 : decode cX5_shared 67 = .ok (.iload 6, 2) := by decide +kernel
theorem dX5_shared_69 : decode cX5_shared 69 = .ok (.sipush (-1001), 3) := by decide +kernel
theorem dX5_shared_72 : decode cX5_shared 72 = .ok (.if_icmp .eq 8, 3) := by decide +kernel
theorem dX5_shared_75 : decode cX5_shared 75 = .ok (.iload 5, 2) := by decide +kernel
theorem dX5_shared_77 : decode cX5_shared 77 = .ok (.ifCond .ne 6, 3) := by decide +kernel
theorem dX5_shared_80 : decode cX5_shared 80 = .ok (.iload 6, 2) := by decide +kernel
theorem dX5_shared_82 : decode cX5_shared 82 = .ok (.ireturn, 1) := by decide +kernel
theorem dX5_shared_83 : decode cX5_shared 83 = .ok (.iload 6, 2) := by decide +kernel
theorem dX5_shared_85 : decode cX5_shared 85 = .ok (.aload_n 0, 1) := by decide +kernel
theorem dX5_shared_86 : decode cX5_shared 86 = .ok (.getfield 26, 3) := by decide +kernel
theorem dX5_shared_89 : decode cX5_shared 89 = .ok (.iload_n 3, 1) := by decide +kernel
theorem dX5_shared_90 : decode cX5_shared 90 = .ok (.iload 4, 2) := by decide +kernel
theorem dX5_shared_92 : decode cX5_shared 92 = .ok (.invokevirtual 129, 3) := by decide +kernel
theorem dX5_shared_95 : decode cX5_shared 95 = .ok (.ixor, 1) := by decide +kernel
theorem dX5_shared_96 : decode cX5_shared 96 = .ok (.ireturn, 1) := by decide +kernel
set_option maxRecDepth 20000 in
theorem ggX5_run_X3_areThere : GoodIn wsX5_run wsX3_areThere := goodIn_r _ [7, 8, 89, 90, 91, 92, 93, 94, 95, 96, 97] (by decide +kernel) (by decide +kernel)
set_option maxRecDepth 20000 in
theorem gX5_run_X3_areThere : GoodIn wsX5_run (wsV RX5 73 RX3 yX3_areThere wsX3_areThere) := goodIn_app (goodIn_of _ (by decide +kernel)) ggX5_run_X3_areThere
set_option maxRecDepth 20000 in
theorem ggX5_run_X0_startFrom : GoodIn wsX5_run wsX0_startFrom := goodIn_r _ [13, 14, 98] (by decide +kernel) (by decide +kernel)
set_option maxRecDepth 20000 in
theorem gX5_run_X0_startFrom : GoodIn wsX5_run (wsV RX5 148 RX0 yX0_startFrom wsX0_startFrom) := goodIn_app (goodIn_of _ (by decide +kernel)) ggX5_run_X0_startFrom
set_option maxRecDepth 20000 in
theorem ggX5_run_X3_length : GoodIn wsX5_run wsX3_length := goodIn_r _ [18, 8, 89, 90, 91, 92, 93, 94, 95, 96, 97] (by decide +kernel) (by decide +kernel)
set_option maxRecDepth 20000 in
theorem gX5_run_X3_length : GoodIn wsX5_run (wsV RX5 70 RX3 yX3_length wsX3_length) := goodIn_app (goodIn_of _ (by decide +kernel)) ggX5_run_X3_length
set_option maxRecDepth 20000 in
theorem ggX5_run_X0_next : GoodIn wsX5_run wsX0_next := goodIn_r _ [22, 23, 14, 24, 25, 98] (by decide +kernel) (by decide +kernel)
set_option maxRecDepth 20000 in
theorem gX5_run_X0_next : GoodIn wsX5_run (wsV RX5 152 RX0 yX0_next wsX0_next) := goodIn_app (goodIn_of _ (by decide +kernel)) ggX5_run_X0_next
set_option maxRecDepth 20000 in
theorem ggX5_run_X5_drawUnlikePlaces : GoodIn wsX5_run wsX5_drawUnlikePlaces := goodIn_r _ [30, 1, 2, 15, 16, 17, 6, 18, 8, 19, 20, 21, 12, 22, 23, 14, 24, 25, 84, 85, 86, 87, 88, 89, 90, 91, 92, 93, 94, 95, 96, 97, 98] (by decide +kernel) (by decide +kernel)
set_option maxRecDepth 20000 in
theorem gX5_run_X5_drawUnlikePlaces : GoodIn wsX5_run (wsV RX5 155 RX5 yX5_drawUnlikePlaces wsX5_drawUnlikePlaces) := goodIn_app (goodIn_of _ (by decide +kernel)) ggX5_run_X5_drawUnlikePlaces
set_option maxRecDepth 20000 in
theorem ggX5_run_X5_sendAndCount : GoodIn wsX5_run wsX5_sendAndCount := goodIn_r _ [34, 1, 35, 36, 37, 38, 6, 39, 40, 41, 42, 43, 44, 45, 46, 47, 48, 49, 50, 51, 52, 53, 54, 55, 56, 57, 58, 59, 60, 61, 62, 63, 64, 65, 66, 67, 68, 69, 70, 15, 16, 17, 18, 8, 71, 72, 73, 74, 75, 76, 77, 78, 79, 80, 81, 82, 83, 84, 85, 86, 87, 88, 89, 90, 91, 92, 93, 94, 95, 96, 97, 99, 100, 101, 102] (by decide +kernel) (by decide +kernel)
set_option maxRecDepth 20000 in
theorem gX5_run_X5_sendAndCount : GoodIn wsX5_run (wsV RX5 123 RX5 yX5_sendAndCount wsX5_sendAndCount) := goodIn_app (goodIn_of _ (by decide +kernel)) ggX5_run_X5_sendAndCount
theorem dX5_run_0 : decode cX5_run 0 = .ok (.aload_n 0, 1) := by decide +kernel
theorem dX5_run_1 : decode cX5_run 1 = .ok (.getfield 26, 3) := by decide +kernel
theorem dX5_run_4 : decode cX5_run 4 = .ok (.invokevirtual 73, 3) := by decide +kernel
theorem dX5_run_7 : decode cX5_run 7 = .ok (.ifCond .ne 7, 3) := by decide +kernel
theorem dX5_run_10 : decode cX5_run 10 = .ok (.sipush (-1003), 3) := by decide +kernel
theorem dX5_run_13 : decode cX5_run 13 = .ok (.ireturn, 1) := by decide +kernel
theorem dX5_run_14 : decode cX5_run 14 = .ok (.iload_n 1, 1) := by decide +kernel
theorem dX5_run_15 : decode cX5_run 15 = .ok (.ifCond .lt 24, 3) := by decide +kernel
theorem dX5_run_18 : decode cX5_run 18 = .ok (.iload_n 2, 1) := by decide +kernel
theorem dX5_run_19 : decode cX5_run 19 = .ok (.iconst 1, 1) := by decide +kernel
theorem dX5_run_20 : decode cX5_run 20 = .ok (.if_icmp .lt 19, 3) := by decide +kernel
theorem dX5_run_23 : decode cX5_run 23 = .ok (.iload_n 2, 1) := by decide +kernel
theorem dX5_run_24 : decode cX5_run 24 = .ok (.bipush 50, 2) := by decide +kernel
theorem dX5_run_26 : decode cX5_run 26 = .ok (.if_icmp .gt 13, 3) := by decide +kernel
theorem dX5_run_29 : decode cX5_run 29 = .ok (.iload_n 3, 1) := by decide +kernel
theorem dX5_run_30 : decode cX5_run 30 = .ok (.ifCond .lt 9, 3) := by decide +kernel
theorem dX5_run_33 : decode cX5_run 33 = .ok (.iload_n 3, 1) := by decide +kernel
theorem dX5_run_34 : decode cX5_run 34 = .ok (.bipush 16, 2) := by decide +kernel
theorem dX5_run_36 : decode cX5_run 36 = .ok (.if_icmp .le 7, 3) := by decide +kernel
theorem dX5_run_39 : decode cX5_run 39 = .ok (.sipush (-1002), 3) := by decide +kernel
theorem dX5_run_42 : decode cX5_run 42 = .ok (.ireturn, 1) := by decide +kernel
theorem dX5_run_43 : decode cX5_run 43 = .ok (.aload_n 0, 1) := by decide +kernel
theorem dX5_run_44 : decode cX5_run 44 = .ok (.getfield 40, 3) := by decide +kernel
theorem dX5_run_47 : decode cX5_run 47 = .ok (.iload_n 1, 1) := by decide +kernel
theorem dX5_run_48 : decode cX5_run 48 = .ok (.invokevirtual 148, 3) := by decide +kernel
theorem dX5_run_51 : decode cX5_run 51 = .ok (.iconst 0, 1) := by decide +kernel
theorem dX5_run_52 : decode cX5_run 52 = .ok (.istore 4, 2) := by decide +kernel
theorem dX5_run_54 : decode cX5_run 54 = .ok (.iconst 0, 1) := by decide +kernel
theorem dX5_run_55 : decode cX5_run 55 = .ok (.istore 5, 2) := by decide +kernel
theorem dX5_run_57 : decode cX5_run 57 = .ok (.iload 5, 2) := by decide +kernel
theorem dX5_run_59 : decode cX5_run 59 = .ok (.iload_n 2, 1) := by decide +kernel
theorem dX5_run_60 : decode cX5_run 60 = .ok (.if_icmp .ge 50, 3) := by decide +kernel
theorem dX5_run_63 : decode cX5_run 63 = .ok (.aload_n 0, 1) := by decide +kernel
theorem dX5_run_64 : decode cX5_run 64 = .ok (.getfield 40, 3) := by decide +kernel
theorem dX5_run_67 : decode cX5_run 67 = .ok (.aload_n 0, 1) := by decide +kernel
theorem dX5_run_68 : decode cX5_run 68 = .ok (.getfield 26, 3) := by decide +kernel
theorem dX5_run_71 : decode cX5_run 71 = .ok (.invokevirtual 70, 3) := by decide +kernel
theorem dX5_run_74 : decode cX5_run 74 = .ok (.invokevirtual 152, 3) := by decide +kernel
theorem dX5_run_77 : decode cX5_run 77 = .ok (.istore 6, 2) := by decide +kernel
theorem dX5_run_79 : decode cX5_run 79 = .ok (.iload 6, 2) := by decide +kernel
theorem dX5_run_81 : decode cX5_run 81 = .ok (.aload_n 0, 1) := by decide +kernel
theorem dX5_run_82 : decode cX5_run 82 = .ok (.iload_n 3, 1) := by decide +kernel
theorem dX5_run_83 : decode cX5_run 83 = .ok (.invokevirtual 155, 3) := by decide +kernel
theorem dX5_run_86 : decode cX5_run 86 = .ok (.ixor, 1) := by decide +kernel
theorem dX5_run_87 : decode cX5_run 87 = .ok (.istore 7, 2) := by decide +kernel
theorem dX5_run_89 : decode cX5_run 89 = .ok (.aload_n 0, 1) := by decide +kernel
theorem dX5_run_90 : decode cX5_run 90 = .ok (.iload 6, 2) := by decide +kernel
theorem dX5_run_92 : decode cX5_run 92 = .ok (.iload 7, 2) := by decide +kernel
theorem dX5_run_94 : decode cX5_run 94 = .ok (.invokevirtual 123, 3) := by decide +kernel
theorem dX5_run_97 : decode cX5_run 97 = .ok (.iconst 3, 1) := by decide +kernel
theorem dX5_run_98 : decode cX5_run 98 = .ok (.if_icmp .ne 6, 3) := by decide +kernel
theorem dX5_run_101 : decode cX5_run 101 = .ok (.iinc 4 1, 3) := by decide +kernel
theorem dX5_run_104 : decode cX5_run 104 = .ok (.iinc 5 1, 3) := by decide +kernel
theorem dX5_run_107 : decode cX5_run 107 = .ok (.goto (-50), 3) := by decide +kernel
theorem dX5_run_110 : decode cX5_run 110 = .ok (.iload 4, 2) := by decide +kernel
theorem dX5_run_112 : decode cX5_run 112 = .ok (.ireturn, 1) := by decide +kernel
set_option maxRecDepth 20000 in
theorem ggX5_seed_X0_last : GoodIn wsX5_seed wsX0_last := goodIn_r _ [6, 7, 13] (by decide +kernel) (by decide +kernel)
set_option maxRecDepth 20000 in
theorem gX5_seed_X0_last : GoodIn wsX5_seed (wsV RX5 158 RX0 yX0_last wsX0_last) := goodIn_app (goodIn_of _ (by decide +kernel)) ggX5_seed_X0_last
theorem dX5_seed_0 : decode cX5_seed 0 = .ok (.aload_n 0, 1) := by decide +kernel
theorem dX5_seed_1 : decode cX5_seed 1 = .ok (.getfield 40, 3) := by decide +kernel
theorem dX5_seed_4 : decode cX5_seed 4 = .ok (.invokevirtual 158, 3) := by decide +kernel
theorem dX5_seed_7 : decode cX5_seed 7 = .ok (.ireturn, 1) := by decide +kernel
set_option maxRecDepth 20000 in
theorem ggX5_count_X1_size : GoodIn wsX5_count wsX1_size := goodIn_r _ [7, 8, 35, 36] (by decide +kernel) (by decide +kernel)
set_option maxRecDepth 20000 in
theorem gX5_count_X1_size : GoodIn wsX5_count (wsV RX5 48 RX1 yX1_size wsX1_size) := goodIn_app (goodIn_of _ (by decide +kernel)) ggX5_count_X1_size
set_option maxRecDepth 20000 in
theorem ggX5_count_X4_bitsSent : GoodIn wsX5_count wsX4_bitsSent := goodIn_r _ [13, 14, 37, 38, 39, 40] (by decide +kernel) (by decide +kernel)
set_option maxRecDepth 20000 in
theorem gX5_count_X4_bitsSent : GoodIn wsX5_count (wsV RX5 161 RX4 yX4_bitsSent wsX4_bitsSent) := goodIn_app (goodIn_of _ (by decide +kernel)) ggX5_count_X4_bitsSent
set_option maxRecDepth 20000 in
theorem ggX5_count_X4_bitsSentByBothPlainly : GoodIn wsX5_count wsX4_bitsSentByBothPlainly := goodIn_r _ [18, 19, 37, 38, 39, 40] (by decide +kernel) (by decide +kernel)
set_option maxRecDepth 20000 in
theorem gX5_count_X4_bitsSentByBothPlainly : GoodIn wsX5_count (wsV RX5 164 RX4 yX4_bitsSentByBothPlainly wsX4_bitsSentByBothPlainly) := goodIn_app (goodIn_of _ (by decide +kernel)) ggX5_count_X4_bitsSentByBothPlainly
set_option maxRecDepth 20000 in
theorem ggX5_count_X4_timesSumsRead : GoodIn wsX5_count wsX4_timesSumsRead := goodIn_r _ [23, 24, 37, 38, 39, 40] (by decide +kernel) (by decide +kernel)
set_option maxRecDepth 20000 in
theorem gX5_count_X4_timesSumsRead : GoodIn wsX5_count (wsV RX5 167 RX4 yX4_timesSumsRead wsX4_timesSumsRead) := goodIn_app (goodIn_of _ (by decide +kernel)) ggX5_count_X4_timesSumsRead
set_option maxRecDepth 20000 in
theorem ggX5_count_X4_sentWith : GoodIn wsX5_count wsX4_sentWith := goodIn_r _ [28, 29, 37, 38, 39, 40] (by decide +kernel) (by decide +kernel)
set_option maxRecDepth 20000 in
theorem gX5_count_X4_sentWith : GoodIn wsX5_count (wsV RX5 170 RX4 yX4_sentWith wsX4_sentWith) := goodIn_app (goodIn_of _ (by decide +kernel)) ggX5_count_X4_sentWith
theorem dX5_count_0 : decode cX5_count 0 = .ok (.iload_n 1, 1) := by decide +kernel
theorem dX5_count_1 : decode cX5_count 1 = .ok (.ifCond .lt 9, 3) := by decide +kernel
theorem dX5_count_4 : decode cX5_count 4 = .ok (.iload_n 1, 1) := by decide +kernel
theorem dX5_count_5 : decode cX5_count 5 = .ok (.bipush 7, 2) := by decide +kernel
theorem dX5_count_7 : decode cX5_count 7 = .ok (.if_icmp .le 7, 3) := by decide +kernel
theorem dX5_count_10 : decode cX5_count 10 = .ok (.sipush (-1002), 3) := by decide +kernel
theorem dX5_count_13 : decode cX5_count 13 = .ok (.ireturn, 1) := by decide +kernel
theorem dX5_count_14 : decode cX5_count 14 = .ok (.iload_n 1, 1) := by decide +kernel
theorem dX5_count_15 : decode cX5_count 15 = .ok (.tableswitch 77 0 7 #[45, 77, 77, 77, 77, 53, 61, 69], 45) := by decide +kernel
theorem dX5_count_60 : decode cX5_count 60 = .ok (.aload_n 0, 1) := by decide +kernel
theorem dX5_count_61 : decode cX5_count 61 = .ok (.getfield 10, 3) := by decide +kernel
theorem dX5_count_64 : decode cX5_count 64 = .ok (.invokevirtual 48, 3) := by decide +kernel
theorem dX5_count_67 : decode cX5_count 67 = .ok (.ireturn, 1) := by decide +kernel
theorem dX5_count_68 : decode cX5_count 68 = .ok (.aload_n 0, 1) := by decide +kernel
theorem dX5_count_69 : decode cX5_count 69 = .ok (.getfield 33, 3) := by decide +kernel
theorem dX5_count_72 : decode cX5_count 72 = .ok (.invokevirtual 161, 3) := by decide +kernel
theorem dX5_count_75 : decode cX5_count 75 = .ok (.ireturn, 1) := by decide +kernel
theorem dX5_count_76 : decode cX5_count 76 = .ok (.aload_n 0, 1) := by decide +kernel
theorem dX5_count_77 : decode cX5_count 77 = .ok (.getfield 33, 3) := by decide +kernel
theorem dX5_count_80 : decode cX5_count 80 = .ok (.invokevirtual 164, 3) := by decide +kernel
theorem dX5_count_83 : decode cX5_count 83 = .ok (.ireturn, 1) := by decide +kernel
theorem dX5_count_84 : decode cX5_count 84 = .ok (.aload_n 0, 1) := by decide +kernel
theorem dX5_count_85 : decode cX5_count 85 = .ok (.getfield 33, 3) := by decide +kernel
theorem dX5_count_88 : decode cX5_count 88 = .ok (.invokevirtual 167, 3) := by decide +kernel
theorem dX5_count_91 : decode cX5_count 91 = .ok (.ireturn, 1) := by decide +kernel
theorem dX5_count_92 : decode cX5_count 92 = .ok (.aload_n 0, 1) := by decide +kernel
theorem dX5_count_93 : decode cX5_count 93 = .ok (.getfield 33, 3) := by decide +kernel
theorem dX5_count_96 : decode cX5_count 96 = .ok (.iload_n 1, 1) := by decide +kernel
theorem dX5_count_97 : decode cX5_count 97 = .ok (.iconst 1, 1) := by decide +kernel
theorem dX5_count_98 : decode cX5_count 98 = .ok (.isub, 1) := by decide +kernel
theorem dX5_count_99 : decode cX5_count 99 = .ok (.invokevirtual 170, 3) := by decide +kernel
theorem dX5_count_102 : decode cX5_count 102 = .ok (.ireturn, 1) := by decide +kernel
set_option maxRecDepth 20000 in
theorem ggX5_digest_X3_areThere : GoodIn wsX5_digest wsX3_areThere := goodIn_r _ [9, 10, 134, 135, 136, 137, 138, 139, 140, 141, 142] (by decide +kernel) (by decide +kernel)
set_option maxRecDepth 20000 in
theorem gX5_digest_X3_areThere : GoodIn wsX5_digest (wsV RX5 73 RX3 yX3_areThere wsX3_areThere) := goodIn_app (goodIn_of _ (by decide +kernel)) ggX5_digest_X3_areThere
set_option maxRecDepth 20000 in
theorem ggX5_digest_X5_withSums : GoodIn wsX5_digest wsX5_withSums := goodIn_r _ [15, 3, 2, 16, 17, 18, 14, 19, 5, 6, 7, 8, 9, 10, 20, 21, 22, 23, 24, 25, 26, 27, 28, 29, 30, 31, 32, 33, 34, 35, 36, 37, 38, 39, 40, 41, 42, 43, 44, 45, 46, 47, 48, 49, 50, 51, 52, 53, 54, 55, 56, 57, 58, 59, 60, 61, 62, 63, 64, 65, 66, 67, 68, 69, 70, 71, 72, 73, 74, 75, 76, 77, 78, 79, 80, 129, 130, 131, 132, 133, 134, 135, 136, 137, 138, 139, 140, 141, 142] (by decide +kernel) (by decide +kernel)
set_option maxRecDepth 20000 in
theorem gX5_digest_X5_withSums : GoodIn wsX5_digest (wsV RX5 175 RX5 yX5_withSums wsX5_withSums) := goodIn_app (goodIn_of _ (by decide +kernel)) ggX5_digest_X5_withSums
set_option maxRecDepth 20000 in
theorem ggX5_digest_X5_seed : GoodIn wsX5_digest wsX5_seed := goodIn_r _ [84, 85, 86, 87, 88, 89, 90, 91, 129, 130, 131, 132, 133, 143] (by decide +kernel) (by decide +kernel)
set_option maxRecDepth 20000 in
theorem gX5_digest_X5_seed : GoodIn wsX5_digest (wsV RX5 181 RX5 yX5_seed wsX5_seed) := goodIn_app (goodIn_of _ (by decide +kernel)) ggX5_digest_X5_seed
set_option maxRecDepth 20000 in
theorem ggX5_digest_X1_size : GoodIn wsX5_digest wsX1_size := goodIn_r _ [96, 97, 144, 145] (by decide +kernel) (by decide +kernel)
set_option maxRecDepth 20000 in
theorem gX5_digest_X1_size : GoodIn wsX5_digest (wsV RX5 48 RX1 yX1_size wsX1_size) := goodIn_app (goodIn_of _ (by decide +kernel)) ggX5_digest_X1_size
set_option maxRecDepth 20000 in
theorem ggX5_digest_X1_letterAt : GoodIn wsX5_digest wsX1_letterAt := goodIn_r _ [101, 102, 144, 145] (by decide +kernel) (by decide +kernel)
set_option maxRecDepth 20000 in
theorem gX5_digest_X1_letterAt : GoodIn wsX5_digest (wsV RX5 184 RX1 yX1_letterAt wsX1_letterAt) := goodIn_app (goodIn_of _ (by decide +kernel)) ggX5_digest_X1_letterAt
set_option maxRecDepth 20000 in
theorem ggX5_digest_X5_count : GoodIn wsX5_digest wsX5_count := goodIn_r _ [106, 4, 107, 92, 93, 94, 95, 96, 97, 108, 109, 110, 111, 112, 113, 114, 115, 116, 117, 118, 119, 120, 121, 122, 123, 124, 125, 126, 127, 128, 129, 130, 131, 132, 133, 144, 145, 146, 147, 148, 149] (by decide +kernel) (by decide +kernel)
set_option maxRecDepth 20000 in
theorem gX5_digest_X5_count : GoodIn wsX5_digest (wsV RX5 187 RX5 yX5_count wsX5_count) := goodIn_app (goodIn_of _ (by decide +kernel)) ggX5_digest_X5_count
theorem dX5_digest_0 : decode cX5_digest 0 = .ok (.ldc2_w 173, 3) := by decide +kernel
theorem dX5_digest_3 : decode cX5_digest 3 = .ok (.lstore_n 1, 1) := by decide +kernel
theorem dX5_digest_4 : decode cX5_digest 4 = .ok (.aload_n 0, 1) := by decide +kernel
theorem dX5_digest_5 : decode cX5_digest 5 = .ok (.getfield 26, 3) := by decide +kernel
theorem dX5_digest_8 : decode cX5_digest 8 = .ok (.invokevirtual 73, 3) := by decide +kernel
theorem dX5_digest_11 : decode cX5_digest 11 = .ok (.ifCond .eq 9, 3) := by decide +kernel
theorem dX5_digest_14 : decode cX5_digest 14 = .ok (.aload_n 0, 1) := by decide +kernel
theorem dX5_digest_15 : decode cX5_digest 15 = .ok (.lload_n 1, 1) := by decide +kernel
theorem dX5_digest_16 : decode cX5_digest 16 = .ok (.invokevirtual 175, 3) := by decide +kernel
theorem dX5_digest_19 : decode cX5_digest 19 = .ok (.lstore_n 1, 1) := by decide +kernel
theorem dX5_digest_20 : decode cX5_digest 20 = .ok (.ldc2_w 179, 3) := by decide +kernel
theorem dX5_digest_23 : decode cX5_digest 23 = .ok (.lload_n 1, 1) := by decide +kernel
theorem dX5_digest_24 : decode cX5_digest 24 = .ok (.lmul, 1) := by decide +kernel
theorem dX5_digest_25 : decode cX5_digest 25 = .ok (.aload_n 0, 1) := by decide +kernel
theorem dX5_digest_26 : decode cX5_digest 26 = .ok (.invokevirtual 181, 3) := by decide +kernel
theorem dX5_digest_29 : decode cX5_digest 29 = .ok (.i2l, 1) := by decide +kernel
theorem dX5_digest_30 : decode cX5_digest 30 = .ok (.ladd, 1) := by decide +kernel
theorem dX5_digest_31 : decode cX5_digest 31 = .ok (.lstore_n 1, 1) := by decide +kernel
theorem dX5_digest_32 : decode cX5_digest 32 = .ok (.iconst 0, 1) := by decide +kernel
theorem dX5_digest_33 : decode cX5_digest 33 = .ok (.istore_n 3, 1) := by decide +kernel
theorem dX5_digest_34 : decode cX5_digest 34 = .ok (.iload_n 3, 1) := by decide +kernel
theorem dX5_digest_35 : decode cX5_digest 35 = .ok (.aload_n 0, 1) := by decide +kernel
theorem dX5_digest_36 : decode cX5_digest 36 = .ok (.getfield 10, 3) := by decide +kernel
theorem dX5_digest_39 : decode cX5_digest 39 = .ok (.invokevirtual 48, 3) := by decide +kernel
theorem dX5_digest_42 : decode cX5_digest 42 = .ok (.if_icmp .ge 25, 3) := by decide +kernel
theorem dX5_digest_45 : decode cX5_digest 45 = .ok (.ldc2_w 179, 3) := by decide +kernel
theorem dX5_digest_48 : decode cX5_digest 48 = .ok (.lload_n 1, 1) := by decide +kernel
theorem dX5_digest_49 : decode cX5_digest 49 = .ok (.lmul, 1) := by decide +kernel
theorem dX5_digest_50 : decode cX5_digest 50 = .ok (.aload_n 0, 1) := by decide +kernel
theorem dX5_digest_51 : decode cX5_digest 51 = .ok (.getfield 10, 3) := by decide +kernel
theorem dX5_digest_54 : decode cX5_digest 54 = .ok (.iload_n 3, 1) := by decide +kernel
theorem dX5_digest_55 : decode cX5_digest 55 = .ok (.invokevirtual 184, 3) := by decide +kernel
theorem dX5_digest_58 : decode cX5_digest 58 = .ok (.i2l, 1) := by decide +kernel
theorem dX5_digest_59 : decode cX5_digest 59 = .ok (.ladd, 1) := by decide +kernel
theorem dX5_digest_60 : decode cX5_digest 60 = .ok (.lstore_n 1, 1) := by decide +kernel
theorem dX5_digest_61 : decode cX5_digest 61 = .ok (.iinc 3 1, 3) := by decide +kernel
theorem dX5_digest_64 : decode cX5_digest 64 = .ok (.goto (-30), 3) := by decide +kernel
theorem dX5_digest_67 : decode cX5_digest 67 = .ok (.iconst 0, 1) := by decide +kernel
theorem dX5_digest_68 : decode cX5_digest 68 = .ok (.istore_n 3, 1) := by decide +kernel
theorem dX5_digest_69 : decode cX5_digest 69 = .ok (.iload_n 3, 1) := by decide +kernel
theorem dX5_digest_70 : decode cX5_digest 70 = .ok (.bipush 7, 2) := by decide +kernel
theorem dX5_digest_72 : decode cX5_digest 72 = .ok (.if_icmp .gt 22, 3) := by decide +kernel
theorem dX5_digest_75 : decode cX5_digest 75 = .ok (.ldc2_w 179, 3) := by decide +kernel
theorem dX5_digest_78 : decode cX5_digest 78 = .ok (.lload_n 1, 1) := by decide +kernel
theorem dX5_digest_79 : decode cX5_digest 79 = .ok (.lmul, 1) := by decide +kernel
theorem dX5_digest_80 : decode cX5_digest 80 = .ok (.aload_n 0, 1) := by decide +kernel
theorem dX5_digest_81 : decode cX5_digest 81 = .ok (.iload_n 3, 1) := by decide +kernel
theorem dX5_digest_82 : decode cX5_digest 82 = .ok (.invokevirtual 187, 3) := by decide +kernel
theorem dX5_digest_85 : decode cX5_digest 85 = .ok (.i2l, 1) := by decide +kernel
theorem dX5_digest_86 : decode cX5_digest 86 = .ok (.ladd, 1) := by decide +kernel
theorem dX5_digest_87 : decode cX5_digest 87 = .ok (.lstore_n 1, 1) := by decide +kernel
theorem dX5_digest_88 : decode cX5_digest 88 = .ok (.iinc 3 1, 3) := by decide +kernel
theorem dX5_digest_91 : decode cX5_digest 91 = .ok (.goto (-22), 3) := by decide +kernel
theorem dX5_digest_94 : decode cX5_digest 94 = .ok (.lload_n 1, 1) := by decide +kernel
theorem dX5_digest_95 : decode cX5_digest 95 = .ok (.lreturn, 1) := by decide +kernel
set_option maxRecDepth 20000 in
theorem ggX5_withSums_X5_code : GoodIn wsX5_withSums wsX5_code := goodIn_r _ [7, 2, 8, 9, 10, 11, 12, 13, 14, 15, 16, 17, 18, 19, 20, 21, 22, 23, 24, 25, 26, 27, 28, 29, 30, 31, 32, 33, 34, 35, 36, 37, 38, 39, 40, 41, 42, 75, 76, 77, 78, 79, 80, 81, 82, 83, 84, 85, 86, 87, 88] (by decide +kernel) (by decide +kernel)
set_option maxRecDepth 20000 in
theorem gX5_withSums_X5_code : GoodIn wsX5_withSums (wsV RX5 190 RX5 yX5_code wsX5_code) := goodIn_app (goodIn_of _ (by decide +kernel)) ggX5_withSums_X5_code
set_option maxRecDepth 20000 in
theorem ggX5_withSums_X3_rowCount : GoodIn wsX5_withSums wsX3_rowCount := goodIn_r _ [21, 22, 80, 81, 82, 83, 84, 85, 86, 87, 88] (by decide +kernel) (by decide +kernel)
set_option maxRecDepth 20000 in
theorem gX5_withSums_X3_rowCount : GoodIn wsX5_withSums (wsV RX5 76 RX3 yX3_rowCount wsX3_rowCount) := goodIn_app (goodIn_of _ (by decide +kernel)) ggX5_withSums_X3_rowCount
set_option maxRecDepth 20000 in
theorem ggX5_withSums_X3_rowAt : GoodIn wsX5_withSums wsX3_rowAt := goodIn_r _ [46, 47, 48, 49, 50, 11, 51, 22, 80, 81, 82, 83, 84, 85, 86, 87, 88] (by decide +kernel) (by decide +kernel)
set_option maxRecDepth 20000 in
theorem gX5_withSums_X3_rowAt : GoodIn wsX5_withSums (wsV RX5 94 RX3 yX3_rowAt wsX3_rowAt) := goodIn_app (goodIn_of _ (by decide +kernel)) ggX5_withSums_X3_rowAt
set_option maxRecDepth 20000 in
theorem ggX5_withSums_X3_syndromes : GoodIn wsX5_withSums wsX3_syndromes := goodIn_r _ [55, 22, 80, 81, 82, 83, 84, 85, 86, 87, 88] (by decide +kernel) (by decide +kernel)
set_option maxRecDepth 20000 in
theorem gX5_withSums_X3_syndromes : GoodIn wsX5_withSums (wsV RX5 193 RX3 yX3_syndromes wsX3_syndromes) := goodIn_app (goodIn_of _ (by decide +kernel)) ggX5_withSums_X3_syndromes
set_option maxRecDepth 20000 in
theorem ggX5_withSums_X3_leaderOf : GoodIn wsX5_withSums wsX3_leaderOf := goodIn_r _ [59, 60, 61, 62, 63, 11, 64, 65, 53, 54, 55, 22, 80, 81, 82, 83, 84, 85, 86, 87, 88] (by decide +kernel) (by decide +kernel)
set_option maxRecDepth 20000 in
theorem gX5_withSums_X3_leaderOf : GoodIn wsX5_withSums (wsV RX5 107 RX3 yX3_leaderOf wsX3_leaderOf) := goodIn_app (goodIn_of _ (by decide +kernel)) ggX5_withSums_X3_leaderOf
set_option maxRecDepth 20000 in
theorem ggX5_withSums_X3_length : GoodIn wsX5_withSums wsX3_length := goodIn_r _ [17, 13, 80, 81, 82, 83, 84, 85, 86, 87, 88] (by decide +kernel) (by decide +kernel)
set_option maxRecDepth 20000 in
theorem gX5_withSums_X3_length : GoodIn wsX5_withSums (wsV RX5 70 RX3 yX3_length wsX3_length) := goodIn_app (goodIn_of _ (by decide +kernel)) ggX5_withSums_X3_length
set_option maxRecDepth 20000 in
theorem ggX5_withSums_X3_leadersOfWeight : GoodIn wsX5_withSums wsX3_leadersOfWeight := goodIn_r _ [69, 70, 71, 72, 73, 11, 74, 13, 80, 81, 82, 83, 84, 85, 86, 87, 88] (by decide +kernel) (by decide +kernel)
set_option maxRecDepth 20000 in
theorem gX5_withSums_X3_leadersOfWeight : GoodIn wsX5_withSums (wsV RX5 117 RX3 yX3_leadersOfWeight wsX3_leadersOfWeight) := goodIn_app (goodIn_of _ (by decide +kernel)) ggX5_withSums_X3_leadersOfWeight
theorem dX5_withSums_0 : decode cX5_withSums 0 = .ok (.lload_n 1, 1) := by decide +kernel
theorem dX5_withSums_1 : decode cX5_withSums 1 = .ok (.lstore_n 3, 1) := by decide +kernel
theorem dX5_withSums_2 : decode cX5_withSums 2 = .ok (.iconst 0, 1) := by decide +kernel
theorem dX5_withSums_3 : decode cX5_withSums 3 = .ok (.istore 5, 2) := by decide +kernel
theorem dX5_withSums_5 : decode cX5_withSums 5 = .ok (.iload 5, 2) := by decide +kernel
theorem dX5_withSums_7 : decode cX5_withSums 7 = .ok (.bipush 6, 2) := by decide +kernel
theorem dX5_withSums_9 : decode cX5_withSums 9 = .ok (.if_icmp .gt 23, 3) := by decide +kernel
theorem dX5_withSums_12 : decode cX5_withSums 12 = .ok (.ldc2_w 179, 3) := by decide +kernel
theorem dX5_withSums_15 : decode cX5_withSums 15 = .ok (.lload_n 3, 1) := by decide +kernel
theorem dX5_withSums_16 : decode cX5_withSums 16 = .ok (.lmul, 1) := by decide +kernel
theorem dX5_withSums_17 : decode cX5_withSums 17 = .ok (.aload_n 0, 1) := by decide +kernel
theorem dX5_withSums_18 : decode cX5_withSums 18 = .ok (.iload 5, 2) := by decide +kernel
theorem dX5_withSums_20 : decode cX5_withSums 20 = .ok (.invokevirtual 190, 3) := by decide +kernel
theorem dX5_withSums_23 : decode cX5_withSums 23 = .ok (.i2l, 1) := by decide +kernel
theorem dX5_withSums_24 : decode cX5_withSums 24 = .ok (.ladd, 1) := by decide +kernel
theorem dX5_withSums_25 : decode cX5_withSums 25 = .ok (.lstore_n 3, 1) := by decide +kernel
theorem dX5_withSums_26 : decode cX5_withSums 26 = .ok (.iinc 5 1, 3) := by decide +kernel
theorem dX5_withSums_29 : decode cX5_withSums 29 = .ok (.goto (-24), 3) := by decide +kernel
theorem dX5_withSums_32 : decode cX5_withSums 32 = .ok (.iconst 0, 1) := by decide +kernel
theorem dX5_withSums_33 : decode cX5_withSums 33 = .ok (.istore 5, 2) := by decide +kernel
theorem dX5_withSums_35 : decode cX5_withSums 35 = .ok (.iload 5, 2) := by decide +kernel
theorem dX5_withSums_37 : decode cX5_withSums 37 = .ok (.aload_n 0, 1) := by decide +kernel
theorem dX5_withSums_38 : decode cX5_withSums 38 = .ok (.getfield 26, 3) := by decide +kernel
theorem dX5_withSums_41 : decode cX5_withSums 41 = .ok (.invokevirtual 76, 3) := by decide +kernel
theorem dX5_withSums_44 : decode cX5_withSums 44 = .ok (.if_icmp .ge 26, 3) := by decide +kernel
theorem dX5_withSums_47 : decode cX5_withSums 47 = .ok (.ldc2_w 179, 3) := by decide +kernel
theorem dX5_withSums_50 : decode cX5_withSums 50 = .ok (.lload_n 3, 1) := by decide +kernel
theorem dX5_withSums_51 : decode cX5_withSums 51 = .ok (.lmul, 1) := by decide +kernel
theorem dX5_withSums_52 : decode cX5_withSums 52 = .ok (.aload_n 0, 1) := by decide +kernel
theorem dX5_withSums_53 : decode cX5_withSums 53 = .ok (.getfield 26, 3) := by decide +kernel
theorem dX5_withSums_56 : decode cX5_withSums 56 = .ok (.iload 5, 2) := by decide +kernel
theorem dX5_withSums_58 : decode cX5_withSums 58 = .ok (.invokevirtual 94, 3) := by decide +kernel
theorem dX5_withSums_61 : decode cX5_withSums 61 = .ok (.i2l, 1) := by decide +kernel
theorem dX5_withSums_62 : decode cX5_withSums 62 = .ok (.ladd, 1) := by decide +kernel
theorem dX5_withSums_63 : decode cX5_withSums 63 = .ok (.lstore_n 3, 1) := by decide +kernel
theorem dX5_withSums_64 : decode cX5_withSums 64 = .ok (.iinc 5 1, 3) := by decide +kernel
theorem dX5_withSums_67 : decode cX5_withSums 67 = .ok (.goto (-32), 3) := by decide +kernel
theorem dX5_withSums_70 : decode cX5_withSums 70 = .ok (.iconst 0, 1) := by decide +kernel
theorem dX5_withSums_71 : decode cX5_withSums 71 = .ok (.istore 5, 2) := by decide +kernel
theorem dX5_withSums_73 : decode cX5_withSums 73 = .ok (.iload 5, 2) := by decide +kernel
theorem dX5_withSums_75 : decode cX5_withSums 75 = .ok (.aload_n 0, 1) := by decide +kernel
theorem dX5_withSums_76 : decode cX5_withSums 76 = .ok (.getfield 26, 3) := by decide +kernel
theorem dX5_withSums_79 : decode cX5_withSums 79 = .ok (.invokevirtual 193, 3) := by decide +kernel
theorem dX5_withSums_82 : decode cX5_withSums 82 = .ok (.if_icmp .ge 26, 3) := by decide +kernel
theorem dX5_withSums_85 : decode cX5_withSums 85 = .ok (.ldc2_w 179, 3) := by decide +kernel
theorem dX5_withSums_88 : decode cX5_withSums 88 = .ok (.lload_n 3, 1) := by decide +kernel
theorem dX5_withSums_89 : decode cX5_withSums 89 = .ok (.lmul, 1) := by decide +kernel
theorem dX5_withSums_90 : decode cX5_withSums 90 = .ok (.aload_n 0, 1) := by decide +kernel
theorem dX5_withSums_91 : decode cX5_withSums 91 = .ok (.getfield 26, 3) := by decide +kernel
theorem dX5_withSums_94 : decode cX5_withSums 94 = .ok (.iload 5, 2) := by decide +kernel
theorem dX5_withSums_96 : decode cX5_withSums 96 = .ok (.invokevirtual 107, 3) := by decide +kernel
theorem dX5_withSums_99 : decode cX5_withSums 99 = .ok (.i2l, 1) := by decide +kernel
theorem dX5_withSums_100 : decode cX5_withSums 100 = .ok (.ladd, 1) := by decide +kernel
theorem dX5_withSums_101 : decode cX5_withSums 101 = .ok (.lstore_n 3, 1) := by decide +kernel
theorem dX5_withSums_102 : decode cX5_withSums 102 = .ok (.iinc 5 1, 3) := by decide +kernel
theorem dX5_withSums_105 : decode cX5_withSums 105 = .ok (.goto (-32), 3) := by decide +kernel
theorem dX5_withSums_108 : decode cX5_withSums 108 = .ok (.iconst 0, 1) := by decide +kernel
theorem dX5_withSums_109 : decode cX5_withSums 109 = .ok (.istore 5, 2) := by decide +kernel
theorem dX5_withSums_111 : decode cX5_withSums 111 = .ok (.iload 5, 2) := by decide +kernel
theorem dX5_withSums_113 : decode cX5_withSums 113 = .ok (.aload_n 0, 1) := by decide +kernel
theorem dX5_withSums_114 : decode cX5_withSums 114 = .ok (.getfield 26, 3) := by decide +kernel
theorem dX5_withSums_117 : decode cX5_withSums 117 = .ok (.invokevirtual 70, 3) := by decide +kernel
theorem dX5_withSums_120 : decode cX5_withSums 120 = .ok (.if_icmp .gt 26, 3) := by decide +kernel
theorem dX5_withSums_123 : decode cX5_withSums 123 = .ok (.ldc2_w 179, 3) := by decide +kernel
theorem dX5_withSums_126 : decode cX5_withSums 126 = .ok (.lload_n 3, 1) := by decide +kernel
theorem dX5_withSums_127 : decode cX5_withSums 127 = .ok (.lmul, 1) := by decide +kernel
theorem dX5_withSums_128 : decode cX5_withSums 128 = .ok (.aload_n 0, 1) := by decide +kernel
theorem dX5_withSums_129 : decode cX5_withSums 129 = .ok (.getfield 26, 3) := by decide +kernel
theorem dX5_withSums_132 : decode cX5_withSums 132 = .ok (.iload 5, 2) := by decide +kernel
theorem dX5_withSums_134 : decode cX5_withSums 134 = .ok (.invokevirtual 117, 3) := by decide +kernel
theorem dX5_withSums_137 : decode cX5_withSums 137 = .ok (.i2l, 1) := by decide +kernel
theorem dX5_withSums_138 : decode cX5_withSums 138 = .ok (.ladd, 1) := by decide +kernel
theorem dX5_withSums_139 : decode cX5_withSums 139 = .ok (.lstore_n 3, 1) := by decide +kernel
theorem dX5_withSums_140 : decode cX5_withSums 140 = .ok (.iinc 5 1, 3) := by decide +kernel
theorem dX5_withSums_143 : decode cX5_withSums 143 = .ok (.goto (-32), 3) := by decide +kernel
theorem dX5_withSums_146 : decode cX5_withSums 146 = .ok (.lload_n 3, 1) := by decide +kernel
theorem dX5_withSums_147 : decode cX5_withSums 147 = .ok (.lreturn, 1) := by decide +kernel
set_option maxRecDepth 20000 in
theorem ggX5_sendAndCount_X3_verdictOf : GoodIn wsX5_sendAndCount wsX3_verdictOf := goodIn_r _ [7, 8, 9, 10, 11, 6, 12, 13, 14, 15, 16, 17, 18, 19, 20, 21, 22, 23, 24, 25, 26, 27, 28, 29, 30, 31, 32, 33, 34, 35, 36, 37, 38, 62, 63, 64, 65, 66, 67, 68, 69, 70] (by decide +kernel) (by decide +kernel)
set_option maxRecDepth 20000 in
theorem gX5_sendAndCount_X3_verdictOf : GoodIn wsX5_sendAndCount (wsV RX5 126 RX3 yX3_verdictOf wsX3_verdictOf) := goodIn_app (goodIn_of _ (by decide +kernel)) ggX5_sendAndCount_X3_verdictOf
set_option maxRecDepth 20000 in
theorem ggX5_sendAndCount_X3_length : GoodIn wsX5_sendAndCount wsX3_length := goodIn_r _ [42, 43, 62, 63, 64, 65, 66, 67, 68, 69, 70] (by decide +kernel) (by decide +kernel)
set_option maxRecDepth 20000 in
theorem gX5_sendAndCount_X3_length : GoodIn wsX5_sendAndCount (wsV RX5 70 RX3 yX3_length wsX3_length) := goodIn_app (goodIn_of _ (by decide +kernel)) ggX5_sendAndCount_X3_length
set_option maxRecDepth 20000 in
theorem ggX5_sendAndCount_X3_rank : GoodIn wsX5_sendAndCount wsX3_rank := goodIn_r _ [47, 48, 62, 63, 64, 65, 66, 67, 68, 69, 70] (by decide +kernel) (by decide +kernel)
set_option maxRecDepth 20000 in
theorem gX5_sendAndCount_X3_rank : GoodIn wsX5_sendAndCount (wsV RX5 79 RX3 yX3_rank wsX3_rank) := goodIn_app (goodIn_of _ (by decide +kernel)) ggX5_sendAndCount_X3_rank
set_option maxRecDepth 20000 in
theorem ggX5_sendAndCount_X4_sentPlain : GoodIn wsX5_sendAndCount wsX4_sentPlain := goodIn_r _ [53, 54, 55, 56, 71, 72, 73, 74] (by decide +kernel) (by decide +kernel)
set_option maxRecDepth 20000 in
theorem gX5_sendAndCount_X4_sentPlain : GoodIn wsX5_sendAndCount (wsV RX5 196 RX4 yX4_sentPlain wsX4_sentPlain) := goodIn_app (goodIn_of _ (by decide +kernel)) ggX5_sendAndCount_X4_sentPlain
theorem dX5_sendAndCount_0 : decode cX5_sendAndCount 0 = .ok (.aload_n 0, 1) := by decide +kernel
theorem dX5_sendAndCount_1 : decode cX5_sendAndCount 1 = .ok (.getfield 26, 3) := by decide +kernel
theorem dX5_sendAndCount_4 : decode cX5_sendAndCount 4 = .ok (.iload_n 1, 1) := by decide +kernel
theorem dX5_sendAndCount_5 : decode cX5_sendAndCount 5 = .ok (.iload_n 2, 1) := by decide +kernel
theorem dX5_sendAndCount_6 : decode cX5_sendAndCount 6 = .ok (.invokevirtual 126, 3) := by decide +kernel
theorem dX5_sendAndCount_9 : decode cX5_sendAndCount 9 = .ok (.istore_n 3, 1) := by decide +kernel
theorem dX5_sendAndCount_10 : decode cX5_sendAndCount 10 = .ok (.aload_n 0, 1) := by decide +kernel
theorem dX5_sendAndCount_11 : decode cX5_sendAndCount 11 = .ok (.getfield 33, 3) := by decide +kernel
theorem dX5_sendAndCount_14 : decode cX5_sendAndCount 14 = .ok (.iload_n 3, 1) := by decide +kernel
theorem dX5_sendAndCount_15 : decode cX5_sendAndCount 15 = .ok (.aload_n 0, 1) := by decide +kernel
theorem dX5_sendAndCount_16 : decode cX5_sendAndCount 16 = .ok (.getfield 26, 3) := by decide +kernel
theorem dX5_sendAndCount_19 : decode cX5_sendAndCount 19 = .ok (.invokevirtual 70, 3) := by decide +kernel
theorem dX5_sendAndCount_22 : decode cX5_sendAndCount 22 = .ok (.aload_n 0, 1) := by decide +kernel
theorem dX5_sendAndCount_23 : decode cX5_sendAndCount 23 = .ok (.getfield 26, 3) := by decide +kernel
theorem dX5_sendAndCount_26 : decode cX5_sendAndCount 26 = .ok (.invokevirtual 79, 3) := by decide +kernel
theorem dX5_sendAndCount_29 : decode cX5_sendAndCount 29 = .ok (.invokevirtual 196, 3) := by decide +kernel
theorem dX5_sendAndCount_32 : decode cX5_sendAndCount 32 = .ok (.iload_n 3, 1) := by decide +kernel
theorem dX5_sendAndCount_33 : decode cX5_sendAndCount 33 = .ok (.ireturn, 1) := by decide +kernel
set_option maxRecDepth 20000 in
theorem ggX5_drawUnlikePlaces_X3_length : GoodIn wsX5_drawUnlikePlaces wsX3_length := goodIn_r _ [7, 8, 23, 24, 25, 26, 27, 28, 29, 30, 31] (by decide +kernel) (by decide +kernel)
set_option maxRecDepth 20000 in
theorem gX5_drawUnlikePlaces_X3_length : GoodIn wsX5_drawUnlikePlaces (wsV RX5 70 RX3 yX3_length wsX3_length) := goodIn_app (goodIn_of _ (by decide +kernel)) ggX5_drawUnlikePlaces_X3_length
set_option maxRecDepth 20000 in
theorem ggX5_drawUnlikePlaces_X0_next : GoodIn wsX5_drawUnlikePlaces wsX0_next := goodIn_r _ [13, 14, 15, 16, 17, 32] (by decide +kernel) (by decide +kernel)
set_option maxRecDepth 20000 in
theorem gX5_drawUnlikePlaces_X0_next : GoodIn wsX5_drawUnlikePlaces (wsV RX5 152 RX0 yX0_next wsX0_next) := goodIn_app (goodIn_of _ (by decide +kernel)) ggX5_drawUnlikePlaces_X0_next
theorem dX5_drawUnlikePlaces_0 : decode cX5_drawUnlikePlaces 0 = .ok (.iconst 0, 1) := by decide +kernel
theorem dX5_drawUnlikePlaces_1 : decode cX5_drawUnlikePlaces 1 = .ok (.istore_n 2, 1) := by decide +kernel
theorem dX5_drawUnlikePlaces_2 : decode cX5_drawUnlikePlaces 2 = .ok (.iconst 0, 1) := by decide +kernel
theorem dX5_drawUnlikePlaces_3 : decode cX5_drawUnlikePlaces 3 = .ok (.istore_n 3, 1) := by decide +kernel
theorem dX5_drawUnlikePlaces_4 : decode cX5_drawUnlikePlaces 4 = .ok (.iload_n 3, 1) := by decide +kernel
theorem dX5_drawUnlikePlaces_5 : decode cX5_drawUnlikePlaces 5 = .ok (.aload_n 0, 1) := by decide +kernel
theorem dX5_drawUnlikePlaces_6 : decode cX5_drawUnlikePlaces 6 = .ok (.getfield 26, 3) := by decide +kernel
theorem dX5_drawUnlikePlaces_9 : decode cX5_drawUnlikePlaces 9 = .ok (.invokevirtual 70, 3) := by decide +kernel
theorem dX5_drawUnlikePlaces_12 : decode cX5_drawUnlikePlaces 12 = .ok (.if_icmp .ge 27, 3) := by decide +kernel
theorem dX5_drawUnlikePlaces_15 : decode cX5_drawUnlikePlaces 15 = .ok (.aload_n 0, 1) := by decide +kernel
theorem dX5_drawUnlikePlaces_16 : decode cX5_drawUnlikePlaces 16 = .ok (.getfield 40, 3) := by decide +kernel
theorem dX5_drawUnlikePlaces_19 : decode cX5_drawUnlikePlaces 19 = .ok (.iconst 4, 1) := by decide +kernel
theorem dX5_drawUnlikePlaces_20 : decode cX5_drawUnlikePlaces 20 = .ok (.invokevirtual 152, 3) := by decide +kernel
theorem dX5_drawUnlikePlaces_23 : decode cX5_drawUnlikePlaces 23 = .ok (.iload_n 1, 1) := by decide +kernel
theorem dX5_drawUnlikePlaces_24 : decode cX5_drawUnlikePlaces 24 = .ok (.if_icmp .ge 9, 3) := by decide +kernel
theorem dX5_drawUnlikePlaces_27 : decode cX5_drawUnlikePlaces 27 = .ok (.iload_n 2, 1) := by decide +kernel
theorem dX5_drawUnlikePlaces_28 : decode cX5_drawUnlikePlaces 28 = .ok (.iconst 1, 1) := by decide +kernel
theorem dX5_drawUnlikePlaces_29 : decode cX5_drawUnlikePlaces 29 = .ok (.iload_n 3, 1) := by decide +kernel
theorem dX5_drawUnlikePlaces_30 : decode cX5_drawUnlikePlaces 30 = .ok (.ishl, 1) := by decide +kernel
theorem dX5_drawUnlikePlaces_31 : decode cX5_drawUnlikePlaces 31 = .ok (.ior, 1) := by decide +kernel
theorem dX5_drawUnlikePlaces_32 : decode cX5_drawUnlikePlaces 32 = .ok (.istore_n 2, 1) := by decide +kernel
theorem dX5_drawUnlikePlaces_33 : decode cX5_drawUnlikePlaces 33 = .ok (.iinc 3 1, 3) := by decide +kernel
theorem dX5_drawUnlikePlaces_36 : decode cX5_drawUnlikePlaces 36 = .ok (.goto (-32), 3) := by decide +kernel
theorem dX5_drawUnlikePlaces_39 : decode cX5_drawUnlikePlaces 39 = .ok (.iload_n 2, 1) := by decide +kernel
theorem dX5_drawUnlikePlaces_40 : decode cX5_drawUnlikePlaces 40 = .ok (.ireturn, 1) := by decide +kernel
theorem dX6_init_0 : decode cX6_init 0 = .ok (.aload_n 0, 1) := by decide +kernel
theorem dX6_init_1 : decode cX6_init 1 = .ok (.invokespecial 1, 3) := by decide +kernel
theorem dX6_init_4 : decode cX6_init 4 = .ok (.aload_n 0, 1) := by decide +kernel
theorem dX6_init_5 : decode cX6_init 5 = .ok (.bipush 56, 2) := by decide +kernel
theorem dX6_init_7 : decode cX6_init 7 = .ok (.newarray .int, 2) := by decide +kernel
theorem dX6_init_9 : decode cX6_init 9 = .ok (.putfield 7, 3) := by decide +kernel
theorem dX6_init_12 : decode cX6_init 12 = .ok (.aload_n 0, 1) := by decide +kernel
theorem dX6_init_13 : decode cX6_init 13 = .ok (.iconst 5, 1) := by decide +kernel
theorem dX6_init_14 : decode cX6_init 14 = .ok (.newarray .int, 2) := by decide +kernel
theorem dX6_init_16 : decode cX6_init 16 = .ok (.putfield 13, 3) := by decide +kernel
theorem dX6_init_19 : decode cX6_init 19 = .ok (.aload_n 0, 1) := by decide +kernel
theorem dX6_init_20 : decode cX6_init 20 = .ok (.iconst (-1), 1) := by decide +kernel
theorem dX6_init_21 : decode cX6_init 21 = .ok (.putfield 16, 3) := by decide +kernel
theorem dX6_init_24 : decode cX6_init 24 = .ok (.aload_n 0, 1) := by decide +kernel
theorem dX6_init_25 : decode cX6_init 25 = .ok (.iconst 4, 1) := by decide +kernel
theorem dX6_init_26 : decode cX6_init 26 = .ok (.newarray .int, 2) := by decide +kernel
theorem dX6_init_28 : decode cX6_init 28 = .ok (.putfield 20, 3) := by decide +kernel
theorem dX6_init_31 : decode cX6_init 31 = .ok (.aload_n 0, 1) := by decide +kernel
theorem dX6_init_32 : decode cX6_init 32 = .ok (.iconst 5, 1) := by decide +kernel
theorem dX6_init_33 : decode cX6_init 33 = .ok (.newarray .int, 2) := by decide +kernel
theorem dX6_init_35 : decode cX6_init 35 = .ok (.putfield 23, 3) := by decide +kernel
theorem dX6_init_38 : decode cX6_init 38 = .ok (.aload_n 0, 1) := by decide +kernel
theorem dX6_init_39 : decode cX6_init 39 = .ok (.sipush 1024, 3) := by decide +kernel
theorem dX6_init_42 : decode cX6_init 42 = .ok (.newarray .int, 2) := by decide +kernel
theorem dX6_init_44 : decode cX6_init 44 = .ok (.putfield 26, 3) := by decide +kernel
theorem dX6_init_47 : decode cX6_init 47 = .ok (.aload_n 0, 1) := by decide +kernel
theorem dX6_init_48 : decode cX6_init 48 = .ok (.bipush 32, 2) := by decide +kernel
theorem dX6_init_50 : decode cX6_init 50 = .ok (.newarray .int, 2) := by decide +kernel
theorem dX6_init_52 : decode cX6_init 52 = .ok (.putfield 29, 3) := by decide +kernel
theorem dX6_init_55 : decode cX6_init 55 = .ok (.return_, 1) := by decide +kernel
theorem dX6_within_0 : decode cX6_within 0 = .ok (.iload_n 0, 1) := by decide +kernel
theorem dX6_within_1 : decode cX6_within 1 = .ok (.iload_n 1, 1) := by decide +kernel
theorem dX6_within_2 : decode cX6_within 2 = .ok (.if_icmp .lt 12, 3) := by decide +kernel
theorem dX6_within_5 : decode cX6_within 5 = .ok (.iload_n 0, 1) := by decide +kernel
theorem dX6_within_6 : decode cX6_within 6 = .ok (.iload_n 2, 1) := by decide +kernel
theorem dX6_within_7 : decode cX6_within 7 = .ok (.if_icmp .gt 7, 3) := by decide +kernel
theorem dX6_within_10 : decode cX6_within 10 = .ok (.iconst 1, 1) := by decide +kernel
theorem dX6_within_11 : decode cX6_within 11 = .ok (.goto 4, 3) := by decide +kernel
theorem dX6_within_14 : decode cX6_within 14 = .ok (.iconst 0, 1) := by decide +kernel
theorem dX6_within_15 : decode cX6_within 15 = .ok (.ireturn, 1) := by decide +kernel
theorem dX6_ones_0 : decode cX6_ones 0 = .ok (.iconst 0, 1) := by decide +kernel
theorem dX6_ones_1 : decode cX6_ones 1 = .ok (.istore_n 1, 1) := by decide +kernel
theorem dX6_ones_2 : decode cX6_ones 2 = .ok (.iconst 0, 1) := by decide +kernel
theorem dX6_ones_3 : decode cX6_ones 3 = .ok (.istore_n 2, 1) := by decide +kernel
theorem dX6_ones_4 : decode cX6_ones 4 = .ok (.iload_n 2, 1) := by decide +kernel
theorem dX6_ones_5 : decode cX6_ones 5 = .ok (.bipush 10, 2) := by decide +kernel
theorem dX6_ones_7 : decode cX6_ones 7 = .ok (.if_icmp .ge 17, 3) := by decide +kernel
theorem dX6_ones_10 : decode cX6_ones 10 = .ok (.iload_n 1, 1) := by decide +kernel
theorem dX6_ones_11 : decode cX6_ones 11 = .ok (.iload_n 0, 1) := by decide +kernel
theorem dX6_ones_12 : decode cX6_ones 12 = .ok (.iload_n 2, 1) := by decide +kernel
theorem dX6_ones_13 : decode cX6_ones 13 = .ok (.ishr, 1) := by decide +kernel
theorem dX6_ones_14 : decode cX6_ones 14 = .ok (.iconst 1, 1) := by decide +kernel
theorem dX6_ones_15 : decode cX6_ones 15 = .ok (.iand, 1) := by decide +kernel
theorem dX6_ones_16 : decode cX6_ones 16 = .ok (.iadd, 1) := by decide +kernel
theorem dX6_ones_17 : decode cX6_ones 17 = .ok (.istore_n 1, 1) := by decide +kernel
theorem dX6_ones_18 : decode cX6_ones 18 = .ok (.iinc 2 1, 3) := by decide +kernel
theorem dX6_ones_21 : decode cX6_ones 21 = .ok (.goto (-17), 3) := by decide +kernel
theorem dX6_ones_24 : decode cX6_ones 24 = .ok (.iload_n 1, 1) := by decide +kernel
theorem dX6_ones_25 : decode cX6_ones 25 = .ok (.ireturn, 1) := by decide +kernel
set_option maxRecDepth 20000 in
theorem ggX6_letter_X6_within : GoodIn wsX6_letter wsX6_within := goodIn_r _ [6] (by decide +kernel) (by decide +kernel)
set_option maxRecDepth 20000 in
theorem gX6_letter_X6_within : GoodIn wsX6_letter (va_wsS RX6 32 yX6_within wsX6_within) := goodIn_app (goodIn_of _ (by decide +kernel)) ggX6_letter_X6_within
theorem dX6_letter_0 : decode cX6_letter 0 = .ok (.iload_n 1, 1) := by decide +kernel
theorem dX6_letter_1 : decode cX6_letter 1 = .ok (.bipush 32, 2) := by decide +kernel
theorem dX6_letter_3 : decode cX6_letter 3 = .ok (.bipush 126, 2) := by decide +kernel
theorem dX6_letter_5 : decode cX6_letter 5 = .ok (.invokestatic 32, 3) := by decide +kernel
theorem dX6_letter_8 : decode cX6_letter 8 = .ok (.ifCond .ne 7, 3) := by decide +kernel
theorem dX6_letter_11 : decode cX6_letter 11 = .ok (.sipush (-1002), 3) := by decide +kernel
theorem dX6_letter_14 : decode cX6_letter 14 = .ok (.ireturn, 1) := by decide +kernel
theorem dX6_letter_15 : decode cX6_letter 15 = .ok (.aload_n 0, 1) := by decide +kernel
theorem dX6_letter_16 : decode cX6_letter 16 = .ok (.getfield 36, 3) := by decide +kernel
theorem dX6_letter_19 : decode cX6_letter 19 = .ok (.bipush 56, 2) := by decide +kernel
theorem dX6_letter_21 : decode cX6_letter 21 = .ok (.if_icmp .ne 7, 3) := by decide +kernel
theorem dX6_letter_24 : decode cX6_letter 24 = .ok (.sipush (-1004), 3) := by decide +kernel
theorem dX6_letter_27 : decode cX6_letter 27 = .ok (.ireturn, 1) := by decide +kernel
theorem dX6_letter_28 : decode cX6_letter 28 = .ok (.aload_n 0, 1) := by decide +kernel
theorem dX6_letter_29 : decode cX6_letter 29 = .ok (.getfield 7, 3) := by decide +kernel
theorem dX6_letter_32 : decode cX6_letter 32 = .ok (.aload_n 0, 1) := by decide +kernel
theorem dX6_letter_33 : decode cX6_letter 33 = .ok (.getfield 36, 3) := by decide +kernel
theorem dX6_letter_36 : decode cX6_letter 36 = .ok (.iload_n 1, 1) := by decide +kernel
theorem dX6_letter_37 : decode cX6_letter 37 = .ok (.iastore, 1) := by decide +kernel
theorem dX6_letter_38 : decode cX6_letter 38 = .ok (.aload_n 0, 1) := by decide +kernel
theorem dX6_letter_39 : decode cX6_letter 39 = .ok (.dup, 1) := by decide +kernel
theorem dX6_letter_40 : decode cX6_letter 40 = .ok (.getfield 36, 3) := by decide +kernel
theorem dX6_letter_43 : decode cX6_letter 43 = .ok (.iconst 1, 1) := by decide +kernel
theorem dX6_letter_44 : decode cX6_letter 44 = .ok (.iadd, 1) := by decide +kernel
theorem dX6_letter_45 : decode cX6_letter 45 = .ok (.putfield 36, 3) := by decide +kernel
theorem dX6_letter_48 : decode cX6_letter 48 = .ok (.aload_n 0, 1) := by decide +kernel
theorem dX6_letter_49 : decode cX6_letter 49 = .ok (.getfield 36, 3) := by decide +kernel
theorem dX6_letter_52 : decode cX6_letter 52 = .ok (.ireturn, 1) := by decide +kernel
theorem dX6_blank_0 : decode cX6_blank 0 = .ok (.aload_n 0, 1) := by decide +kernel
theorem dX6_blank_1 : decode cX6_blank 1 = .ok (.getfield 36, 3) := by decide +kernel
theorem dX6_blank_4 : decode cX6_blank 4 = .ok (.istore_n 1, 1) := by decide +kernel
theorem dX6_blank_5 : decode cX6_blank 5 = .ok (.aload_n 0, 1) := by decide +kernel
theorem dX6_blank_6 : decode cX6_blank 6 = .ok (.iconst 0, 1) := by decide +kernel
end
section
theorem dX6_blank_7 : decode cX6_blank 7 = .ok (.putfield 36, 3) := by decide +kernel
theorem dX6_blank_10 : decode cX6_blank 10 = .ok (.iload_n 1, 1) := by decide +kernel
theorem dX6_blank_11 : decode cX6_blank 11 = .ok (.ireturn, 1) := by decide +kernel
theorem dX6_takes_0 : decode cX6_takes 0 = .ok (.iload_n 1, 1) := by decide +kernel
theorem dX6_takes_1 : decode cX6_takes 1 = .ok (.bipush 47, 2) := by decide +kernel
theorem dX6_takes_3 : decode cX6_takes 3 = .ok (.if_icmp .ne 103, 3) := by decide +kernel
theorem dX6_takes_6 : decode cX6_takes 6 = .ok (.aload_n 0, 1) := by decide +kernel
theorem dX6_takes_7 : decode cX6_takes 7 = .ok (.getfield 39, 3) := by decide +kernel
theorem dX6_takes_10 : decode cX6_takes 10 = .ok (.iconst 1, 1) := by decide +kernel
theorem dX6_takes_11 : decode cX6_takes 11 = .ok (.iadd, 1) := by decide +kernel
theorem dX6_takes_12 : decode cX6_takes 12 = .ok (.iconst 5, 1) := by decide +kernel
theorem dX6_takes_13 : decode cX6_takes 13 = .ok (.if_icmp .ge 36, 3) := by decide +kernel
theorem dX6_takes_16 : decode cX6_takes 16 = .ok (.aload_n 0, 1) := by decide +kernel
theorem dX6_takes_17 : decode cX6_takes 17 = .ok (.getfield 42, 3) := by decide +kernel
theorem dX6_takes_20 : decode cX6_takes 20 = .ok (.ifCond .ne 14, 3) := by decide +kernel
theorem dX6_takes_23 : decode cX6_takes 23 = .ok (.aload_n 0, 1) := by decide +kernel
theorem dX6_takes_24 : decode cX6_takes 24 = .ok (.getfield 45, 3) := by decide +kernel
theorem dX6_takes_27 : decode cX6_takes 27 = .ok (.iconst 3, 1) := by decide +kernel
theorem dX6_takes_28 : decode cX6_takes 28 = .ok (.if_icmp .lt 21, 3) := by decide +kernel
theorem dX6_takes_31 : decode cX6_takes 31 = .ok (.goto 14, 3) := by decide +kernel
theorem dX6_takes_34 : decode cX6_takes 34 = .ok (.aload_n 0, 1) := by decide +kernel
theorem dX6_takes_35 : decode cX6_takes 35 = .ok (.getfield 45, 3) := by decide +kernel
theorem dX6_takes_38 : decode cX6_takes 38 = .ok (.aload_n 0, 1) := by decide +kernel
theorem dX6_takes_39 : decode cX6_takes 39 = .ok (.getfield 42, 3) := by decide +kernel
theorem dX6_takes_42 : decode cX6_takes 42 = .ok (.if_icmp .ne 7, 3) := by decide +kernel
theorem dX6_takes_45 : decode cX6_takes 45 = .ok (.iconst 1, 1) := by decide +kernel
theorem dX6_takes_46 : decode cX6_takes 46 = .ok (.goto 4, 3) := by decide +kernel
theorem dX6_takes_49 : decode cX6_takes 49 = .ok (.iconst 0, 1) := by decide +kernel
theorem dX6_takes_50 : decode cX6_takes 50 = .ok (.istore_n 2, 1) := by decide +kernel
theorem dX6_takes_51 : decode cX6_takes 51 = .ok (.aload_n 0, 1) := by decide +kernel
theorem dX6_takes_52 : decode cX6_takes 52 = .ok (.iload_n 2, 1) := by decide +kernel
theorem dX6_takes_53 : decode cX6_takes 53 = .ok (.ifCond .eq 10, 3) := by decide +kernel
theorem dX6_takes_56 : decode cX6_takes 56 = .ok (.aload_n 0, 1) := by decide +kernel
theorem dX6_takes_57 : decode cX6_takes 57 = .ok (.getfield 45, 3) := by decide +kernel
theorem dX6_takes_60 : decode cX6_takes 60 = .ok (.goto 7, 3) := by decide +kernel
theorem dX6_takes_63 : decode cX6_takes 63 = .ok (.aload_n 0, 1) := by decide +kernel
theorem dX6_takes_64 : decode cX6_takes 64 = .ok (.getfield 42, 3) := by decide +kernel
theorem dX6_takes_67 : decode cX6_takes 67 = .ok (.putfield 42, 3) := by decide +kernel
theorem dX6_takes_70 : decode cX6_takes 70 = .ok (.aload_n 0, 1) := by decide +kernel
theorem dX6_takes_71 : decode cX6_takes 71 = .ok (.dup, 1) := by decide +kernel
theorem dX6_takes_72 : decode cX6_takes 72 = .ok (.getfield 39, 3) := by decide +kernel
theorem dX6_takes_75 : decode cX6_takes 75 = .ok (.iload_n 2, 1) := by decide +kernel
theorem dX6_takes_76 : decode cX6_takes 76 = .ok (.ifCond .eq 7, 3) := by decide +kernel
theorem dX6_takes_79 : decode cX6_takes 79 = .ok (.iconst 1, 1) := by decide +kernel
theorem dX6_takes_80 : decode cX6_takes 80 = .ok (.goto 4, 3) := by decide +kernel
theorem dX6_takes_83 : decode cX6_takes 83 = .ok (.iconst 0, 1) := by decide +kernel
theorem dX6_takes_84 : decode cX6_takes 84 = .ok (.iadd, 1) := by decide +kernel
theorem dX6_takes_85 : decode cX6_takes 85 = .ok (.putfield 39, 3) := by decide +kernel
theorem dX6_takes_88 : decode cX6_takes 88 = .ok (.aload_n 0, 1) := by decide +kernel
theorem dX6_takes_89 : decode cX6_takes 89 = .ok (.iload_n 2, 1) := by decide +kernel
theorem dX6_takes_90 : decode cX6_takes 90 = .ok (.ifCond .eq 7, 3) := by decide +kernel
theorem dX6_takes_93 : decode cX6_takes 93 = .ok (.iconst 0, 1) := by decide +kernel
theorem dX6_takes_94 : decode cX6_takes 94 = .ok (.goto 7, 3) := by decide +kernel
theorem dX6_takes_97 : decode cX6_takes 97 = .ok (.aload_n 0, 1) := by decide +kernel
theorem dX6_takes_98 : decode cX6_takes 98 = .ok (.getfield 45, 3) := by decide +kernel
theorem dX6_takes_101 : decode cX6_takes 101 = .ok (.putfield 45, 3) := by decide +kernel
theorem dX6_takes_104 : decode cX6_takes 104 = .ok (.iload_n 2, 1) := by decide +kernel
theorem dX6_takes_105 : decode cX6_takes 105 = .ok (.ireturn, 1) := by decide +kernel
theorem dX6_takes_106 : decode cX6_takes 106 = .ok (.iload_n 1, 1) := by decide +kernel
theorem dX6_takes_107 : decode cX6_takes 107 = .ok (.bipush 48, 2) := by decide +kernel
theorem dX6_takes_109 : decode cX6_takes 109 = .ok (.if_icmp .eq 9, 3) := by decide +kernel
theorem dX6_takes_112 : decode cX6_takes 112 = .ok (.iload_n 1, 1) := by decide +kernel
theorem dX6_takes_113 : decode cX6_takes 113 = .ok (.bipush 49, 2) := by decide +kernel
theorem dX6_takes_115 : decode cX6_takes 115 = .ok (.if_icmp .ne 30, 3) := by decide +kernel
theorem dX6_takes_118 : decode cX6_takes 118 = .ok (.aload_n 0, 1) := by decide +kernel
theorem dX6_takes_119 : decode cX6_takes 119 = .ok (.getfield 45, 3) := by decide +kernel
theorem dX6_takes_122 : decode cX6_takes 122 = .ok (.aload_n 0, 1) := by decide +kernel
theorem dX6_takes_123 : decode cX6_takes 123 = .ok (.getfield 42, 3) := by decide +kernel
theorem dX6_takes_126 : decode cX6_takes 126 = .ok (.ifCond .ne 8, 3) := by decide +kernel
theorem dX6_takes_129 : decode cX6_takes 129 = .ok (.bipush 10, 2) := by decide +kernel
theorem dX6_takes_131 : decode cX6_takes 131 = .ok (.goto 7, 3) := by decide +kernel
theorem dX6_takes_134 : decode cX6_takes 134 = .ok (.aload_n 0, 1) := by decide +kernel
theorem dX6_takes_135 : decode cX6_takes 135 = .ok (.getfield 42, 3) := by decide +kernel
theorem dX6_takes_138 : decode cX6_takes 138 = .ok (.if_icmp .ge 7, 3) := by decide +kernel
theorem dX6_takes_141 : decode cX6_takes 141 = .ok (.iconst 1, 1) := by decide +kernel
theorem dX6_takes_142 : decode cX6_takes 142 = .ok (.goto 4, 3) := by decide +kernel
theorem dX6_takes_145 : decode cX6_takes 145 = .ok (.iconst 0, 1) := by decide +kernel
theorem dX6_takes_146 : decode cX6_takes 146 = .ok (.istore_n 2, 1) := by decide +kernel
theorem dX6_takes_147 : decode cX6_takes 147 = .ok (.iload_n 2, 1) := by decide +kernel
theorem dX6_takes_148 : decode cX6_takes 148 = .ok (.ifCond .eq 52, 3) := by decide +kernel
theorem dX6_takes_151 : decode cX6_takes 151 = .ok (.aload_n 0, 1) := by decide +kernel
theorem dX6_takes_152 : decode cX6_takes 152 = .ok (.getfield 23, 3) := by decide +kernel
theorem dX6_takes_155 : decode cX6_takes 155 = .ok (.aload_n 0, 1) := by decide +kernel
theorem dX6_takes_156 : decode cX6_takes 156 = .ok (.getfield 39, 3) := by decide +kernel
theorem dX6_takes_159 : decode cX6_takes 159 = .ok (.aload_n 0, 1) := by decide +kernel
theorem dX6_takes_160 : decode cX6_takes 160 = .ok (.getfield 45, 3) := by decide +kernel
theorem dX6_takes_163 : decode cX6_takes 163 = .ok (.ifCond .ne 7, 3) := by decide +kernel
theorem dX6_takes_166 : decode cX6_takes 166 = .ok (.iconst 0, 1) := by decide +kernel
theorem dX6_takes_167 : decode cX6_takes 167 = .ok (.goto 12, 3) := by decide +kernel
theorem dX6_takes_170 : decode cX6_takes 170 = .ok (.aload_n 0, 1) := by decide +kernel
theorem dX6_takes_171 : decode cX6_takes 171 = .ok (.getfield 23, 3) := by decide +kernel
theorem dX6_takes_174 : decode cX6_takes 174 = .ok (.aload_n 0, 1) := by decide +kernel
theorem dX6_takes_175 : decode cX6_takes 175 = .ok (.getfield 39, 3) := by decide +kernel
theorem dX6_takes_178 : decode cX6_takes 178 = .ok (.iaload, 1) := by decide +kernel
theorem dX6_takes_179 : decode cX6_takes 179 = .ok (.iload_n 1, 1) := by decide +kernel
theorem dX6_takes_180 : decode cX6_takes 180 = .ok (.bipush 48, 2) := by decide +kernel
theorem dX6_takes_182 : decode cX6_takes 182 = .ok (.isub, 1) := by decide +kernel
theorem dX6_takes_183 : decode cX6_takes 183 = .ok (.aload_n 0, 1) := by decide +kernel
theorem dX6_takes_184 : decode cX6_takes 184 = .ok (.getfield 45, 3) := by decide +kernel
theorem dX6_takes_187 : decode cX6_takes 187 = .ok (.ishl, 1) := by decide +kernel
theorem dX6_takes_188 : decode cX6_takes 188 = .ok (.ior, 1) := by decide +kernel
theorem dX6_takes_189 : decode cX6_takes 189 = .ok (.iastore, 1) := by decide +kernel
theorem dX6_takes_190 : decode cX6_takes 190 = .ok (.aload_n 0, 1) := by decide +kernel
theorem dX6_takes_191 : decode cX6_takes 191 = .ok (.dup, 1) := by decide +kernel
theorem dX6_takes_192 : decode cX6_takes 192 = .ok (.getfield 45, 3) := by decide +kernel
theorem dX6_takes_195 : decode cX6_takes 195 = .ok (.iconst 1, 1) := by decide +kernel
theorem dX6_takes_196 : decode cX6_takes 196 = .ok (.iadd, 1) := by decide +kernel
theorem dX6_takes_197 : decode cX6_takes 197 = .ok (.putfield 45, 3) := by decide +kernel
theorem dX6_takes_200 : decode cX6_takes 200 = .ok (.iload_n 2, 1) := by decide +kernel
theorem dX6_takes_201 : decode cX6_takes 201 = .ok (.ireturn, 1) := by decide +kernel
set_option maxRecDepth 20000 in
theorem ggX6_goAlong_X6_takes : GoodIn wsX6_goAlong wsX6_takes := goodIn_r _ [10, 1, 3, 2, 11, 12, 13, 14, 15, 16, 17, 18, 19, 20, 21, 22, 23, 24, 25, 26, 27, 28, 29, 30, 31, 32] (by decide +kernel) (by decide +kernel)
set_option maxRecDepth 20000 in
theorem gX6_goAlong_X6_takes : GoodIn wsX6_goAlong (wsV RX6 48 RX6 yX6_takes wsX6_takes) := goodIn_app (goodIn_of _ (by decide +kernel)) ggX6_goAlong_X6_takes
theorem dX6_goAlong_0 : decode cX6_goAlong 0 = .ok (.aload_n 0, 1) := by decide +kernel
theorem dX6_goAlong_1 : decode cX6_goAlong 1 = .ok (.iconst 0, 1) := by decide +kernel
theorem dX6_goAlong_2 : decode cX6_goAlong 2 = .ok (.putfield 39, 3) := by decide +kernel
theorem dX6_goAlong_5 : decode cX6_goAlong 5 = .ok (.aload_n 0, 1) := by decide +kernel
theorem dX6_goAlong_6 : decode cX6_goAlong 6 = .ok (.iconst 0, 1) := by decide +kernel
theorem dX6_goAlong_7 : decode cX6_goAlong 7 = .ok (.putfield 45, 3) := by decide +kernel
theorem dX6_goAlong_10 : decode cX6_goAlong 10 = .ok (.aload_n 0, 1) := by decide +kernel
theorem dX6_goAlong_11 : decode cX6_goAlong 11 = .ok (.iconst 0, 1) := by decide +kernel
theorem dX6_goAlong_12 : decode cX6_goAlong 12 = .ok (.putfield 42, 3) := by decide +kernel
theorem dX6_goAlong_15 : decode cX6_goAlong 15 = .ok (.iconst 0, 1) := by decide +kernel
theorem dX6_goAlong_16 : decode cX6_goAlong 16 = .ok (.istore_n 1, 1) := by decide +kernel
theorem dX6_goAlong_17 : decode cX6_goAlong 17 = .ok (.iload_n 1, 1) := by decide +kernel
theorem dX6_goAlong_18 : decode cX6_goAlong 18 = .ok (.aload_n 0, 1) := by decide +kernel
theorem dX6_goAlong_19 : decode cX6_goAlong 19 = .ok (.getfield 36, 3) := by decide +kernel
theorem dX6_goAlong_22 : decode cX6_goAlong 22 = .ok (.if_icmp .ge 22, 3) := by decide +kernel
theorem dX6_goAlong_25 : decode cX6_goAlong 25 = .ok (.aload_n 0, 1) := by decide +kernel
theorem dX6_goAlong_26 : decode cX6_goAlong 26 = .ok (.aload_n 0, 1) := by decide +kernel
theorem dX6_goAlong_27 : decode cX6_goAlong 27 = .ok (.getfield 7, 3) := by decide +kernel
theorem dX6_goAlong_30 : decode cX6_goAlong 30 = .ok (.iload_n 1, 1) := by decide +kernel
theorem dX6_goAlong_31 : decode cX6_goAlong 31 = .ok (.iaload, 1) := by decide +kernel
theorem dX6_goAlong_32 : decode cX6_goAlong 32 = .ok (.invokevirtual 48, 3) := by decide +kernel
theorem dX6_goAlong_35 : decode cX6_goAlong 35 = .ok (.ifCond .eq 9, 3) := by decide +kernel
theorem dX6_goAlong_38 : decode cX6_goAlong 38 = .ok (.iinc 1 1, 3) := by decide +kernel
theorem dX6_goAlong_41 : decode cX6_goAlong 41 = .ok (.goto (-24), 3) := by decide +kernel
theorem dX6_goAlong_44 : decode cX6_goAlong 44 = .ok (.iload_n 1, 1) := by decide +kernel
theorem dX6_goAlong_45 : decode cX6_goAlong 45 = .ok (.ireturn, 1) := by decide +kernel
set_option maxRecDepth 20000 in
theorem ggX6_fault_X6_goAlong : GoodIn wsX6_fault wsX6_goAlong := goodIn_r _ [5, 6, 7, 8, 9, 10, 11, 12, 13, 4, 14, 15, 16, 17, 18, 19, 20, 21, 22, 23, 24, 25, 26, 27, 28, 29, 30, 31, 32, 33, 34, 35, 36] (by decide +kernel) (by decide +kernel)
set_option maxRecDepth 20000 in
theorem gX6_fault_X6_goAlong : GoodIn wsX6_fault (wsV RX6 52 RX6 yX6_goAlong wsX6_goAlong) := goodIn_app (goodIn_of _ (by decide +kernel)) ggX6_fault_X6_goAlong
theorem dX6_fault_0 : decode cX6_fault 0 = .ok (.aload_n 0, 1) := by decide +kernel
theorem dX6_fault_1 : decode cX6_fault 1 = .ok (.invokevirtual 52, 3) := by decide +kernel
theorem dX6_fault_4 : decode cX6_fault 4 = .ok (.ireturn, 1) := by decide +kernel
set_option maxRecDepth 20000 in
theorem ggX6_sums_X6_goAlong : GoodIn wsX6_sums wsX6_goAlong := goodIn_r _ [14, 4, 3, 2, 1, 15, 16, 17, 18, 13, 19, 8, 53, 54, 55, 56, 57, 58, 59, 60, 61, 62, 63, 64, 65, 66, 67, 68, 69, 70, 71, 72, 73] (by decide +kernel) (by decide +kernel)
set_option maxRecDepth 20000 in
theorem gX6_sums_X6_goAlong : GoodIn wsX6_sums (wsV RX6 52 RX6 yX6_goAlong wsX6_goAlong) := goodIn_app (goodIn_of _ (by decide +kernel)) ggX6_sums_X6_goAlong
set_option maxRecDepth 20000 in
theorem ggX6_sums_X6_layAll : GoodIn wsX6_sums wsX6_layAll := goodIn_r _ [23, 24, 25, 26, 27, 28, 29, 30, 13, 31, 6, 32, 33, 34, 35, 5, 7, 36, 37, 38, 39, 40, 41, 42, 43, 44, 45, 46, 47, 48, 49, 50, 51, 52, 53, 54, 55, 56, 57, 58, 59, 60, 61, 62, 63, 64, 65, 66, 67, 68, 69, 70, 71, 72, 73] (by decide +kernel) (by decide +kernel)
set_option maxRecDepth 20000 in
theorem gX6_sums_X6_layAll : GoodIn wsX6_sums (wsV RX6 65 RX6 yX6_layAll wsX6_layAll) := goodIn_app (goodIn_of _ (by decide +kernel)) ggX6_sums_X6_layAll
theorem dX6_sums_0 : decode cX6_sums 0 = .ok (.aload_n 0, 1) := by decide +kernel
theorem dX6_sums_1 : decode cX6_sums 1 = .ok (.invokevirtual 52, 3) := by decide +kernel
theorem dX6_sums_4 : decode cX6_sums 4 = .ok (.aload_n 0, 1) := by decide +kernel
theorem dX6_sums_5 : decode cX6_sums 5 = .ok (.getfield 36, 3) := by decide +kernel
theorem dX6_sums_8 : decode cX6_sums 8 = .ok (.if_icmp .lt 32, 3) := by decide +kernel
theorem dX6_sums_11 : decode cX6_sums 11 = .ok (.aload_n 0, 1) := by decide +kernel
theorem dX6_sums_12 : decode cX6_sums 12 = .ok (.getfield 42, 3) := by decide +kernel
theorem dX6_sums_15 : decode cX6_sums 15 = .ok (.ifCond .ne 14, 3) := by decide +kernel
theorem dX6_sums_18 : decode cX6_sums 18 = .ok (.aload_n 0, 1) := by decide +kernel
theorem dX6_sums_19 : decode cX6_sums 19 = .ok (.getfield 45, 3) := by decide +kernel
theorem dX6_sums_22 : decode cX6_sums 22 = .ok (.iconst 3, 1) := by decide +kernel
theorem dX6_sums_23 : decode cX6_sums 23 = .ok (.if_icmp .ge 21, 3) := by decide +kernel
theorem dX6_sums_26 : decode cX6_sums 26 = .ok (.goto 14, 3) := by decide +kernel
theorem dX6_sums_29 : decode cX6_sums 29 = .ok (.aload_n 0, 1) := by decide +kernel
theorem dX6_sums_30 : decode cX6_sums 30 = .ok (.getfield 45, 3) := by decide +kernel
theorem dX6_sums_33 : decode cX6_sums 33 = .ok (.aload_n 0, 1) := by decide +kernel
theorem dX6_sums_34 : decode cX6_sums 34 = .ok (.getfield 42, 3) := by decide +kernel
theorem dX6_sums_37 : decode cX6_sums 37 = .ok (.if_icmp .eq 7, 3) := by decide +kernel
theorem dX6_sums_40 : decode cX6_sums 40 = .ok (.sipush (-1003), 3) := by decide +kernel
theorem dX6_sums_43 : decode cX6_sums 43 = .ok (.ireturn, 1) := by decide +kernel
theorem dX6_sums_44 : decode cX6_sums 44 = .ok (.aload_n 0, 1) := by decide +kernel
theorem dX6_sums_45 : decode cX6_sums 45 = .ok (.aload_n 0, 1) := by decide +kernel
theorem dX6_sums_46 : decode cX6_sums 46 = .ok (.getfield 39, 3) := by decide +kernel
theorem dX6_sums_49 : decode cX6_sums 49 = .ok (.iconst 1, 1) := by decide +kernel
theorem dX6_sums_50 : decode cX6_sums 50 = .ok (.iadd, 1) := by decide +kernel
theorem dX6_sums_51 : decode cX6_sums 51 = .ok (.putfield 56, 3) := by decide +kernel
theorem dX6_sums_54 : decode cX6_sums 54 = .ok (.aload_n 0, 1) := by decide +kernel
theorem dX6_sums_55 : decode cX6_sums 55 = .ok (.aload_n 0, 1) := by decide +kernel
theorem dX6_sums_56 : decode cX6_sums 56 = .ok (.getfield 45, 3) := by decide +kernel
theorem dX6_sums_59 : decode cX6_sums 59 = .ok (.putfield 59, 3) := by decide +kernel
theorem dX6_sums_62 : decode cX6_sums 62 = .ok (.iconst 0, 1) := by decide +kernel
theorem dX6_sums_63 : decode cX6_sums 63 = .ok (.istore_n 1, 1) := by decide +kernel
theorem dX6_sums_64 : decode cX6_sums 64 = .ok (.iload_n 1, 1) := by decide +kernel
theorem dX6_sums_65 : decode cX6_sums 65 = .ok (.aload_n 0, 1) := by decide +kernel
theorem dX6_sums_66 : decode cX6_sums 66 = .ok (.getfield 56, 3) := by decide +kernel
theorem dX6_sums_69 : decode cX6_sums 69 = .ok (.if_icmp .ge 21, 3) := by decide +kernel
theorem dX6_sums_72 : decode cX6_sums 72 = .ok (.aload_n 0, 1) := by decide +kernel
theorem dX6_sums_73 : decode cX6_sums 73 = .ok (.getfield 13, 3) := by decide +kernel
theorem dX6_sums_76 : decode cX6_sums 76 = .ok (.iload_n 1, 1) := by decide +kernel
theorem dX6_sums_77 : decode cX6_sums 77 = .ok (.aload_n 0, 1) := by decide +kernel
theorem dX6_sums_78 : decode cX6_sums 78 = .ok (.getfield 23, 3) := by decide +kernel
theorem dX6_sums_81 : decode cX6_sums 81 = .ok (.iload_n 1, 1) := by decide +kernel
theorem dX6_sums_82 : decode cX6_sums 82 = .ok (.iaload, 1) := by decide +kernel
theorem dX6_sums_83 : decode cX6_sums 83 = .ok (.iastore, 1) := by decide +kernel
theorem dX6_sums_84 : decode cX6_sums 84 = .ok (.iinc 1 1, 3) := by decide +kernel
theorem dX6_sums_87 : decode cX6_sums 87 = .ok (.goto (-23), 3) := by decide +kernel
theorem dX6_sums_90 : decode cX6_sums 90 = .ok (.aload_n 0, 1) := by decide +kernel
theorem dX6_sums_91 : decode cX6_sums 91 = .ok (.dup, 1) := by decide +kernel
theorem dX6_sums_92 : decode cX6_sums 92 = .ok (.getfield 62, 3) := by decide +kernel
theorem dX6_sums_95 : decode cX6_sums 95 = .ok (.iconst 1, 1) := by decide +kernel
theorem dX6_sums_96 : decode cX6_sums 96 = .ok (.iadd, 1) := by decide +kernel
theorem dX6_sums_97 : decode cX6_sums 97 = .ok (.putfield 62, 3) := by decide +kernel
theorem dX6_sums_100 : decode cX6_sums 100 = .ok (.aload_n 0, 1) := by decide +kernel
theorem dX6_sums_101 : decode cX6_sums 101 = .ok (.iconst 0, 1) := by decide +kernel
theorem dX6_sums_102 : decode cX6_sums 102 = .ok (.putfield 36, 3) := by decide +kernel
theorem dX6_sums_105 : decode cX6_sums 105 = .ok (.aload_n 0, 1) := by decide +kernel
theorem dX6_sums_106 : decode cX6_sums 106 = .ok (.invokevirtual 65, 3) := by decide +kernel
theorem dX6_sums_109 : decode cX6_sums 109 = .ok (.aload_n 0, 1) := by decide +kernel
theorem dX6_sums_110 : decode cX6_sums 110 = .ok (.getfield 59, 3) := by decide +kernel
theorem dX6_sums_113 : decode cX6_sums 113 = .ok (.ireturn, 1) := by decide +kernel
set_option maxRecDepth 20000 in
theorem ggX6_syndromeBy_X6_ones : GoodIn wsX6_syndromeBy wsX6_ones := goodIn_r _ [6] (by decide +kernel) (by decide +kernel)
set_option maxRecDepth 20000 in
theorem gX6_syndromeBy_X6_ones : GoodIn wsX6_syndromeBy (va_wsS RX6 68 yX6_ones wsX6_ones) := goodIn_app (goodIn_of _ (by decide +kernel)) ggX6_syndromeBy_X6_ones
theorem dX6_syndromeBy_0 : decode cX6_syndromeBy 0 = .ok (.iconst 0, 1) := by decide +kernel
theorem dX6_syndromeBy_1 : decode cX6_syndromeBy 1 = .ok (.istore_n 2, 1) := by decide +kernel
theorem dX6_syndromeBy_2 : decode cX6_syndromeBy 2 = .ok (.iconst 0, 1) := by decide +kernel
theorem dX6_syndromeBy_3 : decode cX6_syndromeBy 3 = .ok (.istore_n 3, 1) := by decide +kernel
theorem dX6_syndromeBy_4 : decode cX6_syndromeBy 4 = .ok (.iload_n 3, 1) := by decide +kernel
theorem dX6_syndromeBy_5 : decode cX6_syndromeBy 5 = .ok (.aload_n 0, 1) := by decide +kernel
theorem dX6_syndromeBy_6 : decode cX6_syndromeBy 6 = .ok (.getfield 56, 3) := by decide +kernel
theorem dX6_syndromeBy_9 : decode cX6_syndromeBy 9 = .ok (.if_icmp .ge 27, 3) := by decide +kernel
theorem dX6_syndromeBy_12 : decode cX6_syndromeBy 12 = .ok (.iload_n 2, 1) := by decide +kernel
theorem dX6_syndromeBy_13 : decode cX6_syndromeBy 13 = .ok (.aload_n 0, 1) := by decide +kernel
theorem dX6_syndromeBy_14 : decode cX6_syndromeBy 14 = .ok (.getfield 13, 3) := by decide +kernel
theorem dX6_syndromeBy_17 : decode cX6_syndromeBy 17 = .ok (.iload_n 3, 1) := by decide +kernel
theorem dX6_syndromeBy_18 : decode cX6_syndromeBy 18 = .ok (.iaload, 1) := by decide +kernel
theorem dX6_syndromeBy_19 : decode cX6_syndromeBy 19 = .ok (.iload_n 1, 1) := by decide +kernel
theorem dX6_syndromeBy_20 : decode cX6_syndromeBy 20 = .ok (.iand, 1) := by decide +kernel
theorem dX6_syndromeBy_21 : decode cX6_syndromeBy 21 = .ok (.invokestatic 68, 3) := by decide +kernel
theorem dX6_syndromeBy_24 : decode cX6_syndromeBy 24 = .ok (.iconst 2, 1) := by decide +kernel
theorem dX6_syndromeBy_25 : decode cX6_syndromeBy 25 = .ok (.irem, 1) := by decide +kernel
theorem dX6_syndromeBy_26 : decode cX6_syndromeBy 26 = .ok (.iload_n 3, 1) := by decide +kernel
theorem dX6_syndromeBy_27 : decode cX6_syndromeBy 27 = .ok (.ishl, 1) := by decide +kernel
theorem dX6_syndromeBy_28 : decode cX6_syndromeBy 28 = .ok (.ior, 1) := by decide +kernel
theorem dX6_syndromeBy_29 : decode cX6_syndromeBy 29 = .ok (.istore_n 2, 1) := by decide +kernel
theorem dX6_syndromeBy_30 : decode cX6_syndromeBy 30 = .ok (.iinc 3 1, 3) := by decide +kernel
theorem dX6_syndromeBy_33 : decode cX6_syndromeBy 33 = .ok (.goto (-29), 3) := by decide +kernel
theorem dX6_syndromeBy_36 : decode cX6_syndromeBy 36 = .ok (.iload_n 2, 1) := by decide +kernel
theorem dX6_syndromeBy_37 : decode cX6_syndromeBy 37 = .ok (.ireturn, 1) := by decide +kernel
theorem dX6_words_0 : decode cX6_words 0 = .ok (.iconst 1, 1) := by decide +kernel
theorem dX6_words_1 : decode cX6_words 1 = .ok (.aload_n 0, 1) := by decide +kernel
theorem dX6_words_2 : decode cX6_words 2 = .ok (.getfield 59, 3) := by decide +kernel
theorem dX6_words_5 : decode cX6_words 5 = .ok (.ishl, 1) := by decide +kernel
theorem dX6_words_6 : decode cX6_words 6 = .ok (.ireturn, 1) := by decide +kernel
set_option maxRecDepth 20000 in
theorem ggX6_layAll_X6_words : GoodIn wsX6_layAll wsX6_words := goodIn_r _ [9, 10, 34, 35, 36, 37, 38, 39, 40, 41, 42, 43, 44, 45, 46, 47, 48, 49, 50, 51, 52, 53, 54] (by decide +kernel) (by decide +kernel)
set_option maxRecDepth 20000 in
theorem gX6_layAll_X6_words : GoodIn wsX6_layAll (wsV RX6 72 RX6 yX6_words wsX6_words) := goodIn_app (goodIn_of _ (by decide +kernel)) ggX6_layAll_X6_words
set_option maxRecDepth 20000 in
theorem ggX6_layAll_X6_syndromeBy : GoodIn wsX6_layAll wsX6_syndromeBy := goodIn_r _ [14, 15, 16, 17, 18, 8, 19, 34, 35, 36, 37, 38, 39, 40, 41, 42, 43, 44, 45, 46, 47, 48, 49, 50, 51, 52, 53, 54] (by decide +kernel) (by decide +kernel)
set_option maxRecDepth 20000 in
theorem gX6_layAll_X6_syndromeBy : GoodIn wsX6_layAll (wsV RX6 75 RX6 yX6_syndromeBy wsX6_syndromeBy) := goodIn_app (goodIn_of _ (by decide +kernel)) ggX6_layAll_X6_syndromeBy
set_option maxRecDepth 20000 in
theorem ggX6_layAll_X6_ones : GoodIn wsX6_layAll wsX6_ones := goodIn_r _ [19] (by decide +kernel) (by decide +kernel)
set_option maxRecDepth 20000 in
theorem gX6_layAll_X6_ones : GoodIn wsX6_layAll (va_wsS RX6 68 yX6_ones wsX6_ones) := goodIn_app (goodIn_of _ (by decide +kernel)) ggX6_layAll_X6_ones
set_option maxRecDepth 20000 in
theorem ggX6_layAll_X6_distanceNow : GoodIn wsX6_layAll wsX6_distanceNow := goodIn_r _ [23, 5, 6, 7, 8, 9, 10, 11, 12, 13, 14, 15, 16, 17, 18, 19, 34, 35, 36, 37, 38, 39, 40, 41, 42, 43, 44, 45, 46, 47, 48, 49, 50, 51, 52, 53, 54] (by decide +kernel) (by decide +kernel)
set_option maxRecDepth 20000 in
theorem gX6_layAll_X6_distanceNow : GoodIn wsX6_layAll (wsV RX6 81 RX6 yX6_distanceNow wsX6_distanceNow) := goodIn_app (goodIn_of _ (by decide +kernel)) ggX6_layAll_X6_distanceNow
set_option maxRecDepth 20000 in
theorem ggX6_layAll_X6_layReach : GoodIn wsX6_layAll wsX6_layReach := goodIn_r _ [27, 10, 28, 29, 1, 2, 5, 6, 7, 8, 9, 17, 18, 19, 30, 31, 32, 33, 34, 35, 36, 37, 38, 39, 40, 41, 42, 43, 44, 45, 46, 47, 48, 49, 50, 51, 52, 53, 54] (by decide +kernel) (by decide +kernel)
set_option maxRecDepth 20000 in
theorem gX6_layAll_X6_layReach : GoodIn wsX6_layAll (wsV RX6 87 RX6 yX6_layReach wsX6_layReach) := goodIn_app (goodIn_of _ (by decide +kernel)) ggX6_layAll_X6_layReach
theorem dX6_layAll_0 : decode cX6_layAll 0 = .ok (.iconst 0, 1) := by decide +kernel
theorem dX6_layAll_1 : decode cX6_layAll 1 = .ok (.istore_n 1, 1) := by decide +kernel
theorem dX6_layAll_2 : decode cX6_layAll 2 = .ok (.iload_n 1, 1) := by decide +kernel
theorem dX6_layAll_3 : decode cX6_layAll 3 = .ok (.bipush 32, 2) := by decide +kernel
theorem dX6_layAll_5 : decode cX6_layAll 5 = .ok (.if_icmp .ge 18, 3) := by decide +kernel
theorem dX6_layAll_8 : decode cX6_layAll 8 = .ok (.aload_n 0, 1) := by decide +kernel
theorem dX6_layAll_9 : decode cX6_layAll 9 = .ok (.getfield 29, 3) := by decide +kernel
theorem dX6_layAll_12 : decode cX6_layAll 12 = .ok (.iload_n 1, 1) := by decide +kernel
theorem dX6_layAll_13 : decode cX6_layAll 13 = .ok (.sipush (-1001), 3) := by decide +kernel
theorem dX6_layAll_16 : decode cX6_layAll 16 = .ok (.iastore, 1) := by decide +kernel
theorem dX6_layAll_17 : decode cX6_layAll 17 = .ok (.iinc 1 1, 3) := by decide +kernel
theorem dX6_layAll_20 : decode cX6_layAll 20 = .ok (.goto (-18), 3) := by decide +kernel
theorem dX6_layAll_23 : decode cX6_layAll 23 = .ok (.iconst 0, 1) := by decide +kernel
theorem dX6_layAll_24 : decode cX6_layAll 24 = .ok (.istore_n 1, 1) := by decide +kernel
theorem dX6_layAll_25 : decode cX6_layAll 25 = .ok (.iconst 0, 1) := by decide +kernel
theorem dX6_layAll_26 : decode cX6_layAll 26 = .ok (.istore_n 2, 1) := by decide +kernel
theorem dX6_layAll_27 : decode cX6_layAll 27 = .ok (.iload_n 2, 1) := by decide +kernel
theorem dX6_layAll_28 : decode cX6_layAll 28 = .ok (.aload_n 0, 1) := by decide +kernel
theorem dX6_layAll_29 : decode cX6_layAll 29 = .ok (.invokevirtual 72, 3) := by decide +kernel
theorem dX6_layAll_32 : decode cX6_layAll 32 = .ok (.if_icmp .ge 81, 3) := by decide +kernel
theorem dX6_layAll_35 : decode cX6_layAll 35 = .ok (.aload_n 0, 1) := by decide +kernel
theorem dX6_layAll_36 : decode cX6_layAll 36 = .ok (.getfield 26, 3) := by decide +kernel
theorem dX6_layAll_39 : decode cX6_layAll 39 = .ok (.iload_n 2, 1) := by decide +kernel
theorem dX6_layAll_40 : decode cX6_layAll 40 = .ok (.aload_n 0, 1) := by decide +kernel
theorem dX6_layAll_41 : decode cX6_layAll 41 = .ok (.iload_n 2, 1) := by decide +kernel
theorem dX6_layAll_42 : decode cX6_layAll 42 = .ok (.invokevirtual 75, 3) := by decide +kernel
theorem dX6_layAll_45 : decode cX6_layAll 45 = .ok (.iastore, 1) := by decide +kernel
theorem dX6_layAll_46 : decode cX6_layAll 46 = .ok (.aload_n 0, 1) := by decide +kernel
theorem dX6_layAll_47 : decode cX6_layAll 47 = .ok (.getfield 29, 3) := by decide +kernel
theorem dX6_layAll_50 : decode cX6_layAll 50 = .ok (.aload_n 0, 1) := by decide +kernel
theorem dX6_layAll_51 : decode cX6_layAll 51 = .ok (.getfield 26, 3) := by decide +kernel
theorem dX6_layAll_54 : decode cX6_layAll 54 = .ok (.iload_n 2, 1) := by decide +kernel
theorem dX6_layAll_55 : decode cX6_layAll 55 = .ok (.iaload, 1) := by decide +kernel
theorem dX6_layAll_56 : decode cX6_layAll 56 = .ok (.iaload, 1) := by decide +kernel
theorem dX6_layAll_57 : decode cX6_layAll 57 = .ok (.istore_n 3, 1) := by decide +kernel
theorem dX6_layAll_58 : decode cX6_layAll 58 = .ok (.iload_n 1, 1) := by decide +kernel
theorem dX6_layAll_59 : decode cX6_layAll 59 = .ok (.iload_n 3, 1) := by decide +kernel
theorem dX6_layAll_60 : decode cX6_layAll 60 = .ok (.sipush (-1001), 3) := by decide +kernel
theorem dX6_layAll_63 : decode cX6_layAll 63 = .ok (.if_icmp .ne 7, 3) := by decide +kernel
theorem dX6_layAll_66 : decode cX6_layAll 66 = .ok (.iconst 1, 1) := by decide +kernel
theorem dX6_layAll_67 : decode cX6_layAll 67 = .ok (.goto 4, 3) := by decide +kernel
theorem dX6_layAll_70 : decode cX6_layAll 70 = .ok (.iconst 0, 1) := by decide +kernel
theorem dX6_layAll_71 : decode cX6_layAll 71 = .ok (.iadd, 1) := by decide +kernel
theorem dX6_layAll_72 : decode cX6_layAll 72 = .ok (.istore_n 1, 1) := by decide +kernel
theorem dX6_layAll_73 : decode cX6_layAll 73 = .ok (.aload_n 0, 1) := by decide +kernel
theorem dX6_layAll_74 : decode cX6_layAll 74 = .ok (.getfield 29, 3) := by decide +kernel
theorem dX6_layAll_77 : decode cX6_layAll 77 = .ok (.aload_n 0, 1) := by decide +kernel
theorem dX6_layAll_78 : decode cX6_layAll 78 = .ok (.getfield 26, 3) := by decide +kernel
theorem dX6_layAll_81 : decode cX6_layAll 81 = .ok (.iload_n 2, 1) := by decide +kernel
theorem dX6_layAll_82 : decode cX6_layAll 82 = .ok (.iaload, 1) := by decide +kernel
theorem dX6_layAll_83 : decode cX6_layAll 83 = .ok (.iload_n 3, 1) := by decide +kernel
theorem dX6_layAll_84 : decode cX6_layAll 84 = .ok (.sipush (-1001), 3) := by decide +kernel
theorem dX6_layAll_87 : decode cX6_layAll 87 = .ok (.if_icmp .eq 14, 3) := by decide +kernel
theorem dX6_layAll_90 : decode cX6_layAll 90 = .ok (.iload_n 2, 1) := by decide +kernel
theorem dX6_layAll_91 : decode cX6_layAll 91 = .ok (.invokestatic 68, 3) := by decide +kernel
theorem dX6_layAll_94 : decode cX6_layAll 94 = .ok (.iload_n 3, 1) := by decide +kernel
theorem dX6_layAll_95 : decode cX6_layAll 95 = .ok (.invokestatic 68, 3) := by decide +kernel
theorem dX6_layAll_98 : decode cX6_layAll 98 = .ok (.if_icmp .ge 7, 3) := by decide +kernel
theorem dX6_layAll_101 : decode cX6_layAll 101 = .ok (.iload_n 2, 1) := by decide +kernel
theorem dX6_layAll_102 : decode cX6_layAll 102 = .ok (.goto 4, 3) := by decide +kernel
theorem dX6_layAll_105 : decode cX6_layAll 105 = .ok (.iload_n 3, 1) := by decide +kernel
theorem dX6_layAll_106 : decode cX6_layAll 106 = .ok (.iastore, 1) := by decide +kernel
theorem dX6_layAll_107 : decode cX6_layAll 107 = .ok (.iinc 2 1, 3) := by decide +kernel
theorem dX6_layAll_110 : decode cX6_layAll 110 = .ok (.goto (-83), 3) := by decide +kernel
theorem dX6_layAll_113 : decode cX6_layAll 113 = .ok (.aload_n 0, 1) := by decide +kernel
theorem dX6_layAll_114 : decode cX6_layAll 114 = .ok (.iconst 0, 1) := by decide +kernel
theorem dX6_layAll_115 : decode cX6_layAll 115 = .ok (.putfield 78, 3) := by decide +kernel
theorem dX6_layAll_118 : decode cX6_layAll 118 = .ok (.iconst 1, 1) := by decide +kernel
theorem dX6_layAll_119 : decode cX6_layAll 119 = .ok (.aload_n 0, 1) := by decide +kernel
theorem dX6_layAll_120 : decode cX6_layAll 120 = .ok (.getfield 78, 3) := by decide +kernel
theorem dX6_layAll_123 : decode cX6_layAll 123 = .ok (.ishl, 1) := by decide +kernel
theorem dX6_layAll_124 : decode cX6_layAll 124 = .ok (.iload_n 1, 1) := by decide +kernel
theorem dX6_layAll_125 : decode cX6_layAll 125 = .ok (.if_icmp .ge 16, 3) := by decide +kernel
theorem dX6_layAll_128 : decode cX6_layAll 128 = .ok (.aload_n 0, 1) := by decide +kernel
theorem dX6_layAll_129 : decode cX6_layAll 129 = .ok (.dup, 1) := by decide +kernel
theorem dX6_layAll_130 : decode cX6_layAll 130 = .ok (.getfield 78, 3) := by decide +kernel
theorem dX6_layAll_133 : decode cX6_layAll 133 = .ok (.iconst 1, 1) := by decide +kernel
theorem dX6_layAll_134 : decode cX6_layAll 134 = .ok (.iadd, 1) := by decide +kernel
theorem dX6_layAll_135 : decode cX6_layAll 135 = .ok (.putfield 78, 3) := by decide +kernel
theorem dX6_layAll_138 : decode cX6_layAll 138 = .ok (.goto (-20), 3) := by decide +kernel
theorem dX6_layAll_141 : decode cX6_layAll 141 = .ok (.aload_n 0, 1) := by decide +kernel
theorem dX6_layAll_142 : decode cX6_layAll 142 = .ok (.aload_n 0, 1) := by decide +kernel
theorem dX6_layAll_143 : decode cX6_layAll 143 = .ok (.invokevirtual 81, 3) := by decide +kernel
theorem dX6_layAll_146 : decode cX6_layAll 146 = .ok (.putfield 84, 3) := by decide +kernel
theorem dX6_layAll_149 : decode cX6_layAll 149 = .ok (.aload_n 0, 1) := by decide +kernel
theorem dX6_layAll_150 : decode cX6_layAll 150 = .ok (.invokevirtual 87, 3) := by decide +kernel
theorem dX6_layAll_153 : decode cX6_layAll 153 = .ok (.return_, 1) := by decide +kernel
set_option maxRecDepth 20000 in
theorem ggX6_distanceNow_X6_words : GoodIn wsX6_distanceNow wsX6_words := goodIn_r _ [5, 6, 16, 17, 18, 19, 20, 21, 22, 23, 24, 25, 26, 27, 28, 29, 30, 31, 32, 33, 34, 35, 36] (by decide +kernel) (by decide +kernel)
set_option maxRecDepth 20000 in
theorem gX6_distanceNow_X6_words : GoodIn wsX6_distanceNow (wsV RX6 72 RX6 yX6_words wsX6_words) := goodIn_app (goodIn_of _ (by decide +kernel)) ggX6_distanceNow_X6_words
set_option maxRecDepth 20000 in
theorem ggX6_distanceNow_X6_syndromeBy : GoodIn wsX6_distanceNow wsX6_syndromeBy := goodIn_r _ [10, 11, 12, 13, 14, 4, 15, 16, 17, 18, 19, 20, 21, 22, 23, 24, 25, 26, 27, 28, 29, 30, 31, 32, 33, 34, 35, 36] (by decide +kernel) (by decide +kernel)
set_option maxRecDepth 20000 in
theorem gX6_distanceNow_X6_syndromeBy : GoodIn wsX6_distanceNow (wsV RX6 75 RX6 yX6_syndromeBy wsX6_syndromeBy) := goodIn_app (goodIn_of _ (by decide +kernel)) ggX6_distanceNow_X6_syndromeBy
set_option maxRecDepth 20000 in
theorem ggX6_distanceNow_X6_ones : GoodIn wsX6_distanceNow wsX6_ones := goodIn_r _ [15] (by decide +kernel) (by decide +kernel)
set_option maxRecDepth 20000 in
theorem gX6_distanceNow_X6_ones : GoodIn wsX6_distanceNow (va_wsS RX6 68 yX6_ones wsX6_ones) := goodIn_app (goodIn_of _ (by decide +kernel)) ggX6_distanceNow_X6_ones
theorem dX6_distanceNow_0 : decode cX6_distanceNow 0 = .ok (.sipush (-1001), 3) := by decide +kernel
theorem dX6_distanceNow_3 : decode cX6_distanceNow 3 = .ok (.istore_n 1, 1) := by decide +kernel
theorem dX6_distanceNow_4 : decode cX6_distanceNow 4 = .ok (.iconst 1, 1) := by decide +kernel
theorem dX6_distanceNow_5 : decode cX6_distanceNow 5 = .ok (.istore_n 2, 1) := by decide +kernel
theorem dX6_distanceNow_6 : decode cX6_distanceNow 6 = .ok (.iload_n 2, 1) := by decide +kernel
theorem dX6_distanceNow_7 : decode cX6_distanceNow 7 = .ok (.aload_n 0, 1) := by decide +kernel
theorem dX6_distanceNow_8 : decode cX6_distanceNow 8 = .ok (.invokevirtual 72, 3) := by decide +kernel
theorem dX6_distanceNow_11 : decode cX6_distanceNow 11 = .ok (.if_icmp .ge 41, 3) := by decide +kernel
theorem dX6_distanceNow_14 : decode cX6_distanceNow 14 = .ok (.aload_n 0, 1) := by decide +kernel
theorem dX6_distanceNow_15 : decode cX6_distanceNow 15 = .ok (.iload_n 2, 1) := by decide +kernel
theorem dX6_distanceNow_16 : decode cX6_distanceNow 16 = .ok (.invokevirtual 75, 3) := by decide +kernel
theorem dX6_distanceNow_19 : decode cX6_distanceNow 19 = .ok (.ifCond .ne 25, 3) := by decide +kernel
theorem dX6_distanceNow_22 : decode cX6_distanceNow 22 = .ok (.iload_n 1, 1) := by decide +kernel
theorem dX6_distanceNow_23 : decode cX6_distanceNow 23 = .ok (.sipush (-1001), 3) := by decide +kernel
theorem dX6_distanceNow_26 : decode cX6_distanceNow 26 = .ok (.if_icmp .eq 11, 3) := by decide +kernel
theorem dX6_distanceNow_29 : decode cX6_distanceNow 29 = .ok (.iload_n 2, 1) := by decide +kernel
theorem dX6_distanceNow_30 : decode cX6_distanceNow 30 = .ok (.invokestatic 68, 3) := by decide +kernel
theorem dX6_distanceNow_33 : decode cX6_distanceNow 33 = .ok (.iload_n 1, 1) := by decide +kernel
theorem dX6_distanceNow_34 : decode cX6_distanceNow 34 = .ok (.if_icmp .ge 10, 3) := by decide +kernel
theorem dX6_distanceNow_37 : decode cX6_distanceNow 37 = .ok (.iload_n 2, 1) := by decide +kernel
theorem dX6_distanceNow_38 : decode cX6_distanceNow 38 = .ok (.invokestatic 68, 3) := by decide +kernel
theorem dX6_distanceNow_41 : decode cX6_distanceNow 41 = .ok (.goto 4, 3) := by decide +kernel
theorem dX6_distanceNow_44 : decode cX6_distanceNow 44 = .ok (.iload_n 1, 1) := by decide +kernel
theorem dX6_distanceNow_45 : decode cX6_distanceNow 45 = .ok (.istore_n 1, 1) := by decide +kernel
theorem dX6_distanceNow_46 : decode cX6_distanceNow 46 = .ok (.iinc 2 1, 3) := by decide +kernel
theorem dX6_distanceNow_49 : decode cX6_distanceNow 49 = .ok (.goto (-43), 3) := by decide +kernel
theorem dX6_distanceNow_52 : decode cX6_distanceNow 52 = .ok (.iload_n 1, 1) := by decide +kernel
theorem dX6_distanceNow_53 : decode cX6_distanceNow 53 = .ok (.ireturn, 1) := by decide +kernel
set_option maxRecDepth 20000 in
theorem ggX6_isSole_X6_words : GoodIn wsX6_isSole wsX6_words := goodIn_r _ [6, 7, 11, 12, 13, 14, 15, 16, 17, 18, 19, 20, 21, 22, 23, 24, 25, 26, 27, 28, 29, 30, 31] (by decide +kernel) (by decide +kernel)
set_option maxRecDepth 20000 in
theorem gX6_isSole_X6_words : GoodIn wsX6_isSole (wsV RX6 72 RX6 yX6_words wsX6_words) := goodIn_app (goodIn_of _ (by decide +kernel)) ggX6_isSole_X6_words
set_option maxRecDepth 20000 in
theorem ggX6_isSole_X6_ones : GoodIn wsX6_isSole wsX6_ones := goodIn_r _ [10] (by decide +kernel) (by decide +kernel)
set_option maxRecDepth 20000 in
theorem gX6_isSole_X6_ones : GoodIn wsX6_isSole (va_wsS RX6 68 yX6_ones wsX6_ones) := goodIn_app (goodIn_of _ (by decide +kernel)) ggX6_isSole_X6_ones
theorem dX6_isSole_0 : decode cX6_isSole 0 = .ok (.iconst 0, 1) := by decide +kernel
theorem dX6_isSole_1 : decode cX6_isSole 1 = .ok (.istore_n 2, 1) := by decide +kernel
theorem dX6_isSole_2 : decode cX6_isSole 2 = .ok (.iconst 0, 1) := by decide +kernel
theorem dX6_isSole_3 : decode cX6_isSole 3 = .ok (.istore_n 3, 1) := by decide +kernel
theorem dX6_isSole_4 : decode cX6_isSole 4 = .ok (.iload_n 3, 1) := by decide +kernel
theorem dX6_isSole_5 : decode cX6_isSole 5 = .ok (.aload_n 0, 1) := by decide +kernel
theorem dX6_isSole_6 : decode cX6_isSole 6 = .ok (.invokevirtual 72, 3) := by decide +kernel
theorem dX6_isSole_9 : decode cX6_isSole 9 = .ok (.if_icmp .ge 48, 3) := by decide +kernel
theorem dX6_isSole_12 : decode cX6_isSole 12 = .ok (.iload_n 2, 1) := by decide +kernel
theorem dX6_isSole_13 : decode cX6_isSole 13 = .ok (.aload_n 0, 1) := by decide +kernel
theorem dX6_isSole_14 : decode cX6_isSole 14 = .ok (.getfield 26, 3) := by decide +kernel
theorem dX6_isSole_17 : decode cX6_isSole 17 = .ok (.iload_n 3, 1) := by decide +kernel
theorem dX6_isSole_18 : decode cX6_isSole 18 = .ok (.iaload, 1) := by decide +kernel
theorem dX6_isSole_19 : decode cX6_isSole 19 = .ok (.aload_n 0, 1) := by decide +kernel
theorem dX6_isSole_20 : decode cX6_isSole 20 = .ok (.getfield 26, 3) := by decide +kernel
theorem dX6_isSole_23 : decode cX6_isSole 23 = .ok (.iload_n 1, 1) := by decide +kernel
theorem dX6_isSole_24 : decode cX6_isSole 24 = .ok (.iaload, 1) := by decide +kernel
theorem dX6_isSole_25 : decode cX6_isSole 25 = .ok (.if_icmp .ne 23, 3) := by decide +kernel
theorem dX6_isSole_28 : decode cX6_isSole 28 = .ok (.iload_n 3, 1) := by decide +kernel
theorem dX6_isSole_29 : decode cX6_isSole 29 = .ok (.iload_n 1, 1) := by decide +kernel
theorem dX6_isSole_30 : decode cX6_isSole 30 = .ok (.if_icmp .eq 18, 3) := by decide +kernel
theorem dX6_isSole_33 : decode cX6_isSole 33 = .ok (.iload_n 3, 1) := by decide +kernel
theorem dX6_isSole_34 : decode cX6_isSole 34 = .ok (.invokestatic 68, 3) := by decide +kernel
theorem dX6_isSole_37 : decode cX6_isSole 37 = .ok (.iload_n 1, 1) := by decide +kernel
theorem dX6_isSole_38 : decode cX6_isSole 38 = .ok (.invokestatic 68, 3) := by decide +kernel
theorem dX6_isSole_41 : decode cX6_isSole 41 = .ok (.if_icmp .gt 7, 3) := by decide +kernel
theorem dX6_isSole_44 : decode cX6_isSole 44 = .ok (.iconst 1, 1) := by decide +kernel
theorem dX6_isSole_45 : decode cX6_isSole 45 = .ok (.goto 4, 3) := by decide +kernel
theorem dX6_isSole_48 : decode cX6_isSole 48 = .ok (.iconst 0, 1) := by decide +kernel
theorem dX6_isSole_49 : decode cX6_isSole 49 = .ok (.iadd, 1) := by decide +kernel
theorem dX6_isSole_50 : decode cX6_isSole 50 = .ok (.istore_n 2, 1) := by decide +kernel
theorem dX6_isSole_51 : decode cX6_isSole 51 = .ok (.iinc 3 1, 3) := by decide +kernel
theorem dX6_isSole_54 : decode cX6_isSole 54 = .ok (.goto (-50), 3) := by decide +kernel
theorem dX6_isSole_57 : decode cX6_isSole 57 = .ok (.iload_n 2, 1) := by decide +kernel
theorem dX6_isSole_58 : decode cX6_isSole 58 = .ok (.ifCond .ne 7, 3) := by decide +kernel
theorem dX6_isSole_61 : decode cX6_isSole 61 = .ok (.iconst 1, 1) := by decide +kernel
theorem dX6_isSole_62 : decode cX6_isSole 62 = .ok (.goto 4, 3) := by decide +kernel
theorem dX6_isSole_65 : decode cX6_isSole 65 = .ok (.iconst 0, 1) := by decide +kernel
theorem dX6_isSole_66 : decode cX6_isSole 66 = .ok (.ireturn, 1) := by decide +kernel
set_option maxRecDepth 20000 in
theorem ggX6_layReach_X6_words : GoodIn wsX6_layReach wsX6_words := goodIn_r _ [10, 1, 18, 19, 20, 21, 22, 23, 24, 25, 26, 27, 28, 29, 30, 31, 32, 33, 34, 35, 36, 37, 38] (by decide +kernel) (by decide +kernel)
set_option maxRecDepth 20000 in
theorem gX6_layReach_X6_words : GoodIn wsX6_layReach (wsV RX6 72 RX6 yX6_words wsX6_words) := goodIn_app (goodIn_of _ (by decide +kernel)) ggX6_layReach_X6_words
set_option maxRecDepth 20000 in
theorem ggX6_layReach_X6_ones : GoodIn wsX6_layReach wsX6_ones := goodIn_r _ [13] (by decide +kernel) (by decide +kernel)
set_option maxRecDepth 20000 in
theorem gX6_layReach_X6_ones : GoodIn wsX6_layReach (va_wsS RX6 68 yX6_ones wsX6_ones) := goodIn_app (goodIn_of _ (by decide +kernel)) ggX6_layReach_X6_ones
set_option maxRecDepth 20000 in
theorem ggX6_layReach_X6_isSole : GoodIn wsX6_layReach wsX6_isSole := goodIn_r _ [17, 5, 6, 7, 8, 9, 10, 1, 11, 12, 13, 18, 19, 20, 21, 22, 23, 24, 25, 26, 27, 28, 29, 30, 31, 32, 33, 34, 35, 36, 37, 38] (by decide +kernel) (by decide +kernel)
set_option maxRecDepth 20000 in
theorem gX6_layReach_X6_isSole : GoodIn wsX6_layReach (wsV RX6 96 RX6 yX6_isSole wsX6_isSole) := goodIn_app (goodIn_of _ (by decide +kernel)) ggX6_layReach_X6_isSole
theorem dX6_layReach_0 : decode cX6_layReach 0 = .ok (.aload_n 0, 1) := by decide +kernel
theorem dX6_layReach_1 : decode cX6_layReach 1 = .ok (.aload_n 0, 1) := by decide +kernel
theorem dX6_layReach_2 : decode cX6_layReach 2 = .ok (.getfield 59, 3) := by decide +kernel
theorem dX6_layReach_5 : decode cX6_layReach 5 = .ok (.putfield 90, 3) := by decide +kernel
theorem dX6_layReach_8 : decode cX6_layReach 8 = .ok (.aload_n 0, 1) := by decide +kernel
theorem dX6_layReach_9 : decode cX6_layReach 9 = .ok (.iconst 0, 1) := by decide +kernel
theorem dX6_layReach_10 : decode cX6_layReach 10 = .ok (.putfield 93, 3) := by decide +kernel
theorem dX6_layReach_13 : decode cX6_layReach 13 = .ok (.iconst 0, 1) := by decide +kernel
theorem dX6_layReach_14 : decode cX6_layReach 14 = .ok (.istore_n 1, 1) := by decide +kernel
theorem dX6_layReach_15 : decode cX6_layReach 15 = .ok (.iload_n 1, 1) := by decide +kernel
theorem dX6_layReach_16 : decode cX6_layReach 16 = .ok (.aload_n 0, 1) := by decide +kernel
theorem dX6_layReach_17 : decode cX6_layReach 17 = .ok (.invokevirtual 72, 3) := by decide +kernel
theorem dX6_layReach_20 : decode cX6_layReach 20 = .ok (.if_icmp .ge 79, 3) := by decide +kernel
theorem dX6_layReach_23 : decode cX6_layReach 23 = .ok (.iload_n 1, 1) := by decide +kernel
theorem dX6_layReach_24 : decode cX6_layReach 24 = .ok (.invokestatic 68, 3) := by decide +kernel
theorem dX6_layReach_27 : decode cX6_layReach 27 = .ok (.aload_n 0, 1) := by decide +kernel
theorem dX6_layReach_28 : decode cX6_layReach 28 = .ok (.getfield 90, 3) := by decide +kernel
theorem dX6_layReach_31 : decode cX6_layReach 31 = .ok (.if_icmp .gt 21, 3) := by decide +kernel
theorem dX6_layReach_34 : decode cX6_layReach 34 = .ok (.aload_n 0, 1) := by decide +kernel
theorem dX6_layReach_35 : decode cX6_layReach 35 = .ok (.iload_n 1, 1) := by decide +kernel
theorem dX6_layReach_36 : decode cX6_layReach 36 = .ok (.invokevirtual 96, 3) := by decide +kernel
theorem dX6_layReach_39 : decode cX6_layReach 39 = .ok (.ifCond .ne 13, 3) := by decide +kernel
theorem dX6_layReach_42 : decode cX6_layReach 42 = .ok (.aload_n 0, 1) := by decide +kernel
theorem dX6_layReach_43 : decode cX6_layReach 43 = .ok (.iload_n 1, 1) := by decide +kernel
theorem dX6_layReach_44 : decode cX6_layReach 44 = .ok (.invokestatic 68, 3) := by decide +kernel
theorem dX6_layReach_47 : decode cX6_layReach 47 = .ok (.iconst 1, 1) := by decide +kernel
theorem dX6_layReach_48 : decode cX6_layReach 48 = .ok (.isub, 1) := by decide +kernel
theorem dX6_layReach_49 : decode cX6_layReach 49 = .ok (.putfield 90, 3) := by decide +kernel
theorem dX6_layReach_52 : decode cX6_layReach 52 = .ok (.aload_n 0, 1) := by decide +kernel
theorem dX6_layReach_53 : decode cX6_layReach 53 = .ok (.aload_n 0, 1) := by decide +kernel
theorem dX6_layReach_54 : decode cX6_layReach 54 = .ok (.getfield 29, 3) := by decide +kernel
theorem dX6_layReach_57 : decode cX6_layReach 57 = .ok (.aload_n 0, 1) := by decide +kernel
theorem dX6_layReach_58 : decode cX6_layReach 58 = .ok (.getfield 26, 3) := by decide +kernel
theorem dX6_layReach_61 : decode cX6_layReach 61 = .ok (.iload_n 1, 1) := by decide +kernel
theorem dX6_layReach_62 : decode cX6_layReach 62 = .ok (.iaload, 1) := by decide +kernel
theorem dX6_layReach_63 : decode cX6_layReach 63 = .ok (.iaload, 1) := by decide +kernel
theorem dX6_layReach_64 : decode cX6_layReach 64 = .ok (.iload_n 1, 1) := by decide +kernel
theorem dX6_layReach_65 : decode cX6_layReach 65 = .ok (.if_icmp .ne 21, 3) := by decide +kernel
theorem dX6_layReach_68 : decode cX6_layReach 68 = .ok (.iload_n 1, 1) := by decide +kernel
theorem dX6_layReach_69 : decode cX6_layReach 69 = .ok (.invokestatic 68, 3) := by decide +kernel
theorem dX6_layReach_72 : decode cX6_layReach 72 = .ok (.aload_n 0, 1) := by decide +kernel
theorem dX6_layReach_73 : decode cX6_layReach 73 = .ok (.getfield 93, 3) := by decide +kernel
theorem dX6_layReach_76 : decode cX6_layReach 76 = .ok (.if_icmp .le 10, 3) := by decide +kernel
theorem dX6_layReach_79 : decode cX6_layReach 79 = .ok (.iload_n 1, 1) := by decide +kernel
theorem dX6_layReach_80 : decode cX6_layReach 80 = .ok (.invokestatic 68, 3) := by decide +kernel
theorem dX6_layReach_83 : decode cX6_layReach 83 = .ok (.goto 7, 3) := by decide +kernel
theorem dX6_layReach_86 : decode cX6_layReach 86 = .ok (.aload_n 0, 1) := by decide +kernel
theorem dX6_layReach_87 : decode cX6_layReach 87 = .ok (.getfield 93, 3) := by decide +kernel
theorem dX6_layReach_90 : decode cX6_layReach 90 = .ok (.putfield 93, 3) := by decide +kernel
theorem dX6_layReach_93 : decode cX6_layReach 93 = .ok (.iinc 1 1, 3) := by decide +kernel
theorem dX6_layReach_96 : decode cX6_layReach 96 = .ok (.goto (-81), 3) := by decide +kernel
theorem dX6_layReach_99 : decode cX6_layReach 99 = .ok (.return_, 1) := by decide +kernel
theorem dX6_codeNow_0 : decode cX6_codeNow 0 = .ok (.iload_n 1, 1) := by decide +kernel
theorem dX6_codeNow_1 : decode cX6_codeNow 1 = .ok (.tableswitch 69 0 5 #[39, 44, 49, 54, 59, 64], 39) := by decide +kernel
theorem dX6_codeNow_40 : decode cX6_codeNow 40 = .ok (.aload_n 0, 1) := by decide +kernel
theorem dX6_codeNow_41 : decode cX6_codeNow 41 = .ok (.getfield 59, 3) := by decide +kernel
theorem dX6_codeNow_44 : decode cX6_codeNow 44 = .ok (.ireturn, 1) := by decide +kernel
theorem dX6_codeNow_45 : decode cX6_codeNow 45 = .ok (.aload_n 0, 1) := by decide +kernel
theorem dX6_codeNow_46 : decode cX6_codeNow 46 = .ok (.getfield 56, 3) := by decide +kernel
theorem dX6_codeNow_49 : decode cX6_codeNow 49 = .ok (.ireturn, 1) := by decide +kernel
theorem dX6_codeNow_50 : decode cX6_codeNow 50 = .ok (.aload_n 0, 1) := by decide +kernel
theorem dX6_codeNow_51 : decode cX6_codeNow 51 = .ok (.getfield 78, 3) := by decide +kernel
theorem dX6_codeNow_54 : decode cX6_codeNow 54 = .ok (.ireturn, 1) := by decide +kernel
theorem dX6_codeNow_55 : decode cX6_codeNow 55 = .ok (.aload_n 0, 1) := by decide +kernel
theorem dX6_codeNow_56 : decode cX6_codeNow 56 = .ok (.getfield 84, 3) := by decide +kernel
theorem dX6_codeNow_59 : decode cX6_codeNow 59 = .ok (.ireturn, 1) := by decide +kernel
theorem dX6_codeNow_60 : decode cX6_codeNow 60 = .ok (.aload_n 0, 1) := by decide +kernel
theorem dX6_codeNow_61 : decode cX6_codeNow 61 = .ok (.getfield 90, 3) := by decide +kernel
theorem dX6_codeNow_64 : decode cX6_codeNow 64 = .ok (.ireturn, 1) := by decide +kernel
theorem dX6_codeNow_65 : decode cX6_codeNow 65 = .ok (.aload_n 0, 1) := by decide +kernel
theorem dX6_codeNow_66 : decode cX6_codeNow 66 = .ok (.getfield 93, 3) := by decide +kernel
theorem dX6_codeNow_69 : decode cX6_codeNow 69 = .ok (.ireturn, 1) := by decide +kernel
theorem dX6_codeNow_70 : decode cX6_codeNow 70 = .ok (.aload_n 0, 1) := by decide +kernel
theorem dX6_codeNow_71 : decode cX6_codeNow 71 = .ok (.getfield 93, 3) := by decide +kernel
theorem dX6_codeNow_74 : decode cX6_codeNow 74 = .ok (.aload_n 0, 1) := by decide +kernel
theorem dX6_codeNow_75 : decode cX6_codeNow 75 = .ok (.getfield 90, 3) := by decide +kernel
theorem dX6_codeNow_78 : decode cX6_codeNow 78 = .ok (.if_icmp .ne 7, 3) := by decide +kernel
theorem dX6_codeNow_81 : decode cX6_codeNow 81 = .ok (.iconst 1, 1) := by decide +kernel
theorem dX6_codeNow_82 : decode cX6_codeNow 82 = .ok (.goto 4, 3) := by decide +kernel
theorem dX6_codeNow_85 : decode cX6_codeNow 85 = .ok (.iconst 0, 1) := by decide +kernel
theorem dX6_codeNow_86 : decode cX6_codeNow 86 = .ok (.ireturn, 1) := by decide +kernel
theorem dX6_isThere_0 : decode cX6_isThere 0 = .ok (.aload_n 0, 1) := by decide +kernel
theorem dX6_isThere_1 : decode cX6_isThere 1 = .ok (.getfield 56, 3) := by decide +kernel
theorem dX6_isThere_4 : decode cX6_isThere 4 = .ok (.ifCond .le 7, 3) := by decide +kernel
theorem dX6_isThere_7 : decode cX6_isThere 7 = .ok (.iconst 1, 1) := by decide +kernel
theorem dX6_isThere_8 : decode cX6_isThere 8 = .ok (.goto 4, 3) := by decide +kernel
theorem dX6_isThere_11 : decode cX6_isThere 11 = .ok (.iconst 0, 1) := by decide +kernel
theorem dX6_isThere_12 : decode cX6_isThere 12 = .ok (.ireturn, 1) := by decide +kernel
set_option maxRecDepth 20000 in
theorem ggX6_isWord_X6_words : GoodIn wsX6_isWord wsX6_words := goodIn_r _ [5, 6, 10, 11, 12, 13, 14, 15, 16, 17, 18, 19, 20, 21, 22, 23, 24, 25, 26, 27, 28, 29, 30] (by decide +kernel) (by decide +kernel)
set_option maxRecDepth 20000 in
theorem gX6_isWord_X6_words : GoodIn wsX6_isWord (wsV RX6 72 RX6 yX6_words wsX6_words) := goodIn_app (goodIn_of _ (by decide +kernel)) ggX6_isWord_X6_words
set_option maxRecDepth 20000 in
theorem ggX6_isWord_X6_within : GoodIn wsX6_isWord wsX6_within := goodIn_r _ [9] (by decide +kernel) (by decide +kernel)
set_option maxRecDepth 20000 in
theorem gX6_isWord_X6_within : GoodIn wsX6_isWord (va_wsS RX6 32 yX6_within wsX6_within) := goodIn_app (goodIn_of _ (by decide +kernel)) ggX6_isWord_X6_within
theorem dX6_isWord_0 : decode cX6_isWord 0 = .ok (.iload_n 1, 1) := by decide +kernel
theorem dX6_isWord_1 : decode cX6_isWord 1 = .ok (.iconst 0, 1) := by decide +kernel
theorem dX6_isWord_2 : decode cX6_isWord 2 = .ok (.aload_n 0, 1) := by decide +kernel
theorem dX6_isWord_3 : decode cX6_isWord 3 = .ok (.invokevirtual 72, 3) := by decide +kernel
theorem dX6_isWord_6 : decode cX6_isWord 6 = .ok (.iconst 1, 1) := by decide +kernel
theorem dX6_isWord_7 : decode cX6_isWord 7 = .ok (.isub, 1) := by decide +kernel
theorem dX6_isWord_8 : decode cX6_isWord 8 = .ok (.invokestatic 32, 3) := by decide +kernel
theorem dX6_isWord_11 : decode cX6_isWord 11 = .ok (.ireturn, 1) := by decide +kernel
set_option maxRecDepth 20000 in
theorem ggX6_code_X6_within : GoodIn wsX6_code wsX6_within := goodIn_r _ [4] (by decide +kernel) (by decide +kernel)
set_option maxRecDepth 20000 in
theorem gX6_code_X6_within : GoodIn wsX6_code (va_wsS RX6 32 yX6_within wsX6_within) := goodIn_app (goodIn_of _ (by decide +kernel)) ggX6_code_X6_within
set_option maxRecDepth 20000 in
theorem ggX6_code_X6_isThere : GoodIn wsX6_code wsX6_isThere := goodIn_r _ [8, 9, 19, 20, 21, 22, 23, 24, 25, 26, 27, 28, 29, 30, 31, 32, 33, 34, 35, 36, 37, 38, 39] (by decide +kernel) (by decide +kernel)
set_option maxRecDepth 20000 in
theorem gX6_code_X6_isThere : GoodIn wsX6_code (wsV RX6 99 RX6 yX6_isThere wsX6_isThere) := goodIn_app (goodIn_of _ (by decide +kernel)) ggX6_code_X6_isThere
set_option maxRecDepth 20000 in
theorem ggX6_code_X6_codeNow : GoodIn wsX6_code wsX6_codeNow := goodIn_r _ [13, 14, 9, 15, 16, 17, 18, 19, 20, 21, 22, 23, 24, 25, 26, 27, 28, 29, 30, 31, 32, 33, 34, 35, 36, 37, 38, 39] (by decide +kernel) (by decide +kernel)
set_option maxRecDepth 20000 in
theorem gX6_code_X6_codeNow : GoodIn wsX6_code (wsV RX6 103 RX6 yX6_codeNow wsX6_codeNow) := goodIn_app (goodIn_of _ (by decide +kernel)) ggX6_code_X6_codeNow
theorem dX6_code_0 : decode cX6_code 0 = .ok (.iload_n 1, 1) := by decide +kernel
theorem dX6_code_1 : decode cX6_code 1 = .ok (.iconst 0, 1) := by decide +kernel
theorem dX6_code_2 : decode cX6_code 2 = .ok (.bipush 6, 2) := by decide +kernel
theorem dX6_code_4 : decode cX6_code 4 = .ok (.invokestatic 32, 3) := by decide +kernel
theorem dX6_code_7 : decode cX6_code 7 = .ok (.ifCond .ne 7, 3) := by decide +kernel
theorem dX6_code_10 : decode cX6_code 10 = .ok (.sipush (-1002), 3) := by decide +kernel
theorem dX6_code_13 : decode cX6_code 13 = .ok (.ireturn, 1) := by decide +kernel
theorem dX6_code_14 : decode cX6_code 14 = .ok (.aload_n 0, 1) := by decide +kernel
theorem dX6_code_15 : decode cX6_code 15 = .ok (.invokevirtual 99, 3) := by decide +kernel
theorem dX6_code_18 : decode cX6_code 18 = .ok (.ifCond .eq 11, 3) := by decide +kernel
theorem dX6_code_21 : decode cX6_code 21 = .ok (.aload_n 0, 1) := by decide +kernel
theorem dX6_code_22 : decode cX6_code 22 = .ok (.iload_n 1, 1) := by decide +kernel
theorem dX6_code_23 : decode cX6_code 23 = .ok (.invokevirtual 103, 3) := by decide +kernel
theorem dX6_code_26 : decode cX6_code 26 = .ok (.goto 6, 3) := by decide +kernel
theorem dX6_code_29 : decode cX6_code 29 = .ok (.sipush (-1003), 3) := by decide +kernel
theorem dX6_code_32 : decode cX6_code 32 = .ok (.ireturn, 1) := by decide +kernel
set_option maxRecDepth 20000 in
theorem ggX6_row_X6_isThere : GoodIn wsX6_row wsX6_isThere := goodIn_r _ [7, 1, 11, 12, 13, 14, 15, 16, 17, 18, 19, 20, 21, 22, 23, 24, 25, 26, 27, 28, 29, 30, 31] (by decide +kernel) (by decide +kernel)
set_option maxRecDepth 20000 in
theorem gX6_row_X6_isThere : GoodIn wsX6_row (wsV RX6 99 RX6 yX6_isThere wsX6_isThere) := goodIn_app (goodIn_of _ (by decide +kernel)) ggX6_row_X6_isThere
set_option maxRecDepth 20000 in
theorem ggX6_row_X6_within : GoodIn wsX6_row wsX6_within := goodIn_r _ [10] (by decide +kernel) (by decide +kernel)
set_option maxRecDepth 20000 in
theorem gX6_row_X6_within : GoodIn wsX6_row (va_wsS RX6 32 yX6_within wsX6_within) := goodIn_app (goodIn_of _ (by decide +kernel)) ggX6_row_X6_within
theorem dX6_row_0 : decode cX6_row 0 = .ok (.aload_n 0, 1) := by decide +kernel
theorem dX6_row_1 : decode cX6_row 1 = .ok (.invokevirtual 99, 3) := by decide +kernel
theorem dX6_row_4 : decode cX6_row 4 = .ok (.ifCond .ne 7, 3) := by decide +kernel
theorem dX6_row_7 : decode cX6_row 7 = .ok (.sipush (-1003), 3) := by decide +kernel
theorem dX6_row_10 : decode cX6_row 10 = .ok (.ireturn, 1) := by decide +kernel
theorem dX6_row_11 : decode cX6_row 11 = .ok (.iload_n 1, 1) := by decide +kernel
theorem dX6_row_12 : decode cX6_row 12 = .ok (.iconst 0, 1) := by decide +kernel
theorem dX6_row_13 : decode cX6_row 13 = .ok (.aload_n 0, 1) := by decide +kernel
theorem dX6_row_14 : decode cX6_row 14 = .ok (.getfield 56, 3) := by decide +kernel
theorem dX6_row_17 : decode cX6_row 17 = .ok (.iconst 1, 1) := by decide +kernel
theorem dX6_row_18 : decode cX6_row 18 = .ok (.isub, 1) := by decide +kernel
theorem dX6_row_19 : decode cX6_row 19 = .ok (.invokestatic 32, 3) := by decide +kernel
theorem dX6_row_22 : decode cX6_row 22 = .ok (.ifCond .eq 12, 3) := by decide +kernel
theorem dX6_row_25 : decode cX6_row 25 = .ok (.aload_n 0, 1) := by decide +kernel
theorem dX6_row_26 : decode cX6_row 26 = .ok (.getfield 13, 3) := by decide +kernel
theorem dX6_row_29 : decode cX6_row 29 = .ok (.iload_n 1, 1) := by decide +kernel
theorem dX6_row_30 : decode cX6_row 30 = .ok (.iaload, 1) := by decide +kernel
theorem dX6_row_31 : decode cX6_row 31 = .ok (.goto 6, 3) := by decide +kernel
theorem dX6_row_34 : decode cX6_row 34 = .ok (.sipush (-1002), 3) := by decide +kernel
theorem dX6_row_37 : decode cX6_row 37 = .ok (.ireturn, 1) := by decide +kernel
set_option maxRecDepth 20000 in
theorem ggX6_syndrome_X6_isThere : GoodIn wsX6_syndrome wsX6_isThere := goodIn_r _ [6, 7, 20, 21, 22, 23, 24, 25, 26, 27, 28, 29, 30, 31, 32, 33, 34, 35, 36, 37, 38, 39, 40] (by decide +kernel) (by decide +kernel)
set_option maxRecDepth 20000 in
theorem gX6_syndrome_X6_isThere : GoodIn wsX6_syndrome (wsV RX6 99 RX6 yX6_isThere wsX6_isThere) := goodIn_app (goodIn_of _ (by decide +kernel)) ggX6_syndrome_X6_isThere
set_option maxRecDepth 20000 in
theorem ggX6_syndrome_X6_isWord : GoodIn wsX6_syndrome wsX6_isWord := goodIn_r _ [11, 12, 13, 14, 5, 15, 16, 17, 18, 19, 20, 21, 22, 23, 24, 25, 26, 27, 28, 29, 30, 31, 32, 33, 34, 35, 36, 37, 38, 39, 40] (by decide +kernel) (by decide +kernel)
set_option maxRecDepth 20000 in
theorem gX6_syndrome_X6_isWord : GoodIn wsX6_syndrome (wsV RX6 106 RX6 yX6_isWord wsX6_isWord) := goodIn_app (goodIn_of _ (by decide +kernel)) ggX6_syndrome_X6_isWord
theorem dX6_syndrome_0 : decode cX6_syndrome 0 = .ok (.aload_n 0, 1) := by decide +kernel
theorem dX6_syndrome_1 : decode cX6_syndrome 1 = .ok (.invokevirtual 99, 3) := by decide +kernel
theorem dX6_syndrome_4 : decode cX6_syndrome 4 = .ok (.ifCond .ne 7, 3) := by decide +kernel
theorem dX6_syndrome_7 : decode cX6_syndrome 7 = .ok (.sipush (-1003), 3) := by decide +kernel
theorem dX6_syndrome_10 : decode cX6_syndrome 10 = .ok (.ireturn, 1) := by decide +kernel
theorem dX6_syndrome_11 : decode cX6_syndrome 11 = .ok (.aload_n 0, 1) := by decide +kernel
theorem dX6_syndrome_12 : decode cX6_syndrome 12 = .ok (.iload_n 1, 1) := by decide +kernel
theorem dX6_syndrome_13 : decode cX6_syndrome 13 = .ok (.invokevirtual 106, 3) := by decide +kernel
theorem dX6_syndrome_16 : decode cX6_syndrome 16 = .ok (.ifCond .eq 12, 3) := by decide +kernel
theorem dX6_syndrome_19 : decode cX6_syndrome 19 = .ok (.aload_n 0, 1) := by decide +kernel
theorem dX6_syndrome_20 : decode cX6_syndrome 20 = .ok (.getfield 26, 3) := by decide +kernel
theorem dX6_syndrome_23 : decode cX6_syndrome 23 = .ok (.iload_n 1, 1) := by decide +kernel
theorem dX6_syndrome_24 : decode cX6_syndrome 24 = .ok (.iaload, 1) := by decide +kernel
theorem dX6_syndrome_25 : decode cX6_syndrome 25 = .ok (.goto 6, 3) := by decide +kernel
theorem dX6_syndrome_28 : decode cX6_syndrome 28 = .ok (.sipush (-1002), 3) := by decide +kernel
theorem dX6_syndrome_31 : decode cX6_syndrome 31 = .ok (.ireturn, 1) := by decide +kernel
set_option maxRecDepth 20000 in
theorem ggX6_isSyndrome_X6_within : GoodIn wsX6_isSyndrome wsX6_within := goodIn_r _ [5] (by decide +kernel) (by decide +kernel)
set_option maxRecDepth 20000 in
theorem gX6_isSyndrome_X6_within : GoodIn wsX6_isSyndrome (va_wsS RX6 32 yX6_within wsX6_within) := goodIn_app (goodIn_of _ (by decide +kernel)) ggX6_isSyndrome_X6_within
theorem dX6_isSyndrome_0 : decode cX6_isSyndrome 0 = .ok (.iload_n 1, 1) := by decide +kernel
theorem dX6_isSyndrome_1 : decode cX6_isSyndrome 1 = .ok (.iconst 0, 1) := by decide +kernel
theorem dX6_isSyndrome_2 : decode cX6_isSyndrome 2 = .ok (.iconst 1, 1) := by decide +kernel
theorem dX6_isSyndrome_3 : decode cX6_isSyndrome 3 = .ok (.aload_n 0, 1) := by decide +kernel
theorem dX6_isSyndrome_4 : decode cX6_isSyndrome 4 = .ok (.getfield 56, 3) := by decide +kernel
theorem dX6_isSyndrome_7 : decode cX6_isSyndrome 7 = .ok (.ishl, 1) := by decide +kernel
theorem dX6_isSyndrome_8 : decode cX6_isSyndrome 8 = .ok (.iconst 1, 1) := by decide +kernel
theorem dX6_isSyndrome_9 : decode cX6_isSyndrome 9 = .ok (.isub, 1) := by decide +kernel
theorem dX6_isSyndrome_10 : decode cX6_isSyndrome 10 = .ok (.invokestatic 32, 3) := by decide +kernel
theorem dX6_isSyndrome_13 : decode cX6_isSyndrome 13 = .ok (.ireturn, 1) := by decide +kernel
set_option maxRecDepth 20000 in
theorem ggX6_leader_X6_isThere : GoodIn wsX6_leader wsX6_isThere := goodIn_r _ [6, 7, 15, 16, 17, 18, 19, 20, 21, 22, 23, 24, 25, 26, 27, 28, 29, 30, 31, 32, 33, 34, 35] (by decide +kernel) (by decide +kernel)
set_option maxRecDepth 20000 in
theorem gX6_leader_X6_isThere : GoodIn wsX6_leader (wsV RX6 99 RX6 yX6_isThere wsX6_isThere) := goodIn_app (goodIn_of _ (by decide +kernel)) ggX6_leader_X6_isThere
set_option maxRecDepth 20000 in
theorem ggX6_leader_X6_isSyndrome : GoodIn wsX6_leader wsX6_isSyndrome := goodIn_r _ [11, 7, 12, 13, 5, 14, 15, 16, 17, 18, 19, 20, 21, 22, 23, 24, 25, 26, 27, 28, 29, 30, 31, 32, 33, 34, 35] (by decide +kernel) (by decide +kernel)
set_option maxRecDepth 20000 in
theorem gX6_leader_X6_isSyndrome : GoodIn wsX6_leader (wsV RX6 109 RX6 yX6_isSyndrome wsX6_isSyndrome) := goodIn_app (goodIn_of _ (by decide +kernel)) ggX6_leader_X6_isSyndrome
theorem dX6_leader_0 : decode cX6_leader 0 = .ok (.aload_n 0, 1) := by decide +kernel
theorem dX6_leader_1 : decode cX6_leader 1 = .ok (.invokevirtual 99, 3) := by decide +kernel
theorem dX6_leader_4 : decode cX6_leader 4 = .ok (.ifCond .ne 7, 3) := by decide +kernel
theorem dX6_leader_7 : decode cX6_leader 7 = .ok (.sipush (-1003), 3) := by decide +kernel
theorem dX6_leader_10 : decode cX6_leader 10 = .ok (.ireturn, 1) := by decide +kernel
theorem dX6_leader_11 : decode cX6_leader 11 = .ok (.aload_n 0, 1) := by decide +kernel
theorem dX6_leader_12 : decode cX6_leader 12 = .ok (.iload_n 1, 1) := by decide +kernel
theorem dX6_leader_13 : decode cX6_leader 13 = .ok (.invokevirtual 109, 3) := by decide +kernel
theorem dX6_leader_16 : decode cX6_leader 16 = .ok (.ifCond .eq 12, 3) := by decide +kernel
theorem dX6_leader_19 : decode cX6_leader 19 = .ok (.aload_n 0, 1) := by decide +kernel
theorem dX6_leader_20 : decode cX6_leader 20 = .ok (.getfield 29, 3) := by decide +kernel
theorem dX6_leader_23 : decode cX6_leader 23 = .ok (.iload_n 1, 1) := by decide +kernel
theorem dX6_leader_24 : decode cX6_leader 24 = .ok (.iaload, 1) := by decide +kernel
theorem dX6_leader_25 : decode cX6_leader 25 = .ok (.goto 6, 3) := by decide +kernel
theorem dX6_leader_28 : decode cX6_leader 28 = .ok (.sipush (-1002), 3) := by decide +kernel
theorem dX6_leader_31 : decode cX6_leader 31 = .ok (.ireturn, 1) := by decide +kernel
set_option maxRecDepth 20000 in
theorem ggX6_cosetNow_X6_words : GoodIn wsX6_cosetNow wsX6_words := goodIn_r _ [6, 7, 8, 9, 10, 11, 12, 13, 14, 15, 16, 17, 18, 19, 20, 21, 22, 23, 24, 25, 26, 27, 28] (by decide +kernel) (by decide +kernel)
set_option maxRecDepth 20000 in
theorem gX6_cosetNow_X6_words : GoodIn wsX6_cosetNow (wsV RX6 72 RX6 yX6_words wsX6_words) := goodIn_app (goodIn_of _ (by decide +kernel)) ggX6_cosetNow_X6_words
theorem dX6_cosetNow_0 : decode cX6_cosetNow 0 = .ok (.iload_n 2, 1) := by decide +kernel
theorem dX6_cosetNow_1 : decode cX6_cosetNow 1 = .ok (.istore_n 3, 1) := by decide +kernel
theorem dX6_cosetNow_2 : decode cX6_cosetNow 2 = .ok (.iconst 0, 1) := by decide +kernel
theorem dX6_cosetNow_3 : decode cX6_cosetNow 3 = .ok (.istore 4, 2) := by decide +kernel
theorem dX6_cosetNow_5 : decode cX6_cosetNow 5 = .ok (.iload 4, 2) := by decide +kernel
theorem dX6_cosetNow_7 : decode cX6_cosetNow 7 = .ok (.aload_n 0, 1) := by decide +kernel
theorem dX6_cosetNow_8 : decode cX6_cosetNow 8 = .ok (.invokevirtual 72, 3) := by decide +kernel
theorem dX6_cosetNow_11 : decode cX6_cosetNow 11 = .ok (.if_icmp .ge 34, 3) := by decide +kernel
theorem dX6_cosetNow_14 : decode cX6_cosetNow 14 = .ok (.iload_n 3, 1) := by decide +kernel
theorem dX6_cosetNow_15 : decode cX6_cosetNow 15 = .ok (.ifCond .lt 30, 3) := by decide +kernel
theorem dX6_cosetNow_18 : decode cX6_cosetNow 18 = .ok (.aload_n 0, 1) := by decide +kernel
theorem dX6_cosetNow_19 : decode cX6_cosetNow 19 = .ok (.getfield 26, 3) := by decide +kernel
theorem dX6_cosetNow_22 : decode cX6_cosetNow 22 = .ok (.iload 4, 2) := by decide +kernel
theorem dX6_cosetNow_24 : decode cX6_cosetNow 24 = .ok (.iaload, 1) := by decide +kernel
theorem dX6_cosetNow_25 : decode cX6_cosetNow 25 = .ok (.iload_n 1, 1) := by decide +kernel
theorem dX6_cosetNow_26 : decode cX6_cosetNow 26 = .ok (.if_icmp .ne 13, 3) := by decide +kernel
theorem dX6_cosetNow_29 : decode cX6_cosetNow 29 = .ok (.iload_n 3, 1) := by decide +kernel
theorem dX6_cosetNow_30 : decode cX6_cosetNow 30 = .ok (.ifCond .ne 6, 3) := by decide +kernel
theorem dX6_cosetNow_33 : decode cX6_cosetNow 33 = .ok (.iload 4, 2) := by decide +kernel
theorem dX6_cosetNow_35 : decode cX6_cosetNow 35 = .ok (.ireturn, 1) := by decide +kernel
theorem dX6_cosetNow_36 : decode cX6_cosetNow 36 = .ok (.iinc 3 (-1), 3) := by decide +kernel
theorem dX6_cosetNow_39 : decode cX6_cosetNow 39 = .ok (.iinc 4 1, 3) := by decide +kernel
theorem dX6_cosetNow_42 : decode cX6_cosetNow 42 = .ok (.goto (-37), 3) := by decide +kernel
theorem dX6_cosetNow_45 : decode cX6_cosetNow 45 = .ok (.sipush (-1001), 3) := by decide +kernel
theorem dX6_cosetNow_48 : decode cX6_cosetNow 48 = .ok (.ireturn, 1) := by decide +kernel
set_option maxRecDepth 20000 in
theorem ggX6_coset_X6_isThere : GoodIn wsX6_coset wsX6_isThere := goodIn_r _ [5, 6, 24, 25, 26, 27, 28, 29, 30, 31, 32, 33, 34, 35, 36, 37, 38, 39, 40, 41, 42, 43, 44] (by decide +kernel) (by decide +kernel)
set_option maxRecDepth 20000 in
theorem gX6_coset_X6_isThere : GoodIn wsX6_coset (wsV RX6 99 RX6 yX6_isThere wsX6_isThere) := goodIn_app (goodIn_of _ (by decide +kernel)) ggX6_coset_X6_isThere
set_option maxRecDepth 20000 in
theorem ggX6_coset_X6_isSyndrome : GoodIn wsX6_coset wsX6_isSyndrome := goodIn_r _ [10, 6, 11, 12, 4, 13, 24, 25, 26, 27, 28, 29, 30, 31, 32, 33, 34, 35, 36, 37, 38, 39, 40, 41, 42, 43, 44] (by decide +kernel) (by decide +kernel)
set_option maxRecDepth 20000 in
theorem gX6_coset_X6_isSyndrome : GoodIn wsX6_coset (wsV RX6 109 RX6 yX6_isSyndrome wsX6_isSyndrome) := goodIn_app (goodIn_of _ (by decide +kernel)) ggX6_coset_X6_isSyndrome
set_option maxRecDepth 20000 in
theorem ggX6_coset_X6_cosetNow : GoodIn wsX6_coset wsX6_cosetNow := goodIn_r _ [17, 18, 19, 20, 21, 4, 22, 23, 24, 25, 26, 27, 28, 29, 30, 31, 32, 33, 34, 35, 36, 37, 38, 39, 40, 41, 42, 43, 44] (by decide +kernel) (by decide +kernel)
set_option maxRecDepth 20000 in
theorem gX6_coset_X6_cosetNow : GoodIn wsX6_coset (wsV RX6 112 RX6 yX6_cosetNow wsX6_cosetNow) := goodIn_app (goodIn_of _ (by decide +kernel)) ggX6_coset_X6_cosetNow
theorem dX6_coset_0 : decode cX6_coset 0 = .ok (.aload_n 0, 1) := by decide +kernel
theorem dX6_coset_1 : decode cX6_coset 1 = .ok (.invokevirtual 99, 3) := by decide +kernel
theorem dX6_coset_4 : decode cX6_coset 4 = .ok (.ifCond .ne 7, 3) := by decide +kernel
theorem dX6_coset_7 : decode cX6_coset 7 = .ok (.sipush (-1003), 3) := by decide +kernel
theorem dX6_coset_10 : decode cX6_coset 10 = .ok (.ireturn, 1) := by decide +kernel
theorem dX6_coset_11 : decode cX6_coset 11 = .ok (.aload_n 0, 1) := by decide +kernel
theorem dX6_coset_12 : decode cX6_coset 12 = .ok (.iload_n 1, 1) := by decide +kernel
theorem dX6_coset_13 : decode cX6_coset 13 = .ok (.invokevirtual 109, 3) := by decide +kernel
theorem dX6_coset_16 : decode cX6_coset 16 = .ok (.ifCond .eq 12, 3) := by decide +kernel
theorem dX6_coset_19 : decode cX6_coset 19 = .ok (.aload_n 0, 1) := by decide +kernel
theorem dX6_coset_20 : decode cX6_coset 20 = .ok (.iload_n 1, 1) := by decide +kernel
theorem dX6_coset_21 : decode cX6_coset 21 = .ok (.iload_n 2, 1) := by decide +kernel
theorem dX6_coset_22 : decode cX6_coset 22 = .ok (.invokevirtual 112, 3) := by decide +kernel
theorem dX6_coset_25 : decode cX6_coset 25 = .ok (.goto 6, 3) := by decide +kernel
theorem dX6_coset_28 : decode cX6_coset 28 = .ok (.sipush (-1002), 3) := by decide +kernel
theorem dX6_coset_31 : decode cX6_coset 31 = .ok (.ireturn, 1) := by decide +kernel
set_option maxRecDepth 20000 in
theorem ggX6_leadersNow_X6_ones : GoodIn wsX6_leadersNow wsX6_ones := goodIn_r _ [5] (by decide +kernel) (by decide +kernel)
set_option maxRecDepth 20000 in
theorem gX6_leadersNow_X6_ones : GoodIn wsX6_leadersNow (va_wsS RX6 68 yX6_ones wsX6_ones) := goodIn_app (goodIn_of _ (by decide +kernel)) ggX6_leadersNow_X6_ones
theorem dX6_leadersNow_0 : decode cX6_leadersNow 0 = .ok (.iconst 0, 1) := by decide +kernel
theorem dX6_leadersNow_1 : decode cX6_leadersNow 1 = .ok (.istore_n 2, 1) := by decide +kernel
theorem dX6_leadersNow_2 : decode cX6_leadersNow 2 = .ok (.iconst 0, 1) := by decide +kernel
theorem dX6_leadersNow_3 : decode cX6_leadersNow 3 = .ok (.istore_n 3, 1) := by decide +kernel
theorem dX6_leadersNow_4 : decode cX6_leadersNow 4 = .ok (.iload_n 3, 1) := by decide +kernel
theorem dX6_leadersNow_5 : decode cX6_leadersNow 5 = .ok (.bipush 32, 2) := by decide +kernel
theorem dX6_leadersNow_7 : decode cX6_leadersNow 7 = .ok (.if_icmp .ge 42, 3) := by decide +kernel
theorem dX6_leadersNow_10 : decode cX6_leadersNow 10 = .ok (.iload_n 2, 1) := by decide +kernel
theorem dX6_leadersNow_11 : decode cX6_leadersNow 11 = .ok (.aload_n 0, 1) := by decide +kernel
theorem dX6_leadersNow_12 : decode cX6_leadersNow 12 = .ok (.getfield 29, 3) := by decide +kernel
theorem dX6_leadersNow_15 : decode cX6_leadersNow 15 = .ok (.iload_n 3, 1) := by decide +kernel
theorem dX6_leadersNow_16 : decode cX6_leadersNow 16 = .ok (.iaload, 1) := by decide +kernel
theorem dX6_leadersNow_17 : decode cX6_leadersNow 17 = .ok (.sipush (-1001), 3) := by decide +kernel
theorem dX6_leadersNow_20 : decode cX6_leadersNow 20 = .ok (.if_icmp .eq 20, 3) := by decide +kernel
theorem dX6_leadersNow_23 : decode cX6_leadersNow 23 = .ok (.aload_n 0, 1) := by decide +kernel
theorem dX6_leadersNow_24 : decode cX6_leadersNow 24 = .ok (.getfield 29, 3) := by decide +kernel
theorem dX6_leadersNow_27 : decode cX6_leadersNow 27 = .ok (.iload_n 3, 1) := by decide +kernel
theorem dX6_leadersNow_28 : decode cX6_leadersNow 28 = .ok (.iaload, 1) := by decide +kernel
theorem dX6_leadersNow_29 : decode cX6_leadersNow 29 = .ok (.invokestatic 68, 3) := by decide +kernel
theorem dX6_leadersNow_32 : decode cX6_leadersNow 32 = .ok (.iload_n 1, 1) := by decide +kernel
theorem dX6_leadersNow_33 : decode cX6_leadersNow 33 = .ok (.if_icmp .ne 7, 3) := by decide +kernel
theorem dX6_leadersNow_36 : decode cX6_leadersNow 36 = .ok (.iconst 1, 1) := by decide +kernel
theorem dX6_leadersNow_37 : decode cX6_leadersNow 37 = .ok (.goto 4, 3) := by decide +kernel
theorem dX6_leadersNow_40 : decode cX6_leadersNow 40 = .ok (.iconst 0, 1) := by decide +kernel
theorem dX6_leadersNow_41 : decode cX6_leadersNow 41 = .ok (.iadd, 1) := by decide +kernel
theorem dX6_leadersNow_42 : decode cX6_leadersNow 42 = .ok (.istore_n 2, 1) := by decide +kernel
theorem dX6_leadersNow_43 : decode cX6_leadersNow 43 = .ok (.iinc 3 1, 3) := by decide +kernel
theorem dX6_leadersNow_46 : decode cX6_leadersNow 46 = .ok (.goto (-42), 3) := by decide +kernel
theorem dX6_leadersNow_49 : decode cX6_leadersNow 49 = .ok (.iload_n 2, 1) := by decide +kernel
theorem dX6_leadersNow_50 : decode cX6_leadersNow 50 = .ok (.ireturn, 1) := by decide +kernel
set_option maxRecDepth 20000 in
theorem ggX6_leaders_X6_isThere : GoodIn wsX6_leaders wsX6_isThere := goodIn_r _ [6, 7, 19, 20, 21, 22, 23, 24, 25, 26, 27, 28, 29, 30, 31, 32, 33, 34, 35, 36, 37, 38, 39] (by decide +kernel) (by decide +kernel)
set_option maxRecDepth 20000 in
theorem gX6_leaders_X6_isThere : GoodIn wsX6_leaders (wsV RX6 99 RX6 yX6_isThere wsX6_isThere) := goodIn_app (goodIn_of _ (by decide +kernel)) ggX6_leaders_X6_isThere
set_option maxRecDepth 20000 in
theorem ggX6_leaders_X6_within : GoodIn wsX6_leaders wsX6_within := goodIn_r _ [10] (by decide +kernel) (by decide +kernel)
set_option maxRecDepth 20000 in
theorem gX6_leaders_X6_within : GoodIn wsX6_leaders (va_wsS RX6 32 yX6_within wsX6_within) := goodIn_app (goodIn_of _ (by decide +kernel)) ggX6_leaders_X6_within
set_option maxRecDepth 20000 in
theorem ggX6_leaders_X6_leadersNow : GoodIn wsX6_leaders wsX6_leadersNow := goodIn_r _ [14, 15, 16, 17, 5, 18, 19, 20, 21, 22, 23, 24, 25, 26, 27, 28, 29, 30, 31, 32, 33, 34, 35, 36, 37, 38, 39] (by decide +kernel) (by decide +kernel)
set_option maxRecDepth 20000 in
theorem gX6_leaders_X6_leadersNow : GoodIn wsX6_leaders (wsV RX6 116 RX6 yX6_leadersNow wsX6_leadersNow) := goodIn_app (goodIn_of _ (by decide +kernel)) ggX6_leaders_X6_leadersNow
theorem dX6_leaders_0 : decode cX6_leaders 0 = .ok (.aload_n 0, 1) := by decide +kernel
theorem dX6_leaders_1 : decode cX6_leaders 1 = .ok (.invokevirtual 99, 3) := by decide +kernel
theorem dX6_leaders_4 : decode cX6_leaders 4 = .ok (.ifCond .ne 7, 3) := by decide +kernel
theorem dX6_leaders_7 : decode cX6_leaders 7 = .ok (.sipush (-1003), 3) := by decide +kernel
theorem dX6_leaders_10 : decode cX6_leaders 10 = .ok (.ireturn, 1) := by decide +kernel
theorem dX6_leaders_11 : decode cX6_leaders 11 = .ok (.iload_n 1, 1) := by decide +kernel
theorem dX6_leaders_12 : decode cX6_leaders 12 = .ok (.iconst 0, 1) := by decide +kernel
theorem dX6_leaders_13 : decode cX6_leaders 13 = .ok (.aload_n 0, 1) := by decide +kernel
theorem dX6_leaders_14 : decode cX6_leaders 14 = .ok (.getfield 59, 3) := by decide +kernel
theorem dX6_leaders_17 : decode cX6_leaders 17 = .ok (.invokestatic 32, 3) := by decide +kernel
theorem dX6_leaders_20 : decode cX6_leaders 20 = .ok (.ifCond .eq 11, 3) := by decide +kernel
theorem dX6_leaders_23 : decode cX6_leaders 23 = .ok (.aload_n 0, 1) := by decide +kernel
theorem dX6_leaders_24 : decode cX6_leaders 24 = .ok (.iload_n 1, 1) := by decide +kernel
theorem dX6_leaders_25 : decode cX6_leaders 25 = .ok (.invokevirtual 116, 3) := by decide +kernel
theorem dX6_leaders_28 : decode cX6_leaders 28 = .ok (.goto 6, 3) := by decide +kernel
theorem dX6_leaders_31 : decode cX6_leaders 31 = .ok (.sipush (-1002), 3) := by decide +kernel
theorem dX6_leaders_34 : decode cX6_leaders 34 = .ok (.ireturn, 1) := by decide +kernel
theorem dX6_counted_0 : decode cX6_counted 0 = .ok (.iload_n 1, 1) := by decide +kernel
theorem dX6_counted_1 : decode cX6_counted 1 = .ok (.sipush (-1001), 3) := by decide +kernel
theorem dX6_counted_4 : decode cX6_counted 4 = .ok (.if_icmp .ne 12, 3) := by decide +kernel
theorem dX6_counted_7 : decode cX6_counted 7 = .ok (.aload_n 0, 1) := by decide +kernel
theorem dX6_counted_8 : decode cX6_counted 8 = .ok (.getfield 59, 3) := by decide +kernel
theorem dX6_counted_11 : decode cX6_counted 11 = .ok (.iconst 1, 1) := by decide +kernel
theorem dX6_counted_12 : decode cX6_counted 12 = .ok (.iadd, 1) := by decide +kernel
theorem dX6_counted_13 : decode cX6_counted 13 = .ok (.goto 4, 3) := by decide +kernel
theorem dX6_counted_16 : decode cX6_counted 16 = .ok (.iload_n 1, 1) := by decide +kernel
theorem dX6_counted_17 : decode cX6_counted 17 = .ok (.ireturn, 1) := by decide +kernel
set_option maxRecDepth 20000 in
theorem ggX6_betterNow_X6_distanceNow : GoodIn wsX6_betterNow wsX6_distanceNow := goodIn_r _ [7, 8, 9, 10, 6, 11, 12, 13, 14, 15, 16, 17, 1, 18, 19, 20, 25, 26, 27, 28, 29, 30, 31, 32, 33, 34, 35, 36, 37, 38, 39, 40, 41, 42, 43, 44, 45] (by decide +kernel) (by decide +kernel)
set_option maxRecDepth 20000 in
theorem gX6_betterNow_X6_distanceNow : GoodIn wsX6_betterNow (wsV RX6 81 RX6 yX6_distanceNow wsX6_distanceNow) := goodIn_app (goodIn_of _ (by decide +kernel)) ggX6_betterNow_X6_distanceNow
set_option maxRecDepth 20000 in
theorem ggX6_betterNow_X6_counted : GoodIn wsX6_betterNow wsX6_counted := goodIn_r _ [24, 12, 25, 26, 27, 28, 29, 30, 31, 32, 33, 34, 35, 36, 37, 38, 39, 40, 41, 42, 43, 44, 45] (by decide +kernel) (by decide +kernel)
set_option maxRecDepth 20000 in
theorem gX6_betterNow_X6_counted : GoodIn wsX6_betterNow (wsV RX6 119 RX6 yX6_counted wsX6_counted) := goodIn_app (goodIn_of _ (by decide +kernel)) ggX6_betterNow_X6_counted
theorem dX6_betterNow_0 : decode cX6_betterNow 0 = .ok (.aload_n 0, 1) := by decide +kernel
theorem dX6_betterNow_1 : decode cX6_betterNow 1 = .ok (.getfield 13, 3) := by decide +kernel
theorem dX6_betterNow_4 : decode cX6_betterNow 4 = .ok (.iload_n 1, 1) := by decide +kernel
theorem dX6_betterNow_5 : decode cX6_betterNow 5 = .ok (.iaload, 1) := by decide +kernel
theorem dX6_betterNow_6 : decode cX6_betterNow 6 = .ok (.istore_n 3, 1) := by decide +kernel
theorem dX6_betterNow_7 : decode cX6_betterNow 7 = .ok (.aload_n 0, 1) := by decide +kernel
theorem dX6_betterNow_8 : decode cX6_betterNow 8 = .ok (.getfield 13, 3) := by decide +kernel
theorem dX6_betterNow_11 : decode cX6_betterNow 11 = .ok (.iload_n 1, 1) := by decide +kernel
theorem dX6_betterNow_12 : decode cX6_betterNow 12 = .ok (.iload_n 2, 1) := by decide +kernel
theorem dX6_betterNow_13 : decode cX6_betterNow 13 = .ok (.iastore, 1) := by decide +kernel
theorem dX6_betterNow_14 : decode cX6_betterNow 14 = .ok (.aload_n 0, 1) := by decide +kernel
theorem dX6_betterNow_15 : decode cX6_betterNow 15 = .ok (.invokevirtual 81, 3) := by decide +kernel
theorem dX6_betterNow_18 : decode cX6_betterNow 18 = .ok (.istore 4, 2) := by decide +kernel
theorem dX6_betterNow_20 : decode cX6_betterNow 20 = .ok (.aload_n 0, 1) := by decide +kernel
theorem dX6_betterNow_21 : decode cX6_betterNow 21 = .ok (.getfield 13, 3) := by decide +kernel
theorem dX6_betterNow_24 : decode cX6_betterNow 24 = .ok (.iload_n 1, 1) := by decide +kernel
theorem dX6_betterNow_25 : decode cX6_betterNow 25 = .ok (.iload_n 3, 1) := by decide +kernel
theorem dX6_betterNow_26 : decode cX6_betterNow 26 = .ok (.iastore, 1) := by decide +kernel
theorem dX6_betterNow_27 : decode cX6_betterNow 27 = .ok (.aload_n 0, 1) := by decide +kernel
theorem dX6_betterNow_28 : decode cX6_betterNow 28 = .ok (.iload 4, 2) := by decide +kernel
theorem dX6_betterNow_30 : decode cX6_betterNow 30 = .ok (.invokevirtual 119, 3) := by decide +kernel
theorem dX6_betterNow_33 : decode cX6_betterNow 33 = .ok (.aload_n 0, 1) := by decide +kernel
theorem dX6_betterNow_34 : decode cX6_betterNow 34 = .ok (.aload_n 0, 1) := by decide +kernel
theorem dX6_betterNow_35 : decode cX6_betterNow 35 = .ok (.getfield 84, 3) := by decide +kernel
theorem dX6_betterNow_38 : decode cX6_betterNow 38 = .ok (.invokevirtual 119, 3) := by decide +kernel
theorem dX6_betterNow_41 : decode cX6_betterNow 41 = .ok (.isub, 1) := by decide +kernel
theorem dX6_betterNow_42 : decode cX6_betterNow 42 = .ok (.ireturn, 1) := by decide +kernel
set_option maxRecDepth 20000 in
theorem ggX6_better_X6_isThere : GoodIn wsX6_better wsX6_isThere := goodIn_r _ [6, 1, 40, 41, 42, 43, 44, 45, 46, 47, 48, 49, 50, 51, 52, 53, 54, 55, 56, 57, 58, 59, 60] (by decide +kernel) (by decide +kernel)
set_option maxRecDepth 20000 in
theorem gX6_better_X6_isThere : GoodIn wsX6_better (wsV RX6 99 RX6 yX6_isThere wsX6_isThere) := goodIn_app (goodIn_of _ (by decide +kernel)) ggX6_better_X6_isThere
set_option maxRecDepth 20000 in
theorem ggX6_better_X6_within : GoodIn wsX6_better wsX6_within := goodIn_r _ [9] (by decide +kernel) (by decide +kernel)
set_option maxRecDepth 20000 in
theorem gX6_better_X6_within : GoodIn wsX6_better (va_wsS RX6 32 yX6_within wsX6_within) := goodIn_app (goodIn_of _ (by decide +kernel)) ggX6_better_X6_within
set_option maxRecDepth 20000 in
theorem ggX6_better_X6_isWord : GoodIn wsX6_better wsX6_isWord := goodIn_r _ [13, 14, 15, 16, 5, 17, 18, 7, 8, 9, 40, 41, 42, 43, 44, 45, 46, 47, 48, 49, 50, 51, 52, 53, 54, 55, 56, 57, 58, 59, 60] (by decide +kernel) (by decide +kernel)
set_option maxRecDepth 20000 in
theorem gX6_better_X6_isWord : GoodIn wsX6_better (wsV RX6 106 RX6 yX6_isWord wsX6_isWord) := goodIn_app (goodIn_of _ (by decide +kernel)) ggX6_better_X6_isWord
set_option maxRecDepth 20000 in
theorem ggX6_better_X6_betterNow : GoodIn wsX6_better wsX6_betterNow := goodIn_r _ [22, 23, 24, 25, 26, 27, 5, 28, 14, 15, 16, 17, 18, 29, 30, 31, 32, 1, 33, 34, 35, 36, 37, 38, 39, 40, 41, 42, 43, 44, 45, 46, 47, 48, 49, 50, 51, 52, 53, 54, 55, 56, 57, 58, 59, 60] (by decide +kernel) (by decide +kernel)
set_option maxRecDepth 20000 in
theorem gX6_better_X6_betterNow : GoodIn wsX6_better (wsV RX6 122 RX6 yX6_betterNow wsX6_betterNow) := goodIn_app (goodIn_of _ (by decide +kernel)) ggX6_better_X6_betterNow
theorem dX6_better_0 : decode cX6_better 0 = .ok (.aload_n 0, 1) := by decide +kernel
theorem dX6_better_1 : decode cX6_better 1 = .ok (.invokevirtual 99, 3) := by decide +kernel
theorem dX6_better_4 : decode cX6_better 4 = .ok (.ifCond .ne 7, 3) := by decide +kernel
theorem dX6_better_7 : decode cX6_better 7 = .ok (.sipush (-1003), 3) := by decide +kernel
theorem dX6_better_10 : decode cX6_better 10 = .ok (.ireturn, 1) := by decide +kernel
theorem dX6_better_11 : decode cX6_better 11 = .ok (.iload_n 1, 1) := by decide +kernel
theorem dX6_better_12 : decode cX6_better 12 = .ok (.iconst 0, 1) := by decide +kernel
theorem dX6_better_13 : decode cX6_better 13 = .ok (.aload_n 0, 1) := by decide +kernel
theorem dX6_better_14 : decode cX6_better 14 = .ok (.getfield 56, 3) := by decide +kernel
theorem dX6_better_17 : decode cX6_better 17 = .ok (.iconst 1, 1) := by decide +kernel
theorem dX6_better_18 : decode cX6_better 18 = .ok (.isub, 1) := by decide +kernel
theorem dX6_better_19 : decode cX6_better 19 = .ok (.invokestatic 32, 3) := by decide +kernel
theorem dX6_better_22 : decode cX6_better 22 = .ok (.ifCond .eq 20, 3) := by decide +kernel
theorem dX6_better_25 : decode cX6_better 25 = .ok (.aload_n 0, 1) := by decide +kernel
theorem dX6_better_26 : decode cX6_better 26 = .ok (.iload_n 2, 1) := by decide +kernel
theorem dX6_better_27 : decode cX6_better 27 = .ok (.invokevirtual 106, 3) := by decide +kernel
theorem dX6_better_30 : decode cX6_better 30 = .ok (.ifCond .eq 12, 3) := by decide +kernel
theorem dX6_better_33 : decode cX6_better 33 = .ok (.aload_n 0, 1) := by decide +kernel
theorem dX6_better_34 : decode cX6_better 34 = .ok (.iload_n 1, 1) := by decide +kernel
theorem dX6_better_35 : decode cX6_better 35 = .ok (.iload_n 2, 1) := by decide +kernel
theorem dX6_better_36 : decode cX6_better 36 = .ok (.invokevirtual 122, 3) := by decide +kernel
theorem dX6_better_39 : decode cX6_better 39 = .ok (.goto 6, 3) := by decide +kernel
theorem dX6_better_42 : decode cX6_better 42 = .ok (.sipush (-1002), 3) := by decide +kernel
theorem dX6_better_45 : decode cX6_better 45 = .ok (.ireturn, 1) := by decide +kernel
theorem dX6_flipsOf_0 : decode cX6_flipsOf 0 = .ok (.aload_n 0, 1) := by decide +kernel
theorem dX6_flipsOf_1 : decode cX6_flipsOf 1 = .ok (.getfield 29, 3) := by decide +kernel
theorem dX6_flipsOf_4 : decode cX6_flipsOf 4 = .ok (.aload_n 0, 1) := by decide +kernel
theorem dX6_flipsOf_5 : decode cX6_flipsOf 5 = .ok (.getfield 26, 3) := by decide +kernel
theorem dX6_flipsOf_8 : decode cX6_flipsOf 8 = .ok (.iload_n 1, 1) := by decide +kernel
theorem dX6_flipsOf_9 : decode cX6_flipsOf 9 = .ok (.iload_n 2, 1) := by decide +kernel
theorem dX6_flipsOf_10 : decode cX6_flipsOf 10 = .ok (.ixor, 1) := by decide +kernel
theorem dX6_flipsOf_11 : decode cX6_flipsOf 11 = .ok (.iaload, 1) := by decide +kernel
theorem dX6_flipsOf_12 : decode cX6_flipsOf 12 = .ok (.iaload, 1) := by decide +kernel
theorem dX6_flipsOf_13 : decode cX6_flipsOf 13 = .ok (.ireturn, 1) := by decide +kernel
set_option maxRecDepth 20000 in
theorem ggX6_verdictOf_X6_flipsOf : GoodIn wsX6_verdictOf wsX6_flipsOf := goodIn_r _ [6, 7, 8, 12, 13, 14, 15, 16, 17, 18, 19, 20, 21, 22, 23, 24, 25, 26, 27, 28, 29, 30, 31, 32] (by decide +kernel) (by decide +kernel)
set_option maxRecDepth 20000 in
theorem gX6_verdictOf_X6_flipsOf : GoodIn wsX6_verdictOf (wsV RX6 125 RX6 yX6_flipsOf wsX6_flipsOf) := goodIn_app (goodIn_of _ (by decide +kernel)) ggX6_verdictOf_X6_flipsOf
set_option maxRecDepth 20000 in
theorem ggX6_verdictOf_X6_ones : GoodIn wsX6_verdictOf wsX6_ones := goodIn_r _ [11] (by decide +kernel) (by decide +kernel)
set_option maxRecDepth 20000 in
theorem gX6_verdictOf_X6_ones : GoodIn wsX6_verdictOf (va_wsS RX6 68 yX6_ones wsX6_ones) := goodIn_app (goodIn_of _ (by decide +kernel)) ggX6_verdictOf_X6_ones
theorem dX6_verdictOf_0 : decode cX6_verdictOf 0 = .ok (.aload_n 0, 1) := by decide +kernel
theorem dX6_verdictOf_1 : decode cX6_verdictOf 1 = .ok (.iload_n 1, 1) := by decide +kernel
theorem dX6_verdictOf_2 : decode cX6_verdictOf 2 = .ok (.iload_n 2, 1) := by decide +kernel
theorem dX6_verdictOf_3 : decode cX6_verdictOf 3 = .ok (.invokevirtual 125, 3) := by decide +kernel
theorem dX6_verdictOf_6 : decode cX6_verdictOf 6 = .ok (.istore_n 3, 1) := by decide +kernel
theorem dX6_verdictOf_7 : decode cX6_verdictOf 7 = .ok (.iload_n 1, 1) := by decide +kernel
theorem dX6_verdictOf_8 : decode cX6_verdictOf 8 = .ok (.iload_n 3, 1) := by decide +kernel
theorem dX6_verdictOf_9 : decode cX6_verdictOf 9 = .ok (.ixor, 1) := by decide +kernel
theorem dX6_verdictOf_10 : decode cX6_verdictOf 10 = .ok (.iload_n 2, 1) := by decide +kernel
theorem dX6_verdictOf_11 : decode cX6_verdictOf 11 = .ok (.if_icmp .ne 7, 3) := by decide +kernel
theorem dX6_verdictOf_14 : decode cX6_verdictOf 14 = .ok (.iconst 1, 1) := by decide +kernel
theorem dX6_verdictOf_15 : decode cX6_verdictOf 15 = .ok (.goto 4, 3) := by decide +kernel
theorem dX6_verdictOf_18 : decode cX6_verdictOf 18 = .ok (.iconst 0, 1) := by decide +kernel
theorem dX6_verdictOf_19 : decode cX6_verdictOf 19 = .ok (.istore 4, 2) := by decide +kernel
theorem dX6_verdictOf_21 : decode cX6_verdictOf 21 = .ok (.iload_n 3, 1) := by decide +kernel
theorem dX6_verdictOf_22 : decode cX6_verdictOf 22 = .ok (.invokestatic 68, 3) := by decide +kernel
theorem dX6_verdictOf_25 : decode cX6_verdictOf 25 = .ok (.aload_n 0, 1) := by decide +kernel
theorem dX6_verdictOf_26 : decode cX6_verdictOf 26 = .ok (.getfield 90, 3) := by decide +kernel
theorem dX6_verdictOf_29 : decode cX6_verdictOf 29 = .ok (.if_icmp .gt 7, 3) := by decide +kernel
theorem dX6_verdictOf_32 : decode cX6_verdictOf 32 = .ok (.iconst 1, 1) := by decide +kernel
theorem dX6_verdictOf_33 : decode cX6_verdictOf 33 = .ok (.goto 4, 3) := by decide +kernel
theorem dX6_verdictOf_36 : decode cX6_verdictOf 36 = .ok (.iconst 0, 1) := by decide +kernel
theorem dX6_verdictOf_37 : decode cX6_verdictOf 37 = .ok (.istore 5, 2) := by decide +kernel
theorem dX6_verdictOf_39 : decode cX6_verdictOf 39 = .ok (.iload 4, 2) := by decide +kernel
theorem dX6_verdictOf_41 : decode cX6_verdictOf 41 = .ok (.ifCond .eq 16, 3) := by decide +kernel
theorem dX6_verdictOf_44 : decode cX6_verdictOf 44 = .ok (.iload 5, 2) := by decide +kernel
theorem dX6_verdictOf_46 : decode cX6_verdictOf 46 = .ok (.ifCond .eq 7, 3) := by decide +kernel
theorem dX6_verdictOf_49 : decode cX6_verdictOf 49 = .ok (.iconst 0, 1) := by decide +kernel
theorem dX6_verdictOf_50 : decode cX6_verdictOf 50 = .ok (.goto 17, 3) := by decide +kernel
theorem dX6_verdictOf_53 : decode cX6_verdictOf 53 = .ok (.iconst 1, 1) := by decide +kernel
theorem dX6_verdictOf_54 : decode cX6_verdictOf 54 = .ok (.goto 13, 3) := by decide +kernel
theorem dX6_verdictOf_57 : decode cX6_verdictOf 57 = .ok (.iload 5, 2) := by decide +kernel
theorem dX6_verdictOf_59 : decode cX6_verdictOf 59 = .ok (.ifCond .eq 7, 3) := by decide +kernel
theorem dX6_verdictOf_62 : decode cX6_verdictOf 62 = .ok (.iconst 3, 1) := by decide +kernel
theorem dX6_verdictOf_63 : decode cX6_verdictOf 63 = .ok (.goto 4, 3) := by decide +kernel
theorem dX6_verdictOf_66 : decode cX6_verdictOf 66 = .ok (.iconst 2, 1) := by decide +kernel
theorem dX6_verdictOf_67 : decode cX6_verdictOf 67 = .ok (.ireturn, 1) := by decide +kernel
set_option maxRecDepth 20000 in
theorem ggX6_sendNow_X6_verdictOf : GoodIn wsX6_sendNow wsX6_verdictOf := goodIn_r _ [10, 11, 12, 13, 14, 9, 15, 16, 17, 18, 19, 20, 21, 22, 23, 24, 25, 26, 27, 28, 29, 30, 31, 32, 33, 34, 35, 36, 37, 38, 39, 40, 41] (by decide +kernel) (by decide +kernel)
set_option maxRecDepth 20000 in
theorem gX6_sendNow_X6_verdictOf : GoodIn wsX6_sendNow (wsV RX6 128 RX6 yX6_verdictOf wsX6_verdictOf) := goodIn_app (goodIn_of _ (by decide +kernel)) ggX6_sendNow_X6_verdictOf
theorem dX6_sendNow_0 : decode cX6_sendNow 0 = .ok (.aload_n 0, 1) := by decide +kernel
theorem dX6_sendNow_1 : decode cX6_sendNow 1 = .ok (.iload_n 1, 1) := by decide +kernel
theorem dX6_sendNow_2 : decode cX6_sendNow 2 = .ok (.iload_n 2, 1) := by decide +kernel
theorem dX6_sendNow_3 : decode cX6_sendNow 3 = .ok (.invokevirtual 128, 3) := by decide +kernel
theorem dX6_sendNow_6 : decode cX6_sendNow 6 = .ok (.istore_n 3, 1) := by decide +kernel
theorem dX6_sendNow_7 : decode cX6_sendNow 7 = .ok (.aload_n 0, 1) := by decide +kernel
theorem dX6_sendNow_8 : decode cX6_sendNow 8 = .ok (.getfield 20, 3) := by decide +kernel
theorem dX6_sendNow_11 : decode cX6_sendNow 11 = .ok (.iload_n 3, 1) := by decide +kernel
theorem dX6_sendNow_12 : decode cX6_sendNow 12 = .ok (.dup2, 1) := by decide +kernel
theorem dX6_sendNow_13 : decode cX6_sendNow 13 = .ok (.iaload, 1) := by decide +kernel
theorem dX6_sendNow_14 : decode cX6_sendNow 14 = .ok (.iconst 1, 1) := by decide +kernel
theorem dX6_sendNow_15 : decode cX6_sendNow 15 = .ok (.iadd, 1) := by decide +kernel
theorem dX6_sendNow_16 : decode cX6_sendNow 16 = .ok (.iastore, 1) := by decide +kernel
theorem dX6_sendNow_17 : decode cX6_sendNow 17 = .ok (.aload_n 0, 1) := by decide +kernel
theorem dX6_sendNow_18 : decode cX6_sendNow 18 = .ok (.dup, 1) := by decide +kernel
theorem dX6_sendNow_19 : decode cX6_sendNow 19 = .ok (.getfield 131, 3) := by decide +kernel
theorem dX6_sendNow_22 : decode cX6_sendNow 22 = .ok (.aload_n 0, 1) := by decide +kernel
theorem dX6_sendNow_23 : decode cX6_sendNow 23 = .ok (.getfield 59, 3) := by decide +kernel
theorem dX6_sendNow_26 : decode cX6_sendNow 26 = .ok (.aload_n 0, 1) := by decide +kernel
theorem dX6_sendNow_27 : decode cX6_sendNow 27 = .ok (.getfield 78, 3) := by decide +kernel
theorem dX6_sendNow_30 : decode cX6_sendNow 30 = .ok (.iadd, 1) := by decide +kernel
theorem dX6_sendNow_31 : decode cX6_sendNow 31 = .ok (.iadd, 1) := by decide +kernel
theorem dX6_sendNow_32 : decode cX6_sendNow 32 = .ok (.putfield 131, 3) := by decide +kernel
theorem dX6_sendNow_35 : decode cX6_sendNow 35 = .ok (.aload_n 0, 1) := by decide +kernel
theorem dX6_sendNow_36 : decode cX6_sendNow 36 = .ok (.dup, 1) := by decide +kernel
theorem dX6_sendNow_37 : decode cX6_sendNow 37 = .ok (.getfield 134, 3) := by decide +kernel
theorem dX6_sendNow_40 : decode cX6_sendNow 40 = .ok (.iconst 2, 1) := by decide +kernel
theorem dX6_sendNow_41 : decode cX6_sendNow 41 = .ok (.aload_n 0, 1) := by decide +kernel
theorem dX6_sendNow_42 : decode cX6_sendNow 42 = .ok (.getfield 59, 3) := by decide +kernel
theorem dX6_sendNow_45 : decode cX6_sendNow 45 = .ok (.imul, 1) := by decide +kernel
theorem dX6_sendNow_46 : decode cX6_sendNow 46 = .ok (.iadd, 1) := by decide +kernel
theorem dX6_sendNow_47 : decode cX6_sendNow 47 = .ok (.putfield 134, 3) := by decide +kernel
theorem dX6_sendNow_50 : decode cX6_sendNow 50 = .ok (.iload_n 3, 1) := by decide +kernel
theorem dX6_sendNow_51 : decode cX6_sendNow 51 = .ok (.ireturn, 1) := by decide +kernel
set_option maxRecDepth 20000 in
theorem ggX6_send_X6_isThere : GoodIn wsX6_send wsX6_isThere := goodIn_r _ [5, 6, 41, 42, 43, 44, 45, 46, 47, 48, 49, 50, 51, 52, 53, 54, 55, 56, 57, 58, 59, 60, 61] (by decide +kernel) (by decide +kernel)
set_option maxRecDepth 20000 in
theorem gX6_send_X6_isThere : GoodIn wsX6_send (wsV RX6 99 RX6 yX6_isThere wsX6_isThere) := goodIn_app (goodIn_of _ (by decide +kernel)) ggX6_send_X6_isThere
set_option maxRecDepth 20000 in
theorem ggX6_send_X6_isWord : GoodIn wsX6_send wsX6_isWord := goodIn_r _ [10, 11, 12, 13, 4, 14, 15, 16, 17, 18, 41, 42, 43, 44, 45, 46, 47, 48, 49, 50, 51, 52, 53, 54, 55, 56, 57, 58, 59, 60, 61] (by decide +kernel) (by decide +kernel)
set_option maxRecDepth 20000 in
theorem gX6_send_X6_isWord : GoodIn wsX6_send (wsV RX6 106 RX6 yX6_isWord wsX6_isWord) := goodIn_app (goodIn_of _ (by decide +kernel)) ggX6_send_X6_isWord
set_option maxRecDepth 20000 in
theorem ggX6_send_X6_sendNow : GoodIn wsX6_send wsX6_sendNow := goodIn_r _ [22, 23, 24, 15, 25, 26, 27, 28, 29, 4, 30, 31, 32, 33, 34, 35, 36, 37, 38, 39, 40, 41, 42, 43, 44, 45, 46, 47, 48, 49, 50, 51, 52, 53, 54, 55, 56, 57, 58, 59, 60, 61] (by decide +kernel) (by decide +kernel)
set_option maxRecDepth 20000 in
theorem gX6_send_X6_sendNow : GoodIn wsX6_send (wsV RX6 137 RX6 yX6_sendNow wsX6_sendNow) := goodIn_app (goodIn_of _ (by decide +kernel)) ggX6_send_X6_sendNow
theorem dX6_send_0 : decode cX6_send 0 = .ok (.aload_n 0, 1) := by decide +kernel
theorem dX6_send_1 : decode cX6_send 1 = .ok (.invokevirtual 99, 3) := by decide +kernel
theorem dX6_send_4 : decode cX6_send 4 = .ok (.ifCond .ne 7, 3) := by decide +kernel
theorem dX6_send_7 : decode cX6_send 7 = .ok (.sipush (-1003), 3) := by decide +kernel
theorem dX6_send_10 : decode cX6_send 10 = .ok (.ireturn, 1) := by decide +kernel
theorem dX6_send_11 : decode cX6_send 11 = .ok (.aload_n 0, 1) := by decide +kernel
theorem dX6_send_12 : decode cX6_send 12 = .ok (.iload_n 1, 1) := by decide +kernel
theorem dX6_send_13 : decode cX6_send 13 = .ok (.invokevirtual 106, 3) := by decide +kernel
theorem dX6_send_16 : decode cX6_send 16 = .ok (.ifCond .eq 20, 3) := by decide +kernel
theorem dX6_send_19 : decode cX6_send 19 = .ok (.aload_n 0, 1) := by decide +kernel
theorem dX6_send_20 : decode cX6_send 20 = .ok (.iload_n 2, 1) := by decide +kernel
theorem dX6_send_21 : decode cX6_send 21 = .ok (.invokevirtual 106, 3) := by decide +kernel
theorem dX6_send_24 : decode cX6_send 24 = .ok (.ifCond .eq 12, 3) := by decide +kernel
theorem dX6_send_27 : decode cX6_send 27 = .ok (.aload_n 0, 1) := by decide +kernel
theorem dX6_send_28 : decode cX6_send 28 = .ok (.iload_n 1, 1) := by decide +kernel
theorem dX6_send_29 : decode cX6_send 29 = .ok (.iload_n 2, 1) := by decide +kernel
theorem dX6_send_30 : decode cX6_send 30 = .ok (.invokevirtual 137, 3) := by decide +kernel
theorem dX6_send_33 : decode cX6_send 33 = .ok (.goto 6, 3) := by decide +kernel
theorem dX6_send_36 : decode cX6_send 36 = .ok (.sipush (-1002), 3) := by decide +kernel
theorem dX6_send_39 : decode cX6_send 39 = .ok (.ireturn, 1) := by decide +kernel
set_option maxRecDepth 20000 in
theorem ggX6_plain_X6_isThere : GoodIn wsX6_plain wsX6_isThere := goodIn_r _ [5, 6, 33, 34, 35, 36, 37, 38, 39, 40, 41, 42, 43, 44, 45, 46, 47, 48, 49, 50, 51, 52, 53] (by decide +kernel) (by decide +kernel)
set_option maxRecDepth 20000 in
theorem gX6_plain_X6_isThere : GoodIn wsX6_plain (wsV RX6 99 RX6 yX6_isThere wsX6_isThere) := goodIn_app (goodIn_of _ (by decide +kernel)) ggX6_plain_X6_isThere
set_option maxRecDepth 20000 in
theorem ggX6_plain_X6_isWord : GoodIn wsX6_plain wsX6_isWord := goodIn_r _ [10, 11, 12, 13, 4, 14, 15, 16, 17, 18, 33, 34, 35, 36, 37, 38, 39, 40, 41, 42, 43, 44, 45, 46, 47, 48, 49, 50, 51, 52, 53] (by decide +kernel) (by decide +kernel)
set_option maxRecDepth 20000 in
theorem gX6_plain_X6_isWord : GoodIn wsX6_plain (wsV RX6 106 RX6 yX6_isWord wsX6_isWord) := goodIn_app (goodIn_of _ (by decide +kernel)) ggX6_plain_X6_isWord
set_option maxRecDepth 20000 in
theorem ggX6_plain_X6_within : GoodIn wsX6_plain wsX6_within := goodIn_r _ [18] (by decide +kernel) (by decide +kernel)
set_option maxRecDepth 20000 in
theorem gX6_plain_X6_within : GoodIn wsX6_plain (va_wsS RX6 32 yX6_within wsX6_within) := goodIn_app (goodIn_of _ (by decide +kernel)) ggX6_plain_X6_within
set_option maxRecDepth 20000 in
theorem ggX6_plain_X6_verdictOf : GoodIn wsX6_plain wsX6_verdictOf := goodIn_r _ [22, 23, 24, 25, 26, 4, 27, 28, 29, 30, 31, 32, 33, 34, 35, 36, 37, 38, 39, 40, 41, 42, 43, 44, 45, 46, 47, 48, 49, 50, 51, 52, 53] (by decide +kernel) (by decide +kernel)
set_option maxRecDepth 20000 in
theorem gX6_plain_X6_verdictOf : GoodIn wsX6_plain (wsV RX6 128 RX6 yX6_verdictOf wsX6_verdictOf) := goodIn_app (goodIn_of _ (by decide +kernel)) ggX6_plain_X6_verdictOf
set_option maxRecDepth 20000 in
theorem ggX6_plain_X6_flipsOf : GoodIn wsX6_plain wsX6_flipsOf := goodIn_r _ [27, 28, 29, 33, 34, 35, 36, 37, 38, 39, 40, 41, 42, 43, 44, 45, 46, 47, 48, 49, 50, 51, 52, 53] (by decide +kernel) (by decide +kernel)
set_option maxRecDepth 20000 in
theorem gX6_plain_X6_flipsOf : GoodIn wsX6_plain (wsV RX6 125 RX6 yX6_flipsOf wsX6_flipsOf) := goodIn_app (goodIn_of _ (by decide +kernel)) ggX6_plain_X6_flipsOf
theorem dX6_plain_0 : decode cX6_plain 0 = .ok (.aload_n 0, 1) := by decide +kernel
theorem dX6_plain_1 : decode cX6_plain 1 = .ok (.invokevirtual 99, 3) := by decide +kernel
theorem dX6_plain_4 : decode cX6_plain 4 = .ok (.ifCond .ne 7, 3) := by decide +kernel
theorem dX6_plain_7 : decode cX6_plain 7 = .ok (.sipush (-1003), 3) := by decide +kernel
theorem dX6_plain_10 : decode cX6_plain 10 = .ok (.ireturn, 1) := by decide +kernel
theorem dX6_plain_11 : decode cX6_plain 11 = .ok (.aload_n 0, 1) := by decide +kernel
theorem dX6_plain_12 : decode cX6_plain 12 = .ok (.iload_n 1, 1) := by decide +kernel
theorem dX6_plain_13 : decode cX6_plain 13 = .ok (.invokevirtual 106, 3) := by decide +kernel
theorem dX6_plain_16 : decode cX6_plain 16 = .ok (.ifCond .eq 20, 3) := by decide +kernel
theorem dX6_plain_19 : decode cX6_plain 19 = .ok (.aload_n 0, 1) := by decide +kernel
theorem dX6_plain_20 : decode cX6_plain 20 = .ok (.iload_n 2, 1) := by decide +kernel
theorem dX6_plain_21 : decode cX6_plain 21 = .ok (.invokevirtual 106, 3) := by decide +kernel
theorem dX6_plain_24 : decode cX6_plain 24 = .ok (.ifCond .eq 12, 3) := by decide +kernel
theorem dX6_plain_27 : decode cX6_plain 27 = .ok (.iload_n 3, 1) := by decide +kernel
theorem dX6_plain_28 : decode cX6_plain 28 = .ok (.iconst 0, 1) := by decide +kernel
theorem dX6_plain_29 : decode cX6_plain 29 = .ok (.iconst 2, 1) := by decide +kernel
theorem dX6_plain_30 : decode cX6_plain 30 = .ok (.invokestatic 32, 3) := by decide +kernel
theorem dX6_plain_33 : decode cX6_plain 33 = .ok (.ifCond .ne 7, 3) := by decide +kernel
theorem dX6_plain_36 : decode cX6_plain 36 = .ok (.sipush (-1002), 3) := by decide +kernel
theorem dX6_plain_39 : decode cX6_plain 39 = .ok (.ireturn, 1) := by decide +kernel
theorem dX6_plain_40 : decode cX6_plain 40 = .ok (.iload_n 3, 1) := by decide +kernel
theorem dX6_plain_41 : decode cX6_plain 41 = .ok (.ifCond .ne 12, 3) := by decide +kernel
theorem dX6_plain_44 : decode cX6_plain 44 = .ok (.aload_n 0, 1) := by decide +kernel
theorem dX6_plain_45 : decode cX6_plain 45 = .ok (.iload_n 1, 1) := by decide +kernel
theorem dX6_plain_46 : decode cX6_plain 46 = .ok (.iload_n 2, 1) := by decide +kernel
theorem dX6_plain_47 : decode cX6_plain 47 = .ok (.invokevirtual 128, 3) := by decide +kernel
theorem dX6_plain_50 : decode cX6_plain 50 = .ok (.goto 25, 3) := by decide +kernel
theorem dX6_plain_53 : decode cX6_plain 53 = .ok (.iload_n 3, 1) := by decide +kernel
theorem dX6_plain_54 : decode cX6_plain 54 = .ok (.iconst 1, 1) := by decide +kernel
theorem dX6_plain_55 : decode cX6_plain 55 = .ok (.if_icmp .ne 12, 3) := by decide +kernel
theorem dX6_plain_58 : decode cX6_plain 58 = .ok (.aload_n 0, 1) := by decide +kernel
theorem dX6_plain_59 : decode cX6_plain 59 = .ok (.iload_n 1, 1) := by decide +kernel
theorem dX6_plain_60 : decode cX6_plain 60 = .ok (.iload_n 2, 1) := by decide +kernel
theorem dX6_plain_61 : decode cX6_plain 61 = .ok (.invokevirtual 125, 3) := by decide +kernel
theorem dX6_plain_64 : decode cX6_plain 64 = .ok (.goto 11, 3) := by decide +kernel
theorem dX6_plain_67 : decode cX6_plain 67 = .ok (.iload_n 1, 1) := by decide +kernel
theorem dX6_plain_68 : decode cX6_plain 68 = .ok (.aload_n 0, 1) := by decide +kernel
theorem dX6_plain_69 : decode cX6_plain 69 = .ok (.iload_n 1, 1) := by decide +kernel
theorem dX6_plain_70 : decode cX6_plain 70 = .ok (.iload_n 2, 1) := by decide +kernel
theorem dX6_plain_71 : decode cX6_plain 71 = .ok (.invokevirtual 125, 3) := by decide +kernel
theorem dX6_plain_74 : decode cX6_plain 74 = .ok (.ixor, 1) := by decide +kernel
theorem dX6_plain_75 : decode cX6_plain 75 = .ok (.ireturn, 1) := by decide +kernel
set_option maxRecDepth 20000 in
theorem ggX6_isEnough_X6_words : GoodIn wsX6_isEnough wsX6_words := goodIn_r _ [6, 7, 8, 9, 10, 11, 12, 13, 14, 15, 16, 17, 18, 19, 20, 21, 22, 23, 24, 25, 26, 27, 28] (by decide +kernel) (by decide +kernel)
set_option maxRecDepth 20000 in
theorem gX6_isEnough_X6_words : GoodIn wsX6_isEnough (wsV RX6 72 RX6 yX6_words wsX6_words) := goodIn_app (goodIn_of _ (by decide +kernel)) ggX6_isEnough_X6_words
theorem dX6_isEnough_0 : decode cX6_isEnough 0 = .ok (.iconst 1, 1) := by decide +kernel
theorem dX6_isEnough_1 : decode cX6_isEnough 1 = .ok (.istore_n 2, 1) := by decide +kernel
theorem dX6_isEnough_2 : decode cX6_isEnough 2 = .ok (.iconst 1, 1) := by decide +kernel
theorem dX6_isEnough_3 : decode cX6_isEnough 3 = .ok (.istore_n 3, 1) := by decide +kernel
theorem dX6_isEnough_4 : decode cX6_isEnough 4 = .ok (.iload_n 3, 1) := by decide +kernel
theorem dX6_isEnough_5 : decode cX6_isEnough 5 = .ok (.aload_n 0, 1) := by decide +kernel
theorem dX6_isEnough_6 : decode cX6_isEnough 6 = .ok (.invokevirtual 72, 3) := by decide +kernel
theorem dX6_isEnough_9 : decode cX6_isEnough 9 = .ok (.if_icmp .ge 34, 3) := by decide +kernel
theorem dX6_isEnough_12 : decode cX6_isEnough 12 = .ok (.iload_n 2, 1) := by decide +kernel
theorem dX6_isEnough_13 : decode cX6_isEnough 13 = .ok (.ifCond .eq 22, 3) := by decide +kernel
theorem dX6_isEnough_16 : decode cX6_isEnough 16 = .ok (.aload_n 0, 1) := by decide +kernel
theorem dX6_isEnough_17 : decode cX6_isEnough 17 = .ok (.getfield 26, 3) := by decide +kernel
theorem dX6_isEnough_20 : decode cX6_isEnough 20 = .ok (.iload_n 3, 1) := by decide +kernel
theorem dX6_isEnough_21 : decode cX6_isEnough 21 = .ok (.iaload, 1) := by decide +kernel
theorem dX6_isEnough_22 : decode cX6_isEnough 22 = .ok (.ifCond .ne 9, 3) := by decide +kernel
theorem dX6_isEnough_25 : decode cX6_isEnough 25 = .ok (.iload_n 3, 1) := by decide +kernel
theorem dX6_isEnough_26 : decode cX6_isEnough 26 = .ok (.iload_n 1, 1) := by decide +kernel
theorem dX6_isEnough_27 : decode cX6_isEnough 27 = .ok (.iand, 1) := by decide +kernel
theorem dX6_isEnough_28 : decode cX6_isEnough 28 = .ok (.ifCond .eq 7, 3) := by decide +kernel
theorem dX6_isEnough_31 : decode cX6_isEnough 31 = .ok (.iconst 1, 1) := by decide +kernel
theorem dX6_isEnough_32 : decode cX6_isEnough 32 = .ok (.goto 4, 3) := by decide +kernel
theorem dX6_isEnough_35 : decode cX6_isEnough 35 = .ok (.iconst 0, 1) := by decide +kernel
theorem dX6_isEnough_36 : decode cX6_isEnough 36 = .ok (.istore_n 2, 1) := by decide +kernel
theorem dX6_isEnough_37 : decode cX6_isEnough 37 = .ok (.iinc 3 1, 3) := by decide +kernel
theorem dX6_isEnough_40 : decode cX6_isEnough 40 = .ok (.goto (-36), 3) := by decide +kernel
theorem dX6_isEnough_43 : decode cX6_isEnough 43 = .ok (.iload_n 2, 1) := by decide +kernel
theorem dX6_isEnough_44 : decode cX6_isEnough 44 = .ok (.ireturn, 1) := by decide +kernel
set_option maxRecDepth 20000 in
theorem ggX6_areSets_X6_isWord : GoodIn wsX6_areSets wsX6_isWord := goodIn_r _ [5, 6, 7, 8, 4, 9, 10, 11, 12, 13, 14, 15, 16, 17, 18, 19, 20, 21, 22, 23, 24, 25, 26, 27, 28, 29, 30, 31, 32, 33, 34] (by decide +kernel) (by decide +kernel)
set_option maxRecDepth 20000 in
theorem gX6_areSets_X6_isWord : GoodIn wsX6_areSets (wsV RX6 106 RX6 yX6_isWord wsX6_isWord) := goodIn_app (goodIn_of _ (by decide +kernel)) ggX6_areSets_X6_isWord
theorem dX6_areSets_0 : decode cX6_areSets 0 = .ok (.aload_n 0, 1) := by decide +kernel
theorem dX6_areSets_1 : decode cX6_areSets 1 = .ok (.iload_n 1, 1) := by decide +kernel
theorem dX6_areSets_2 : decode cX6_areSets 2 = .ok (.invokevirtual 106, 3) := by decide +kernel
theorem dX6_areSets_5 : decode cX6_areSets 5 = .ok (.ifCond .eq 21, 3) := by decide +kernel
theorem dX6_areSets_8 : decode cX6_areSets 8 = .ok (.aload_n 0, 1) := by decide +kernel
theorem dX6_areSets_9 : decode cX6_areSets 9 = .ok (.iload_n 2, 1) := by decide +kernel
theorem dX6_areSets_10 : decode cX6_areSets 10 = .ok (.invokevirtual 106, 3) := by decide +kernel
theorem dX6_areSets_13 : decode cX6_areSets 13 = .ok (.ifCond .eq 13, 3) := by decide +kernel
theorem dX6_areSets_16 : decode cX6_areSets 16 = .ok (.iload_n 1, 1) := by decide +kernel
theorem dX6_areSets_17 : decode cX6_areSets 17 = .ok (.iload_n 2, 1) := by decide +kernel
theorem dX6_areSets_18 : decode cX6_areSets 18 = .ok (.iand, 1) := by decide +kernel
theorem dX6_areSets_19 : decode cX6_areSets 19 = .ok (.ifCond .ne 7, 3) := by decide +kernel
theorem dX6_areSets_22 : decode cX6_areSets 22 = .ok (.iconst 1, 1) := by decide +kernel
theorem dX6_areSets_23 : decode cX6_areSets 23 = .ok (.goto 4, 3) := by decide +kernel
theorem dX6_areSets_26 : decode cX6_areSets 26 = .ok (.iconst 0, 1) := by decide +kernel
theorem dX6_areSets_27 : decode cX6_areSets 27 = .ok (.ireturn, 1) := by decide +kernel
set_option maxRecDepth 20000 in
theorem ggX6_share_X6_isThere : GoodIn wsX6_share wsX6_isThere := goodIn_r _ [6, 7, 32, 33, 34, 35, 36, 37, 38, 39, 40, 41, 42, 43, 44, 45, 46, 47, 48, 49, 50, 51, 52] (by decide +kernel) (by decide +kernel)
set_option maxRecDepth 20000 in
theorem gX6_share_X6_isThere : GoodIn wsX6_share (wsV RX6 99 RX6 yX6_isThere wsX6_isThere) := goodIn_app (goodIn_of _ (by decide +kernel)) ggX6_share_X6_isThere
set_option maxRecDepth 20000 in
theorem ggX6_share_X6_areSets : GoodIn wsX6_share wsX6_areSets := goodIn_r _ [11, 12, 13, 14, 5, 15, 16, 17, 18, 19, 20, 21, 22, 23, 32, 33, 34, 35, 36, 37, 38, 39, 40, 41, 42, 43, 44, 45, 46, 47, 48, 49, 50, 51, 52] (by decide +kernel) (by decide +kernel)
set_option maxRecDepth 20000 in
theorem gX6_share_X6_areSets : GoodIn wsX6_share (wsV RX6 140 RX6 yX6_areSets wsX6_areSets) := goodIn_app (goodIn_of _ (by decide +kernel)) ggX6_share_X6_areSets
set_option maxRecDepth 20000 in
theorem ggX6_share_X6_within : GoodIn wsX6_share wsX6_within := goodIn_r _ [23] (by decide +kernel) (by decide +kernel)
set_option maxRecDepth 20000 in
theorem gX6_share_X6_within : GoodIn wsX6_share (va_wsS RX6 32 yX6_within wsX6_within) := goodIn_app (goodIn_of _ (by decide +kernel)) ggX6_share_X6_within
set_option maxRecDepth 20000 in
theorem ggX6_share_X6_ones : GoodIn wsX6_share wsX6_ones := goodIn_r _ [26] (by decide +kernel) (by decide +kernel)
set_option maxRecDepth 20000 in
theorem gX6_share_X6_ones : GoodIn wsX6_share (va_wsS RX6 68 yX6_ones wsX6_ones) := goodIn_app (goodIn_of _ (by decide +kernel)) ggX6_share_X6_ones
set_option maxRecDepth 20000 in
theorem ggX6_share_X6_isEnough : GoodIn wsX6_share wsX6_isEnough := goodIn_r _ [30, 31, 16, 17, 18, 5, 19, 20, 32, 33, 34, 35, 36, 37, 38, 39, 40, 41, 42, 43, 44, 45, 46, 47, 48, 49, 50, 51, 52] (by decide +kernel) (by decide +kernel)
set_option maxRecDepth 20000 in
theorem gX6_share_X6_isEnough : GoodIn wsX6_share (wsV RX6 144 RX6 yX6_isEnough wsX6_isEnough) := goodIn_app (goodIn_of _ (by decide +kernel)) ggX6_share_X6_isEnough
end
section
theorem dX6_share_0 : decode cX6_share 0 = .ok (.aload_n 0, 1) := by decide +kernel
theorem dX6_share_1 : decode cX6_share 1 = .ok (.invokevirtual 99, 3) := by decide +kernel
theorem dX6_share_4 : decode cX6_share 4 = .ok (.ifCond .ne 7, 3) := by decide +kernel
theorem dX6_share_7 : decode cX6_share 7 = .ok (.sipush (-1003), 3) := by decide +kernel
theorem dX6_share_10 : decode cX6_share 10 = .ok (.ireturn, 1) := by decide +kernel
theorem dX6_share_11 : decode cX6_share 11 = .ok (.aload_n 0, 1) := by decide +kernel
theorem dX6_share_12 : decode cX6_share 12 = .ok (.iload_n 1, 1) := by decide +kernel
theorem dX6_share_13 : decode cX6_share 13 = .ok (.iload_n 2, 1) := by decide +kernel
theorem dX6_share_14 : decode cX6_share 14 = .ok (.invokevirtual 140, 3) := by decide +kernel
theorem dX6_share_17 : decode cX6_share 17 = .ok (.ifCond .eq 12, 3) := by decide +kernel
theorem dX6_share_20 : decode cX6_share 20 = .ok (.iload_n 3, 1) := by decide +kernel
theorem dX6_share_21 : decode cX6_share 21 = .ok (.iconst 0, 1) := by decide +kernel
theorem dX6_share_22 : decode cX6_share 22 = .ok (.iconst 1, 1) := by decide +kernel
theorem dX6_share_23 : decode cX6_share 23 = .ok (.invokestatic 32, 3) := by decide +kernel
theorem dX6_share_26 : decode cX6_share 26 = .ok (.ifCond .ne 7, 3) := by decide +kernel
theorem dX6_share_29 : decode cX6_share 29 = .ok (.sipush (-1002), 3) := by decide +kernel
theorem dX6_share_32 : decode cX6_share 32 = .ok (.ireturn, 1) := by decide +kernel
theorem dX6_share_33 : decode cX6_share 33 = .ok (.iload_n 3, 1) := by decide +kernel
theorem dX6_share_34 : decode cX6_share 34 = .ok (.iconst 1, 1) := by decide +kernel
theorem dX6_share_35 : decode cX6_share 35 = .ok (.if_icmp .ne 19, 3) := by decide +kernel
theorem dX6_share_38 : decode cX6_share 38 = .ok (.iconst 2, 1) := by decide +kernel
theorem dX6_share_39 : decode cX6_share 39 = .ok (.aload_n 0, 1) := by decide +kernel
theorem dX6_share_40 : decode cX6_share 40 = .ok (.getfield 78, 3) := by decide +kernel
theorem dX6_share_43 : decode cX6_share 43 = .ok (.imul, 1) := by decide +kernel
theorem dX6_share_44 : decode cX6_share 44 = .ok (.iload_n 1, 1) := by decide +kernel
theorem dX6_share_45 : decode cX6_share 45 = .ok (.iload_n 2, 1) := by decide +kernel
theorem dX6_share_46 : decode cX6_share 46 = .ok (.ior, 1) := by decide +kernel
theorem dX6_share_47 : decode cX6_share 47 = .ok (.invokestatic 68, 3) := by decide +kernel
theorem dX6_share_50 : decode cX6_share 50 = .ok (.iadd, 1) := by decide +kernel
theorem dX6_share_51 : decode cX6_share 51 = .ok (.goto 18, 3) := by decide +kernel
theorem dX6_share_54 : decode cX6_share 54 = .ok (.aload_n 0, 1) := by decide +kernel
theorem dX6_share_55 : decode cX6_share 55 = .ok (.iload_n 1, 1) := by decide +kernel
theorem dX6_share_56 : decode cX6_share 56 = .ok (.iload_n 2, 1) := by decide +kernel
theorem dX6_share_57 : decode cX6_share 57 = .ok (.ior, 1) := by decide +kernel
theorem dX6_share_58 : decode cX6_share 58 = .ok (.invokevirtual 144, 3) := by decide +kernel
theorem dX6_share_61 : decode cX6_share 61 = .ok (.ifCond .eq 7, 3) := by decide +kernel
theorem dX6_share_64 : decode cX6_share 64 = .ok (.iconst 1, 1) := by decide +kernel
theorem dX6_share_65 : decode cX6_share 65 = .ok (.goto 4, 3) := by decide +kernel
theorem dX6_share_68 : decode cX6_share 68 = .ok (.iconst 0, 1) := by decide +kernel
theorem dX6_share_69 : decode cX6_share 69 = .ok (.ireturn, 1) := by decide +kernel
set_option maxRecDepth 20000 in
theorem ggX6_sharedNow_X6_isEnough : GoodIn wsX6_sharedNow wsX6_isEnough := goodIn_r _ [6, 1, 7, 8, 9, 5, 10, 11, 17, 18, 19, 20, 21, 22, 23, 24, 25, 26, 27, 28, 29, 30, 31, 32, 33, 34, 35, 36, 37] (by decide +kernel) (by decide +kernel)
set_option maxRecDepth 20000 in
theorem gX6_sharedNow_X6_isEnough : GoodIn wsX6_sharedNow (wsV RX6 144 RX6 yX6_isEnough wsX6_isEnough) := goodIn_app (goodIn_of _ (by decide +kernel)) ggX6_sharedNow_X6_isEnough
set_option maxRecDepth 20000 in
theorem ggX6_sharedNow_X6_flipsOf : GoodIn wsX6_sharedNow wsX6_flipsOf := goodIn_r _ [15, 16, 1, 17, 18, 19, 20, 21, 22, 23, 24, 25, 26, 27, 28, 29, 30, 31, 32, 33, 34, 35, 36, 37] (by decide +kernel) (by decide +kernel)
set_option maxRecDepth 20000 in
theorem gX6_sharedNow_X6_flipsOf : GoodIn wsX6_sharedNow (wsV RX6 125 RX6 yX6_flipsOf wsX6_flipsOf) := goodIn_app (goodIn_of _ (by decide +kernel)) ggX6_sharedNow_X6_flipsOf
set_option maxRecDepth 20000 in
theorem ggX6_sharedNow_X6_words : GoodIn wsX6_sharedNow wsX6_words := goodIn_r _ [10, 11, 17, 18, 19, 20, 21, 22, 23, 24, 25, 26, 27, 28, 29, 30, 31, 32, 33, 34, 35, 36, 37] (by decide +kernel) (by decide +kernel)
set_option maxRecDepth 20000 in
theorem gX6_sharedNow_X6_words : GoodIn wsX6_sharedNow (wsV RX6 72 RX6 yX6_words wsX6_words) := goodIn_app (goodIn_of _ (by decide +kernel)) ggX6_sharedNow_X6_words
theorem dX6_sharedNow_0 : decode cX6_sharedNow 0 = .ok (.aload_n 0, 1) := by decide +kernel
theorem dX6_sharedNow_1 : decode cX6_sharedNow 1 = .ok (.iload_n 1, 1) := by decide +kernel
theorem dX6_sharedNow_2 : decode cX6_sharedNow 2 = .ok (.iload_n 2, 1) := by decide +kernel
theorem dX6_sharedNow_3 : decode cX6_sharedNow 3 = .ok (.ior, 1) := by decide +kernel
theorem dX6_sharedNow_4 : decode cX6_sharedNow 4 = .ok (.invokevirtual 144, 3) := by decide +kernel
theorem dX6_sharedNow_7 : decode cX6_sharedNow 7 = .ok (.ifCond .ne 7, 3) := by decide +kernel
theorem dX6_sharedNow_10 : decode cX6_sharedNow 10 = .ok (.sipush (-1001), 3) := by decide +kernel
theorem dX6_sharedNow_13 : decode cX6_sharedNow 13 = .ok (.ireturn, 1) := by decide +kernel
theorem dX6_sharedNow_14 : decode cX6_sharedNow 14 = .ok (.aload_n 0, 1) := by decide +kernel
theorem dX6_sharedNow_15 : decode cX6_sharedNow 15 = .ok (.iload_n 3, 1) := by decide +kernel
theorem dX6_sharedNow_16 : decode cX6_sharedNow 16 = .ok (.iload 4, 2) := by decide +kernel
theorem dX6_sharedNow_18 : decode cX6_sharedNow 18 = .ok (.invokevirtual 125, 3) := by decide +kernel
theorem dX6_sharedNow_21 : decode cX6_sharedNow 21 = .ok (.istore 6, 2) := by decide +kernel
theorem dX6_sharedNow_23 : decode cX6_sharedNow 23 = .ok (.iload_n 3, 1) := by decide +kernel
theorem dX6_sharedNow_24 : decode cX6_sharedNow 24 = .ok (.iload_n 1, 1) := by decide +kernel
theorem dX6_sharedNow_25 : decode cX6_sharedNow 25 = .ok (.iand, 1) := by decide +kernel
theorem dX6_sharedNow_26 : decode cX6_sharedNow 26 = .ok (.iload 4, 2) := by decide +kernel
theorem dX6_sharedNow_28 : decode cX6_sharedNow 28 = .ok (.iload 6, 2) := by decide +kernel
theorem dX6_sharedNow_30 : decode cX6_sharedNow 30 = .ok (.ixor, 1) := by decide +kernel
theorem dX6_sharedNow_31 : decode cX6_sharedNow 31 = .ok (.iload_n 2, 1) := by decide +kernel
theorem dX6_sharedNow_32 : decode cX6_sharedNow 32 = .ok (.iand, 1) := by decide +kernel
theorem dX6_sharedNow_33 : decode cX6_sharedNow 33 = .ok (.ior, 1) := by decide +kernel
theorem dX6_sharedNow_34 : decode cX6_sharedNow 34 = .ok (.istore 7, 2) := by decide +kernel
theorem dX6_sharedNow_36 : decode cX6_sharedNow 36 = .ok (.sipush (-1001), 3) := by decide +kernel
theorem dX6_sharedNow_39 : decode cX6_sharedNow 39 = .ok (.istore 8, 2) := by decide +kernel
theorem dX6_sharedNow_41 : decode cX6_sharedNow 41 = .ok (.iconst 0, 1) := by decide +kernel
theorem dX6_sharedNow_42 : decode cX6_sharedNow 42 = .ok (.istore 9, 2) := by decide +kernel
theorem dX6_sharedNow_44 : decode cX6_sharedNow 44 = .ok (.iload 9, 2) := by decide +kernel
theorem dX6_sharedNow_46 : decode cX6_sharedNow 46 = .ok (.aload_n 0, 1) := by decide +kernel
theorem dX6_sharedNow_47 : decode cX6_sharedNow 47 = .ok (.invokevirtual 72, 3) := by decide +kernel
theorem dX6_sharedNow_50 : decode cX6_sharedNow 50 = .ok (.if_icmp .ge 45, 3) := by decide +kernel
theorem dX6_sharedNow_53 : decode cX6_sharedNow 53 = .ok (.aload_n 0, 1) := by decide +kernel
theorem dX6_sharedNow_54 : decode cX6_sharedNow 54 = .ok (.getfield 26, 3) := by decide +kernel
theorem dX6_sharedNow_57 : decode cX6_sharedNow 57 = .ok (.iload 9, 2) := by decide +kernel
theorem dX6_sharedNow_59 : decode cX6_sharedNow 59 = .ok (.iaload, 1) := by decide +kernel
theorem dX6_sharedNow_60 : decode cX6_sharedNow 60 = .ok (.aload_n 0, 1) := by decide +kernel
theorem dX6_sharedNow_61 : decode cX6_sharedNow 61 = .ok (.getfield 26, 3) := by decide +kernel
theorem dX6_sharedNow_64 : decode cX6_sharedNow 64 = .ok (.iload_n 3, 1) := by decide +kernel
theorem dX6_sharedNow_65 : decode cX6_sharedNow 65 = .ok (.iaload, 1) := by decide +kernel
theorem dX6_sharedNow_66 : decode cX6_sharedNow 66 = .ok (.if_icmp .ne 19, 3) := by decide +kernel
theorem dX6_sharedNow_69 : decode cX6_sharedNow 69 = .ok (.iload 9, 2) := by decide +kernel
theorem dX6_sharedNow_71 : decode cX6_sharedNow 71 = .ok (.iload_n 1, 1) := by decide +kernel
theorem dX6_sharedNow_72 : decode cX6_sharedNow 72 = .ok (.iload_n 2, 1) := by decide +kernel
theorem dX6_sharedNow_73 : decode cX6_sharedNow 73 = .ok (.ior, 1) := by decide +kernel
theorem dX6_sharedNow_74 : decode cX6_sharedNow 74 = .ok (.iand, 1) := by decide +kernel
theorem dX6_sharedNow_75 : decode cX6_sharedNow 75 = .ok (.iload 7, 2) := by decide +kernel
theorem dX6_sharedNow_77 : decode cX6_sharedNow 77 = .ok (.if_icmp .ne 8, 3) := by decide +kernel
theorem dX6_sharedNow_80 : decode cX6_sharedNow 80 = .ok (.iload 9, 2) := by decide +kernel
theorem dX6_sharedNow_82 : decode cX6_sharedNow 82 = .ok (.goto 5, 3) := by decide +kernel
theorem dX6_sharedNow_85 : decode cX6_sharedNow 85 = .ok (.iload 8, 2) := by decide +kernel
theorem dX6_sharedNow_87 : decode cX6_sharedNow 87 = .ok (.istore 8, 2) := by decide +kernel
theorem dX6_sharedNow_89 : decode cX6_sharedNow 89 = .ok (.iinc 9 1, 3) := by decide +kernel
theorem dX6_sharedNow_92 : decode cX6_sharedNow 92 = .ok (.goto (-48), 3) := by decide +kernel
theorem dX6_sharedNow_95 : decode cX6_sharedNow 95 = .ok (.iload 8, 2) := by decide +kernel
theorem dX6_sharedNow_97 : decode cX6_sharedNow 97 = .ok (.sipush (-1001), 3) := by decide +kernel
theorem dX6_sharedNow_100 : decode cX6_sharedNow 100 = .ok (.if_icmp .eq 8, 3) := by decide +kernel
theorem dX6_sharedNow_103 : decode cX6_sharedNow 103 = .ok (.iload 5, 2) := by decide +kernel
theorem dX6_sharedNow_105 : decode cX6_sharedNow 105 = .ok (.ifCond .ne 8, 3) := by decide +kernel
theorem dX6_sharedNow_108 : decode cX6_sharedNow 108 = .ok (.iload 8, 2) := by decide +kernel
theorem dX6_sharedNow_110 : decode cX6_sharedNow 110 = .ok (.goto 8, 3) := by decide +kernel
theorem dX6_sharedNow_113 : decode cX6_sharedNow 113 = .ok (.iload 8, 2) := by decide +kernel
theorem dX6_sharedNow_115 : decode cX6_sharedNow 115 = .ok (.iload 6, 2) := by decide +kernel
theorem dX6_sharedNow_117 : decode cX6_sharedNow 117 = .ok (.ixor, 1) := by decide +kernel
theorem dX6_sharedNow_118 : decode cX6_sharedNow 118 = .ok (.ireturn, 1) := by decide +kernel
set_option maxRecDepth 20000 in
theorem ggX6_shared_X6_isThere : GoodIn wsX6_shared wsX6_isThere := goodIn_r _ [5, 6, 37, 38, 39, 40, 41, 42, 43, 44, 45, 46, 47, 48, 49, 50, 51, 52, 53, 54, 55, 56, 57] (by decide +kernel) (by decide +kernel)
set_option maxRecDepth 20000 in
theorem gX6_shared_X6_isThere : GoodIn wsX6_shared (wsV RX6 99 RX6 yX6_isThere wsX6_isThere) := goodIn_app (goodIn_of _ (by decide +kernel)) ggX6_shared_X6_isThere
set_option maxRecDepth 20000 in
theorem ggX6_shared_X6_areSets : GoodIn wsX6_shared wsX6_areSets := goodIn_r _ [10, 11, 12, 13, 4, 14, 15, 16, 17, 18, 19, 20, 21, 22, 37, 38, 39, 40, 41, 42, 43, 44, 45, 46, 47, 48, 49, 50, 51, 52, 53, 54, 55, 56, 57] (by decide +kernel) (by decide +kernel)
set_option maxRecDepth 20000 in
theorem gX6_shared_X6_areSets : GoodIn wsX6_shared (wsV RX6 140 RX6 yX6_areSets wsX6_areSets) := goodIn_app (goodIn_of _ (by decide +kernel)) ggX6_shared_X6_areSets
set_option maxRecDepth 20000 in
theorem ggX6_shared_X6_isWord : GoodIn wsX6_shared wsX6_isWord := goodIn_r _ [14, 15, 16, 17, 4, 18, 19, 20, 21, 22, 37, 38, 39, 40, 41, 42, 43, 44, 45, 46, 47, 48, 49, 50, 51, 52, 53, 54, 55, 56, 57] (by decide +kernel) (by decide +kernel)
set_option maxRecDepth 20000 in
theorem gX6_shared_X6_isWord : GoodIn wsX6_shared (wsV RX6 106 RX6 yX6_isWord wsX6_isWord) := goodIn_app (goodIn_of _ (by decide +kernel)) ggX6_shared_X6_isWord
set_option maxRecDepth 20000 in
theorem ggX6_shared_X6_sharedNow : GoodIn wsX6_shared wsX6_sharedNow := goodIn_r _ [26, 27, 28, 29, 30, 4, 31, 15, 16, 17, 18, 19, 32, 33, 34, 35, 36, 37, 38, 39, 40, 41, 42, 43, 44, 45, 46, 47, 48, 49, 50, 51, 52, 53, 54, 55, 56, 57] (by decide +kernel) (by decide +kernel)
set_option maxRecDepth 20000 in
theorem gX6_shared_X6_sharedNow : GoodIn wsX6_shared (wsV RX6 147 RX6 yX6_sharedNow wsX6_sharedNow) := goodIn_app (goodIn_of _ (by decide +kernel)) ggX6_shared_X6_sharedNow
theorem dX6_shared_0 : decode cX6_shared 0 = .ok (.aload_n 0, 1) := by decide +kernel
theorem dX6_shared_1 : decode cX6_shared 1 = .ok (.invokevirtual 99, 3) := by decide +kernel
theorem dX6_shared_4 : decode cX6_shared 4 = .ok (.ifCond .ne 7, 3) := by decide +kernel
theorem dX6_shared_7 : decode cX6_shared 7 = .ok (.sipush (-1003), 3) := by decide +kernel
theorem dX6_shared_10 : decode cX6_shared 10 = .ok (.ireturn, 1) := by decide +kernel
theorem dX6_shared_11 : decode cX6_shared 11 = .ok (.aload_n 0, 1) := by decide +kernel
theorem dX6_shared_12 : decode cX6_shared 12 = .ok (.iload_n 1, 1) := by decide +kernel
theorem dX6_shared_13 : decode cX6_shared 13 = .ok (.iload_n 2, 1) := by decide +kernel
theorem dX6_shared_14 : decode cX6_shared 14 = .ok (.invokevirtual 140, 3) := by decide +kernel
theorem dX6_shared_17 : decode cX6_shared 17 = .ok (.ifCond .eq 34, 3) := by decide +kernel
theorem dX6_shared_20 : decode cX6_shared 20 = .ok (.aload_n 0, 1) := by decide +kernel
theorem dX6_shared_21 : decode cX6_shared 21 = .ok (.iload_n 3, 1) := by decide +kernel
theorem dX6_shared_22 : decode cX6_shared 22 = .ok (.invokevirtual 106, 3) := by decide +kernel
theorem dX6_shared_25 : decode cX6_shared 25 = .ok (.ifCond .eq 26, 3) := by decide +kernel
theorem dX6_shared_28 : decode cX6_shared 28 = .ok (.aload_n 0, 1) := by decide +kernel
theorem dX6_shared_29 : decode cX6_shared 29 = .ok (.iload 4, 2) := by decide +kernel
theorem dX6_shared_31 : decode cX6_shared 31 = .ok (.invokevirtual 106, 3) := by decide +kernel
theorem dX6_shared_34 : decode cX6_shared 34 = .ok (.ifCond .eq 17, 3) := by decide +kernel
theorem dX6_shared_37 : decode cX6_shared 37 = .ok (.aload_n 0, 1) := by decide +kernel
theorem dX6_shared_38 : decode cX6_shared 38 = .ok (.iload_n 1, 1) := by decide +kernel
theorem dX6_shared_39 : decode cX6_shared 39 = .ok (.iload_n 2, 1) := by decide +kernel
theorem dX6_shared_40 : decode cX6_shared 40 = .ok (.iload_n 3, 1) := by decide +kernel
theorem dX6_shared_41 : decode cX6_shared 41 = .ok (.iload 4, 2) := by decide +kernel
theorem dX6_shared_43 : decode cX6_shared 43 = .ok (.iload 5, 2) := by decide +kernel
theorem dX6_shared_45 : decode cX6_shared 45 = .ok (.invokevirtual 147, 3) := by decide +kernel
theorem dX6_shared_48 : decode cX6_shared 48 = .ok (.goto 6, 3) := by decide +kernel
theorem dX6_shared_51 : decode cX6_shared 51 = .ok (.sipush (-1002), 3) := by decide +kernel
theorem dX6_shared_54 : decode cX6_shared 54 = .ok (.ireturn, 1) := by decide +kernel
theorem dX6_draw_0 : decode cX6_draw 0 = .ok (.ldc2_w 151, 3) := by decide +kernel
theorem dX6_draw_3 : decode cX6_draw 3 = .ok (.aload_n 0, 1) := by decide +kernel
theorem dX6_draw_4 : decode cX6_draw 4 = .ok (.getfield 16, 3) := by decide +kernel
theorem dX6_draw_7 : decode cX6_draw 7 = .ok (.i2l, 1) := by decide +kernel
theorem dX6_draw_8 : decode cX6_draw 8 = .ok (.lmul, 1) := by decide +kernel
theorem dX6_draw_9 : decode cX6_draw 9 = .ok (.ldc2_w 153, 3) := by decide +kernel
theorem dX6_draw_12 : decode cX6_draw 12 = .ok (.ladd, 1) := by decide +kernel
theorem dX6_draw_13 : decode cX6_draw 13 = .ok (.ldc2_w 155, 3) := by decide +kernel
theorem dX6_draw_16 : decode cX6_draw 16 = .ok (.lrem, 1) := by decide +kernel
theorem dX6_draw_17 : decode cX6_draw 17 = .ok (.lstore_n 2, 1) := by decide +kernel
theorem dX6_draw_18 : decode cX6_draw 18 = .ok (.aload_n 0, 1) := by decide +kernel
theorem dX6_draw_19 : decode cX6_draw 19 = .ok (.lload_n 2, 1) := by decide +kernel
theorem dX6_draw_20 : decode cX6_draw 20 = .ok (.l2i, 1) := by decide +kernel
theorem dX6_draw_21 : decode cX6_draw 21 = .ok (.putfield 16, 3) := by decide +kernel
theorem dX6_draw_24 : decode cX6_draw 24 = .ok (.lload_n 2, 1) := by decide +kernel
theorem dX6_draw_25 : decode cX6_draw 25 = .ok (.ldc2_w 157, 3) := by decide +kernel
theorem dX6_draw_28 : decode cX6_draw 28 = .ok (.ldiv, 1) := by decide +kernel
theorem dX6_draw_29 : decode cX6_draw 29 = .ok (.iload_n 1, 1) := by decide +kernel
theorem dX6_draw_30 : decode cX6_draw 30 = .ok (.i2l, 1) := by decide +kernel
theorem dX6_draw_31 : decode cX6_draw 31 = .ok (.lrem, 1) := by decide +kernel
theorem dX6_draw_32 : decode cX6_draw 32 = .ok (.l2i, 1) := by decide +kernel
theorem dX6_draw_33 : decode cX6_draw 33 = .ok (.ireturn, 1) := by decide +kernel
set_option maxRecDepth 20000 in
theorem ggX6_runNow_X6_words : GoodIn wsX6_runNow wsX6_words := goodIn_r _ [7, 2, 38, 39, 40, 41, 42, 43, 44, 45, 46, 47, 48, 49, 50, 51, 52, 53, 54, 55, 56, 57, 58] (by decide +kernel) (by decide +kernel)
set_option maxRecDepth 20000 in
theorem gX6_runNow_X6_words : GoodIn wsX6_runNow (wsV RX6 72 RX6 yX6_words wsX6_words) := goodIn_app (goodIn_of _ (by decide +kernel)) ggX6_runNow_X6_words
set_option maxRecDepth 20000 in
theorem ggX6_runNow_X6_draw : GoodIn wsX6_runNow wsX6_draw := goodIn_r _ [11, 12, 1, 13, 14, 15, 38, 39, 40, 41, 42, 43, 44, 45, 46, 47, 48, 49, 50, 51, 52, 53, 54, 55, 56, 57, 58] (by decide +kernel) (by decide +kernel)
set_option maxRecDepth 20000 in
theorem gX6_runNow_X6_draw : GoodIn wsX6_runNow (wsV RX6 159 RX6 yX6_draw wsX6_draw) := goodIn_app (goodIn_of _ (by decide +kernel)) ggX6_runNow_X6_draw
set_option maxRecDepth 20000 in
theorem ggX6_runNow_X6_sendNow : GoodIn wsX6_runNow wsX6_sendNow := goodIn_r _ [19, 20, 21, 2, 22, 23, 24, 25, 26, 6, 27, 28, 29, 30, 31, 32, 33, 34, 35, 36, 37, 38, 39, 40, 41, 42, 43, 44, 45, 46, 47, 48, 49, 50, 51, 52, 53, 54, 55, 56, 57, 58] (by decide +kernel) (by decide +kernel)
set_option maxRecDepth 20000 in
theorem gX6_runNow_X6_sendNow : GoodIn wsX6_runNow (wsV RX6 137 RX6 yX6_sendNow wsX6_sendNow) := goodIn_app (goodIn_of _ (by decide +kernel)) ggX6_runNow_X6_sendNow
theorem dX6_runNow_0 : decode cX6_runNow 0 = .ok (.iconst 0, 1) := by decide +kernel
theorem dX6_runNow_1 : decode cX6_runNow 1 = .ok (.istore 4, 2) := by decide +kernel
theorem dX6_runNow_3 : decode cX6_runNow 3 = .ok (.aload_n 0, 1) := by decide +kernel
theorem dX6_runNow_4 : decode cX6_runNow 4 = .ok (.iload_n 1, 1) := by decide +kernel
theorem dX6_runNow_5 : decode cX6_runNow 5 = .ok (.putfield 16, 3) := by decide +kernel
theorem dX6_runNow_8 : decode cX6_runNow 8 = .ok (.iconst 0, 1) := by decide +kernel
theorem dX6_runNow_9 : decode cX6_runNow 9 = .ok (.istore 5, 2) := by decide +kernel
theorem dX6_runNow_11 : decode cX6_runNow 11 = .ok (.iload 5, 2) := by decide +kernel
theorem dX6_runNow_13 : decode cX6_runNow 13 = .ok (.iload_n 2, 1) := by decide +kernel
theorem dX6_runNow_14 : decode cX6_runNow 14 = .ok (.if_icmp .ge 86, 3) := by decide +kernel
theorem dX6_runNow_17 : decode cX6_runNow 17 = .ok (.aload_n 0, 1) := by decide +kernel
theorem dX6_runNow_18 : decode cX6_runNow 18 = .ok (.aload_n 0, 1) := by decide +kernel
theorem dX6_runNow_19 : decode cX6_runNow 19 = .ok (.invokevirtual 72, 3) := by decide +kernel
theorem dX6_runNow_22 : decode cX6_runNow 22 = .ok (.invokevirtual 159, 3) := by decide +kernel
theorem dX6_runNow_25 : decode cX6_runNow 25 = .ok (.istore 6, 2) := by decide +kernel
theorem dX6_runNow_27 : decode cX6_runNow 27 = .ok (.iload 6, 2) := by decide +kernel
theorem dX6_runNow_29 : decode cX6_runNow 29 = .ok (.istore 7, 2) := by decide +kernel
theorem dX6_runNow_31 : decode cX6_runNow 31 = .ok (.iconst 0, 1) := by decide +kernel
theorem dX6_runNow_32 : decode cX6_runNow 32 = .ok (.istore 8, 2) := by decide +kernel
theorem dX6_runNow_34 : decode cX6_runNow 34 = .ok (.iload 8, 2) := by decide +kernel
theorem dX6_runNow_36 : decode cX6_runNow 36 = .ok (.aload_n 0, 1) := by decide +kernel
theorem dX6_runNow_37 : decode cX6_runNow 37 = .ok (.getfield 59, 3) := by decide +kernel
theorem dX6_runNow_40 : decode cX6_runNow 40 = .ok (.if_icmp .ge 32, 3) := by decide +kernel
theorem dX6_runNow_43 : decode cX6_runNow 43 = .ok (.iload 7, 2) := by decide +kernel
theorem dX6_runNow_45 : decode cX6_runNow 45 = .ok (.aload_n 0, 1) := by decide +kernel
theorem dX6_runNow_46 : decode cX6_runNow 46 = .ok (.bipush 16, 2) := by decide +kernel
theorem dX6_runNow_48 : decode cX6_runNow 48 = .ok (.invokevirtual 159, 3) := by decide +kernel
theorem dX6_runNow_51 : decode cX6_runNow 51 = .ok (.iload_n 3, 1) := by decide +kernel
theorem dX6_runNow_52 : decode cX6_runNow 52 = .ok (.if_icmp .ge 10, 3) := by decide +kernel
theorem dX6_runNow_55 : decode cX6_runNow 55 = .ok (.iconst 1, 1) := by decide +kernel
theorem dX6_runNow_56 : decode cX6_runNow 56 = .ok (.iload 8, 2) := by decide +kernel
theorem dX6_runNow_58 : decode cX6_runNow 58 = .ok (.ishl, 1) := by decide +kernel
theorem dX6_runNow_59 : decode cX6_runNow 59 = .ok (.goto 4, 3) := by decide +kernel
theorem dX6_runNow_62 : decode cX6_runNow 62 = .ok (.iconst 0, 1) := by decide +kernel
theorem dX6_runNow_63 : decode cX6_runNow 63 = .ok (.ixor, 1) := by decide +kernel
theorem dX6_runNow_64 : decode cX6_runNow 64 = .ok (.istore 7, 2) := by decide +kernel
theorem dX6_runNow_66 : decode cX6_runNow 66 = .ok (.iinc 8 1, 3) := by decide +kernel
theorem dX6_runNow_69 : decode cX6_runNow 69 = .ok (.goto (-35), 3) := by decide +kernel
theorem dX6_runNow_72 : decode cX6_runNow 72 = .ok (.iload 4, 2) := by decide +kernel
theorem dX6_runNow_74 : decode cX6_runNow 74 = .ok (.aload_n 0, 1) := by decide +kernel
theorem dX6_runNow_75 : decode cX6_runNow 75 = .ok (.iload 6, 2) := by decide +kernel
theorem dX6_runNow_77 : decode cX6_runNow 77 = .ok (.iload 7, 2) := by decide +kernel
theorem dX6_runNow_79 : decode cX6_runNow 79 = .ok (.invokevirtual 137, 3) := by decide +kernel
theorem dX6_runNow_82 : decode cX6_runNow 82 = .ok (.iconst 3, 1) := by decide +kernel
theorem dX6_runNow_83 : decode cX6_runNow 83 = .ok (.if_icmp .ne 7, 3) := by decide +kernel
theorem dX6_runNow_86 : decode cX6_runNow 86 = .ok (.iconst 1, 1) := by decide +kernel
theorem dX6_runNow_87 : decode cX6_runNow 87 = .ok (.goto 4, 3) := by decide +kernel
theorem dX6_runNow_90 : decode cX6_runNow 90 = .ok (.iconst 0, 1) := by decide +kernel
theorem dX6_runNow_91 : decode cX6_runNow 91 = .ok (.iadd, 1) := by decide +kernel
theorem dX6_runNow_92 : decode cX6_runNow 92 = .ok (.istore 4, 2) := by decide +kernel
theorem dX6_runNow_94 : decode cX6_runNow 94 = .ok (.iinc 5 1, 3) := by decide +kernel
theorem dX6_runNow_97 : decode cX6_runNow 97 = .ok (.goto (-86), 3) := by decide +kernel
theorem dX6_runNow_100 : decode cX6_runNow 100 = .ok (.iload 4, 2) := by decide +kernel
theorem dX6_runNow_102 : decode cX6_runNow 102 = .ok (.ireturn, 1) := by decide +kernel
set_option maxRecDepth 20000 in
theorem ggX6_run_X6_isThere : GoodIn wsX6_run wsX6_isThere := goodIn_r _ [5, 6, 50, 51, 52, 53, 54, 55, 56, 57, 58, 59, 60, 61, 62, 63, 64, 65, 66, 67, 68, 69, 70] (by decide +kernel) (by decide +kernel)
set_option maxRecDepth 20000 in
theorem gX6_run_X6_isThere : GoodIn wsX6_run (wsV RX6 99 RX6 yX6_isThere wsX6_isThere) := goodIn_app (goodIn_of _ (by decide +kernel)) ggX6_run_X6_isThere
set_option maxRecDepth 20000 in
theorem ggX6_run_X6_within : GoodIn wsX6_run wsX6_within := goodIn_r _ [9] (by decide +kernel) (by decide +kernel)
set_option maxRecDepth 20000 in
theorem gX6_run_X6_within : GoodIn wsX6_run (va_wsS RX6 32 yX6_within wsX6_within) := goodIn_app (goodIn_of _ (by decide +kernel)) ggX6_run_X6_within
set_option maxRecDepth 20000 in
theorem ggX6_run_X6_runNow : GoodIn wsX6_run wsX6_runNow := goodIn_r _ [13, 14, 15, 16, 17, 18, 4, 19, 20, 21, 22, 23, 24, 25, 26, 27, 28, 29, 30, 31, 32, 33, 34, 35, 36, 37, 38, 39, 40, 41, 42, 43, 44, 45, 46, 47, 48, 49, 50, 51, 52, 53, 54, 55, 56, 57, 58, 59, 60, 61, 62, 63, 64, 65, 66, 67, 68, 69, 70] (by decide +kernel) (by decide +kernel)
set_option maxRecDepth 20000 in
theorem gX6_run_X6_runNow : GoodIn wsX6_run (wsV RX6 162 RX6 yX6_runNow wsX6_runNow) := goodIn_app (goodIn_of _ (by decide +kernel)) ggX6_run_X6_runNow
theorem dX6_run_0 : decode cX6_run 0 = .ok (.aload_n 0, 1) := by decide +kernel
theorem dX6_run_1 : decode cX6_run 1 = .ok (.invokevirtual 99, 3) := by decide +kernel
theorem dX6_run_4 : decode cX6_run 4 = .ok (.ifCond .ne 7, 3) := by decide +kernel
theorem dX6_run_7 : decode cX6_run 7 = .ok (.sipush (-1003), 3) := by decide +kernel
theorem dX6_run_10 : decode cX6_run 10 = .ok (.ireturn, 1) := by decide +kernel
theorem dX6_run_11 : decode cX6_run 11 = .ok (.iload_n 1, 1) := by decide +kernel
theorem dX6_run_12 : decode cX6_run 12 = .ok (.ifCond .lt 33, 3) := by decide +kernel
theorem dX6_run_15 : decode cX6_run 15 = .ok (.iload_n 2, 1) := by decide +kernel
theorem dX6_run_16 : decode cX6_run 16 = .ok (.iconst 1, 1) := by decide +kernel
theorem dX6_run_17 : decode cX6_run 17 = .ok (.bipush 50, 2) := by decide +kernel
theorem dX6_run_19 : decode cX6_run 19 = .ok (.invokestatic 32, 3) := by decide +kernel
theorem dX6_run_22 : decode cX6_run 22 = .ok (.ifCond .eq 23, 3) := by decide +kernel
theorem dX6_run_25 : decode cX6_run 25 = .ok (.iload_n 3, 1) := by decide +kernel
theorem dX6_run_26 : decode cX6_run 26 = .ok (.iconst 0, 1) := by decide +kernel
theorem dX6_run_27 : decode cX6_run 27 = .ok (.bipush 16, 2) := by decide +kernel
theorem dX6_run_29 : decode cX6_run 29 = .ok (.invokestatic 32, 3) := by decide +kernel
theorem dX6_run_32 : decode cX6_run 32 = .ok (.ifCond .eq 13, 3) := by decide +kernel
theorem dX6_run_35 : decode cX6_run 35 = .ok (.aload_n 0, 1) := by decide +kernel
theorem dX6_run_36 : decode cX6_run 36 = .ok (.iload_n 1, 1) := by decide +kernel
theorem dX6_run_37 : decode cX6_run 37 = .ok (.iload_n 2, 1) := by decide +kernel
theorem dX6_run_38 : decode cX6_run 38 = .ok (.iload_n 3, 1) := by decide +kernel
theorem dX6_run_39 : decode cX6_run 39 = .ok (.invokevirtual 162, 3) := by decide +kernel
theorem dX6_run_42 : decode cX6_run 42 = .ok (.goto 6, 3) := by decide +kernel
theorem dX6_run_45 : decode cX6_run 45 = .ok (.sipush (-1002), 3) := by decide +kernel
theorem dX6_run_48 : decode cX6_run 48 = .ok (.ireturn, 1) := by decide +kernel
theorem dX6_seed_0 : decode cX6_seed 0 = .ok (.aload_n 0, 1) := by decide +kernel
theorem dX6_seed_1 : decode cX6_seed 1 = .ok (.getfield 16, 3) := by decide +kernel
theorem dX6_seed_4 : decode cX6_seed 4 = .ok (.ireturn, 1) := by decide +kernel
theorem dX6_howMany_0 : decode cX6_howMany 0 = .ok (.iload_n 1, 1) := by decide +kernel
theorem dX6_howMany_1 : decode cX6_howMany 1 = .ok (.tableswitch 76 0 7 #[47, 52, 52, 52, 52, 61, 66, 71], 47) := by decide +kernel
theorem dX6_howMany_48 : decode cX6_howMany 48 = .ok (.aload_n 0, 1) := by decide +kernel
theorem dX6_howMany_49 : decode cX6_howMany 49 = .ok (.getfield 36, 3) := by decide +kernel
theorem dX6_howMany_52 : decode cX6_howMany 52 = .ok (.ireturn, 1) := by decide +kernel
theorem dX6_howMany_53 : decode cX6_howMany 53 = .ok (.aload_n 0, 1) := by decide +kernel
theorem dX6_howMany_54 : decode cX6_howMany 54 = .ok (.getfield 20, 3) := by decide +kernel
theorem dX6_howMany_57 : decode cX6_howMany 57 = .ok (.iload_n 1, 1) := by decide +kernel
theorem dX6_howMany_58 : decode cX6_howMany 58 = .ok (.iconst 1, 1) := by decide +kernel
theorem dX6_howMany_59 : decode cX6_howMany 59 = .ok (.isub, 1) := by decide +kernel
theorem dX6_howMany_60 : decode cX6_howMany 60 = .ok (.iaload, 1) := by decide +kernel
theorem dX6_howMany_61 : decode cX6_howMany 61 = .ok (.ireturn, 1) := by decide +kernel
theorem dX6_howMany_62 : decode cX6_howMany 62 = .ok (.aload_n 0, 1) := by decide +kernel
theorem dX6_howMany_63 : decode cX6_howMany 63 = .ok (.getfield 131, 3) := by decide +kernel
theorem dX6_howMany_66 : decode cX6_howMany 66 = .ok (.ireturn, 1) := by decide +kernel
theorem dX6_howMany_67 : decode cX6_howMany 67 = .ok (.aload_n 0, 1) := by decide +kernel
theorem dX6_howMany_68 : decode cX6_howMany 68 = .ok (.getfield 134, 3) := by decide +kernel
theorem dX6_howMany_71 : decode cX6_howMany 71 = .ok (.ireturn, 1) := by decide +kernel
theorem dX6_howMany_72 : decode cX6_howMany 72 = .ok (.aload_n 0, 1) := by decide +kernel
theorem dX6_howMany_73 : decode cX6_howMany 73 = .ok (.getfield 62, 3) := by decide +kernel
theorem dX6_howMany_76 : decode cX6_howMany 76 = .ok (.ireturn, 1) := by decide +kernel
theorem dX6_howMany_77 : decode cX6_howMany 77 = .ok (.sipush (-1002), 3) := by decide +kernel
theorem dX6_howMany_80 : decode cX6_howMany 80 = .ok (.ireturn, 1) := by decide +kernel
set_option maxRecDepth 20000 in
theorem ggX6_count_X6_howMany : GoodIn wsX6_count wsX6_howMany := goodIn_r _ [5, 6, 7, 8, 9, 10, 11, 12, 13, 14, 15, 16, 17, 18, 19, 20, 21, 22, 23, 24, 25, 26, 27, 28, 29, 30, 31] (by decide +kernel) (by decide +kernel)
set_option maxRecDepth 20000 in
theorem gX6_count_X6_howMany : GoodIn wsX6_count (wsV RX6 166 RX6 yX6_howMany wsX6_howMany) := goodIn_app (goodIn_of _ (by decide +kernel)) ggX6_count_X6_howMany
theorem dX6_count_0 : decode cX6_count 0 = .ok (.aload_n 0, 1) := by decide +kernel
theorem dX6_count_1 : decode cX6_count 1 = .ok (.iload_n 1, 1) := by decide +kernel
theorem dX6_count_2 : decode cX6_count 2 = .ok (.invokevirtual 166, 3) := by decide +kernel
theorem dX6_count_5 : decode cX6_count 5 = .ok (.ireturn, 1) := by decide +kernel
theorem dX6_mix_0 : decode cX6_mix 0 = .ok (.aload_n 0, 1) := by decide +kernel
theorem dX6_mix_1 : decode cX6_mix 1 = .ok (.ldc2_w 169, 3) := by decide +kernel
theorem dX6_mix_4 : decode cX6_mix 4 = .ok (.aload_n 0, 1) := by decide +kernel
theorem dX6_mix_5 : decode cX6_mix 5 = .ok (.getfield 171, 3) := by decide +kernel
theorem dX6_mix_8 : decode cX6_mix 8 = .ok (.lmul, 1) := by decide +kernel
theorem dX6_mix_9 : decode cX6_mix 9 = .ok (.lload_n 1, 1) := by decide +kernel
theorem dX6_mix_10 : decode cX6_mix 10 = .ok (.ladd, 1) := by decide +kernel
theorem dX6_mix_11 : decode cX6_mix 11 = .ok (.putfield 171, 3) := by decide +kernel
theorem dX6_mix_14 : decode cX6_mix 14 = .ok (.return_, 1) := by decide +kernel
set_option maxRecDepth 20000 in
theorem ggX6_mixSums_X6_codeNow : GoodIn wsX6_mixSums wsX6_codeNow := goodIn_r _ [9, 4, 1, 10, 11, 12, 13, 27, 28, 29, 30, 31, 32, 33, 34, 35, 36, 37, 38, 39, 40, 41, 42, 43, 44, 45, 46, 47] (by decide +kernel) (by decide +kernel)
set_option maxRecDepth 20000 in
theorem gX6_mixSums_X6_codeNow : GoodIn wsX6_mixSums (wsV RX6 103 RX6 yX6_codeNow wsX6_codeNow) := goodIn_app (goodIn_of _ (by decide +kernel)) ggX6_mixSums_X6_codeNow
set_option maxRecDepth 20000 in
theorem ggX6_mixSums_X6_mix : GoodIn wsX6_mixSums wsX6_mix := goodIn_r _ [17, 18, 19, 27, 28, 29, 30, 31, 32, 33, 34, 35, 36, 37, 38, 39, 40, 41, 42, 43, 44, 45, 46, 47] (by decide +kernel) (by decide +kernel)
set_option maxRecDepth 20000 in
theorem gX6_mixSums_X6_mix : GoodIn wsX6_mixSums (wsV RX6 175 RX6 yX6_mix wsX6_mix) := goodIn_app (goodIn_of _ (by decide +kernel)) ggX6_mixSums_X6_mix
set_option maxRecDepth 20000 in
theorem ggX6_mixSums_X6_leadersNow : GoodIn wsX6_mixSums wsX6_leadersNow := goodIn_r _ [23, 3, 24, 25, 8, 26, 27, 28, 29, 30, 31, 32, 33, 34, 35, 36, 37, 38, 39, 40, 41, 42, 43, 44, 45, 46, 47] (by decide +kernel) (by decide +kernel)
set_option maxRecDepth 20000 in
theorem gX6_mixSums_X6_leadersNow : GoodIn wsX6_mixSums (wsV RX6 116 RX6 yX6_leadersNow wsX6_leadersNow) := goodIn_app (goodIn_of _ (by decide +kernel)) ggX6_mixSums_X6_leadersNow
theorem dX6_mixSums_0 : decode cX6_mixSums 0 = .ok (.iconst 0, 1) := by decide +kernel
theorem dX6_mixSums_1 : decode cX6_mixSums 1 = .ok (.istore_n 1, 1) := by decide +kernel
theorem dX6_mixSums_2 : decode cX6_mixSums 2 = .ok (.iload_n 1, 1) := by decide +kernel
theorem dX6_mixSums_3 : decode cX6_mixSums 3 = .ok (.bipush 7, 2) := by decide +kernel
theorem dX6_mixSums_5 : decode cX6_mixSums 5 = .ok (.if_icmp .ge 19, 3) := by decide +kernel
theorem dX6_mixSums_8 : decode cX6_mixSums 8 = .ok (.aload_n 0, 1) := by decide +kernel
theorem dX6_mixSums_9 : decode cX6_mixSums 9 = .ok (.aload_n 0, 1) := by decide +kernel
theorem dX6_mixSums_10 : decode cX6_mixSums 10 = .ok (.iload_n 1, 1) := by decide +kernel
theorem dX6_mixSums_11 : decode cX6_mixSums 11 = .ok (.invokevirtual 103, 3) := by decide +kernel
theorem dX6_mixSums_14 : decode cX6_mixSums 14 = .ok (.i2l, 1) := by decide +kernel
theorem dX6_mixSums_15 : decode cX6_mixSums 15 = .ok (.invokevirtual 175, 3) := by decide +kernel
theorem dX6_mixSums_18 : decode cX6_mixSums 18 = .ok (.iinc 1 1, 3) := by decide +kernel
theorem dX6_mixSums_21 : decode cX6_mixSums 21 = .ok (.goto (-19), 3) := by decide +kernel
theorem dX6_mixSums_24 : decode cX6_mixSums 24 = .ok (.iconst 0, 1) := by decide +kernel
theorem dX6_mixSums_25 : decode cX6_mixSums 25 = .ok (.istore_n 1, 1) := by decide +kernel
theorem dX6_mixSums_26 : decode cX6_mixSums 26 = .ok (.iload_n 1, 1) := by decide +kernel
theorem dX6_mixSums_27 : decode cX6_mixSums 27 = .ok (.aload_n 0, 1) := by decide +kernel
theorem dX6_mixSums_28 : decode cX6_mixSums 28 = .ok (.getfield 56, 3) := by decide +kernel
theorem dX6_mixSums_31 : decode cX6_mixSums 31 = .ok (.if_icmp .ge 20, 3) := by decide +kernel
theorem dX6_mixSums_34 : decode cX6_mixSums 34 = .ok (.aload_n 0, 1) := by decide +kernel
theorem dX6_mixSums_35 : decode cX6_mixSums 35 = .ok (.aload_n 0, 1) := by decide +kernel
theorem dX6_mixSums_36 : decode cX6_mixSums 36 = .ok (.getfield 13, 3) := by decide +kernel
theorem dX6_mixSums_39 : decode cX6_mixSums 39 = .ok (.iload_n 1, 1) := by decide +kernel
theorem dX6_mixSums_40 : decode cX6_mixSums 40 = .ok (.iaload, 1) := by decide +kernel
theorem dX6_mixSums_41 : decode cX6_mixSums 41 = .ok (.i2l, 1) := by decide +kernel
theorem dX6_mixSums_42 : decode cX6_mixSums 42 = .ok (.invokevirtual 175, 3) := by decide +kernel
theorem dX6_mixSums_45 : decode cX6_mixSums 45 = .ok (.iinc 1 1, 3) := by decide +kernel
theorem dX6_mixSums_48 : decode cX6_mixSums 48 = .ok (.goto (-22), 3) := by decide +kernel
theorem dX6_mixSums_51 : decode cX6_mixSums 51 = .ok (.iconst 0, 1) := by decide +kernel
theorem dX6_mixSums_52 : decode cX6_mixSums 52 = .ok (.istore_n 1, 1) := by decide +kernel
theorem dX6_mixSums_53 : decode cX6_mixSums 53 = .ok (.iload_n 1, 1) := by decide +kernel
theorem dX6_mixSums_54 : decode cX6_mixSums 54 = .ok (.iconst 1, 1) := by decide +kernel
theorem dX6_mixSums_55 : decode cX6_mixSums 55 = .ok (.aload_n 0, 1) := by decide +kernel
theorem dX6_mixSums_56 : decode cX6_mixSums 56 = .ok (.getfield 56, 3) := by decide +kernel
theorem dX6_mixSums_59 : decode cX6_mixSums 59 = .ok (.ishl, 1) := by decide +kernel
theorem dX6_mixSums_60 : decode cX6_mixSums 60 = .ok (.if_icmp .ge 20, 3) := by decide +kernel
theorem dX6_mixSums_63 : decode cX6_mixSums 63 = .ok (.aload_n 0, 1) := by decide +kernel
theorem dX6_mixSums_64 : decode cX6_mixSums 64 = .ok (.aload_n 0, 1) := by decide +kernel
theorem dX6_mixSums_65 : decode cX6_mixSums 65 = .ok (.getfield 29, 3) := by decide +kernel
theorem dX6_mixSums_68 : decode cX6_mixSums 68 = .ok (.iload_n 1, 1) := by decide +kernel
theorem dX6_mixSums_69 : decode cX6_mixSums 69 = .ok (.iaload, 1) := by decide +kernel
theorem dX6_mixSums_70 : decode cX6_mixSums 70 = .ok (.i2l, 1) := by decide +kernel
theorem dX6_mixSums_71 : decode cX6_mixSums 71 = .ok (.invokevirtual 175, 3) := by decide +kernel
theorem dX6_mixSums_74 : decode cX6_mixSums 74 = .ok (.iinc 1 1, 3) := by decide +kernel
theorem dX6_mixSums_77 : decode cX6_mixSums 77 = .ok (.goto (-24), 3) := by decide +kernel
theorem dX6_mixSums_80 : decode cX6_mixSums 80 = .ok (.iconst 0, 1) := by decide +kernel
theorem dX6_mixSums_81 : decode cX6_mixSums 81 = .ok (.istore_n 1, 1) := by decide +kernel
theorem dX6_mixSums_82 : decode cX6_mixSums 82 = .ok (.iload_n 1, 1) := by decide +kernel
theorem dX6_mixSums_83 : decode cX6_mixSums 83 = .ok (.aload_n 0, 1) := by decide +kernel
theorem dX6_mixSums_84 : decode cX6_mixSums 84 = .ok (.getfield 59, 3) := by decide +kernel
theorem dX6_mixSums_87 : decode cX6_mixSums 87 = .ok (.if_icmp .gt 19, 3) := by decide +kernel
theorem dX6_mixSums_90 : decode cX6_mixSums 90 = .ok (.aload_n 0, 1) := by decide +kernel
theorem dX6_mixSums_91 : decode cX6_mixSums 91 = .ok (.aload_n 0, 1) := by decide +kernel
theorem dX6_mixSums_92 : decode cX6_mixSums 92 = .ok (.iload_n 1, 1) := by decide +kernel
theorem dX6_mixSums_93 : decode cX6_mixSums 93 = .ok (.invokevirtual 116, 3) := by decide +kernel
theorem dX6_mixSums_96 : decode cX6_mixSums 96 = .ok (.i2l, 1) := by decide +kernel
theorem dX6_mixSums_97 : decode cX6_mixSums 97 = .ok (.invokevirtual 175, 3) := by decide +kernel
theorem dX6_mixSums_100 : decode cX6_mixSums 100 = .ok (.iinc 1 1, 3) := by decide +kernel
theorem dX6_mixSums_103 : decode cX6_mixSums 103 = .ok (.goto (-21), 3) := by decide +kernel
theorem dX6_mixSums_106 : decode cX6_mixSums 106 = .ok (.return_, 1) := by decide +kernel
set_option maxRecDepth 20000 in
theorem ggX6_digest_X6_isThere : GoodIn wsX6_digest wsX6_isThere := goodIn_r _ [10, 11, 47, 48, 49, 50, 51, 52, 53, 54, 55, 56, 57, 58, 59, 60, 61, 62, 63, 64, 65, 66, 67] (by decide +kernel) (by decide +kernel)
set_option maxRecDepth 20000 in
theorem gX6_digest_X6_isThere : GoodIn wsX6_digest (wsV RX6 99 RX6 yX6_isThere wsX6_isThere) := goodIn_app (goodIn_of _ (by decide +kernel)) ggX6_digest_X6_isThere
set_option maxRecDepth 20000 in
theorem ggX6_digest_X6_mixSums : GoodIn wsX6_digest wsX6_mixSums := goodIn_r _ [15, 11, 16, 17, 18, 19, 20, 21, 9, 22, 23, 24, 25, 26, 27, 28, 29, 30, 31, 2, 32, 33, 34, 35, 36, 37, 38, 47, 48, 49, 50, 51, 52, 53, 54, 55, 56, 57, 58, 59, 60, 61, 62, 63, 64, 65, 66, 67] (by decide +kernel) (by decide +kernel)
set_option maxRecDepth 20000 in
theorem gX6_digest_X6_mixSums : GoodIn wsX6_digest (wsV RX6 181 RX6 yX6_mixSums wsX6_mixSums) := goodIn_app (goodIn_of _ (by decide +kernel)) ggX6_digest_X6_mixSums
set_option maxRecDepth 20000 in
theorem ggX6_digest_X6_mix : GoodIn wsX6_digest wsX6_mix := goodIn_r _ [30, 31, 2, 47, 48, 49, 50, 51, 52, 53, 54, 55, 56, 57, 58, 59, 60, 61, 62, 63, 64, 65, 66, 67] (by decide +kernel) (by decide +kernel)
set_option maxRecDepth 20000 in
theorem gX6_digest_X6_mix : GoodIn wsX6_digest (wsV RX6 175 RX6 yX6_mix wsX6_mix) := goodIn_app (goodIn_of _ (by decide +kernel)) ggX6_digest_X6_mix
set_option maxRecDepth 20000 in
theorem ggX6_digest_X6_howMany : GoodIn wsX6_digest wsX6_howMany := goodIn_r _ [42, 4, 43, 44, 45, 46, 47, 48, 49, 50, 51, 52, 53, 54, 55, 56, 57, 58, 59, 60, 61, 62, 63, 64, 65, 66, 67] (by decide +kernel) (by decide +kernel)
set_option maxRecDepth 20000 in
theorem gX6_digest_X6_howMany : GoodIn wsX6_digest (wsV RX6 166 RX6 yX6_howMany wsX6_howMany) := goodIn_app (goodIn_of _ (by decide +kernel)) ggX6_digest_X6_howMany
theorem dX6_digest_0 : decode cX6_digest 0 = .ok (.aload_n 0, 1) := by decide +kernel
theorem dX6_digest_1 : decode cX6_digest 1 = .ok (.ldc2_w 179, 3) := by decide +kernel
theorem dX6_digest_4 : decode cX6_digest 4 = .ok (.putfield 171, 3) := by decide +kernel
theorem dX6_digest_7 : decode cX6_digest 7 = .ok (.aload_n 0, 1) := by decide +kernel
theorem dX6_digest_8 : decode cX6_digest 8 = .ok (.invokevirtual 99, 3) := by decide +kernel
theorem dX6_digest_11 : decode cX6_digest 11 = .ok (.ifCond .eq 7, 3) := by decide +kernel
theorem dX6_digest_14 : decode cX6_digest 14 = .ok (.aload_n 0, 1) := by decide +kernel
theorem dX6_digest_15 : decode cX6_digest 15 = .ok (.invokevirtual 181, 3) := by decide +kernel
theorem dX6_digest_18 : decode cX6_digest 18 = .ok (.aload_n 0, 1) := by decide +kernel
theorem dX6_digest_19 : decode cX6_digest 19 = .ok (.aload_n 0, 1) := by decide +kernel
theorem dX6_digest_20 : decode cX6_digest 20 = .ok (.getfield 16, 3) := by decide +kernel
theorem dX6_digest_23 : decode cX6_digest 23 = .ok (.i2l, 1) := by decide +kernel
theorem dX6_digest_24 : decode cX6_digest 24 = .ok (.invokevirtual 175, 3) := by decide +kernel
theorem dX6_digest_27 : decode cX6_digest 27 = .ok (.iconst 0, 1) := by decide +kernel
theorem dX6_digest_28 : decode cX6_digest 28 = .ok (.istore_n 1, 1) := by decide +kernel
theorem dX6_digest_29 : decode cX6_digest 29 = .ok (.iload_n 1, 1) := by decide +kernel
theorem dX6_digest_30 : decode cX6_digest 30 = .ok (.aload_n 0, 1) := by decide +kernel
theorem dX6_digest_31 : decode cX6_digest 31 = .ok (.getfield 36, 3) := by decide +kernel
theorem dX6_digest_34 : decode cX6_digest 34 = .ok (.if_icmp .ge 20, 3) := by decide +kernel
theorem dX6_digest_37 : decode cX6_digest 37 = .ok (.aload_n 0, 1) := by decide +kernel
theorem dX6_digest_38 : decode cX6_digest 38 = .ok (.aload_n 0, 1) := by decide +kernel
theorem dX6_digest_39 : decode cX6_digest 39 = .ok (.getfield 7, 3) := by decide +kernel
theorem dX6_digest_42 : decode cX6_digest 42 = .ok (.iload_n 1, 1) := by decide +kernel
theorem dX6_digest_43 : decode cX6_digest 43 = .ok (.iaload, 1) := by decide +kernel
theorem dX6_digest_44 : decode cX6_digest 44 = .ok (.i2l, 1) := by decide +kernel
theorem dX6_digest_45 : decode cX6_digest 45 = .ok (.invokevirtual 175, 3) := by decide +kernel
theorem dX6_digest_48 : decode cX6_digest 48 = .ok (.iinc 1 1, 3) := by decide +kernel
theorem dX6_digest_51 : decode cX6_digest 51 = .ok (.goto (-22), 3) := by decide +kernel
theorem dX6_digest_54 : decode cX6_digest 54 = .ok (.iconst 0, 1) := by decide +kernel
theorem dX6_digest_55 : decode cX6_digest 55 = .ok (.istore_n 1, 1) := by decide +kernel
theorem dX6_digest_56 : decode cX6_digest 56 = .ok (.iload_n 1, 1) := by decide +kernel
theorem dX6_digest_57 : decode cX6_digest 57 = .ok (.bipush 8, 2) := by decide +kernel
theorem dX6_digest_59 : decode cX6_digest 59 = .ok (.if_icmp .ge 19, 3) := by decide +kernel
theorem dX6_digest_62 : decode cX6_digest 62 = .ok (.aload_n 0, 1) := by decide +kernel
theorem dX6_digest_63 : decode cX6_digest 63 = .ok (.aload_n 0, 1) := by decide +kernel
theorem dX6_digest_64 : decode cX6_digest 64 = .ok (.iload_n 1, 1) := by decide +kernel
theorem dX6_digest_65 : decode cX6_digest 65 = .ok (.invokevirtual 166, 3) := by decide +kernel
theorem dX6_digest_68 : decode cX6_digest 68 = .ok (.i2l, 1) := by decide +kernel
theorem dX6_digest_69 : decode cX6_digest 69 = .ok (.invokevirtual 175, 3) := by decide +kernel
theorem dX6_digest_72 : decode cX6_digest 72 = .ok (.iinc 1 1, 3) := by decide +kernel
theorem dX6_digest_75 : decode cX6_digest 75 = .ok (.goto (-19), 3) := by decide +kernel
theorem dX6_digest_78 : decode cX6_digest 78 = .ok (.aload_n 0, 1) := by decide +kernel
theorem dX6_digest_79 : decode cX6_digest 79 = .ok (.getfield 171, 3) := by decide +kernel
theorem dX6_digest_82 : decode cX6_digest 82 = .ok (.lreturn, 1) := by decide +kernel
theorem dJ6_bitCount_0f7a4_0 : decode cJ6_bitCount_0f7a4 0 = .ok (.iload_n 0, 1) := by decide +kernel
theorem dJ6_bitCount_0f7a4_1 : decode cJ6_bitCount_0f7a4 1 = .ok (.iload_n 0, 1) := by decide +kernel
theorem dJ6_bitCount_0f7a4_2 : decode cJ6_bitCount_0f7a4 2 = .ok (.iconst 1, 1) := by decide +kernel
theorem dJ6_bitCount_0f7a4_3 : decode cJ6_bitCount_0f7a4 3 = .ok (.iushr, 1) := by decide +kernel
theorem dJ6_bitCount_0f7a4_4 : decode cJ6_bitCount_0f7a4 4 = .ok (.ldc_w 265, 3) := by decide +kernel
theorem dJ6_bitCount_0f7a4_7 : decode cJ6_bitCount_0f7a4 7 = .ok (.iand, 1) := by decide +kernel
theorem dJ6_bitCount_0f7a4_8 : decode cJ6_bitCount_0f7a4 8 = .ok (.isub, 1) := by decide +kernel
theorem dJ6_bitCount_0f7a4_9 : decode cJ6_bitCount_0f7a4 9 = .ok (.istore_n 0, 1) := by decide +kernel
theorem dJ6_bitCount_0f7a4_10 : decode cJ6_bitCount_0f7a4 10 = .ok (.iload_n 0, 1) := by decide +kernel
theorem dJ6_bitCount_0f7a4_11 : decode cJ6_bitCount_0f7a4 11 = .ok (.ldc_w 266, 3) := by decide +kernel
theorem dJ6_bitCount_0f7a4_14 : decode cJ6_bitCount_0f7a4 14 = .ok (.iand, 1) := by decide +kernel
theorem dJ6_bitCount_0f7a4_15 : decode cJ6_bitCount_0f7a4 15 = .ok (.iload_n 0, 1) := by decide +kernel
theorem dJ6_bitCount_0f7a4_16 : decode cJ6_bitCount_0f7a4 16 = .ok (.iconst 2, 1) := by decide +kernel
theorem dJ6_bitCount_0f7a4_17 : decode cJ6_bitCount_0f7a4 17 = .ok (.iushr, 1) := by decide +kernel
theorem dJ6_bitCount_0f7a4_18 : decode cJ6_bitCount_0f7a4 18 = .ok (.ldc_w 266, 3) := by decide +kernel
theorem dJ6_bitCount_0f7a4_21 : decode cJ6_bitCount_0f7a4 21 = .ok (.iand, 1) := by decide +kernel
theorem dJ6_bitCount_0f7a4_22 : decode cJ6_bitCount_0f7a4 22 = .ok (.iadd, 1) := by decide +kernel
theorem dJ6_bitCount_0f7a4_23 : decode cJ6_bitCount_0f7a4 23 = .ok (.istore_n 0, 1) := by decide +kernel
theorem dJ6_bitCount_0f7a4_24 : decode cJ6_bitCount_0f7a4 24 = .ok (.iload_n 0, 1) := by decide +kernel
theorem dJ6_bitCount_0f7a4_25 : decode cJ6_bitCount_0f7a4 25 = .ok (.iload_n 0, 1) := by decide +kernel
theorem dJ6_bitCount_0f7a4_26 : decode cJ6_bitCount_0f7a4 26 = .ok (.iconst 4, 1) := by decide +kernel
theorem dJ6_bitCount_0f7a4_27 : decode cJ6_bitCount_0f7a4 27 = .ok (.iushr, 1) := by decide +kernel
theorem dJ6_bitCount_0f7a4_28 : decode cJ6_bitCount_0f7a4 28 = .ok (.iadd, 1) := by decide +kernel
theorem dJ6_bitCount_0f7a4_29 : decode cJ6_bitCount_0f7a4 29 = .ok (.ldc_w 267, 3) := by decide +kernel
theorem dJ6_bitCount_0f7a4_32 : decode cJ6_bitCount_0f7a4 32 = .ok (.iand, 1) := by decide +kernel
theorem dJ6_bitCount_0f7a4_33 : decode cJ6_bitCount_0f7a4 33 = .ok (.istore_n 0, 1) := by decide +kernel
theorem dJ6_bitCount_0f7a4_34 : decode cJ6_bitCount_0f7a4 34 = .ok (.iload_n 0, 1) := by decide +kernel
theorem dJ6_bitCount_0f7a4_35 : decode cJ6_bitCount_0f7a4 35 = .ok (.iload_n 0, 1) := by decide +kernel
theorem dJ6_bitCount_0f7a4_36 : decode cJ6_bitCount_0f7a4 36 = .ok (.bipush 8, 2) := by decide +kernel
theorem dJ6_bitCount_0f7a4_38 : decode cJ6_bitCount_0f7a4 38 = .ok (.iushr, 1) := by decide +kernel
theorem dJ6_bitCount_0f7a4_39 : decode cJ6_bitCount_0f7a4 39 = .ok (.iadd, 1) := by decide +kernel
theorem dJ6_bitCount_0f7a4_40 : decode cJ6_bitCount_0f7a4 40 = .ok (.istore_n 0, 1) := by decide +kernel
theorem dJ6_bitCount_0f7a4_41 : decode cJ6_bitCount_0f7a4 41 = .ok (.iload_n 0, 1) := by decide +kernel
theorem dJ6_bitCount_0f7a4_42 : decode cJ6_bitCount_0f7a4 42 = .ok (.iload_n 0, 1) := by decide +kernel
theorem dJ6_bitCount_0f7a4_43 : decode cJ6_bitCount_0f7a4 43 = .ok (.bipush 16, 2) := by decide +kernel
theorem dJ6_bitCount_0f7a4_45 : decode cJ6_bitCount_0f7a4 45 = .ok (.iushr, 1) := by decide +kernel
theorem dJ6_bitCount_0f7a4_46 : decode cJ6_bitCount_0f7a4 46 = .ok (.iadd, 1) := by decide +kernel
theorem dJ6_bitCount_0f7a4_47 : decode cJ6_bitCount_0f7a4 47 = .ok (.istore_n 0, 1) := by decide +kernel
theorem dJ6_bitCount_0f7a4_48 : decode cJ6_bitCount_0f7a4 48 = .ok (.iload_n 0, 1) := by decide +kernel
theorem dJ6_bitCount_0f7a4_49 : decode cJ6_bitCount_0f7a4 49 = .ok (.bipush 63, 2) := by decide +kernel
theorem dJ6_bitCount_0f7a4_51 : decode cJ6_bitCount_0f7a4 51 = .ok (.iand, 1) := by decide +kernel
theorem dJ6_bitCount_0f7a4_52 : decode cJ6_bitCount_0f7a4 52 = .ok (.ireturn, 1) := by decide +kernel
theorem dJ9_max_7cf53_0 : decode cJ9_max_7cf53 0 = .ok (.iload_n 0, 1) := by decide +kernel
theorem dJ9_max_7cf53_1 : decode cJ9_max_7cf53 1 = .ok (.iload_n 1, 1) := by decide +kernel
theorem dJ9_max_7cf53_2 : decode cJ9_max_7cf53 2 = .ok (.if_icmp .lt 7, 3) := by decide +kernel
theorem dJ9_max_7cf53_5 : decode cJ9_max_7cf53 5 = .ok (.iload_n 0, 1) := by decide +kernel
theorem dJ9_max_7cf53_6 : decode cJ9_max_7cf53 6 = .ok (.goto 4, 3) := by decide +kernel
theorem dJ9_max_7cf53_9 : decode cJ9_max_7cf53 9 = .ok (.iload_n 1, 1) := by decide +kernel
theorem dJ9_max_7cf53_10 : decode cJ9_max_7cf53 10 = .ok (.ireturn, 1) := by decide +kernel
set_option maxRecDepth 20000 in
theorem ggL_law_X5_init : GoodIn wsL_law wsX5_init := goodIn_r _ [8, 9, 10, 11, 12, 13, 14, 15, 16, 17, 18, 19, 20, 21, 22, 23, 24, 25, 26, 27, 28, 29, 30, 31, 32, 33, 34, 35, 36, 37, 38, 39, 40, 41, 42, 43, 44, 45, 46, 47, 48, 49, 50, 51, 52, 53, 54, 55, 56, 57, 58, 59, 60, 61, 62, 63, 64, 65, 66, 67, 68, 69, 70, 71, 72, 643, 644, 617, 618, 619, 620, 621, 645, 646, 647, 648, 649, 650, 651, 652, 653, 654, 655, 656, 657, 658, 659, 660, 661, 662] (by decide +kernel) (by decide +kernel)
set_option maxRecDepth 20000 in
theorem gL_law_X5_init : GoodIn wsL_law (wsX5_init) := ggL_law_X5_init
set_option maxRecDepth 20000 in
theorem ggL_law_X6_init : GoodIn wsL_law wsX6_init := goodIn_r _ [75, 76, 10, 11, 36, 77, 78, 79, 80, 81, 82, 83, 622, 623, 624, 625, 626, 627, 628, 629, 630, 631, 632, 633, 634, 635, 636, 637, 638, 639, 640, 641, 642] (by decide +kernel) (by decide +kernel)
set_option maxRecDepth 20000 in
theorem gL_law_X6_init : GoodIn wsL_law (wsX6_init) := ggL_law_X6_init
set_option maxRecDepth 20000 in
theorem ggL_law_X5_letter : GoodIn wsL_law wsX5_letter := goodIn_r _ [87, 15, 88, 89, 90, 14, 91, 38, 37, 92, 93, 94, 95, 617, 618, 619, 620, 621, 643, 644] (by decide +kernel) (by decide +kernel)
set_option maxRecDepth 20000 in
theorem gL_law_X5_letter : GoodIn wsL_law (wsV RL 13 RX5 yX5_letter wsX5_letter) := goodIn_app (goodIn_of _ (by decide +kernel)) ggL_law_X5_letter
set_option maxRecDepth 20000 in
theorem ggL_law_X6_letter : GoodIn wsL_law wsX6_letter := goodIn_r _ [99, 100, 77, 101, 102, 5, 103, 622, 623, 624, 625, 626, 627, 628, 629, 630, 631, 632, 633, 634, 635, 636, 637, 638, 639, 640, 641, 642] (by decide +kernel) (by decide +kernel)
set_option maxRecDepth 20000 in
theorem gL_law_X6_letter : GoodIn wsL_law (wsV RL 17 RX6 yX6_letter wsX6_letter) := goodIn_app (goodIn_of _ (by decide +kernel)) ggL_law_X6_letter
set_option maxRecDepth 20000 in
theorem ggL_law_X5_blank : GoodIn wsL_law wsX5_blank := goodIn_r _ [107, 15, 92, 93, 94, 14, 95, 38, 108, 109, 110, 111, 617, 618, 619, 620, 621, 643, 644] (by decide +kernel) (by decide +kernel)
set_option maxRecDepth 20000 in
theorem gL_law_X5_blank : GoodIn wsL_law (wsV RL 18 RX5 yX5_blank wsX5_blank) := goodIn_app (goodIn_of _ (by decide +kernel)) ggL_law_X5_blank
set_option maxRecDepth 20000 in
theorem ggL_law_X6_blank : GoodIn wsL_law wsX6_blank := goodIn_r _ [115, 100, 622, 623, 624, 625, 626, 627, 628, 629, 630, 631, 632, 633, 634, 635, 636, 637, 638, 639, 640, 641, 642] (by decide +kernel) (by decide +kernel)
set_option maxRecDepth 20000 in
theorem gL_law_X6_blank : GoodIn wsL_law (wsV RL 22 RX6 yX6_blank wsX6_blank) := goodIn_app (goodIn_of _ (by decide +kernel)) ggL_law_X6_blank
set_option maxRecDepth 20000 in
theorem ggL_law_X5_fault : GoodIn wsL_law wsX5_fault := goodIn_r _ [119, 19, 15, 120, 121, 122, 18, 123, 124, 125, 126, 127, 43, 44, 45, 46, 128, 93, 94, 14, 95, 38, 129, 130, 131, 132, 37, 133, 134, 135, 136, 137, 138, 139, 140, 141, 142, 143, 144, 145, 146, 147, 148, 617, 618, 619, 620, 621, 645, 646, 647, 648, 643, 644] (by decide +kernel) (by decide +kernel)
set_option maxRecDepth 20000 in
theorem gL_law_X5_fault : GoodIn wsL_law (wsV RL 23 RX5 yX5_fault wsX5_fault) := goodIn_app (goodIn_of _ (by decide +kernel)) ggL_law_X5_fault
set_option maxRecDepth 20000 in
theorem ggL_law_X6_fault : GoodIn wsL_law wsX6_fault := goodIn_r _ [152, 153, 154, 155, 5, 156, 157, 158, 159, 100, 77, 160, 161, 162, 163, 81, 622, 623, 624, 625, 626, 627, 628, 629, 630, 631, 632, 633, 634, 635, 636, 637, 638, 639, 640, 641, 642] (by decide +kernel) (by decide +kernel)
set_option maxRecDepth 20000 in
theorem gL_law_X6_fault : GoodIn wsL_law (wsV RL 26 RX6 yX6_fault wsX6_fault) := goodIn_app (goodIn_of _ (by decide +kernel)) ggL_law_X6_fault
set_option maxRecDepth 20000 in
theorem ggL_law_X5_sums : GoodIn wsL_law wsX5_sums := goodIn_r _ [167, 19, 15, 23, 27, 120, 121, 122, 18, 123, 124, 125, 126, 127, 43, 44, 45, 46, 128, 93, 94, 14, 95, 38, 129, 130, 131, 132, 37, 133, 134, 135, 136, 137, 138, 139, 140, 141, 142, 143, 144, 145, 146, 147, 148, 92, 168, 169, 170, 171, 22, 172, 54, 55, 51, 57, 58, 173, 174, 175, 176, 177, 178, 179, 180, 181, 182, 183, 184, 185, 186, 187, 188, 52, 189, 190, 191, 192, 193, 194, 195, 196, 197, 198, 199, 200, 201, 202, 203, 204, 205, 206, 207, 208, 209, 210, 211, 212, 213, 214, 215, 216, 217, 218, 219, 220, 221, 222, 53, 59, 223, 224, 225, 226, 56, 227, 228, 229, 230, 231, 232, 233, 26, 234, 67, 108, 109, 110, 111, 235, 236, 237, 238, 617, 618, 619, 620, 621, 645, 646, 647, 648, 643, 644, 649, 650, 651, 652, 653, 654, 655, 656, 657, 658, 659, 660, 661] (by decide +kernel) (by decide +kernel)
set_option maxRecDepth 20000 in
theorem gL_law_X5_sums : GoodIn wsL_law (wsV RL 27 RX5 yX5_sums wsX5_sums) := goodIn_app (goodIn_of _ (by decide +kernel)) ggL_law_X5_sums
set_option maxRecDepth 20000 in
theorem ggL_law_X6_sums : GoodIn wsL_law wsX6_sums := goodIn_r _ [242, 100, 159, 158, 157, 243, 244, 78, 81, 245, 153, 154, 155, 5, 156, 77, 160, 161, 162, 163, 246, 247, 248, 249, 83, 82, 250, 251, 252, 253, 254, 255, 256, 257, 258, 259, 260, 261, 262, 263, 264, 265, 266, 267, 268, 269, 270, 271, 272, 273, 274, 275, 276, 622, 623, 624, 625, 626, 627, 628, 629, 630, 631, 632, 633, 634, 635, 636, 637, 638, 639, 640, 641, 642] (by decide +kernel) (by decide +kernel)
set_option maxRecDepth 20000 in
theorem gL_law_X6_sums : GoodIn wsL_law (wsV RL 30 RX6 yX6_sums wsX6_sums) := goodIn_app (goodIn_of _ (by decide +kernel)) ggL_law_X6_sums
set_option maxRecDepth 20000 in
theorem ggL_law_X5_code : GoodIn wsL_law wsX5_code := goodIn_r _ [280, 23, 281, 282, 283, 22, 284, 55, 235, 236, 237, 238, 285, 286, 287, 288, 54, 289, 290, 291, 292, 56, 293, 294, 295, 296, 57, 297, 298, 299, 300, 58, 301, 302, 303, 304, 59, 617, 618, 619, 620, 621, 649, 650, 651, 652, 653, 654, 655, 656, 657] (by decide +kernel) (by decide +kernel)
set_option maxRecDepth 20000 in
theorem gL_law_X5_code : GoodIn wsL_law (wsV RL 31 RX5 yX5_code wsX5_code) := goodIn_app (goodIn_of _ (by decide +kernel)) ggL_law_X5_code
set_option maxRecDepth 20000 in
theorem ggL_law_X6_code : GoodIn wsL_law wsX6_code := goodIn_r _ [308, 101, 102, 5, 103, 309, 310, 311, 312, 243, 313, 314, 315, 316, 244, 250, 251, 271, 272, 622, 623, 624, 625, 626, 627, 628, 629, 630, 631, 632, 633, 634, 635, 636, 637, 638, 639, 640, 641, 642] (by decide +kernel) (by decide +kernel)
set_option maxRecDepth 20000 in
theorem gL_law_X6_code : GoodIn wsL_law (wsV RL 34 RX6 yX6_code wsX6_code) := goodIn_app (goodIn_of _ (by decide +kernel)) ggL_law_X6_code
set_option maxRecDepth 20000 in
theorem ggL_law_X5_row : GoodIn wsL_law wsX5_row := goodIn_r _ [320, 23, 281, 282, 283, 22, 284, 55, 321, 322, 323, 324, 54, 51, 325, 326, 327, 328, 329, 617, 618, 619, 620, 621, 649, 650, 651, 652, 653, 654, 655, 656, 657] (by decide +kernel) (by decide +kernel)
set_option maxRecDepth 20000 in
theorem gL_law_X5_row : GoodIn wsL_law (wsV RL 35 RX5 yX5_row wsX5_row) := goodIn_app (goodIn_of _ (by decide +kernel)) ggL_law_X5_row
set_option maxRecDepth 20000 in
theorem ggL_law_X6_row : GoodIn wsL_law wsX6_row := goodIn_r _ [333, 243, 78, 309, 310, 311, 5, 312, 101, 102, 103, 622, 623, 624, 625, 626, 627, 628, 629, 630, 631, 632, 633, 634, 635, 636, 637, 638, 639, 640, 641, 642] (by decide +kernel) (by decide +kernel)
set_option maxRecDepth 20000 in
theorem gL_law_X6_row : GoodIn wsL_law (wsV RL 38 RX6 yX6_row wsX6_row) := goodIn_app (goodIn_of _ (by decide +kernel)) ggL_law_X6_row
set_option maxRecDepth 20000 in
theorem ggL_law_X5_syndrome : GoodIn wsL_law wsX5_syndrome := goodIn_r _ [337, 23, 281, 282, 283, 22, 284, 55, 338, 339, 340, 341, 189, 190, 191, 192, 342, 194, 195, 196, 54, 51, 197, 198, 199, 200, 201, 202, 203, 617, 618, 619, 620, 621, 649, 650, 651, 652, 653, 654, 655, 656, 657] (by decide +kernel) (by decide +kernel)
set_option maxRecDepth 20000 in
theorem gL_law_X5_syndrome : GoodIn wsL_law (wsV RL 39 RX5 yX5_syndrome wsX5_syndrome) := goodIn_app (goodIn_of _ (by decide +kernel)) ggL_law_X5_syndrome
set_option maxRecDepth 20000 in
theorem ggL_law_X6_syndrome : GoodIn wsL_law wsX6_syndrome := goodIn_r _ [346, 82, 309, 310, 311, 5, 312, 243, 347, 348, 349, 350, 252, 253, 254, 255, 244, 101, 102, 103, 622, 623, 624, 625, 626, 627, 628, 629, 630, 631, 632, 633, 634, 635, 636, 637, 638, 639, 640, 641, 642] (by decide +kernel) (by decide +kernel)
set_option maxRecDepth 20000 in
theorem gL_law_X6_syndrome : GoodIn wsL_law (wsV RL 42 RX6 yX6_syndrome wsX6_syndrome) := goodIn_app (goodIn_of _ (by decide +kernel)) ggL_law_X6_syndrome
set_option maxRecDepth 20000 in
theorem ggL_law_X5_leader : GoodIn wsL_law wsX5_leader := goodIn_r _ [354, 23, 281, 282, 283, 22, 284, 55, 355, 205, 206, 207, 52, 208, 209, 210, 211, 54, 356, 213, 214, 215, 204, 617, 618, 619, 620, 621, 649, 650, 651, 652, 653, 654, 655, 656, 657] (by decide +kernel) (by decide +kernel)
set_option maxRecDepth 20000 in
theorem gL_law_X5_leader : GoodIn wsL_law (wsV RL 43 RX5 yX5_leader wsX5_leader) := goodIn_app (goodIn_of _ (by decide +kernel)) ggL_law_X5_leader
set_option maxRecDepth 20000 in
theorem ggL_law_X6_leader : GoodIn wsL_law wsX6_leader := goodIn_r _ [360, 83, 309, 310, 311, 5, 312, 243, 361, 362, 363, 364, 101, 102, 103, 622, 623, 624, 625, 626, 627, 628, 629, 630, 631, 632, 633, 634, 635, 636, 637, 638, 639, 640, 641, 642] (by decide +kernel) (by decide +kernel)
set_option maxRecDepth 20000 in
theorem gL_law_X6_leader : GoodIn wsL_law (wsV RL 46 RX6 yX6_leader wsX6_leader) := goodIn_app (goodIn_of _ (by decide +kernel)) ggL_law_X6_leader
set_option maxRecDepth 20000 in
theorem ggL_law_X5_coset : GoodIn wsL_law wsX5_coset := goodIn_r _ [368, 23, 281, 282, 283, 22, 284, 55, 355, 205, 206, 207, 52, 208, 209, 210, 211, 54, 369, 370, 371, 372, 189, 190, 191, 192, 193, 194, 195, 196, 51, 197, 198, 199, 200, 201, 202, 203, 617, 618, 619, 620, 621, 649, 650, 651, 652, 653, 654, 655, 656, 657] (by decide +kernel) (by decide +kernel)
set_option maxRecDepth 20000 in
theorem gL_law_X5_coset : GoodIn wsL_law (wsV RL 47 RX5 yX5_coset wsX5_coset) := goodIn_app (goodIn_of _ (by decide +kernel)) ggL_law_X5_coset
set_option maxRecDepth 20000 in
theorem ggL_law_X6_coset : GoodIn wsL_law wsX6_coset := goodIn_r _ [376, 309, 310, 311, 5, 312, 243, 361, 362, 363, 364, 101, 102, 103, 377, 378, 379, 380, 82, 252, 253, 254, 255, 244, 622, 623, 624, 625, 626, 627, 628, 629, 630, 631, 632, 633, 634, 635, 636, 637, 638, 639, 640, 641, 642] (by decide +kernel) (by decide +kernel)
set_option maxRecDepth 20000 in
theorem gL_law_X6_coset : GoodIn wsL_law (wsV RL 51 RX6 yX6_coset wsX6_coset) := goodIn_app (goodIn_of _ (by decide +kernel)) ggL_law_X6_coset
set_option maxRecDepth 20000 in
theorem ggL_law_X5_leaders : GoodIn wsL_law wsX5_leaders := goodIn_r _ [384, 23, 281, 282, 283, 22, 284, 55, 385, 386, 387, 388, 53, 389, 390, 391, 392, 393, 617, 618, 619, 620, 621, 649, 650, 651, 652, 653, 654, 655, 656, 657] (by decide +kernel) (by decide +kernel)
set_option maxRecDepth 20000 in
theorem gL_law_X5_leaders : GoodIn wsL_law (wsV RL 52 RX5 yX5_leaders wsX5_leaders) := goodIn_app (goodIn_of _ (by decide +kernel)) ggL_law_X5_leaders
set_option maxRecDepth 20000 in
theorem ggL_law_X6_leaders : GoodIn wsL_law wsX6_leaders := goodIn_r _ [397, 244, 309, 310, 311, 5, 312, 243, 101, 102, 103, 398, 399, 400, 401, 83, 260, 261, 262, 622, 623, 624, 625, 626, 627, 628, 629, 630, 631, 632, 633, 634, 635, 636, 637, 638, 639, 640, 641, 642] (by decide +kernel) (by decide +kernel)
set_option maxRecDepth 20000 in
theorem gL_law_X6_leaders : GoodIn wsL_law (wsV RL 55 RX6 yX6_leaders wsX6_leaders) := goodIn_app (goodIn_of _ (by decide +kernel)) ggL_law_X6_leaders
set_option maxRecDepth 20000 in
theorem ggL_law_X5_better : GoodIn wsL_law wsX5_better := goodIn_r _ [405, 23, 281, 282, 283, 22, 284, 55, 321, 322, 323, 324, 54, 51, 338, 339, 340, 341, 189, 190, 191, 192, 406, 407, 408, 409, 57, 329, 227, 228, 229, 230, 197, 198, 199, 200, 201, 202, 203, 193, 194, 195, 196, 617, 618, 619, 620, 621, 649, 650, 651, 652, 653, 654, 655, 656, 657] (by decide +kernel) (by decide +kernel)
set_option maxRecDepth 20000 in
theorem gL_law_X5_better : GoodIn wsL_law (wsV RL 56 RX5 yX5_better wsX5_better) := goodIn_app (goodIn_of _ (by decide +kernel)) ggL_law_X5_better
set_option maxRecDepth 20000 in
theorem ggL_law_X6_better : GoodIn wsL_law wsX6_better := goodIn_r _ [413, 243, 309, 310, 311, 5, 312, 101, 102, 103, 347, 348, 349, 350, 252, 253, 254, 255, 244, 414, 415, 416, 417, 78, 251, 263, 264, 265, 266, 256, 257, 258, 259, 260, 261, 262, 418, 419, 420, 421, 622, 623, 624, 625, 626, 627, 628, 629, 630, 631, 632, 633, 634, 635, 636, 637, 638, 639, 640, 641, 642] (by decide +kernel) (by decide +kernel)
set_option maxRecDepth 20000 in
theorem gL_law_X6_better : GoodIn wsL_law (wsV RL 59 RX6 yX6_better wsX6_better) := goodIn_app (goodIn_of _ (by decide +kernel)) ggL_law_X6_better
set_option maxRecDepth 20000 in
theorem ggL_law_X5_send : GoodIn wsL_law wsX5_send := goodIn_r _ [425, 23, 281, 282, 283, 22, 284, 55, 338, 339, 340, 341, 189, 190, 191, 192, 426, 427, 428, 2, 429, 27, 430, 431, 432, 433, 58, 434, 435, 436, 437, 193, 194, 195, 196, 54, 51, 197, 198, 199, 200, 201, 202, 203, 212, 213, 214, 215, 52, 204, 205, 206, 207, 208, 209, 210, 211, 235, 236, 237, 238, 289, 290, 291, 292, 56, 438, 439, 440, 26, 441, 64, 65, 66, 617, 618, 619, 620, 621, 649, 650, 651, 652, 653, 654, 655, 656, 657, 658, 659, 660, 661] (by decide +kernel) (by decide +kernel)
set_option maxRecDepth 20000 in
theorem gL_law_X5_send : GoodIn wsL_law (wsV RL 60 RX5 yX5_send wsX5_send) := goodIn_app (goodIn_of _ (by decide +kernel)) ggL_law_X5_send
set_option maxRecDepth 20000 in
theorem ggL_law_X6_send : GoodIn wsL_law wsX6_send := goodIn_r _ [445, 309, 310, 311, 5, 312, 243, 347, 348, 349, 350, 252, 253, 254, 255, 244, 101, 102, 103, 446, 447, 448, 449, 80, 450, 250, 451, 452, 453, 454, 455, 271, 456, 457, 458, 459, 83, 82, 260, 261, 262, 622, 623, 624, 625, 626, 627, 628, 629, 630, 631, 632, 633, 634, 635, 636, 637, 638, 639, 640, 641, 642] (by decide +kernel) (by decide +kernel)
set_option maxRecDepth 20000 in
theorem gL_law_X6_send : GoodIn wsL_law (wsV RL 63 RX6 yX6_send wsX6_send) := goodIn_app (goodIn_of _ (by decide +kernel)) ggL_law_X6_send
set_option maxRecDepth 20000 in
theorem ggL_law_X5_plain : GoodIn wsL_law wsX5_plain := goodIn_r _ [463, 23, 281, 282, 283, 22, 284, 55, 338, 339, 340, 341, 189, 190, 191, 192, 430, 431, 432, 433, 58, 434, 435, 436, 437, 193, 194, 195, 196, 54, 51, 197, 198, 199, 200, 201, 202, 203, 212, 213, 214, 215, 52, 204, 205, 206, 207, 208, 209, 210, 211, 464, 617, 618, 619, 620, 621, 649, 650, 651, 652, 653, 654, 655, 656, 657] (by decide +kernel) (by decide +kernel)
set_option maxRecDepth 20000 in
theorem gL_law_X5_plain : GoodIn wsL_law (wsV RL 64 RX5 yX5_plain wsX5_plain) := goodIn_app (goodIn_of _ (by decide +kernel)) ggL_law_X5_plain
set_option maxRecDepth 20000 in
theorem ggL_law_X6_plain : GoodIn wsL_law wsX6_plain := goodIn_r _ [468, 309, 310, 311, 5, 312, 243, 347, 348, 349, 350, 252, 253, 254, 255, 244, 101, 102, 103, 452, 453, 454, 455, 271, 456, 457, 458, 459, 83, 82, 260, 261, 262, 622, 623, 624, 625, 626, 627, 628, 629, 630, 631, 632, 633, 634, 635, 636, 637, 638, 639, 640, 641, 642] (by decide +kernel) (by decide +kernel)
set_option maxRecDepth 20000 in
theorem gL_law_X6_plain : GoodIn wsL_law (wsV RL 68 RX6 yX6_plain wsX6_plain) := goodIn_app (goodIn_of _ (by decide +kernel)) ggL_law_X6_plain
set_option maxRecDepth 20000 in
theorem ggL_law_X5_share : GoodIn wsL_law wsX5_share := goodIn_r _ [472, 23, 281, 282, 283, 22, 284, 55, 473, 474, 475, 476, 477, 339, 340, 341, 189, 190, 191, 192, 478, 479, 480, 481, 193, 194, 195, 196, 54, 51, 197, 198, 199, 200, 201, 202, 203, 289, 290, 291, 292, 56, 482, 617, 618, 619, 620, 621, 649, 650, 651, 652, 653, 654, 655, 656, 657] (by decide +kernel) (by decide +kernel)
set_option maxRecDepth 20000 in
theorem gL_law_X5_share : GoodIn wsL_law (wsV RL 69 RX5 yX5_share wsX5_share) := goodIn_app (goodIn_of _ (by decide +kernel)) ggL_law_X5_share
set_option maxRecDepth 20000 in
theorem ggL_law_X6_share : GoodIn wsL_law wsX6_share := goodIn_r _ [486, 250, 309, 310, 311, 5, 312, 243, 487, 488, 489, 490, 347, 348, 349, 350, 252, 253, 254, 255, 244, 101, 102, 103, 260, 261, 262, 491, 492, 493, 494, 82, 622, 623, 624, 625, 626, 627, 628, 629, 630, 631, 632, 633, 634, 635, 636, 637, 638, 639, 640, 641, 642] (by decide +kernel) (by decide +kernel)
set_option maxRecDepth 20000 in
theorem gL_law_X6_share : GoodIn wsL_law (wsV RL 72 RX6 yX6_share wsX6_share) := goodIn_app (goodIn_of _ (by decide +kernel)) ggL_law_X6_share
set_option maxRecDepth 20000 in
theorem ggL_law_X5_shared : GoodIn wsL_law wsX5_shared := goodIn_r _ [498, 23, 281, 282, 283, 22, 284, 55, 473, 474, 475, 476, 477, 339, 340, 341, 189, 190, 191, 192, 338, 499, 500, 501, 502, 503, 479, 480, 481, 193, 194, 195, 196, 54, 51, 197, 198, 199, 200, 201, 202, 203, 434, 435, 436, 437, 212, 213, 214, 215, 52, 204, 205, 206, 207, 208, 209, 210, 211, 464, 617, 618, 619, 620, 621, 649, 650, 651, 652, 653, 654, 655, 656, 657] (by decide +kernel) (by decide +kernel)
set_option maxRecDepth 20000 in
theorem gL_law_X5_shared : GoodIn wsL_law (wsV RL 73 RX5 yX5_shared wsX5_shared) := goodIn_app (goodIn_of _ (by decide +kernel)) ggL_law_X5_shared
set_option maxRecDepth 20000 in
theorem ggL_law_X6_shared : GoodIn wsL_law wsX6_shared := goodIn_r _ [507, 309, 310, 311, 5, 312, 243, 487, 488, 489, 490, 347, 348, 349, 350, 252, 253, 254, 255, 244, 101, 102, 103, 508, 509, 510, 511, 82, 491, 492, 493, 494, 456, 457, 458, 459, 83, 622, 623, 624, 625, 626, 627, 628, 629, 630, 631, 632, 633, 634, 635, 636, 637, 638, 639, 640, 641, 642] (by decide +kernel) (by decide +kernel)
set_option maxRecDepth 20000 in
theorem gL_law_X6_shared : GoodIn wsL_law (wsV RL 77 RX6 yX6_shared wsX6_shared) := goodIn_app (goodIn_of _ (by decide +kernel)) ggL_law_X6_shared
set_option maxRecDepth 20000 in
theorem ggL_law_X5_run : GoodIn wsL_law wsX5_run := goodIn_r _ [515, 23, 31, 281, 282, 283, 22, 284, 55, 516, 517, 518, 30, 519, 72, 235, 236, 237, 238, 520, 521, 522, 523, 524, 525, 526, 527, 528, 529, 2, 530, 426, 427, 428, 429, 27, 430, 431, 432, 433, 58, 434, 435, 436, 437, 193, 194, 195, 196, 54, 51, 197, 198, 199, 200, 201, 202, 203, 212, 213, 214, 215, 52, 204, 205, 206, 207, 208, 209, 210, 211, 289, 290, 291, 292, 56, 438, 439, 440, 26, 441, 64, 65, 66, 617, 618, 619, 620, 621, 649, 650, 651, 652, 653, 654, 655, 656, 657, 662, 658, 659, 660, 661] (by decide +kernel) (by decide +kernel)
set_option maxRecDepth 20000 in
theorem gL_law_X5_run : GoodIn wsL_law (wsV RL 78 RX5 yX5_run wsX5_run) := goodIn_app (goodIn_of _ (by decide +kernel)) ggL_law_X5_run
set_option maxRecDepth 20000 in
theorem ggL_law_X6_run : GoodIn wsL_law wsX6_run := goodIn_r _ [534, 309, 310, 311, 5, 312, 243, 101, 102, 103, 535, 536, 537, 538, 79, 244, 252, 253, 254, 255, 539, 540, 541, 542, 543, 544, 545, 546, 446, 447, 448, 449, 80, 450, 250, 451, 452, 453, 454, 455, 271, 456, 457, 458, 459, 83, 82, 260, 261, 262, 622, 623, 624, 625, 626, 627, 628, 629, 630, 631, 632, 633, 634, 635, 636, 637, 638, 639, 640, 641, 642] (by decide +kernel) (by decide +kernel)
set_option maxRecDepth 20000 in
theorem gL_law_X6_run : GoodIn wsL_law (wsV RL 81 RX6 yX6_run wsX6_run) := goodIn_app (goodIn_of _ (by decide +kernel)) ggL_law_X6_run
set_option maxRecDepth 20000 in
theorem ggL_law_X5_seed : GoodIn wsL_law wsX5_seed := goodIn_r _ [550, 31, 551, 552, 553, 30, 554, 72, 617, 618, 619, 620, 621, 662] (by decide +kernel) (by decide +kernel)
set_option maxRecDepth 20000 in
theorem gL_law_X5_seed : GoodIn wsL_law (wsV RL 82 RX5 yX5_seed wsX5_seed) := goodIn_app (goodIn_of _ (by decide +kernel)) ggL_law_X5_seed
set_option maxRecDepth 20000 in
theorem ggL_law_X6_seed : GoodIn wsL_law wsX6_seed := goodIn_r _ [558, 79, 622, 623, 624, 625, 626, 627, 628, 629, 630, 631, 632, 633, 634, 635, 636, 637, 638, 639, 640, 641, 642] (by decide +kernel) (by decide +kernel)
set_option maxRecDepth 20000 in
theorem gL_law_X6_seed : GoodIn wsL_law (wsV RL 85 RX6 yX6_seed wsX6_seed) := goodIn_app (goodIn_of _ (by decide +kernel)) ggL_law_X6_seed
set_option maxRecDepth 20000 in
theorem ggL_law_X5_count : GoodIn wsL_law wsX5_count := goodIn_r _ [562, 15, 27, 92, 93, 94, 14, 95, 38, 563, 564, 565, 26, 566, 65, 567, 568, 569, 570, 66, 571, 572, 573, 574, 67, 575, 576, 577, 578, 64, 617, 618, 619, 620, 621, 643, 644, 658, 659, 660, 661] (by decide +kernel) (by decide +kernel)
set_option maxRecDepth 20000 in
theorem gL_law_X5_count : GoodIn wsL_law (wsV RL 86 RX5 yX5_count wsX5_count) := goodIn_app (goodIn_of _ (by decide +kernel)) ggL_law_X5_count
set_option maxRecDepth 20000 in
theorem ggL_law_X6_count : GoodIn wsL_law wsX6_count := goodIn_r _ [582, 583, 584, 585, 5, 586, 100, 80, 450, 451, 245, 622, 623, 624, 625, 626, 627, 628, 629, 630, 631, 632, 633, 634, 635, 636, 637, 638, 639, 640, 641, 642] (by decide +kernel) (by decide +kernel)
set_option maxRecDepth 20000 in
theorem gL_law_X6_count : GoodIn wsL_law (wsV RL 89 RX6 yX6_count wsX6_count) := goodIn_app (goodIn_of _ (by decide +kernel)) ggL_law_X6_count
set_option maxRecDepth 20000 in
theorem ggL_law_X5_digest : GoodIn wsL_law wsX5_digest := goodIn_r _ [590, 591, 23, 592, 15, 281, 282, 283, 22, 284, 55, 593, 594, 595, 2, 596, 597, 278, 279, 280, 235, 236, 237, 238, 285, 286, 287, 288, 54, 289, 290, 291, 292, 56, 293, 294, 295, 296, 57, 297, 298, 299, 300, 58, 301, 302, 303, 304, 59, 325, 326, 327, 328, 51, 329, 322, 323, 324, 598, 209, 210, 211, 356, 213, 214, 215, 52, 204, 205, 206, 207, 208, 389, 390, 391, 392, 53, 393, 386, 387, 388, 599, 548, 549, 550, 31, 551, 552, 553, 30, 554, 72, 92, 93, 94, 14, 95, 38, 600, 130, 131, 132, 37, 601, 560, 561, 562, 27, 563, 564, 565, 26, 566, 65, 567, 568, 569, 570, 66, 571, 572, 573, 574, 67, 575, 576, 577, 578, 64, 617, 618, 619, 620, 621, 649, 650, 651, 652, 653, 654, 655, 656, 657, 662, 643, 644, 658, 659, 660, 661] (by decide +kernel) (by decide +kernel)
set_option maxRecDepth 20000 in
theorem gL_law_X5_digest : GoodIn wsL_law (wsV RL 90 RX5 yX5_digest wsX5_digest) := goodIn_app (goodIn_of _ (by decide +kernel)) ggL_law_X5_digest
set_option maxRecDepth 20000 in
theorem ggL_law_X6_digest : GoodIn wsL_law wsX6_digest := goodIn_r _ [605, 606, 607, 79, 100, 77, 309, 310, 311, 5, 312, 243, 608, 609, 610, 611, 78, 83, 244, 313, 314, 315, 316, 250, 251, 271, 272, 612, 613, 614, 615, 616, 398, 399, 400, 401, 260, 261, 262, 583, 584, 585, 586, 80, 450, 451, 245, 622, 623, 624, 625, 626, 627, 628, 629, 630, 631, 632, 633, 634, 635, 636, 637, 638, 639, 640, 641, 642] (by decide +kernel) (by decide +kernel)
set_option maxRecDepth 20000 in
theorem gL_law_X6_digest : GoodIn wsL_law (wsV RL 94 RX6 yX6_digest wsX6_digest) := goodIn_app (goodIn_of _ (by decide +kernel)) ggL_law_X6_digest
theorem dL_law_0 : decode cL_law 0 = .ok (.new 7, 3) := by decide +kernel
theorem dL_law_3 : decode cL_law 3 = .ok (.dup, 1) := by decide +kernel
theorem dL_law_4 : decode cL_law 4 = .ok (.invokespecial 9, 3) := by decide +kernel
theorem dL_law_7 : decode cL_law 7 = .ok (.astore_n 1, 1) := by decide +kernel
theorem dL_law_8 : decode cL_law 8 = .ok (.new 10, 3) := by decide +kernel
theorem dL_law_11 : decode cL_law 11 = .ok (.dup, 1) := by decide +kernel
theorem dL_law_12 : decode cL_law 12 = .ok (.invokespecial 12, 3) := by decide +kernel
theorem dL_law_15 : decode cL_law 15 = .ok (.astore_n 2, 1) := by decide +kernel
theorem dL_law_16 : decode cL_law 16 = .ok (.iconst 0, 1) := by decide +kernel
theorem dL_law_17 : decode cL_law 17 = .ok (.istore_n 3, 1) := by decide +kernel
theorem dL_law_18 : decode cL_law 18 = .ok (.iload_n 3, 1) := by decide +kernel
theorem dL_law_19 : decode cL_law 19 = .ok (.aload_n 0, 1) := by decide +kernel
theorem dL_law_20 : decode cL_law 20 = .ok (.arraylength, 1) := by decide +kernel
theorem dL_law_21 : decode cL_law 21 = .ok (.bipush 6, 2) := by decide +kernel
theorem dL_law_23 : decode cL_law 23 = .ok (.isub, 1) := by decide +kernel
theorem dL_law_24 : decode cL_law 24 = .ok (.if_icmp .gt 640, 3) := by decide +kernel
theorem dL_law_27 : decode cL_law 27 = .ok (.aload_n 0, 1) := by decide +kernel
theorem dL_law_28 : decode cL_law 28 = .ok (.iload_n 3, 1) := by decide +kernel
theorem dL_law_29 : decode cL_law 29 = .ok (.iaload, 1) := by decide +kernel
theorem dL_law_30 : decode cL_law 30 = .ok (.bipush 31, 2) := by decide +kernel
theorem dL_law_32 : decode cL_law 32 = .ok (.iand, 1) := by decide +kernel
theorem dL_law_33 : decode cL_law 33 = .ok (.tableswitch 625 0 18 #[91, 114, 127, 140, 153, 176, 199, 222, 245, 278, 301, 334, 367, 410, 453, 532, 575, 588, 611], 91) := by decide +kernel
theorem dL_law_124 : decode cL_law 124 = .ok (.aload_n 1, 1) := by decide +kernel
theorem dL_law_125 : decode cL_law 125 = .ok (.aload_n 0, 1) := by decide +kernel
theorem dL_law_126 : decode cL_law 126 = .ok (.iload_n 3, 1) := by decide +kernel
theorem dL_law_127 : decode cL_law 127 = .ok (.iconst 1, 1) := by decide +kernel
theorem dL_law_128 : decode cL_law 128 = .ok (.iadd, 1) := by decide +kernel
theorem dL_law_129 : decode cL_law 129 = .ok (.iaload, 1) := by decide +kernel
theorem dL_law_130 : decode cL_law 130 = .ok (.invokevirtual 13, 3) := by decide +kernel
theorem dL_law_133 : decode cL_law 133 = .ok (.aload_n 2, 1) := by decide +kernel
theorem dL_law_134 : decode cL_law 134 = .ok (.aload_n 0, 1) := by decide +kernel
theorem dL_law_135 : decode cL_law 135 = .ok (.iload_n 3, 1) := by decide +kernel
theorem dL_law_136 : decode cL_law 136 = .ok (.iconst 1, 1) := by decide +kernel
theorem dL_law_137 : decode cL_law 137 = .ok (.iadd, 1) := by decide +kernel
theorem dL_law_138 : decode cL_law 138 = .ok (.iaload, 1) := by decide +kernel
theorem dL_law_139 : decode cL_law 139 = .ok (.invokevirtual 17, 3) := by decide +kernel
theorem dL_law_142 : decode cL_law 142 = .ok (.if_icmp .eq 516, 3) := by decide +kernel
theorem dL_law_145 : decode cL_law 145 = .ok (.iconst 0, 1) := by decide +kernel
theorem dL_law_146 : decode cL_law 146 = .ok (.ireturn, 1) := by decide +kernel
theorem dL_law_147 : decode cL_law 147 = .ok (.aload_n 1, 1) := by decide +kernel
theorem dL_law_148 : decode cL_law 148 = .ok (.invokevirtual 18, 3) := by decide +kernel
theorem dL_law_151 : decode cL_law 151 = .ok (.aload_n 2, 1) := by decide +kernel
theorem dL_law_152 : decode cL_law 152 = .ok (.invokevirtual 22, 3) := by decide +kernel
theorem dL_law_155 : decode cL_law 155 = .ok (.if_icmp .eq 503, 3) := by decide +kernel
theorem dL_law_158 : decode cL_law 158 = .ok (.iconst 0, 1) := by decide +kernel
theorem dL_law_159 : decode cL_law 159 = .ok (.ireturn, 1) := by decide +kernel
theorem dL_law_160 : decode cL_law 160 = .ok (.aload_n 1, 1) := by decide +kernel
theorem dL_law_161 : decode cL_law 161 = .ok (.invokevirtual 23, 3) := by decide +kernel
theorem dL_law_164 : decode cL_law 164 = .ok (.aload_n 2, 1) := by decide +kernel
theorem dL_law_165 : decode cL_law 165 = .ok (.invokevirtual 26, 3) := by decide +kernel
theorem dL_law_168 : decode cL_law 168 = .ok (.if_icmp .eq 490, 3) := by decide +kernel
theorem dL_law_171 : decode cL_law 171 = .ok (.iconst 0, 1) := by decide +kernel
theorem dL_law_172 : decode cL_law 172 = .ok (.ireturn, 1) := by decide +kernel
theorem dL_law_173 : decode cL_law 173 = .ok (.aload_n 1, 1) := by decide +kernel
theorem dL_law_174 : decode cL_law 174 = .ok (.invokevirtual 27, 3) := by decide +kernel
theorem dL_law_177 : decode cL_law 177 = .ok (.aload_n 2, 1) := by decide +kernel
theorem dL_law_178 : decode cL_law 178 = .ok (.invokevirtual 30, 3) := by decide +kernel
theorem dL_law_181 : decode cL_law 181 = .ok (.if_icmp .eq 477, 3) := by decide +kernel
theorem dL_law_184 : decode cL_law 184 = .ok (.iconst 0, 1) := by decide +kernel
theorem dL_law_185 : decode cL_law 185 = .ok (.ireturn, 1) := by decide +kernel
theorem dL_law_186 : decode cL_law 186 = .ok (.aload_n 1, 1) := by decide +kernel
theorem dL_law_187 : decode cL_law 187 = .ok (.aload_n 0, 1) := by decide +kernel
theorem dL_law_188 : decode cL_law 188 = .ok (.iload_n 3, 1) := by decide +kernel
theorem dL_law_189 : decode cL_law 189 = .ok (.iconst 1, 1) := by decide +kernel
theorem dL_law_190 : decode cL_law 190 = .ok (.iadd, 1) := by decide +kernel
theorem dL_law_191 : decode cL_law 191 = .ok (.iaload, 1) := by decide +kernel
theorem dL_law_192 : decode cL_law 192 = .ok (.invokevirtual 31, 3) := by decide +kernel
theorem dL_law_195 : decode cL_law 195 = .ok (.aload_n 2, 1) := by decide +kernel
theorem dL_law_196 : decode cL_law 196 = .ok (.aload_n 0, 1) := by decide +kernel
theorem dL_law_197 : decode cL_law 197 = .ok (.iload_n 3, 1) := by decide +kernel
theorem dL_law_198 : decode cL_law 198 = .ok (.iconst 1, 1) := by decide +kernel
theorem dL_law_199 : decode cL_law 199 = .ok (.iadd, 1) := by decide +kernel
theorem dL_law_200 : decode cL_law 200 = .ok (.iaload, 1) := by decide +kernel
theorem dL_law_201 : decode cL_law 201 = .ok (.invokevirtual 34, 3) := by decide +kernel
theorem dL_law_204 : decode cL_law 204 = .ok (.if_icmp .eq 454, 3) := by decide +kernel
theorem dL_law_207 : decode cL_law 207 = .ok (.iconst 0, 1) := by decide +kernel
theorem dL_law_208 : decode cL_law 208 = .ok (.ireturn, 1) := by decide +kernel
theorem dL_law_209 : decode cL_law 209 = .ok (.aload_n 1, 1) := by decide +kernel
theorem dL_law_210 : decode cL_law 210 = .ok (.aload_n 0, 1) := by decide +kernel
theorem dL_law_211 : decode cL_law 211 = .ok (.iload_n 3, 1) := by decide +kernel
theorem dL_law_212 : decode cL_law 212 = .ok (.iconst 1, 1) := by decide +kernel
theorem dL_law_213 : decode cL_law 213 = .ok (.iadd, 1) := by decide +kernel
theorem dL_law_214 : decode cL_law 214 = .ok (.iaload, 1) := by decide +kernel
theorem dL_law_215 : decode cL_law 215 = .ok (.invokevirtual 35, 3) := by decide +kernel
theorem dL_law_218 : decode cL_law 218 = .ok (.aload_n 2, 1) := by decide +kernel
theorem dL_law_219 : decode cL_law 219 = .ok (.aload_n 0, 1) := by decide +kernel
theorem dL_law_220 : decode cL_law 220 = .ok (.iload_n 3, 1) := by decide +kernel
theorem dL_law_221 : decode cL_law 221 = .ok (.iconst 1, 1) := by decide +kernel
theorem dL_law_222 : decode cL_law 222 = .ok (.iadd, 1) := by decide +kernel
theorem dL_law_223 : decode cL_law 223 = .ok (.iaload, 1) := by decide +kernel
theorem dL_law_224 : decode cL_law 224 = .ok (.invokevirtual 38, 3) := by decide +kernel
theorem dL_law_227 : decode cL_law 227 = .ok (.if_icmp .eq 431, 3) := by decide +kernel
theorem dL_law_230 : decode cL_law 230 = .ok (.iconst 0, 1) := by decide +kernel
theorem dL_law_231 : decode cL_law 231 = .ok (.ireturn, 1) := by decide +kernel
theorem dL_law_232 : decode cL_law 232 = .ok (.aload_n 1, 1) := by decide +kernel
theorem dL_law_233 : decode cL_law 233 = .ok (.aload_n 0, 1) := by decide +kernel
theorem dL_law_234 : decode cL_law 234 = .ok (.iload_n 3, 1) := by decide +kernel
theorem dL_law_235 : decode cL_law 235 = .ok (.iconst 1, 1) := by decide +kernel
theorem dL_law_236 : decode cL_law 236 = .ok (.iadd, 1) := by decide +kernel
theorem dL_law_237 : decode cL_law 237 = .ok (.iaload, 1) := by decide +kernel
theorem dL_law_238 : decode cL_law 238 = .ok (.invokevirtual 39, 3) := by decide +kernel
theorem dL_law_241 : decode cL_law 241 = .ok (.aload_n 2, 1) := by decide +kernel
theorem dL_law_242 : decode cL_law 242 = .ok (.aload_n 0, 1) := by decide +kernel
theorem dL_law_243 : decode cL_law 243 = .ok (.iload_n 3, 1) := by decide +kernel
theorem dL_law_244 : decode cL_law 244 = .ok (.iconst 1, 1) := by decide +kernel
theorem dL_law_245 : decode cL_law 245 = .ok (.iadd, 1) := by decide +kernel
theorem dL_law_246 : decode cL_law 246 = .ok (.iaload, 1) := by decide +kernel
theorem dL_law_247 : decode cL_law 247 = .ok (.invokevirtual 42, 3) := by decide +kernel
theorem dL_law_250 : decode cL_law 250 = .ok (.if_icmp .eq 408, 3) := by decide +kernel
theorem dL_law_253 : decode cL_law 253 = .ok (.iconst 0, 1) := by decide +kernel
theorem dL_law_254 : decode cL_law 254 = .ok (.ireturn, 1) := by decide +kernel
theorem dL_law_255 : decode cL_law 255 = .ok (.aload_n 1, 1) := by decide +kernel
theorem dL_law_256 : decode cL_law 256 = .ok (.aload_n 0, 1) := by decide +kernel
theorem dL_law_257 : decode cL_law 257 = .ok (.iload_n 3, 1) := by decide +kernel
theorem dL_law_258 : decode cL_law 258 = .ok (.iconst 1, 1) := by decide +kernel
theorem dL_law_259 : decode cL_law 259 = .ok (.iadd, 1) := by decide +kernel
theorem dL_law_260 : decode cL_law 260 = .ok (.iaload, 1) := by decide +kernel
theorem dL_law_261 : decode cL_law 261 = .ok (.invokevirtual 43, 3) := by decide +kernel
theorem dL_law_264 : decode cL_law 264 = .ok (.aload_n 2, 1) := by decide +kernel
theorem dL_law_265 : decode cL_law 265 = .ok (.aload_n 0, 1) := by decide +kernel
theorem dL_law_266 : decode cL_law 266 = .ok (.iload_n 3, 1) := by decide +kernel
theorem dL_law_267 : decode cL_law 267 = .ok (.iconst 1, 1) := by decide +kernel
theorem dL_law_268 : decode cL_law 268 = .ok (.iadd, 1) := by decide +kernel
theorem dL_law_269 : decode cL_law 269 = .ok (.iaload, 1) := by decide +kernel
theorem dL_law_270 : decode cL_law 270 = .ok (.invokevirtual 46, 3) := by decide +kernel
theorem dL_law_273 : decode cL_law 273 = .ok (.if_icmp .eq 385, 3) := by decide +kernel
theorem dL_law_276 : decode cL_law 276 = .ok (.iconst 0, 1) := by decide +kernel
theorem dL_law_277 : decode cL_law 277 = .ok (.ireturn, 1) := by decide +kernel
theorem dL_law_278 : decode cL_law 278 = .ok (.aload_n 1, 1) := by decide +kernel
theorem dL_law_279 : decode cL_law 279 = .ok (.aload_n 0, 1) := by decide +kernel
theorem dL_law_280 : decode cL_law 280 = .ok (.iload_n 3, 1) := by decide +kernel
theorem dL_law_281 : decode cL_law 281 = .ok (.iconst 1, 1) := by decide +kernel
theorem dL_law_282 : decode cL_law 282 = .ok (.iadd, 1) := by decide +kernel
theorem dL_law_283 : decode cL_law 283 = .ok (.iaload, 1) := by decide +kernel
theorem dL_law_284 : decode cL_law 284 = .ok (.aload_n 0, 1) := by decide +kernel
theorem dL_law_285 : decode cL_law 285 = .ok (.iload_n 3, 1) := by decide +kernel
theorem dL_law_286 : decode cL_law 286 = .ok (.iconst 2, 1) := by decide +kernel
theorem dL_law_287 : decode cL_law 287 = .ok (.iadd, 1) := by decide +kernel
theorem dL_law_288 : decode cL_law 288 = .ok (.iaload, 1) := by decide +kernel
theorem dL_law_289 : decode cL_law 289 = .ok (.invokevirtual 47, 3) := by decide +kernel
theorem dL_law_292 : decode cL_law 292 = .ok (.aload_n 2, 1) := by decide +kernel
theorem dL_law_293 : decode cL_law 293 = .ok (.aload_n 0, 1) := by decide +kernel
theorem dL_law_294 : decode cL_law 294 = .ok (.iload_n 3, 1) := by decide +kernel
theorem dL_law_295 : decode cL_law 295 = .ok (.iconst 1, 1) := by decide +kernel
theorem dL_law_296 : decode cL_law 296 = .ok (.iadd, 1) := by decide +kernel
theorem dL_law_297 : decode cL_law 297 = .ok (.iaload, 1) := by decide +kernel
theorem dL_law_298 : decode cL_law 298 = .ok (.aload_n 0, 1) := by decide +kernel
theorem dL_law_299 : decode cL_law 299 = .ok (.iload_n 3, 1) := by decide +kernel
theorem dL_law_300 : decode cL_law 300 = .ok (.iconst 2, 1) := by decide +kernel
theorem dL_law_301 : decode cL_law 301 = .ok (.iadd, 1) := by decide +kernel
theorem dL_law_302 : decode cL_law 302 = .ok (.iaload, 1) := by decide +kernel
theorem dL_law_303 : decode cL_law 303 = .ok (.invokevirtual 51, 3) := by decide +kernel
theorem dL_law_306 : decode cL_law 306 = .ok (.if_icmp .eq 352, 3) := by decide +kernel
theorem dL_law_309 : decode cL_law 309 = .ok (.iconst 0, 1) := by decide +kernel
theorem dL_law_310 : decode cL_law 310 = .ok (.ireturn, 1) := by decide +kernel
theorem dL_law_311 : decode cL_law 311 = .ok (.aload_n 1, 1) := by decide +kernel
theorem dL_law_312 : decode cL_law 312 = .ok (.aload_n 0, 1) := by decide +kernel
theorem dL_law_313 : decode cL_law 313 = .ok (.iload_n 3, 1) := by decide +kernel
theorem dL_law_314 : decode cL_law 314 = .ok (.iconst 1, 1) := by decide +kernel
theorem dL_law_315 : decode cL_law 315 = .ok (.iadd, 1) := by decide +kernel
theorem dL_law_316 : decode cL_law 316 = .ok (.iaload, 1) := by decide +kernel
theorem dL_law_317 : decode cL_law 317 = .ok (.invokevirtual 52, 3) := by decide +kernel
theorem dL_law_320 : decode cL_law 320 = .ok (.aload_n 2, 1) := by decide +kernel
theorem dL_law_321 : decode cL_law 321 = .ok (.aload_n 0, 1) := by decide +kernel
theorem dL_law_322 : decode cL_law 322 = .ok (.iload_n 3, 1) := by decide +kernel
theorem dL_law_323 : decode cL_law 323 = .ok (.iconst 1, 1) := by decide +kernel
theorem dL_law_324 : decode cL_law 324 = .ok (.iadd, 1) := by decide +kernel
theorem dL_law_325 : decode cL_law 325 = .ok (.iaload, 1) := by decide +kernel
theorem dL_law_326 : decode cL_law 326 = .ok (.invokevirtual 55, 3) := by decide +kernel
theorem dL_law_329 : decode cL_law 329 = .ok (.if_icmp .eq 329, 3) := by decide +kernel
theorem dL_law_332 : decode cL_law 332 = .ok (.iconst 0, 1) := by decide +kernel
theorem dL_law_333 : decode cL_law 333 = .ok (.ireturn, 1) := by decide +kernel
theorem dL_law_334 : decode cL_law 334 = .ok (.aload_n 1, 1) := by decide +kernel
theorem dL_law_335 : decode cL_law 335 = .ok (.aload_n 0, 1) := by decide +kernel
theorem dL_law_336 : decode cL_law 336 = .ok (.iload_n 3, 1) := by decide +kernel
theorem dL_law_337 : decode cL_law 337 = .ok (.iconst 1, 1) := by decide +kernel
theorem dL_law_338 : decode cL_law 338 = .ok (.iadd, 1) := by decide +kernel
theorem dL_law_339 : decode cL_law 339 = .ok (.iaload, 1) := by decide +kernel
theorem dL_law_340 : decode cL_law 340 = .ok (.aload_n 0, 1) := by decide +kernel
theorem dL_law_341 : decode cL_law 341 = .ok (.iload_n 3, 1) := by decide +kernel
theorem dL_law_342 : decode cL_law 342 = .ok (.iconst 2, 1) := by decide +kernel
theorem dL_law_343 : decode cL_law 343 = .ok (.iadd, 1) := by decide +kernel
theorem dL_law_344 : decode cL_law 344 = .ok (.iaload, 1) := by decide +kernel
theorem dL_law_345 : decode cL_law 345 = .ok (.invokevirtual 56, 3) := by decide +kernel
theorem dL_law_348 : decode cL_law 348 = .ok (.aload_n 2, 1) := by decide +kernel
theorem dL_law_349 : decode cL_law 349 = .ok (.aload_n 0, 1) := by decide +kernel
theorem dL_law_350 : decode cL_law 350 = .ok (.iload_n 3, 1) := by decide +kernel
theorem dL_law_351 : decode cL_law 351 = .ok (.iconst 1, 1) := by decide +kernel
theorem dL_law_352 : decode cL_law 352 = .ok (.iadd, 1) := by decide +kernel
theorem dL_law_353 : decode cL_law 353 = .ok (.iaload, 1) := by decide +kernel
theorem dL_law_354 : decode cL_law 354 = .ok (.aload_n 0, 1) := by decide +kernel
theorem dL_law_355 : decode cL_law 355 = .ok (.iload_n 3, 1) := by decide +kernel
theorem dL_law_356 : decode cL_law 356 = .ok (.iconst 2, 1) := by decide +kernel
theorem dL_law_357 : decode cL_law 357 = .ok (.iadd, 1) := by decide +kernel
theorem dL_law_358 : decode cL_law 358 = .ok (.iaload, 1) := by decide +kernel
theorem dL_law_359 : decode cL_law 359 = .ok (.invokevirtual 59, 3) := by decide +kernel
theorem dL_law_362 : decode cL_law 362 = .ok (.if_icmp .eq 296, 3) := by decide +kernel
theorem dL_law_365 : decode cL_law 365 = .ok (.iconst 0, 1) := by decide +kernel
theorem dL_law_366 : decode cL_law 366 = .ok (.ireturn, 1) := by decide +kernel
theorem dL_law_367 : decode cL_law 367 = .ok (.aload_n 1, 1) := by decide +kernel
theorem dL_law_368 : decode cL_law 368 = .ok (.aload_n 0, 1) := by decide +kernel
theorem dL_law_369 : decode cL_law 369 = .ok (.iload_n 3, 1) := by decide +kernel
theorem dL_law_370 : decode cL_law 370 = .ok (.iconst 1, 1) := by decide +kernel
theorem dL_law_371 : decode cL_law 371 = .ok (.iadd, 1) := by decide +kernel
theorem dL_law_372 : decode cL_law 372 = .ok (.iaload, 1) := by decide +kernel
theorem dL_law_373 : decode cL_law 373 = .ok (.aload_n 0, 1) := by decide +kernel
theorem dL_law_374 : decode cL_law 374 = .ok (.iload_n 3, 1) := by decide +kernel
theorem dL_law_375 : decode cL_law 375 = .ok (.iconst 2, 1) := by decide +kernel
theorem dL_law_376 : decode cL_law 376 = .ok (.iadd, 1) := by decide +kernel
theorem dL_law_377 : decode cL_law 377 = .ok (.iaload, 1) := by decide +kernel
theorem dL_law_378 : decode cL_law 378 = .ok (.invokevirtual 60, 3) := by decide +kernel
theorem dL_law_381 : decode cL_law 381 = .ok (.aload_n 2, 1) := by decide +kernel
theorem dL_law_382 : decode cL_law 382 = .ok (.aload_n 0, 1) := by decide +kernel
theorem dL_law_383 : decode cL_law 383 = .ok (.iload_n 3, 1) := by decide +kernel
theorem dL_law_384 : decode cL_law 384 = .ok (.iconst 1, 1) := by decide +kernel
theorem dL_law_385 : decode cL_law 385 = .ok (.iadd, 1) := by decide +kernel
theorem dL_law_386 : decode cL_law 386 = .ok (.iaload, 1) := by decide +kernel
theorem dL_law_387 : decode cL_law 387 = .ok (.aload_n 0, 1) := by decide +kernel
theorem dL_law_388 : decode cL_law 388 = .ok (.iload_n 3, 1) := by decide +kernel
theorem dL_law_389 : decode cL_law 389 = .ok (.iconst 2, 1) := by decide +kernel
theorem dL_law_390 : decode cL_law 390 = .ok (.iadd, 1) := by decide +kernel
theorem dL_law_391 : decode cL_law 391 = .ok (.iaload, 1) := by decide +kernel
theorem dL_law_392 : decode cL_law 392 = .ok (.invokevirtual 63, 3) := by decide +kernel
theorem dL_law_395 : decode cL_law 395 = .ok (.if_icmp .eq 263, 3) := by decide +kernel
theorem dL_law_398 : decode cL_law 398 = .ok (.iconst 0, 1) := by decide +kernel
theorem dL_law_399 : decode cL_law 399 = .ok (.ireturn, 1) := by decide +kernel
theorem dL_law_400 : decode cL_law 400 = .ok (.aload_n 1, 1) := by decide +kernel
theorem dL_law_401 : decode cL_law 401 = .ok (.aload_n 0, 1) := by decide +kernel
theorem dL_law_402 : decode cL_law 402 = .ok (.iload_n 3, 1) := by decide +kernel
theorem dL_law_403 : decode cL_law 403 = .ok (.iconst 1, 1) := by decide +kernel
theorem dL_law_404 : decode cL_law 404 = .ok (.iadd, 1) := by decide +kernel
theorem dL_law_405 : decode cL_law 405 = .ok (.iaload, 1) := by decide +kernel
theorem dL_law_406 : decode cL_law 406 = .ok (.aload_n 0, 1) := by decide +kernel
theorem dL_law_407 : decode cL_law 407 = .ok (.iload_n 3, 1) := by decide +kernel
theorem dL_law_408 : decode cL_law 408 = .ok (.iconst 2, 1) := by decide +kernel
theorem dL_law_409 : decode cL_law 409 = .ok (.iadd, 1) := by decide +kernel
theorem dL_law_410 : decode cL_law 410 = .ok (.iaload, 1) := by decide +kernel
theorem dL_law_411 : decode cL_law 411 = .ok (.aload_n 0, 1) := by decide +kernel
theorem dL_law_412 : decode cL_law 412 = .ok (.iload_n 3, 1) := by decide +kernel
theorem dL_law_413 : decode cL_law 413 = .ok (.iconst 3, 1) := by decide +kernel
theorem dL_law_414 : decode cL_law 414 = .ok (.iadd, 1) := by decide +kernel
theorem dL_law_415 : decode cL_law 415 = .ok (.iaload, 1) := by decide +kernel
theorem dL_law_416 : decode cL_law 416 = .ok (.invokevirtual 64, 3) := by decide +kernel
theorem dL_law_419 : decode cL_law 419 = .ok (.aload_n 2, 1) := by decide +kernel
theorem dL_law_420 : decode cL_law 420 = .ok (.aload_n 0, 1) := by decide +kernel
theorem dL_law_421 : decode cL_law 421 = .ok (.iload_n 3, 1) := by decide +kernel
theorem dL_law_422 : decode cL_law 422 = .ok (.iconst 1, 1) := by decide +kernel
theorem dL_law_423 : decode cL_law 423 = .ok (.iadd, 1) := by decide +kernel
theorem dL_law_424 : decode cL_law 424 = .ok (.iaload, 1) := by decide +kernel
theorem dL_law_425 : decode cL_law 425 = .ok (.aload_n 0, 1) := by decide +kernel
theorem dL_law_426 : decode cL_law 426 = .ok (.iload_n 3, 1) := by decide +kernel
theorem dL_law_427 : decode cL_law 427 = .ok (.iconst 2, 1) := by decide +kernel
theorem dL_law_428 : decode cL_law 428 = .ok (.iadd, 1) := by decide +kernel
theorem dL_law_429 : decode cL_law 429 = .ok (.iaload, 1) := by decide +kernel
theorem dL_law_430 : decode cL_law 430 = .ok (.aload_n 0, 1) := by decide +kernel
theorem dL_law_431 : decode cL_law 431 = .ok (.iload_n 3, 1) := by decide +kernel
theorem dL_law_432 : decode cL_law 432 = .ok (.iconst 3, 1) := by decide +kernel
theorem dL_law_433 : decode cL_law 433 = .ok (.iadd, 1) := by decide +kernel
theorem dL_law_434 : decode cL_law 434 = .ok (.iaload, 1) := by decide +kernel
theorem dL_law_435 : decode cL_law 435 = .ok (.invokevirtual 68, 3) := by decide +kernel
theorem dL_law_438 : decode cL_law 438 = .ok (.if_icmp .eq 220, 3) := by decide +kernel
theorem dL_law_441 : decode cL_law 441 = .ok (.iconst 0, 1) := by decide +kernel
theorem dL_law_442 : decode cL_law 442 = .ok (.ireturn, 1) := by decide +kernel
theorem dL_law_443 : decode cL_law 443 = .ok (.aload_n 1, 1) := by decide +kernel
theorem dL_law_444 : decode cL_law 444 = .ok (.aload_n 0, 1) := by decide +kernel
theorem dL_law_445 : decode cL_law 445 = .ok (.iload_n 3, 1) := by decide +kernel
theorem dL_law_446 : decode cL_law 446 = .ok (.iconst 1, 1) := by decide +kernel
theorem dL_law_447 : decode cL_law 447 = .ok (.iadd, 1) := by decide +kernel
theorem dL_law_448 : decode cL_law 448 = .ok (.iaload, 1) := by decide +kernel
theorem dL_law_449 : decode cL_law 449 = .ok (.aload_n 0, 1) := by decide +kernel
theorem dL_law_450 : decode cL_law 450 = .ok (.iload_n 3, 1) := by decide +kernel
theorem dL_law_451 : decode cL_law 451 = .ok (.iconst 2, 1) := by decide +kernel
theorem dL_law_452 : decode cL_law 452 = .ok (.iadd, 1) := by decide +kernel
theorem dL_law_453 : decode cL_law 453 = .ok (.iaload, 1) := by decide +kernel
theorem dL_law_454 : decode cL_law 454 = .ok (.aload_n 0, 1) := by decide +kernel
theorem dL_law_455 : decode cL_law 455 = .ok (.iload_n 3, 1) := by decide +kernel
theorem dL_law_456 : decode cL_law 456 = .ok (.iconst 3, 1) := by decide +kernel
theorem dL_law_457 : decode cL_law 457 = .ok (.iadd, 1) := by decide +kernel
theorem dL_law_458 : decode cL_law 458 = .ok (.iaload, 1) := by decide +kernel
theorem dL_law_459 : decode cL_law 459 = .ok (.invokevirtual 69, 3) := by decide +kernel
theorem dL_law_462 : decode cL_law 462 = .ok (.aload_n 2, 1) := by decide +kernel
theorem dL_law_463 : decode cL_law 463 = .ok (.aload_n 0, 1) := by decide +kernel
theorem dL_law_464 : decode cL_law 464 = .ok (.iload_n 3, 1) := by decide +kernel
theorem dL_law_465 : decode cL_law 465 = .ok (.iconst 1, 1) := by decide +kernel
theorem dL_law_466 : decode cL_law 466 = .ok (.iadd, 1) := by decide +kernel
theorem dL_law_467 : decode cL_law 467 = .ok (.iaload, 1) := by decide +kernel
theorem dL_law_468 : decode cL_law 468 = .ok (.aload_n 0, 1) := by decide +kernel
theorem dL_law_469 : decode cL_law 469 = .ok (.iload_n 3, 1) := by decide +kernel
theorem dL_law_470 : decode cL_law 470 = .ok (.iconst 2, 1) := by decide +kernel
theorem dL_law_471 : decode cL_law 471 = .ok (.iadd, 1) := by decide +kernel
theorem dL_law_472 : decode cL_law 472 = .ok (.iaload, 1) := by decide +kernel
theorem dL_law_473 : decode cL_law 473 = .ok (.aload_n 0, 1) := by decide +kernel
theorem dL_law_474 : decode cL_law 474 = .ok (.iload_n 3, 1) := by decide +kernel
theorem dL_law_475 : decode cL_law 475 = .ok (.iconst 3, 1) := by decide +kernel
theorem dL_law_476 : decode cL_law 476 = .ok (.iadd, 1) := by decide +kernel
theorem dL_law_477 : decode cL_law 477 = .ok (.iaload, 1) := by decide +kernel
theorem dL_law_478 : decode cL_law 478 = .ok (.invokevirtual 72, 3) := by decide +kernel
theorem dL_law_481 : decode cL_law 481 = .ok (.if_icmp .eq 177, 3) := by decide +kernel
theorem dL_law_484 : decode cL_law 484 = .ok (.iconst 0, 1) := by decide +kernel
theorem dL_law_485 : decode cL_law 485 = .ok (.ireturn, 1) := by decide +kernel
theorem dL_law_486 : decode cL_law 486 = .ok (.aload_n 1, 1) := by decide +kernel
theorem dL_law_487 : decode cL_law 487 = .ok (.aload_n 0, 1) := by decide +kernel
theorem dL_law_488 : decode cL_law 488 = .ok (.iload_n 3, 1) := by decide +kernel
theorem dL_law_489 : decode cL_law 489 = .ok (.iconst 1, 1) := by decide +kernel
theorem dL_law_490 : decode cL_law 490 = .ok (.iadd, 1) := by decide +kernel
theorem dL_law_491 : decode cL_law 491 = .ok (.iaload, 1) := by decide +kernel
theorem dL_law_492 : decode cL_law 492 = .ok (.aload_n 0, 1) := by decide +kernel
theorem dL_law_493 : decode cL_law 493 = .ok (.iload_n 3, 1) := by decide +kernel
theorem dL_law_494 : decode cL_law 494 = .ok (.iconst 2, 1) := by decide +kernel
theorem dL_law_495 : decode cL_law 495 = .ok (.iadd, 1) := by decide +kernel
theorem dL_law_496 : decode cL_law 496 = .ok (.iaload, 1) := by decide +kernel
theorem dL_law_497 : decode cL_law 497 = .ok (.aload_n 0, 1) := by decide +kernel
theorem dL_law_498 : decode cL_law 498 = .ok (.iload_n 3, 1) := by decide +kernel
theorem dL_law_499 : decode cL_law 499 = .ok (.iconst 3, 1) := by decide +kernel
theorem dL_law_500 : decode cL_law 500 = .ok (.iadd, 1) := by decide +kernel
theorem dL_law_501 : decode cL_law 501 = .ok (.iaload, 1) := by decide +kernel
theorem dL_law_502 : decode cL_law 502 = .ok (.aload_n 0, 1) := by decide +kernel
theorem dL_law_503 : decode cL_law 503 = .ok (.iload_n 3, 1) := by decide +kernel
theorem dL_law_504 : decode cL_law 504 = .ok (.iconst 4, 1) := by decide +kernel
theorem dL_law_505 : decode cL_law 505 = .ok (.iadd, 1) := by decide +kernel
theorem dL_law_506 : decode cL_law 506 = .ok (.iaload, 1) := by decide +kernel
theorem dL_law_507 : decode cL_law 507 = .ok (.aload_n 0, 1) := by decide +kernel
theorem dL_law_508 : decode cL_law 508 = .ok (.iload_n 3, 1) := by decide +kernel
theorem dL_law_509 : decode cL_law 509 = .ok (.iconst 5, 1) := by decide +kernel
theorem dL_law_510 : decode cL_law 510 = .ok (.iadd, 1) := by decide +kernel
theorem dL_law_511 : decode cL_law 511 = .ok (.iaload, 1) := by decide +kernel
theorem dL_law_512 : decode cL_law 512 = .ok (.ifCond .eq 7, 3) := by decide +kernel
theorem dL_law_515 : decode cL_law 515 = .ok (.iconst 1, 1) := by decide +kernel
theorem dL_law_516 : decode cL_law 516 = .ok (.goto 4, 3) := by decide +kernel
theorem dL_law_519 : decode cL_law 519 = .ok (.iconst 0, 1) := by decide +kernel
theorem dL_law_520 : decode cL_law 520 = .ok (.invokevirtual 73, 3) := by decide +kernel
theorem dL_law_523 : decode cL_law 523 = .ok (.aload_n 2, 1) := by decide +kernel
theorem dL_law_524 : decode cL_law 524 = .ok (.aload_n 0, 1) := by decide +kernel
theorem dL_law_525 : decode cL_law 525 = .ok (.iload_n 3, 1) := by decide +kernel
theorem dL_law_526 : decode cL_law 526 = .ok (.iconst 1, 1) := by decide +kernel
theorem dL_law_527 : decode cL_law 527 = .ok (.iadd, 1) := by decide +kernel
theorem dL_law_528 : decode cL_law 528 = .ok (.iaload, 1) := by decide +kernel
theorem dL_law_529 : decode cL_law 529 = .ok (.aload_n 0, 1) := by decide +kernel
theorem dL_law_530 : decode cL_law 530 = .ok (.iload_n 3, 1) := by decide +kernel
theorem dL_law_531 : decode cL_law 531 = .ok (.iconst 2, 1) := by decide +kernel
theorem dL_law_532 : decode cL_law 532 = .ok (.iadd, 1) := by decide +kernel
theorem dL_law_533 : decode cL_law 533 = .ok (.iaload, 1) := by decide +kernel
theorem dL_law_534 : decode cL_law 534 = .ok (.aload_n 0, 1) := by decide +kernel
theorem dL_law_535 : decode cL_law 535 = .ok (.iload_n 3, 1) := by decide +kernel
theorem dL_law_536 : decode cL_law 536 = .ok (.iconst 3, 1) := by decide +kernel
theorem dL_law_537 : decode cL_law 537 = .ok (.iadd, 1) := by decide +kernel
theorem dL_law_538 : decode cL_law 538 = .ok (.iaload, 1) := by decide +kernel
theorem dL_law_539 : decode cL_law 539 = .ok (.aload_n 0, 1) := by decide +kernel
theorem dL_law_540 : decode cL_law 540 = .ok (.iload_n 3, 1) := by decide +kernel
theorem dL_law_541 : decode cL_law 541 = .ok (.iconst 4, 1) := by decide +kernel
theorem dL_law_542 : decode cL_law 542 = .ok (.iadd, 1) := by decide +kernel
theorem dL_law_543 : decode cL_law 543 = .ok (.iaload, 1) := by decide +kernel
theorem dL_law_544 : decode cL_law 544 = .ok (.aload_n 0, 1) := by decide +kernel
theorem dL_law_545 : decode cL_law 545 = .ok (.iload_n 3, 1) := by decide +kernel
theorem dL_law_546 : decode cL_law 546 = .ok (.iconst 5, 1) := by decide +kernel
theorem dL_law_547 : decode cL_law 547 = .ok (.iadd, 1) := by decide +kernel
theorem dL_law_548 : decode cL_law 548 = .ok (.iaload, 1) := by decide +kernel
theorem dL_law_549 : decode cL_law 549 = .ok (.ifCond .eq 7, 3) := by decide +kernel
theorem dL_law_552 : decode cL_law 552 = .ok (.iconst 1, 1) := by decide +kernel
theorem dL_law_553 : decode cL_law 553 = .ok (.goto 4, 3) := by decide +kernel
theorem dL_law_556 : decode cL_law 556 = .ok (.iconst 0, 1) := by decide +kernel
theorem dL_law_557 : decode cL_law 557 = .ok (.invokevirtual 77, 3) := by decide +kernel
theorem dL_law_560 : decode cL_law 560 = .ok (.if_icmp .eq 98, 3) := by decide +kernel
theorem dL_law_563 : decode cL_law 563 = .ok (.iconst 0, 1) := by decide +kernel
theorem dL_law_564 : decode cL_law 564 = .ok (.ireturn, 1) := by decide +kernel
theorem dL_law_565 : decode cL_law 565 = .ok (.aload_n 1, 1) := by decide +kernel
theorem dL_law_566 : decode cL_law 566 = .ok (.aload_n 0, 1) := by decide +kernel
theorem dL_law_567 : decode cL_law 567 = .ok (.iload_n 3, 1) := by decide +kernel
theorem dL_law_568 : decode cL_law 568 = .ok (.iconst 1, 1) := by decide +kernel
theorem dL_law_569 : decode cL_law 569 = .ok (.iadd, 1) := by decide +kernel
theorem dL_law_570 : decode cL_law 570 = .ok (.iaload, 1) := by decide +kernel
theorem dL_law_571 : decode cL_law 571 = .ok (.aload_n 0, 1) := by decide +kernel
theorem dL_law_572 : decode cL_law 572 = .ok (.iload_n 3, 1) := by decide +kernel
theorem dL_law_573 : decode cL_law 573 = .ok (.iconst 2, 1) := by decide +kernel
theorem dL_law_574 : decode cL_law 574 = .ok (.iadd, 1) := by decide +kernel
theorem dL_law_575 : decode cL_law 575 = .ok (.iaload, 1) := by decide +kernel
theorem dL_law_576 : decode cL_law 576 = .ok (.aload_n 0, 1) := by decide +kernel
theorem dL_law_577 : decode cL_law 577 = .ok (.iload_n 3, 1) := by decide +kernel
theorem dL_law_578 : decode cL_law 578 = .ok (.iconst 3, 1) := by decide +kernel
theorem dL_law_579 : decode cL_law 579 = .ok (.iadd, 1) := by decide +kernel
theorem dL_law_580 : decode cL_law 580 = .ok (.iaload, 1) := by decide +kernel
theorem dL_law_581 : decode cL_law 581 = .ok (.invokevirtual 78, 3) := by decide +kernel
theorem dL_law_584 : decode cL_law 584 = .ok (.aload_n 2, 1) := by decide +kernel
theorem dL_law_585 : decode cL_law 585 = .ok (.aload_n 0, 1) := by decide +kernel
theorem dL_law_586 : decode cL_law 586 = .ok (.iload_n 3, 1) := by decide +kernel
theorem dL_law_587 : decode cL_law 587 = .ok (.iconst 1, 1) := by decide +kernel
theorem dL_law_588 : decode cL_law 588 = .ok (.iadd, 1) := by decide +kernel
theorem dL_law_589 : decode cL_law 589 = .ok (.iaload, 1) := by decide +kernel
theorem dL_law_590 : decode cL_law 590 = .ok (.aload_n 0, 1) := by decide +kernel
theorem dL_law_591 : decode cL_law 591 = .ok (.iload_n 3, 1) := by decide +kernel
theorem dL_law_592 : decode cL_law 592 = .ok (.iconst 2, 1) := by decide +kernel
theorem dL_law_593 : decode cL_law 593 = .ok (.iadd, 1) := by decide +kernel
theorem dL_law_594 : decode cL_law 594 = .ok (.iaload, 1) := by decide +kernel
theorem dL_law_595 : decode cL_law 595 = .ok (.aload_n 0, 1) := by decide +kernel
theorem dL_law_596 : decode cL_law 596 = .ok (.iload_n 3, 1) := by decide +kernel
theorem dL_law_597 : decode cL_law 597 = .ok (.iconst 3, 1) := by decide +kernel
theorem dL_law_598 : decode cL_law 598 = .ok (.iadd, 1) := by decide +kernel
theorem dL_law_599 : decode cL_law 599 = .ok (.iaload, 1) := by decide +kernel
theorem dL_law_600 : decode cL_law 600 = .ok (.invokevirtual 81, 3) := by decide +kernel
theorem dL_law_603 : decode cL_law 603 = .ok (.if_icmp .eq 55, 3) := by decide +kernel
theorem dL_law_606 : decode cL_law 606 = .ok (.iconst 0, 1) := by decide +kernel
theorem dL_law_607 : decode cL_law 607 = .ok (.ireturn, 1) := by decide +kernel
theorem dL_law_608 : decode cL_law 608 = .ok (.aload_n 1, 1) := by decide +kernel
theorem dL_law_609 : decode cL_law 609 = .ok (.invokevirtual 82, 3) := by decide +kernel
theorem dL_law_612 : decode cL_law 612 = .ok (.aload_n 2, 1) := by decide +kernel
theorem dL_law_613 : decode cL_law 613 = .ok (.invokevirtual 85, 3) := by decide +kernel
theorem dL_law_616 : decode cL_law 616 = .ok (.if_icmp .eq 42, 3) := by decide +kernel
theorem dL_law_619 : decode cL_law 619 = .ok (.iconst 0, 1) := by decide +kernel
theorem dL_law_620 : decode cL_law 620 = .ok (.ireturn, 1) := by decide +kernel
theorem dL_law_621 : decode cL_law 621 = .ok (.aload_n 1, 1) := by decide +kernel
theorem dL_law_622 : decode cL_law 622 = .ok (.aload_n 0, 1) := by decide +kernel
theorem dL_law_623 : decode cL_law 623 = .ok (.iload_n 3, 1) := by decide +kernel
theorem dL_law_624 : decode cL_law 624 = .ok (.iconst 1, 1) := by decide +kernel
theorem dL_law_625 : decode cL_law 625 = .ok (.iadd, 1) := by decide +kernel
theorem dL_law_626 : decode cL_law 626 = .ok (.iaload, 1) := by decide +kernel
theorem dL_law_627 : decode cL_law 627 = .ok (.invokevirtual 86, 3) := by decide +kernel
theorem dL_law_630 : decode cL_law 630 = .ok (.aload_n 2, 1) := by decide +kernel
theorem dL_law_631 : decode cL_law 631 = .ok (.aload_n 0, 1) := by decide +kernel
theorem dL_law_632 : decode cL_law 632 = .ok (.iload_n 3, 1) := by decide +kernel
theorem dL_law_633 : decode cL_law 633 = .ok (.iconst 1, 1) := by decide +kernel
theorem dL_law_634 : decode cL_law 634 = .ok (.iadd, 1) := by decide +kernel
theorem dL_law_635 : decode cL_law 635 = .ok (.iaload, 1) := by decide +kernel
theorem dL_law_636 : decode cL_law 636 = .ok (.invokevirtual 89, 3) := by decide +kernel
theorem dL_law_639 : decode cL_law 639 = .ok (.if_icmp .eq 19, 3) := by decide +kernel
theorem dL_law_642 : decode cL_law 642 = .ok (.iconst 0, 1) := by decide +kernel
theorem dL_law_643 : decode cL_law 643 = .ok (.ireturn, 1) := by decide +kernel
theorem dL_law_644 : decode cL_law 644 = .ok (.aload_n 1, 1) := by decide +kernel
theorem dL_law_645 : decode cL_law 645 = .ok (.invokevirtual 90, 3) := by decide +kernel
theorem dL_law_648 : decode cL_law 648 = .ok (.aload_n 2, 1) := by decide +kernel
theorem dL_law_649 : decode cL_law 649 = .ok (.invokevirtual 94, 3) := by decide +kernel
theorem dL_law_652 : decode cL_law 652 = .ok (.lcmp, 1) := by decide +kernel
theorem dL_law_653 : decode cL_law 653 = .ok (.ifCond .eq 5, 3) := by decide +kernel
theorem dL_law_656 : decode cL_law 656 = .ok (.iconst 0, 1) := by decide +kernel
theorem dL_law_657 : decode cL_law 657 = .ok (.ireturn, 1) := by decide +kernel
theorem dL_law_658 : decode cL_law 658 = .ok (.iinc 3 6, 3) := by decide +kernel
theorem dL_law_661 : decode cL_law 661 = .ok (.goto (-643), 3) := by decide +kernel
theorem dL_law_664 : decode cL_law 664 = .ok (.iconst 1, 1) := by decide +kernel
theorem dL_law_665 : decode cL_law 665 = .ok (.ireturn, 1) := by decide +kernel
end
section
/-! THE JUDGEMENT zG: one method's run, with all that never changes in it held by one variable X; what changes are the listed locals, the stack, the world (a list of cells) and the place in the code. Its rows stand on the kit's. -/
abbrev zX : Type := (Program × Launch × Env × Room × State × MethodId × Array Value × List Frame) × (Method × Code × (State → Prop) × va_G × (Nat → Prop) × Nat × Bool)
abbrev zx_p (X : zX) : Program := X.1.1
abbrev zx_l (X : zX) : Launch := X.1.2.1
abbrev zx_e (X : zX) : Env := X.1.2.2.1
abbrev zx_R (X : zX) : Room := X.1.2.2.2.1
abbrev zx_s (X : zX) : State := X.1.2.2.2.2.1
abbrev zx_m (X : zX) : MethodId := X.1.2.2.2.2.2.1
abbrev zx_a (X : zX) : Array Value := X.1.2.2.2.2.2.2.1
abbrev zx_b (X : zX) : List Frame := X.1.2.2.2.2.2.2.2
abbrev zx_h (X : zX) : Method := X.2.1
abbrev zx_c (X : zX) : Code := X.2.2.1
abbrev zx_Q (X : zX) : State → Prop := X.2.2.2.1
abbrev zx_D (X : zX) : va_G := X.2.2.2.2.1
abbrev zx_A (X : zX) : Nat → Prop := X.2.2.2.2.2.1
abbrev zx_n (X : zX) : Nat := X.2.2.2.2.2.2.1
abbrev zx_w (X : zX) : Bool := X.2.2.2.2.2.2.2
/-- the heap holds the world; a method that writes: its cells are apart and its own, nothing else has changed; one that reads: nothing has changed -/
def zJ (X : zX) (ws : va_W) (H : Heap) (locs : List Loc) : Prop := va_P (zx_D X) vwCl ws H ∧ (zx_w X = true → va_D (zx_A X) ws ∧ va_S (zx_A X) (zx_s X).heap H locs) ∧ (zx_w X = false → H = (zx_s X).heap ∧ locs = [])
def zG (X : zX) (k n : Nat) (lv : List (Nat × Value)) (st : List Value) (ws : va_W) (pc : Nat) : Prop :=
  ∀ (H : Heap) (locs : List Loc) (ls : Array Slot), zJ X ws H locs → lv_has ls (zx_n X) lv → W (zx_p X) (zx_l X) (zx_e X) (zx_R X) (zx_s X) (zx_m X) (zx_a X) (zx_b X) (zx_h X) (zx_c X) H locs k n (zx_Q X) (F0 (zx_m X) pc ls st)
/-- what a method's run rests on -/
def zC (X : zX) (l : Launch) (D : va_G) (cI : ClassId) (R : Room) (nL : Nat) (wr : Bool) (cc : ByteArray) (own : String) (Ts : List Cond) : Prop :=
  (zx_p X).tables.exec = Jvm.exec ∧ (zx_c X).code = cc ∧ (zx_c X).maxLocals = nL ∧ (zx_s X).vm.findClass own = some (zx_m X).cls ∧ (∀ w ∈ Ts, w.before (zx_a X) (zx_s X) = true) ∧ va_K (zx_D X) vwCl [(cI, .int)] (zx_s X) ∧ (∀ q, (zx_s X).heap.size ≤ q → zx_A X q) ∧ zx_R X = R ∧ zx_n X = nL ∧ zx_w X = wr ∧ zx_l X = l ∧ zx_D X = D
/-- contracts: of a method that only reads (its answer an int, a long); of one that writes (its answer and the world behind it) -/
def zMr (l : Launch) (D : va_G) (cI : ClassId) (y : MethodName) (wy : List Cond) (rm : Room) (av : List Value) (ws : va_W) (v : Int32) : Prop :=
  Met l y wy rm (va_Pc av (fun U => va_P D vwCl ws U.heap ∧ va_K D vwCl [(cI, .int)] U)) (vp_Si (fun r => r = v)) 0 0 (fun _ => False)
def zMl (l : Launch) (D : va_G) (cI : ClassId) (y : MethodName) (wy : List Cond) (rm : Room) (av : List Value) (ws : va_W) (v : Int64) : Prop :=
  Met l y wy rm (va_Pc av (fun U => va_P D vwCl ws U.heap ∧ va_K D vwCl [(cI, .int)] U)) (vp_Sl (fun r => r = v)) 0 0 (fun _ => False)
def zQw (D : va_G) (Post : Option Value → va_W → Prop) (A : Nat → Prop) : Array Value → State → Outcome → State → Prop := fun _ st oc t => (∃ (v : Option Value) (w1 : va_W), oc = .returned v ∧ Post v w1 ∧ va_P D vwCl w1 t.heap ∧ va_D A w1) ∧ va_F A st t
def zMw (l : Launch) (D : va_G) (cI : ClassId) (y : MethodName) (wy : List Cond) (rm : Room) (av : List Value) (ws : va_W) (Post : Option Value → va_W → Prop) (mc ms : Nat) : Prop :=
  ∀ sz : Nat, Met l y wy rm (va_Pc av (fun U => U.heap.size = sz ∧ va_P D vwCl ws U.heap ∧ va_K D vwCl [(cI, .int)] U ∧ va_D (fun _ => True) ws)) (zQw D Post (va_A ws sz)) mc ms (va_A ws sz)
/-- what a method's end owes -/
def zEi (X : zX) (ret : FieldType) (v : Int32) : Prop := (zx_h X).sig.returnType = some ret ∧ (zx_h X).locks = false ∧ zx_w X = false ∧ zx_Q X = MQ (zx_b X) (vp_Si (fun r => r = v)) (zx_a X) (zx_s X) 0 0 (fun _ => False)
def zEl (X : zX) (v : Int64) : Prop := (zx_h X).sig.returnType = some .long ∧ (zx_h X).locks = false ∧ zx_w X = false ∧ zx_Q X = MQ (zx_b X) (vp_Sl (fun r => r = v)) (zx_a X) (zx_s X) 0 0 (fun _ => False)
def zEw (X : zX) (D : va_G) (ret : Option FieldType) (Post : Option Value → va_W → Prop) (mc ms : Nat) : Prop := (zx_h X).sig.returnType = ret ∧ (zx_h X).locks = false ∧ zx_w X = true ∧ zx_D X = D ∧ zx_Q X = MQ (zx_b X) (zQw D Post (zx_A X)) (zx_a X) (zx_s X) mc ms (zx_A X)
/-- entries -/
theorem zr_ent {l : Launch} {D : va_G} {cI : ClassId} {y : MethodName} {wy ws' : List Cond} {rm : Room} {av : List Value} {ws : va_W} {v : Int32} {cc : ByteArray} {maxL : Nat} {ret : FieldType} (hy : plainName y.cls = true) (hw : wy = Cond.code y cc maxL (some ret) :: ws') (hl : (lg_sl av).length ≤ maxL)
    (body : ∀ X : zX, zC X l D cI rm maxL false cc y.cls wy → zEi X ret v → zG X 0 0 (lv_args 0 av) [] ws 0) : zMr l D cI y wy rm av ws v := by
  refine Met.ofW (cc := cc) (maxL := maxL) (ret := some ret) hy hw ?_
  intro p e s m args below meth c s₁ B hml hv
  obtain ⟨rfl, hP, hK⟩ := hv
  have hts := atoms_spec (ws := wy) B.pre
  have hown : s.vm.findClass y.cls = some m.cls := findClass_of_methodNamed B.named
  rw [lg_entry_eq]
  exact body ((p, l, e, rm, s, m, av.toArray, below), (meth, c, MQ below (vp_Si (fun r => r = v)) av.toArray s 0 0 (fun _ => False), D, (fun _ => True), maxL, false)) ⟨B.exec, B.bytes, hml, hown, hts, hK, fun _ _ => trivial, rfl, rfl, rfl, rfl, rfl⟩ ⟨B.returns, B.notSynchronized, rfl, rfl⟩ s.heap [] _ ⟨hP, (fun h => absurd (show false = true from h) (by decide)), fun _ => ⟨rfl, rfl⟩⟩ (lv_entry av (n := maxL) hl)
theorem zl_ent {l : Launch} {D : va_G} {cI : ClassId} {y : MethodName} {wy ws' : List Cond} {rm : Room} {av : List Value} {ws : va_W} {v : Int64} {cc : ByteArray} {maxL : Nat} (hy : plainName y.cls = true) (hw : wy = Cond.code y cc maxL (some .long) :: ws') (hl : (lg_sl av).length ≤ maxL)
    (body : ∀ X : zX, zC X l D cI rm maxL false cc y.cls wy → zEl X v → zG X 0 0 (lv_args 0 av) [] ws 0) : zMl l D cI y wy rm av ws v := by
  refine Met.ofW (cc := cc) (maxL := maxL) (ret := some .long) hy hw ?_
  intro p e s m args below meth c s₁ B hml hv
  obtain ⟨rfl, hP, hK⟩ := hv
  have hts := atoms_spec (ws := wy) B.pre
  have hown : s.vm.findClass y.cls = some m.cls := findClass_of_methodNamed B.named
  rw [lg_entry_eq]
  exact body ((p, l, e, rm, s, m, av.toArray, below), (meth, c, MQ below (vp_Sl (fun r => r = v)) av.toArray s 0 0 (fun _ => False), D, (fun _ => True), maxL, false)) ⟨B.exec, B.bytes, hml, hown, hts, hK, fun _ _ => trivial, rfl, rfl, rfl, rfl, rfl⟩ ⟨B.returns, B.notSynchronized, rfl, rfl⟩ s.heap [] _ ⟨hP, (fun h => absurd (show false = true from h) (by decide)), fun _ => ⟨rfl, rfl⟩⟩ (lv_entry av (n := maxL) hl)
theorem zw_ent {l : Launch} {D : va_G} {cI : ClassId} {y : MethodName} {wy ws' : List Cond} {rm : Room} {av : List Value} {ws : va_W} {Post : Option Value → va_W → Prop} {mc ms : Nat} {cc : ByteArray} {maxL : Nat} {ret : Option FieldType} (hy : plainName y.cls = true) (hw : wy = Cond.code y cc maxL ret :: ws') (hl : (lg_sl av).length ≤ maxL)
    (body : ∀ X : zX, zC X l D cI rm maxL true cc y.cls wy → zEw X D ret Post mc ms → (zx_h X).name = y.name → zG X 0 0 (lv_args 0 av) [] ws 0) : zMw l D cI y wy rm av ws Post mc ms := by
  intro sz
  refine Met.ofW (cc := cc) (maxL := maxL) (ret := ret) hy hw ?_
  intro p e s m args below meth c s₁ B hml hv
  obtain ⟨rfl, hsz, hP, hK, hD0⟩ := hv
  have hts := atoms_spec (ws := wy) B.pre
  have hown : s.vm.findClass y.cls = some m.cls := findClass_of_methodNamed B.named
  have hin : meth.name = y.name := (name_of_methodNamed B.named B.method).1
  subst hsz
  have hD := hD0.self (sz := s.heap.size)
  rw [lg_entry_eq]
  exact body ((p, l, e, rm, s, m, av.toArray, below), (meth, c, MQ below (zQw D Post (va_A ws s.heap.size)) av.toArray s mc ms (va_A ws s.heap.size), D, va_A ws s.heap.size, maxL, true)) ⟨B.exec, B.bytes, hml, hown, hts, hK, fun q h => Or.inr h, rfl, rfl, rfl, rfl, rfl⟩ ⟨B.returns, B.notSynchronized, rfl, rfl, rfl⟩ hin s.heap [] _ ⟨hP, fun _ => ⟨hD, va_S.rf⟩, (fun h => absurd (show true = false from h) (by decide))⟩ (lv_entry av (n := maxL) hl)
section ZG
variable {X : zX} {l : Launch} {D : va_G} {cI : ClassId} {R : Room} {nL : Nat} {wr : Bool} {cc : ByteArray} {own : String} {Ts : List Cond} {k n : Nat} {lv lv' : List (Nat × Value)} {st st' : List Value} {ws ws' : va_W} {pc : Nat}
/-- the same, otherwise written -/
theorem zg_cv {k' n' : Nat} (e1 : lv = lv') (e2 : st = st') (e3 : ws = ws') (h : zG X k' n' lv' st' ws' pc) (e4 : k = k' := by rfl) (e5 : n = n' := by rfl) : zG X k n lv st ws pc := by
  subst e1; subst e2; subst e3; subst e4; subst e5; exact h
/-- fewer locals, by their places -/
theorem zg_lv (ks : List Nat) (e : lv_pick lv ks = lv') (h : zG X k n lv' st ws pc) : zG X k n lv st ws pc := fun H locs ls j hl => h H locs ls j (lv_sub hl ks e)
/-- room rounded up -/
theorem zg_widen {k' n' : Nat} (h1 : k ≤ k') (h2 : n ≤ n') (h : zG X k' n' lv st ws pc) : zG X k n lv st ws pc := fun H locs ls j hl => W.widen h1 h2 (h H locs ls j hl)
/-- a world's cells in another order, or fewer -/
theorem zg_perm (is : List Nat) (hn : va_nd is = true) (hs : is.map (fun i => ws[i]?) = ws'.map some) (h : zG X k n lv st ws' pc) : zG X k n lv st ws pc := fun H locs ls j hl => h H locs ls ⟨j.1.sub is (by
    have h1 : is.filterMap (fun i => ws[i]?) = (is.map (fun i => ws[i]?)).filterMap id := by rw [List.filterMap_map]; rfl
    rw [h1, hs, List.filterMap_map]; simp), fun q => ⟨(j.2.1 q).1.sub is hn hs, (j.2.1 q).2⟩, j.2.2⟩ hl
/-- an array's contents, where they count -/
theorem zj_cell {q0 a cA N : Nat} {f g : Nat → Int32} (he : ws[q0]? = some (a, .inl (cA, N, .inl f))) (hfg : ∀ i, i < N → f i = g i) {H : Heap} {locs : List Loc} (j : zJ X ws H locs) : zJ X (ws.set q0 (a, .inl (cA, N, .inl g))) H locs := by
  have hc : vp_cell cA (N, .inl f) = vp_cell cA (N, .inl g) := by
    rw [vp_cell_i, vp_cell_i]
    simp only [arrV]
    congr 2
    funext i
    rw [hfg i.1 i.2]
  have hl : q0 < ws.length := (List.getElem?_eq_some_iff.mp he).1
  refine ⟨fun i q hi => ?_, fun q => ⟨(j.2.1 q).1.set he, (j.2.1 q).2⟩, j.2.2⟩
  by_cases h : i = q0
  · subst h
    rw [List.getElem?_set_self hl] at hi
    cases hi
    have := j.1 i _ he
    show H[a]? = some (vp_cell cA (N, .inl g))
    rw [← hc]; exact this
  · rw [List.getElem?_set_ne (Ne.symm h)] at hi
    exact j.1 i q hi
theorem zg_cell (q0 : Nat) {a cA N : Nat} {f : Nat → Int32} (g : Nat → Int32) (he : ws[q0]? = some (a, .inl (cA, N, .inl f))) (hfg : ∀ i, i < N → f i = g i) (hs : ws.set q0 (a, .inl (cA, N, .inl g)) = ws') (h : zG X k n lv st ws' pc) : zG X k n lv st ws pc := by
  subst hs
  exact fun H locs ls j hl => h H locs ls (zj_cell he hfg j) hl
theorem zg_iconst (C : zC X l D cI R nL wr cc own Ts) {i : Int} {v : Int32} (d : decode cc pc = .ok (.iconst i, 1)) (hv : Int32.ofInt i = v) (h : zG X k n lv (.int v :: st) ws (pc + 1)) : zG X k n lv (st) ws pc := fun H locs ls j hl => lv_iconst C.1 C.2.1 d hv (h H locs ls j hl)
theorem zg_bipush (C : zC X l D cI R nL wr cc own Ts) {i : Int} {v : Int32} (d : decode cc pc = .ok (.bipush i, 2)) (hv : (Int8.ofInt i).toInt32 = v) (h : zG X k n lv (.int v :: st) ws (pc + 2)) : zG X k n lv (st) ws pc := fun H locs ls j hl => lv_bipush C.1 C.2.1 d hv (h H locs ls j hl)
theorem zg_sipush (C : zC X l D cI R nL wr cc own Ts) {i : Int} {v : Int32} (d : decode cc pc = .ok (.sipush i, 3)) (hv : (Int16.ofInt i).toInt32 = v) (h : zG X k n lv (.int v :: st) ws (pc + 3)) : zG X k n lv (st) ws pc := fun H locs ls j hl => lv_sipush C.1 C.2.1 d hv (h H locs ls j hl)
theorem zg_ldcw (C : zC X l D cI R nL wr cc own Ts) {i : Nat} {v : Int32} (d : decode cc pc = .ok (.ldc_w i, 3)) (hw : Cond.constant own i v ∈ Ts) (h : zG X k n lv (.int v :: st) ws (pc + 3)) : zG X k n lv (st) ws pc := fun H locs ls j hl => lv_ldcw C.1 C.2.1 C.2.2.2.1 (C.2.2.2.2.1 _ hw) d (h H locs ls j hl)
theorem zg_ldc2 (C : zC X l D cI R nL wr cc own Ts) {i : Nat} {v : Int64} (d : decode cc pc = .ok (.ldc2_w i, 3)) (hw : Cond.constantLong own i v ∈ Ts) (h : zG X k n lv (.long v :: st) ws (pc + 3)) : zG X k n lv (st) ws pc := fun H locs ls j hl => lv_ldc2 C.1 C.2.1 C.2.2.2.1 (C.2.2.2.2.1 _ hw) d (h H locs ls j hl)
theorem zg_iload_n (C : zC X l D cI R nL wr cc own Ts) (q : Nat) {i : Fin 4} {x : Int32} (d : decode cc pc = .ok (.iload_n i, 1)) (e : lv[q]? = some ((i : Nat), .int x)) (h : zG X k n lv (.int x :: st) ws (pc + 1)) : zG X k n lv (st) ws pc := fun H locs ls j hl => lv_iload_n C.1 C.2.1 d rfl (lv_at hl q e) (h H locs ls j hl)
theorem zg_iload (C : zC X l D cI R nL wr cc own Ts) (q : Nat) {i : Nat} {x : Int32} (d : decode cc pc = .ok (.iload i, 2)) (e : lv[q]? = some (i, .int x)) (h : zG X k n lv (.int x :: st) ws (pc + 2)) : zG X k n lv (st) ws pc := fun H locs ls j hl => lv_iload C.1 C.2.1 d (lv_at hl q e) (h H locs ls j hl)
theorem zg_aload_n (C : zC X l D cI R nL wr cc own Ts) (q : Nat) {i : Fin 4} {x : Nat} (d : decode cc pc = .ok (.aload_n i, 1)) (e : lv[q]? = some ((i : Nat), .ref x)) (h : zG X k n lv (.ref x :: st) ws (pc + 1)) : zG X k n lv (st) ws pc := fun H locs ls j hl => lv_aload_n C.1 C.2.1 d rfl (lv_at hl q e) (h H locs ls j hl)
theorem zg_aload (C : zC X l D cI R nL wr cc own Ts) (q : Nat) {i : Nat} {x : Nat} (d : decode cc pc = .ok (.aload i, 2)) (e : lv[q]? = some (i, .ref x)) (h : zG X k n lv (.ref x :: st) ws (pc + 2)) : zG X k n lv (st) ws pc := fun H locs ls j hl => lv_aload C.1 C.2.1 d (lv_at hl q e) (h H locs ls j hl)
theorem zg_lload_n (C : zC X l D cI R nL wr cc own Ts) (q : Nat) {i : Fin 4} {x : Int64} (d : decode cc pc = .ok (.lload_n i, 1)) (e : lv[q]? = some ((i : Nat), .long x)) (h : zG X k n lv (.long x :: st) ws (pc + 1)) : zG X k n lv (st) ws pc := fun H locs ls j hl => lv_lload_n C.1 C.2.1 d rfl (lv_at hl q e) (h H locs ls j hl)
theorem zg_lload (C : zC X l D cI R nL wr cc own Ts) (q : Nat) {i : Nat} {x : Int64} (d : decode cc pc = .ok (.lload i, 2)) (e : lv[q]? = some (i, .long x)) (h : zG X k n lv (.long x :: st) ws (pc + 2)) : zG X k n lv (st) ws pc := fun H locs ls j hl => lv_lload C.1 C.2.1 d (lv_at hl q e) (h H locs ls j hl)
theorem zg_istore_n (C : zC X l D cI R nL wr cc own Ts) (ks : List Nat) {i : Fin 4} {x : Int32} (d : decode cc pc = .ok (.istore_n i, 1)) (hn : (i : Nat) < nL) (e : lv_pick (((i : Nat), Value.int x) :: lv.filter (fun q : Nat × Value => !(q.1 == (i : Nat)) && !(q.1 + 1 == (i : Nat) && q.2.category == 2))) ks = lv') (h : zG X k n lv' (st) ws (pc + 1)) : zG X k n lv (.int x :: st) ws pc := fun H locs ls j hl => lv_istore_n (nL := zx_n X) C.1 C.2.1 d rfl hl (by rw [C.2.2.2.2.2.2.2.2.1]; exact hn) rfl (fun ls2 hl2 => h H locs ls2 j (lv_sub hl2 ks e))
theorem zg_istore (C : zC X l D cI R nL wr cc own Ts) (ks : List Nat) {i : Nat} {x : Int32} (d : decode cc pc = .ok (.istore i, 2)) (hn : i < nL) (e : lv_pick ((i, Value.int x) :: lv.filter (fun q : Nat × Value => !(q.1 == i) && !(q.1 + 1 == i && q.2.category == 2))) ks = lv') (h : zG X k n lv' (st) ws (pc + 2)) : zG X k n lv (.int x :: st) ws pc := fun H locs ls j hl => lv_istore (nL := zx_n X) C.1 C.2.1 d hl (by rw [C.2.2.2.2.2.2.2.2.1]; exact hn) rfl (fun ls2 hl2 => h H locs ls2 j (lv_sub hl2 ks e))
theorem zg_astore_n (C : zC X l D cI R nL wr cc own Ts) (ks : List Nat) {i : Fin 4} {x : Nat} (d : decode cc pc = .ok (.astore_n i, 1)) (hn : (i : Nat) < nL) (e : lv_pick (((i : Nat), Value.ref x) :: lv.filter (fun q : Nat × Value => !(q.1 == (i : Nat)) && !(q.1 + 1 == (i : Nat) && q.2.category == 2))) ks = lv') (h : zG X k n lv' (st) ws (pc + 1)) : zG X k n lv (.ref x :: st) ws pc := fun H locs ls j hl => lv_astore_n (nL := zx_n X) C.1 C.2.1 d rfl hl (by rw [C.2.2.2.2.2.2.2.2.1]; exact hn) rfl (fun ls2 hl2 => h H locs ls2 j (lv_sub hl2 ks e))
theorem zg_astore (C : zC X l D cI R nL wr cc own Ts) (ks : List Nat) {i : Nat} {x : Nat} (d : decode cc pc = .ok (.astore i, 2)) (hn : i < nL) (e : lv_pick ((i, Value.ref x) :: lv.filter (fun q : Nat × Value => !(q.1 == i) && !(q.1 + 1 == i && q.2.category == 2))) ks = lv') (h : zG X k n lv' (st) ws (pc + 2)) : zG X k n lv (.ref x :: st) ws pc := fun H locs ls j hl => lv_astore (nL := zx_n X) C.1 C.2.1 d hl (by rw [C.2.2.2.2.2.2.2.2.1]; exact hn) rfl (fun ls2 hl2 => h H locs ls2 j (lv_sub hl2 ks e))
theorem zg_lstore_n (C : zC X l D cI R nL wr cc own Ts) (ks : List Nat) {i : Fin 4} {x : Int64} (d : decode cc pc = .ok (.lstore_n i, 1)) (hn : (i : Nat) + 1 < nL) (e : lv_pick (((i : Nat), Value.long x) :: lv.filter (fun q : Nat × Value => !(q.1 == (i : Nat)) && (!(q.1 == (i : Nat) + 1) && !(q.1 + 1 == (i : Nat) && q.2.category == 2)))) ks = lv') (h : zG X k n lv' (st) ws (pc + 1)) : zG X k n lv (.long x :: st) ws pc := fun H locs ls j hl => lv_lstore_n (nL := zx_n X) C.1 C.2.1 d rfl hl (by rw [C.2.2.2.2.2.2.2.2.1]; exact hn) rfl (fun ls2 hl2 => h H locs ls2 j (lv_sub hl2 ks e))
theorem zg_iinc (C : zC X l D cI R nL wr cc own Ts) (q : Nat) (ks : List Nat) {i : Nat} {c : Int} {x : Int32} (v : Int32) (d : decode cc pc = .ok (.iinc i c, 3)) (hk : lv[q]? = some (i, .int x)) (hv : x + Int32.ofInt c = v) (hn : i < nL) (e : lv_pick ((i, Value.int v) :: lv.filter (fun q : Nat × Value => !(q.1 == i) && !(q.1 + 1 == i && q.2.category == 2))) ks = lv') (h : zG X k n lv' (st) ws (pc + 3)) : zG X k n lv (st) ws pc := fun H locs ls j hl => lv_iinc (nL := zx_n X) C.1 C.2.1 d hl hk hv (by rw [C.2.2.2.2.2.2.2.2.1]; exact hn) rfl (fun ls2 hl2 => h H locs ls2 j (lv_sub hl2 ks e))
theorem zg_iadd (C : zC X l D cI R nL wr cc own Ts) {x y : Int32} (d : decode cc pc = .ok (.iadd, 1)) (z : Int32) (e : x + y = z) (h : zG X k n lv (.int z :: st) ws (pc + 1)) : zG X k n lv (.int y :: .int x :: st) ws pc := by subst e; exact fun H locs ls j hl => lv_iadd C.1 C.2.1 d (h H locs ls j hl)
theorem zg_isub (C : zC X l D cI R nL wr cc own Ts) {x y : Int32} (d : decode cc pc = .ok (.isub, 1)) (z : Int32) (e : x - y = z) (h : zG X k n lv (.int z :: st) ws (pc + 1)) : zG X k n lv (.int y :: .int x :: st) ws pc := by subst e; exact fun H locs ls j hl => lv_isub C.1 C.2.1 d (h H locs ls j hl)
theorem zg_imul (C : zC X l D cI R nL wr cc own Ts) {x y : Int32} (d : decode cc pc = .ok (.imul, 1)) (z : Int32) (e : x * y = z) (h : zG X k n lv (.int z :: st) ws (pc + 1)) : zG X k n lv (.int y :: .int x :: st) ws pc := by subst e; exact fun H locs ls j hl => lv_imul C.1 C.2.1 d (h H locs ls j hl)
theorem zg_iand (C : zC X l D cI R nL wr cc own Ts) {x y : Int32} (d : decode cc pc = .ok (.iand, 1)) (z : Int32) (e : x &&& y = z) (h : zG X k n lv (.int z :: st) ws (pc + 1)) : zG X k n lv (.int y :: .int x :: st) ws pc := by subst e; exact fun H locs ls j hl => lv_iand C.1 C.2.1 d (h H locs ls j hl)
theorem zg_ior (C : zC X l D cI R nL wr cc own Ts) {x y : Int32} (d : decode cc pc = .ok (.ior, 1)) (z : Int32) (e : x ||| y = z) (h : zG X k n lv (.int z :: st) ws (pc + 1)) : zG X k n lv (.int y :: .int x :: st) ws pc := by subst e; exact fun H locs ls j hl => lv_ior C.1 C.2.1 d (h H locs ls j hl)
theorem zg_ixor (C : zC X l D cI R nL wr cc own Ts) {x y : Int32} (d : decode cc pc = .ok (.ixor, 1)) (z : Int32) (e : x ^^^ y = z) (h : zG X k n lv (.int z :: st) ws (pc + 1)) : zG X k n lv (.int y :: .int x :: st) ws pc := by subst e; exact fun H locs ls j hl => lv_ixor C.1 C.2.1 d (h H locs ls j hl)
theorem zg_ishl (C : zC X l D cI R nL wr cc own Ts) {x y : Int32} (d : decode cc pc = .ok (.ishl, 1)) (z : Int32) (e : x <<< (y &&& 31) = z) (h : zG X k n lv (.int z :: st) ws (pc + 1)) : zG X k n lv (.int y :: .int x :: st) ws pc := by subst e; exact fun H locs ls j hl => lv_ishl C.1 C.2.1 d (h H locs ls j hl)
theorem zg_ishr (C : zC X l D cI R nL wr cc own Ts) {x y : Int32} (d : decode cc pc = .ok (.ishr, 1)) (z : Int32) (e : x >>> (y &&& 31) = z) (h : zG X k n lv (.int z :: st) ws (pc + 1)) : zG X k n lv (.int y :: .int x :: st) ws pc := by subst e; exact fun H locs ls j hl => lv_ishr C.1 C.2.1 d (h H locs ls j hl)
theorem zg_idiv (C : zC X l D cI R nL wr cc own Ts) {x y : Int32} (d : decode cc pc = .ok (.idiv, 1)) (hne : ¬ y = 0) (z : Int32) (e : x / y = z) (h : zG X k n lv (.int z :: st) ws (pc + 1)) : zG X k n lv (.int y :: .int x :: st) ws pc := by subst e; exact fun H locs ls j hl => lv_idiv C.1 C.2.1 d hne (h H locs ls j hl)
theorem zg_irem (C : zC X l D cI R nL wr cc own Ts) {x y : Int32} (d : decode cc pc = .ok (.irem, 1)) (hne : ¬ y = 0) (z : Int32) (e : x - x / y * y = z) (h : zG X k n lv (.int z :: st) ws (pc + 1)) : zG X k n lv (.int y :: .int x :: st) ws pc := by subst e; exact fun H locs ls j hl => lv_irem C.1 C.2.1 d hne (h H locs ls j hl)
theorem zg_iushr (C : zC X l D cI R nL wr cc own Ts) {x y : Int32} (d : decode cc pc = .ok (.iushr, 1)) (z : Int32) (e : (x.toUInt32 >>> (y.toUInt32 &&& Int32.toUInt32 31)).toInt32 = z) (h : zG X k n lv (.int z :: st) ws (pc + 1)) : zG X k n lv (.int y :: .int x :: st) ws pc := fun H locs ls j hl => lv_iushr C.1 C.2.1 d e (h H locs ls j hl)
theorem zg_ladd (C : zC X l D cI R nL wr cc own Ts) {x y : Int64} (d : decode cc pc = .ok (.ladd, 1)) (z : Int64) (e : x + y = z) (h : zG X k n lv (.long z :: st) ws (pc + 1)) : zG X k n lv (.long y :: .long x :: st) ws pc := by subst e; exact fun H locs ls j hl => lv_ladd C.1 C.2.1 d (h H locs ls j hl)
theorem zg_lmul (C : zC X l D cI R nL wr cc own Ts) {x y : Int64} (d : decode cc pc = .ok (.lmul, 1)) (z : Int64) (e : x * y = z) (h : zG X k n lv (.long z :: st) ws (pc + 1)) : zG X k n lv (.long y :: .long x :: st) ws pc := by subst e; exact fun H locs ls j hl => lv_lmul C.1 C.2.1 d (h H locs ls j hl)
theorem zg_land (C : zC X l D cI R nL wr cc own Ts) {x y : Int64} (d : decode cc pc = .ok (.land, 1)) (z : Int64) (e : x &&& y = z) (h : zG X k n lv (.long z :: st) ws (pc + 1)) : zG X k n lv (.long y :: .long x :: st) ws pc := by subst e; exact fun H locs ls j hl => lv_land C.1 C.2.1 d (h H locs ls j hl)
theorem zg_ldiv (C : zC X l D cI R nL wr cc own Ts) {x y : Int64} (d : decode cc pc = .ok (.ldiv, 1)) (hne : ¬ y = 0) (z : Int64) (e : x / y = z) (h : zG X k n lv (.long z :: st) ws (pc + 1)) : zG X k n lv (.long y :: .long x :: st) ws pc := by subst e; exact fun H locs ls j hl => lv_ldiv C.1 C.2.1 d hne (h H locs ls j hl)
theorem zg_lrem (C : zC X l D cI R nL wr cc own Ts) {x y : Int64} (d : decode cc pc = .ok (.lrem, 1)) (hne : ¬ y = 0) (z : Int64) (e : x - x / y * y = z) (h : zG X k n lv (.long z :: st) ws (pc + 1)) : zG X k n lv (.long y :: .long x :: st) ws pc := by subst e; exact fun H locs ls j hl => lv_lrem C.1 C.2.1 d hne (h H locs ls j hl)
theorem zg_i2l (C : zC X l D cI R nL wr cc own Ts) {x : Int32} (d : decode cc pc = .ok (.i2l, 1)) (z : Int64) (e : x.toInt64 = z) (h : zG X k n lv (.long z :: st) ws (pc + 1)) : zG X k n lv (.int x :: st) ws pc := fun H locs ls j hl => lv_i2l C.1 C.2.1 d e (h H locs ls j hl)
theorem zg_l2i (C : zC X l D cI R nL wr cc own Ts) {x : Int64} (d : decode cc pc = .ok (.l2i, 1)) (z : Int32) (e : x.toInt32 = z) (h : zG X k n lv (.int z :: st) ws (pc + 1)) : zG X k n lv (.long x :: st) ws pc := fun H locs ls j hl => lv_l2i C.1 C.2.1 d e (h H locs ls j hl)
theorem zg_dup (C : zC X l D cI R nL wr cc own Ts) {a : Value} (d : decode cc pc = .ok (.dup, 1)) (ha : a.category = 1) (h : zG X k n lv (a :: a :: st) ws (pc + 1)) : zG X k n lv (a :: st) ws pc := fun H locs ls j hl => lv_dup C.1 C.2.1 d ha (h H locs ls j hl)
theorem zg_dup2 (C : zC X l D cI R nL wr cc own Ts) {a b : Value} (d : decode cc pc = .ok (.dup2, 1)) (ha : a.category = 1) (hb : b.category = 1) (h : zG X k n lv (a :: b :: a :: b :: st) ws (pc + 1)) : zG X k n lv (a :: b :: st) ws pc := fun H locs ls j hl => lv_dup2_11 C.1 C.2.1 d ha hb (h H locs ls j hl)
theorem zg_goto (C : zC X l D cI R nL wr cc own Ts) {off : Int} (t : Nat) (d : decode cc pc = .ok (.goto off, 3)) (ht : (pc : Int) + off = (t : Int)) (h : zG X k n lv (st) ws (t)) : zG X k n lv (st) ws pc := fun H locs ls j hl => lv_goto C.1 C.2.1 d ht (h H locs ls j hl)
theorem zg_lcmp (C : zC X l D cI R nL wr cc own Ts) {x y : Int64} (d : decode cc pc = .ok (.lcmp, 1)) (h : zG X k n lv (.int (lg_cmp x y) :: st) ws (pc + 1)) : zG X k n lv (.long y :: .long x :: st) ws pc := fun H locs ls j hl => W.lcmp C.1 C.2.1 d (h H locs ls j hl)
theorem zg_icmp_eq (C : zC X l D cI R nL wr cc own Ts) {x y : Int32} {off : Int} (t : Nat) (d : decode cc pc = .ok (.if_icmp .eq off, 3)) (ht : (pc : Int) + off = (t : Int)) (kt : x = y → zG X k n lv st ws t) (kf : ¬ x = y → zG X k n lv st ws (pc + 3)) : zG X k n lv (.int y :: .int x :: st) ws pc := fun H locs ls j hl => lv_icmp_eq C.1 C.2.1 d ht (fun q => kt q H locs ls j hl) (fun q => kf q H locs ls j hl)
theorem zg_if_eq (C : zC X l D cI R nL wr cc own Ts) {x : Int32} {off : Int} (t : Nat) (d : decode cc pc = .ok (.ifCond .eq off, 3)) (ht : (pc : Int) + off = (t : Int)) (kt : x = 0 → zG X k n lv st ws t) (kf : ¬ x = 0 → zG X k n lv st ws (pc + 3)) : zG X k n lv (.int x :: st) ws pc := fun H locs ls j hl => lv_if_eq C.1 C.2.1 d ht (fun q => kt q H locs ls j hl) (fun q => kf q H locs ls j hl)
theorem zg_icmp_ne (C : zC X l D cI R nL wr cc own Ts) {x y : Int32} {off : Int} (t : Nat) (d : decode cc pc = .ok (.if_icmp .ne off, 3)) (ht : (pc : Int) + off = (t : Int)) (kt : ¬ x = y → zG X k n lv st ws t) (kf : x = y → zG X k n lv st ws (pc + 3)) : zG X k n lv (.int y :: .int x :: st) ws pc := fun H locs ls j hl => lv_icmp_ne C.1 C.2.1 d ht (fun q => kt q H locs ls j hl) (fun q => kf q H locs ls j hl)
theorem zg_if_ne (C : zC X l D cI R nL wr cc own Ts) {x : Int32} {off : Int} (t : Nat) (d : decode cc pc = .ok (.ifCond .ne off, 3)) (ht : (pc : Int) + off = (t : Int)) (kt : ¬ x = 0 → zG X k n lv st ws t) (kf : x = 0 → zG X k n lv st ws (pc + 3)) : zG X k n lv (.int x :: st) ws pc := fun H locs ls j hl => lv_if_ne C.1 C.2.1 d ht (fun q => kt q H locs ls j hl) (fun q => kf q H locs ls j hl)
theorem zg_icmp_lt (C : zC X l D cI R nL wr cc own Ts) {x y : Int32} {off : Int} (t : Nat) (d : decode cc pc = .ok (.if_icmp .lt off, 3)) (ht : (pc : Int) + off = (t : Int)) (kt : x < y → zG X k n lv st ws t) (kf : ¬ x < y → zG X k n lv st ws (pc + 3)) : zG X k n lv (.int y :: .int x :: st) ws pc := fun H locs ls j hl => lv_icmp_lt C.1 C.2.1 d ht (fun q => kt q H locs ls j hl) (fun q => kf q H locs ls j hl)
theorem zg_if_lt (C : zC X l D cI R nL wr cc own Ts) {x : Int32} {off : Int} (t : Nat) (d : decode cc pc = .ok (.ifCond .lt off, 3)) (ht : (pc : Int) + off = (t : Int)) (kt : x < 0 → zG X k n lv st ws t) (kf : ¬ x < 0 → zG X k n lv st ws (pc + 3)) : zG X k n lv (.int x :: st) ws pc := fun H locs ls j hl => lv_if_lt C.1 C.2.1 d ht (fun q => kt q H locs ls j hl) (fun q => kf q H locs ls j hl)
theorem zg_icmp_ge (C : zC X l D cI R nL wr cc own Ts) {x y : Int32} {off : Int} (t : Nat) (d : decode cc pc = .ok (.if_icmp .ge off, 3)) (ht : (pc : Int) + off = (t : Int)) (kt : y ≤ x → zG X k n lv st ws t) (kf : ¬ y ≤ x → zG X k n lv st ws (pc + 3)) : zG X k n lv (.int y :: .int x :: st) ws pc := fun H locs ls j hl => lv_icmp_ge C.1 C.2.1 d ht (fun q => kt q H locs ls j hl) (fun q => kf q H locs ls j hl)
theorem zg_if_ge (C : zC X l D cI R nL wr cc own Ts) {x : Int32} {off : Int} (t : Nat) (d : decode cc pc = .ok (.ifCond .ge off, 3)) (ht : (pc : Int) + off = (t : Int)) (kt : 0 ≤ x → zG X k n lv st ws t) (kf : ¬ 0 ≤ x → zG X k n lv st ws (pc + 3)) : zG X k n lv (.int x :: st) ws pc := fun H locs ls j hl => lv_if_ge C.1 C.2.1 d ht (fun q => kt q H locs ls j hl) (fun q => kf q H locs ls j hl)
theorem zg_icmp_gt (C : zC X l D cI R nL wr cc own Ts) {x y : Int32} {off : Int} (t : Nat) (d : decode cc pc = .ok (.if_icmp .gt off, 3)) (ht : (pc : Int) + off = (t : Int)) (kt : y < x → zG X k n lv st ws t) (kf : ¬ y < x → zG X k n lv st ws (pc + 3)) : zG X k n lv (.int y :: .int x :: st) ws pc := fun H locs ls j hl => lv_icmp_gt C.1 C.2.1 d ht (fun q => kt q H locs ls j hl) (fun q => kf q H locs ls j hl)
theorem zg_if_gt (C : zC X l D cI R nL wr cc own Ts) {x : Int32} {off : Int} (t : Nat) (d : decode cc pc = .ok (.ifCond .gt off, 3)) (ht : (pc : Int) + off = (t : Int)) (kt : 0 < x → zG X k n lv st ws t) (kf : ¬ 0 < x → zG X k n lv st ws (pc + 3)) : zG X k n lv (.int x :: st) ws pc := fun H locs ls j hl => lv_if_gt C.1 C.2.1 d ht (fun q => kt q H locs ls j hl) (fun q => kf q H locs ls j hl)
theorem zg_icmp_le (C : zC X l D cI R nL wr cc own Ts) {x y : Int32} {off : Int} (t : Nat) (d : decode cc pc = .ok (.if_icmp .le off, 3)) (ht : (pc : Int) + off = (t : Int)) (kt : x ≤ y → zG X k n lv st ws t) (kf : ¬ x ≤ y → zG X k n lv st ws (pc + 3)) : zG X k n lv (.int y :: .int x :: st) ws pc := fun H locs ls j hl => lv_icmp_le C.1 C.2.1 d ht (fun q => kt q H locs ls j hl) (fun q => kf q H locs ls j hl)
theorem zg_if_le (C : zC X l D cI R nL wr cc own Ts) {x : Int32} {off : Int} (t : Nat) (d : decode cc pc = .ok (.ifCond .le off, 3)) (ht : (pc : Int) + off = (t : Int)) (kt : x ≤ 0 → zG X k n lv st ws t) (kf : ¬ x ≤ 0 → zG X k n lv st ws (pc + 3)) : zG X k n lv (.int x :: st) ws pc := fun H locs ls j hl => lv_if_le C.1 C.2.1 d ht (fun q => kt q H locs ls j hl) (fun q => kf q H locs ls j hl)
theorem zn_icmp_eq (C : zC X l D cI R nL wr cc own Ts) {a b : Nat} {off : Int} (t : Nat) (ha : a < 2 ^ 31) (hb : b < 2 ^ 31) (d : decode cc pc = .ok (.if_icmp .eq off, 3)) (ht : (pc : Int) + off = (t : Int)) (kt : a = b → zG X k n lv st ws t) (kf : ¬ a = b → zG X k n lv st ws (pc + 3)) : zG X k n lv (.int (nI b) :: .int (nI a) :: st) ws pc := zg_icmp_eq C t d ht (fun q => kt ((nI_eq ha hb).mp q)) (fun q => kf (fun z => q ((nI_eq ha hb).mpr z)))
theorem zn_icmp_ne (C : zC X l D cI R nL wr cc own Ts) {a b : Nat} {off : Int} (t : Nat) (ha : a < 2 ^ 31) (hb : b < 2 ^ 31) (d : decode cc pc = .ok (.if_icmp .ne off, 3)) (ht : (pc : Int) + off = (t : Int)) (kt : ¬ a = b → zG X k n lv st ws t) (kf : a = b → zG X k n lv st ws (pc + 3)) : zG X k n lv (.int (nI b) :: .int (nI a) :: st) ws pc := zg_icmp_ne C t d ht (fun q => kt (fun z => q ((nI_eq ha hb).mpr z))) (fun q => kf ((nI_eq ha hb).mp q))
theorem zn_icmp_lt (C : zC X l D cI R nL wr cc own Ts) {a b : Nat} {off : Int} (t : Nat) (ha : a < 2 ^ 31) (hb : b < 2 ^ 31) (d : decode cc pc = .ok (.if_icmp .lt off, 3)) (ht : (pc : Int) + off = (t : Int)) (kt : a < b → zG X k n lv st ws t) (kf : b ≤ a → zG X k n lv st ws (pc + 3)) : zG X k n lv (.int (nI b) :: .int (nI a) :: st) ws pc := zg_icmp_lt C t d ht (fun q => kt ((nI_ltI ha hb).mp q)) (fun q => kf (Nat.not_lt.mp (fun z => q ((nI_ltI ha hb).mpr z))))
theorem zn_icmp_ge (C : zC X l D cI R nL wr cc own Ts) {a b : Nat} {off : Int} (t : Nat) (ha : a < 2 ^ 31) (hb : b < 2 ^ 31) (d : decode cc pc = .ok (.if_icmp .ge off, 3)) (ht : (pc : Int) + off = (t : Int)) (kt : b ≤ a → zG X k n lv st ws t) (kf : a < b → zG X k n lv st ws (pc + 3)) : zG X k n lv (.int (nI b) :: .int (nI a) :: st) ws pc := zg_icmp_ge C t d ht (fun q => kt ((nI_leI hb ha).mp q)) (fun q => kf (Nat.not_le.mp (fun z => q ((nI_leI hb ha).mpr z))))
theorem zn_icmp_gt (C : zC X l D cI R nL wr cc own Ts) {a b : Nat} {off : Int} (t : Nat) (ha : a < 2 ^ 31) (hb : b < 2 ^ 31) (d : decode cc pc = .ok (.if_icmp .gt off, 3)) (ht : (pc : Int) + off = (t : Int)) (kt : b < a → zG X k n lv st ws t) (kf : a ≤ b → zG X k n lv st ws (pc + 3)) : zG X k n lv (.int (nI b) :: .int (nI a) :: st) ws pc := zg_icmp_gt C t d ht (fun q => kt ((nI_ltI hb ha).mp q)) (fun q => kf (Nat.not_lt.mp (fun z => q ((nI_ltI hb ha).mpr z))))
theorem zn_icmp_le (C : zC X l D cI R nL wr cc own Ts) {a b : Nat} {off : Int} (t : Nat) (ha : a < 2 ^ 31) (hb : b < 2 ^ 31) (d : decode cc pc = .ok (.if_icmp .le off, 3)) (ht : (pc : Int) + off = (t : Int)) (kt : a ≤ b → zG X k n lv st ws t) (kf : b < a → zG X k n lv st ws (pc + 3)) : zG X k n lv (.int (nI b) :: .int (nI a) :: st) ws pc := zg_icmp_le C t d ht (fun q => kt ((nI_leI ha hb).mp q)) (fun q => kf (Nat.not_le.mp (fun z => q ((nI_leI ha hb).mpr z))))
theorem zn_if_eq (C : zC X l D cI R nL wr cc own Ts) {a : Nat} {off : Int} (t : Nat) (ha : a < 2 ^ 31) (d : decode cc pc = .ok (.ifCond .eq off, 3)) (ht : (pc : Int) + off = (t : Int)) (kt : a = 0 → zG X k n lv st ws t) (kf : 0 < a → zG X k n lv st ws (pc + 3)) : zG X k n lv (.int (nI a) :: st) ws pc := by
  have hb : 0 < 2 ^ 31 := by decide
  refine zg_if_eq C t d ht (fun q => kt ?_) (fun q => kf ?_) <;> rw [← nI_0] at q
  · exact (nI_eq ha hb).mp q
  · exact Nat.pos_of_ne_zero (fun z => q ((nI_eq ha hb).mpr z))
theorem zn_if_ne (C : zC X l D cI R nL wr cc own Ts) {a : Nat} {off : Int} (t : Nat) (ha : a < 2 ^ 31) (d : decode cc pc = .ok (.ifCond .ne off, 3)) (ht : (pc : Int) + off = (t : Int)) (kt : 0 < a → zG X k n lv st ws t) (kf : a = 0 → zG X k n lv st ws (pc + 3)) : zG X k n lv (.int (nI a) :: st) ws pc := by
  have hb : 0 < 2 ^ 31 := by decide
  refine zg_if_ne C t d ht (fun q => kt ?_) (fun q => kf ?_) <;> rw [← nI_0] at q
  · exact Nat.pos_of_ne_zero (fun z => q ((nI_eq ha hb).mpr z))
  · exact (nI_eq ha hb).mp q
theorem zn_if_gt (C : zC X l D cI R nL wr cc own Ts) {a : Nat} {off : Int} (t : Nat) (ha : a < 2 ^ 31) (d : decode cc pc = .ok (.ifCond .gt off, 3)) (ht : (pc : Int) + off = (t : Int)) (kt : 0 < a → zG X k n lv st ws t) (kf : a = 0 → zG X k n lv st ws (pc + 3)) : zG X k n lv (.int (nI a) :: st) ws pc := by
  have hb : 0 < 2 ^ 31 := by decide
  refine zg_if_gt C t d ht (fun q => kt ?_) (fun q => kf ?_) <;> rw [← nI_0] at q
  · exact (nI_ltI hb ha).mp q
  · exact Nat.le_zero.mp (Nat.not_lt.mp (fun z => q ((nI_ltI hb ha).mpr z)))
theorem zn_if_le (C : zC X l D cI R nL wr cc own Ts) {a : Nat} {off : Int} (t : Nat) (ha : a < 2 ^ 31) (d : decode cc pc = .ok (.ifCond .le off, 3)) (ht : (pc : Int) + off = (t : Int)) (kt : a = 0 → zG X k n lv st ws t) (kf : 0 < a → zG X k n lv st ws (pc + 3)) : zG X k n lv (.int (nI a) :: st) ws pc := by
  have hb : 0 < 2 ^ 31 := by decide
  refine zg_if_le C t d ht (fun q => kt ?_) (fun q => kf ?_) <;> rw [← nI_0] at q
  · exact Nat.le_zero.mp ((nI_leI ha hb).mp q)
  · exact Nat.not_le.mp (fun z => q ((nI_leI ha hb).mpr z))
theorem zn_if_lt (C : zC X l D cI R nL wr cc own Ts) {a : Nat} {off : Int} (t : Nat) (ha : a < 2 ^ 31) (d : decode cc pc = .ok (.ifCond .lt off, 3)) (ht : (pc : Int) + off = (t : Int)) (kf : zG X k n lv st ws (pc + 3)) : zG X k n lv (.int (nI a) :: st) ws pc := zg_if_lt C t d ht (fun q => absurd q (nI_pos ha)) (fun _ => kf)
theorem zn_if_ge (C : zC X l D cI R nL wr cc own Ts) {a : Nat} {off : Int} (t : Nat) (ha : a < 2 ^ 31) (d : decode cc pc = .ok (.ifCond .ge off, 3)) (ht : (pc : Int) + off = (t : Int)) (kt : zG X k n lv st ws t) : zG X k n lv (.int (nI a) :: st) ws pc := zg_if_ge C t d ht (fun _ => kt) (fun q => absurd (nI_pos' ha) q)
def zb : Bool → Int32 := fun b => if b then 1 else 0
theorem zb_0 {b : Bool} : zb b = 0 ↔ b = false := by cases b <;> simp [zb]
theorem zb_nar (b : Bool) : narrow .boolean (.int (zb b)) = .int (zb b) := by cases b <;> rfl
theorem zb_if_eq (C : zC X l D cI R nL wr cc own Ts) {a : Bool} {off : Int} (t : Nat) (d : decode cc pc = .ok (.ifCond .eq off, 3)) (ht : (pc : Int) + off = (t : Int)) (kt : a = false → zG X k n lv st ws t) (kf : a = true → zG X k n lv st ws (pc + 3)) : zG X k n lv (.int (zb a) :: st) ws pc := zg_if_eq C t d ht (fun q => kt (zb_0.mp q)) (fun q => kf (by cases a; exact absurd (zb_0.mpr rfl) q; rfl))
theorem zb_if_ne (C : zC X l D cI R nL wr cc own Ts) {a : Bool} {off : Int} (t : Nat) (d : decode cc pc = .ok (.ifCond .ne off, 3)) (ht : (pc : Int) + off = (t : Int)) (kt : a = true → zG X k n lv st ws t) (kf : a = false → zG X k n lv st ws (pc + 3)) : zG X k n lv (.int (zb a) :: st) ws pc := zg_if_ne C t d ht (fun q => kt (by cases a; exact absurd (zb_0.mpr rfl) q; rfl)) (fun q => kf (zb_0.mp q))
theorem zg_tabIn (C : zC X l D cI R nL wr cc own Ts) {dflt lo hi : Int} {offs : Array Int} {len : Nat} {x : Int32} {off : Int} (t : Nat) (d : decode cc pc = .ok (.tableswitch dflt lo hi offs, len)) (h1 : ¬ x.toInt < lo) (h2 : ¬ hi < x.toInt) (ho : offs[(x.toInt - lo).toNat]? = some off) (ht : (pc : Int) + off = (t : Int)) (h : zG X k n lv st ws t) : zG X k n lv (.int x :: st) ws pc := fun H locs ls j hl => lv_tableIn C.1 C.2.1 d h1 h2 ho ht (h H locs ls j hl)
theorem zg_tabOut (C : zC X l D cI R nL wr cc own Ts) {dflt lo hi : Int} {offs : Array Int} {len : Nat} {x : Int32} (t : Nat) (d : decode cc pc = .ok (.tableswitch dflt lo hi offs, len)) (h1 : x.toInt < lo ∨ hi < x.toInt) (ht : (pc : Int) + dflt = (t : Int)) (h : zG X k n lv st ws t) : zG X k n lv (.int x :: st) ws pc := fun H locs ls j hl => lv_tableOut C.1 C.2.1 d h1 ht (h H locs ls j hl)
theorem zg_lookup (C : zC X l D cI R nL wr cc own Ts) {dflt : Int} {ps : Array (Int × Int)} {len : Nat} {x : Int32} {off : Int} (t : Nat) (d : decode cc pc = .ok (.lookupswitch dflt ps, len)) (hp : (ps.toList.zip (ps.toList.drop 1)).all (fun (a, next) => a.1 < next.1) = true) (ho : Op.lookupswitch.offset ps.toList dflt x.toInt = off) (ht : (pc : Int) + off = (t : Int)) (h : zG X k n lv st ws t) : zG X k n lv (.int x :: st) ws pc := fun H locs ls j hl => lv_lookup C.1 C.2.1 d hp ho ht (h H locs ls j hl)
theorem zg_get (C : zC X l D cI R nL wr cc own Ts) (q0 : Nat) {a ci N f index : Nat} {fs : List Value} {Cn : String} {T : u_T} {v : Value} (he : ws[q0]? = some (a, .inr (ci, fs))) (hc : vwCl[ci]? = some (Cn, T, N)) (hin : ∀ w ∈ u_ws Cn T N, w ∈ Ts) (hk : f < N) (hlink : Cond.fieldLink own index (T f).1 (T f).2.1 (T f).2.2.1 ∈ Ts) (d : decode cc pc = .ok (.getfield index, 3)) (hv : fs[f]? = some v) (h : zG X k n lv (v :: st) ws (pc + 3)) : zG X k n lv (.ref a :: st) ws pc :=
  fun H locs ls j hl => va_get C.1 C.2.1 C.2.2.2.2.1 hin C.2.2.2.1 C.2.2.2.2.2.1 j.1 q0 he hc f hk (C.2.2.2.2.1 _ hlink) (fun _ h9 => h9) hv d (h H locs ls j hl)
theorem zg_put (C : zC X l D cI R nL true cc own Ts) (q0 : Nat) {a ci N f index : Nat} {fs : List Value} {Cn : String} {T : u_T} {ty0 : Nat → FieldType} {v : Value} {ty : FieldType} (he : ws[q0]? = some (a, .inr (ci, fs))) (hc : vwCl[ci]? = some (Cn, T, N)) (hin : ∀ w ∈ u_ws Cn T N, w ∈ Ts) (hty : ∀ k, k < N → parseFieldDescriptor (T k).2.2.1 = some (ty0 k)) (hnm : ∀ a, a < N → ∀ b, b < N → a ≠ b → (T a).2.1 ≠ (T b).2.1) (hk : f < N) (hlink : Cond.fieldLink own index (T f).1 (T f).2.1 (T f).2.2.1 ∈ Ts) (hfin : (T f).2.2.2 = false) (hd : ty0 f = ty) (hn : narrow ty v = v) (hfit : fits ty v = true) (hl9 : f < fs.length) (d : decode cc pc = .ok (.putfield index, 3)) (e : ws.set q0 (a, .inr (ci, fs.set f v)) = ws') (h : zG X k n lv (st) ws' (pc + 3)) : zG X k n lv (v :: .ref a :: st) ws pc := by
  subst e
  exact fun H locs ls j hl => va_put C.1 C.2.1 C.2.2.2.2.1 hin ty0 hty hnm C.2.2.2.1 C.2.2.2.2.2.1 j.1 (j.2.1 C.2.2.2.2.2.2.2.2.2.1).1 (j.2.1 C.2.2.2.2.2.2.2.2.2.1).2 q0 he hc f hk (C.2.2.2.2.1 _ hlink) (fun _ h9 => h9) hfin (hd ▸ hty f hk) hn hfit hl9 d (fun H1 locs1 p1 d1 s1 => h H1 locs1 ls ⟨p1, fun _ => ⟨d1, s1⟩, fun q => by rw [C.2.2.2.2.2.2.2.2.2.1] at q; cases q⟩ hl)
theorem zg_putF (C : zC X l D cI R nL true cc own Ts) (hinit : (zx_h X).name = "<init>") (q0 : Nat) {a ci N f index : Nat} {fs : List Value} {Cn : String} {T : u_T} {ty0 : Nat → FieldType} {v : Value} {ty : FieldType} (he : ws[q0]? = some (a, .inr (ci, fs))) (hc : vwCl[ci]? = some (Cn, T, N)) (hin : ∀ w ∈ u_ws Cn T N, w ∈ Ts) (hty : ∀ k, k < N → parseFieldDescriptor (T k).2.2.1 = some (ty0 k)) (hnm : ∀ a, a < N → ∀ b, b < N → a ≠ b → (T a).2.1 ≠ (T b).2.1) (hk : f < N) (hlink : Cond.fieldLink own index (T f).1 (T f).2.1 (T f).2.2.1 ∈ Ts) (hfin : (T f).2.2.2 = true) (hdecl : (T f).1 = own) (hd : ty0 f = ty) (hn : narrow ty v = v) (hfit : fits ty v = true) (hl9 : f < fs.length) (d : decode cc pc = .ok (.putfield index, 3)) (e : ws.set q0 (a, .inr (ci, fs.set f v)) = ws') (h : zG X k n lv (st) ws' (pc + 3)) : zG X k n lv (v :: .ref a :: st) ws pc := by
  subst e
  exact fun H locs ls j hl => va_putF C.1 C.2.1 C.2.2.2.2.1 hin ty0 hty hnm C.2.2.2.1 C.2.2.2.2.2.1 j.1 (j.2.1 C.2.2.2.2.2.2.2.2.2.1).1 (j.2.1 C.2.2.2.2.2.2.2.2.2.1).2 q0 he hc f hk (C.2.2.2.2.1 _ hlink) (fun _ h9 => h9) hfin hinit hdecl (hd ▸ hty f hk) hn hfit hl9 d (fun H1 locs1 p1 d1 s1 => h H1 locs1 ls ⟨p1, fun _ => ⟨d1, s1⟩, fun q => by rw [C.2.2.2.2.2.2.2.2.2.1] at q; cases q⟩ hl)
theorem zg_iald (C : zC X l D cI R nL wr cc own Ts) (q0 : Nat) {a N i : Nat} {f : Nat → Int32} (he : ws[q0]? = some (a, .inl (cI, N, .inl f))) (hi : i < N) (hN : N < 2 ^ 31) (d : decode cc pc = .ok (.iaload, 1)) (v : Int32) (hv : f i = v) (h : zG X k n lv (.int v :: st) ws (pc + 1)) : zG X k n lv (.int (nI i) :: .ref a :: st) ws pc := by
  subst hv
  have e1 : (nI i).toNatClampNeg = i := nI_clamp (Nat.lt_trans hi hN)
  exact fun H locs ls j hl => va_iald C.1 C.2.1 C.2.2.2.2.2.1 j.1 q0 0 he rfl (vp_in_nI hi hN) d (by rw [e1]; exact h H locs ls j hl)
theorem zg_iast (C : zC X l D cI R nL true cc own Ts) (q0 : Nat) {a N i : Nat} {x : Int32} {f : Nat → Int32} (he : ws[q0]? = some (a, .inl (cI, N, .inl f))) (hi : i < N) (hN : N < 2 ^ 31) (d : decode cc pc = .ok (.iastore, 1)) (e : ws.set q0 (a, .inl (cI, N, .inl (upd f i x))) = ws') (h : zG X k n lv (st) ws' (pc + 1)) : zG X k n lv (.int x :: .int (nI i) :: .ref a :: st) ws pc := by
  subst e
  have e1 : (nI i).toNatClampNeg = i := nI_clamp (Nat.lt_trans hi hN)
  exact fun H locs ls j hl => va_iast C.1 C.2.1 C.2.2.2.2.2.1 j.1 (j.2.1 C.2.2.2.2.2.2.2.2.2.1).1 (j.2.1 C.2.2.2.2.2.2.2.2.2.1).2 q0 0 he rfl (vp_in_nI hi hN) d (fun H1 locs1 p1 d1 s1 => by rw [e1] at p1 d1; exact h H1 locs1 ls ⟨p1, fun _ => ⟨d1, s1⟩, fun q => by rw [C.2.2.2.2.2.2.2.2.2.1] at q; cases q⟩ hl)
theorem zg_alen (C : zC X l D cI R nL wr cc own Ts) (q0 : Nat) {a N : Nat} {f : Nat → Int32} (he : ws[q0]? = some (a, .inl (cI, N, .inl f))) (d : decode cc pc = .ok (.arraylength, 1)) (h : zG X k n lv (.int (nI N) :: st) ws (pc + 1)) : zG X k n lv (.ref a :: st) ws pc := fun H locs ls j hl => va_alen C.1 C.2.1 C.2.2.2.2.2.1 j.1 q0 0 he rfl rfl d (h H locs ls j hl)
theorem zg_newarr (C : zC X l D cI R nL true cc own Ts) {N : Nat} (hN : N < 65536) (harr : Cond.arrayClass .int ∈ Ts) (hcells : k + 1 ≤ R.cells) (hslots : n + N ≤ R.slots) (d : decode cc pc = .ok (.newarray .int, 2)) (h : ∀ q : Nat, zG X (k + 1) (n + N) lv (.ref q :: st) (ws ++ [(q, .inl (cI, N, .inl (fun _ => 0)))]) (pc + 2)) : zG X k n lv (.int (nI N) :: st) ws pc := by
  intro H locs ls j hl
  have hN2 : N < 2 ^ 31 := Nat.lt_trans hN (by decide)
  have e1 : (nI N).toNatClampNeg = N := nI_clamp hN2
  have jt := j.2.1 C.2.2.2.2.2.2.2.2.2.1
  refine va_newa (atype := .int) (ty := .int) (N' := N) (a0 := (N, .inl (fun _ => 0))) C.1 C.2.1 (C.2.2.2.2.1 _ harr) rfl C.2.2.2.2.2.1 j.1 jt.1 jt.2 C.2.2.2.2.2.2.1 (fun cA => by rw [vp_cell_i]; rfl) (nI_pos hN2) e1 (Nat.le_trans (Nat.mul_le_mul_right _ (Nat.le_of_lt hN)) (by decide)) (by rw [C.2.2.2.2.2.2.2.1]; exact hcells) (by rw [C.2.2.2.2.2.2.2.1]; exact hslots) d (fun q cA H1 K1 P1 D1 S1 => ?_)
  have hcA : cA = cI := by
    have h1 := (K1.2 1 (cA, .int) rfl).2
    have h2 := (K1.2 0 (cI, .int) rfl).2
    exact Option.some.inj (h1.symm.trans h2)
  subst hcA
  exact h q H1 locs ls ⟨P1, fun _ => ⟨D1, S1⟩, fun q => by rw [C.2.2.2.2.2.2.2.2.2.1] at q; cases q⟩ hl
theorem zg_new (C : zC X l D cI R nL true cc own Ts) {Cn : String} {T : u_T} {N ci index : Nat} {ty : Nat → FieldType} {fs : List Value} (hin : ∀ w ∈ u_ws Cn T N, w ∈ Ts) (hty : ∀ k, k < N → parseFieldDescriptor (T k).2.2.1 = some (ty k)) (hcl : Cond.classLink own index Cn ∈ Ts) (hinst : Cond.instantiable Cn N ∈ Ts) (hini : Cond.initialized Cn ∈ Ts) (hc : vwCl[ci]? = some (Cn, T, N)) (hfs : ∀ j, j < N → defaultValue (ty j) = vp_V fs j) (hcells : k + 1 ≤ R.cells) (hslots : n + N ≤ R.slots) (d : decode cc pc = .ok (.new index, 3)) (h : ∀ q : Nat, zG X (k + 1) (n + N) lv (.ref q :: st) (ws ++ [(q, .inr (ci, fs))]) (pc + 3)) : zG X k n lv st ws pc := by
  intro H locs ls j hl
  have jt := j.2.1 C.2.2.2.2.2.2.2.2.2.1
  exact va_new C.1 C.2.1 C.2.2.2.2.1 hin ty hty C.2.2.2.1 (C.2.2.2.2.1 _ hcl) (C.2.2.2.2.1 _ hinst) (C.2.2.2.2.1 _ hini) C.2.2.2.2.2.1 j.1 jt.1 jt.2 C.2.2.2.2.2.2.1 hc hfs (by rw [C.2.2.2.2.2.2.2.1]; exact hcells) (by rw [C.2.2.2.2.2.2.2.1]; exact hslots) d (fun q H1 P1 D1 S1 => h q H1 locs ls ⟨P1, fun _ => ⟨D1, S1⟩, fun q => by rw [C.2.2.2.2.2.2.2.2.2.1] at q; cases q⟩ hl)
theorem zg_objInit (C : zC X l D cI R nL wr cc own Ts) {a i : Nat} (w1 : Cond.methodLink own i objectInit ∈ Ts) (w2 : Cond.instanceMethod objectInit ∈ Ts) (w3 : Cond.code objectInit ⟨#[0xb1]⟩ 1 none ∈ Ts) (d : decode cc pc = .ok (.invokespecial i, 3)) (hf : 1 ≤ R.frames) (hr : (st.map fun v => v.category).sum + 12 ≤ R.locals) (h : zG X k n lv (st) ws (pc + 3)) : zG X k n lv (.ref a :: st) ws pc := by
  intro H locs ls j hl
  refine W.objInit C.1 C.2.1 C.2.2.2.1 (C.2.2.2.2.1 _ w1) (C.2.2.2.2.1 _ w2) (C.2.2.2.2.1 _ w3) rfl (by rw [C.2.2.1, ← C.2.2.2.2.2.2.2.2.1]; exact hl.1) rfl d (by rw [C.2.2.2.2.2.2.2.1]; exact hf) (by rw [C.2.2.2.2.2.2.2.1]; show 2 * 0 + _ + 12 ≤ _; omega) ?_
  exact W.eq (g2 := F0 (zx_m X) (pc + 3) ls st) rfl (h H locs ls j hl)
theorem zg_mmax (C : zC X l D cI R nL wr cc own Ts) {i : Nat} {x y : Int32} (w1 : Cond.methodLink own i Lib.Math.max.name ∈ Ts) (w2 : Cond.static Lib.Math.max.name ∈ Ts) (w3 : Cond.initialized "java/lang/Math" ∈ Ts) (w4 : Cond.code Lib.Math.max.name Lib.Math.max.code 2 (some .int) ∈ Ts) (hf : 1 ≤ R.frames) (hr : (st.map fun v => v.category).sum + 13 ≤ R.locals) (hk : k ≤ R.cells) (hn : n ≤ R.slots) (d : decode cc pc = .ok (.invokestatic i, 3)) (z : Int32) (e : (if x < y then y else x) = z) (h : zG X k n lv (.int z :: st) ws (pc + 3)) : zG X k n lv (.int y :: .int x :: st) ws pc := by
  subst e
  exact fun H locs ls j hl => va_mmax C.1 C.2.1 (by rw [C.2.2.1, ← C.2.2.2.2.2.2.2.2.1]; exact hl.1.symm) C.2.2.2.1 (C.2.2.2.2.1 _ w1) (C.2.2.2.2.1 _ w2) (C.2.2.2.2.1 _ w3) (C.2.2.2.2.1 _ w4) (by rw [C.2.2.2.2.2.2.2.1]; exact hf) (by rw [C.2.2.2.2.2.2.2.1]; exact hr) (by rw [C.2.2.2.2.2.2.2.1]; exact hk) (by rw [C.2.2.2.2.2.2.2.1]; exact hn) d (h H locs ls j hl)
theorem zs_cs (C : zC X l D cI R nL wr cc own Ts) {post : Int32 → Prop} {a : Array Value} {st0 : List Value} {H : Heap} {locs : List Loc} {ls : Array Slot} (hr : va_Run (zx_p X) (zx_l X) (zx_e X) (zx_R X) (zx_s X) (zx_m X) (zx_a X) (zx_b X) (zx_h X) (zx_c X) H locs k n 0 0 (F0 (zx_m X) pc ls st0) st (vp_Si post a) (fun _ => False)) (kk : ∀ r : Int32, post r → W (zx_p X) (zx_l X) (zx_e X) (zx_R X) (zx_s X) (zx_m X) (zx_a X) (zx_b X) (zx_h X) (zx_c X) H locs k n (zx_Q X) (F0 (zx_m X) (pc + 3) ls (.int r :: st))) : W (zx_p X) (zx_l X) (zx_e X) (zx_R X) (zx_s X) (zx_m X) (zx_a X) (zx_b X) (zx_h X) (zx_c X) H locs k n (zx_Q X) (F0 (zx_m X) pc ls st0) := by
  intro T hT X'
  obtain ⟨v, st₀, t, T', L, h0, X2, hL, e1, e2, ⟨r, hv, hp, hh⟩, st⟩ := hr T hT X'
  cases hv
  obtain ⟨t2, a1, b1⟩ := kk r hp T' (by rw [e1, hh, h0]) (Stand.forget X2 (fun q h => (hL q h).elim))
  exact ⟨t2, st t2 a1, b1⟩
theorem zg_callr (C : zC X l D cI R nL wr cc own Ts) (is : List Nat) (q0 : Nat) (na : Nat) {Cn : String} {ci N index maxL b : Nat} {T : u_T} {fs : List Value} {y : MethodName} {wy wy' : List Cond} {bytes : ByteArray} {ret : Option FieldType} {rm : Room} {As st0 : List Value} {wc : va_W} {v : Int32} (hM : zMr l D cI y wy rm (.ref b :: As) wc v) (hG : GoodIn Ts (wsV own index Cn y wy)) (hd : y.cls = Cn ∧ y.cls ≠ "java/lang/invoke/MethodHandle" ∧ y.cls ≠ "java/lang/invoke/VarHandle" ∧ (parseMethodDescriptor y.desc).map (fun d => d.parameters.length) = some na) (hw : wy = Cond.code y bytes maxL ret :: wy') (hrm : rm.cells = 0 ∧ rm.slots = 0) (hR : rm.frames + 1 ≤ R.frames ∧ 8 + (maxL + 11) + rm.locals ≤ R.locals) (hws : is.filterMap (fun i => ws[i]?) = wc) (he : ws[q0]? = some (b, .inr (ci, fs))) (hc : vwCl[ci]? = some (Cn, T, N)) (hn : As.length = na) (hst : st0 = As.reverse ++ .ref b :: st) (hroom : (st.map fun v => v.category).sum ≤ 8) (hkn : k ≤ R.cells ∧ n ≤ R.slots) (d : decode cc pc = .ok (.invokevirtual index, 3)) (h : zG X k n lv (.int v :: st) ws (pc + 3)) : zG X k n lv st0 ws pc := by
  intro H locs ls j hl
  obtain ⟨hx, hb, hml, hown, hts, hK, hA, hRR, hnL, hwr, hll, hDD⟩ := id C
  rw [← hll, ← hDD] at hM
  refine zs_cs C (va_runV (nL := nL) (As := As) (rest := st) ⟨hx, hb, hml, hown, hts⟩ hM (cwV na hts hG hw hrm.1 hrm.2 hd (by rw [hRR]; exact hR)) ⟨(fun a U g mk q => ⟨q.1, q.2.1, va_K.moved (u := U) (U := U.calling g mk a) (Vm.Alike.refl U.vm) q.2.2⟩), va_recv hK j.1 hc he, fun U hU hW => ⟨rfl, by rw [hU]; exact j.1.sub is hws, va_K.moved hW.alike hK⟩⟩ rfl hn (by rw [← hnL]; exact hl.1) hst (lv_room hroom) d (by rw [hRR]; exact hkn)) (fun r hr => ?_)
  subst hr
  exact h H locs ls j hl
theorem zs_csl (C : zC X l D cI R nL wr cc own Ts) {post : Int64 → Prop} {a : Array Value} {st0 : List Value} {H : Heap} {locs : List Loc} {ls : Array Slot} (hr : va_Run (zx_p X) (zx_l X) (zx_e X) (zx_R X) (zx_s X) (zx_m X) (zx_a X) (zx_b X) (zx_h X) (zx_c X) H locs k n 0 0 (F0 (zx_m X) pc ls st0) st (vp_Sl post a) (fun _ => False)) (kk : ∀ r : Int64, post r → W (zx_p X) (zx_l X) (zx_e X) (zx_R X) (zx_s X) (zx_m X) (zx_a X) (zx_b X) (zx_h X) (zx_c X) H locs k n (zx_Q X) (F0 (zx_m X) (pc + 3) ls (.long r :: st))) : W (zx_p X) (zx_l X) (zx_e X) (zx_R X) (zx_s X) (zx_m X) (zx_a X) (zx_b X) (zx_h X) (zx_c X) H locs k n (zx_Q X) (F0 (zx_m X) pc ls st0) := by
  intro T hT X'
  obtain ⟨v, st₀, t, T', L, h0, X2, hL, e1, e2, ⟨r, hv, hp, hh⟩, st⟩ := hr T hT X'
  cases hv
  obtain ⟨t2, a1, b1⟩ := kk r hp T' (by rw [e1, hh, h0]) (Stand.forget X2 (fun q h => (hL q h).elim))
  exact ⟨t2, st t2 a1, b1⟩
theorem zg_callrl (C : zC X l D cI R nL wr cc own Ts) (is : List Nat) (q0 : Nat) (na : Nat) {Cn : String} {ci N index maxL b : Nat} {T : u_T} {fs : List Value} {y : MethodName} {wy wy' : List Cond} {bytes : ByteArray} {ret : Option FieldType} {rm : Room} {As st0 : List Value} {wc : va_W} {v : Int64} (hM : zMl l D cI y wy rm (.ref b :: As) wc v) (hG : GoodIn Ts (wsV own index Cn y wy)) (hd : y.cls = Cn ∧ y.cls ≠ "java/lang/invoke/MethodHandle" ∧ y.cls ≠ "java/lang/invoke/VarHandle" ∧ (parseMethodDescriptor y.desc).map (fun d => d.parameters.length) = some na) (hw : wy = Cond.code y bytes maxL ret :: wy') (hrm : rm.cells = 0 ∧ rm.slots = 0) (hR : rm.frames + 1 ≤ R.frames ∧ 8 + (maxL + 11) + rm.locals ≤ R.locals) (hws : is.filterMap (fun i => ws[i]?) = wc) (he : ws[q0]? = some (b, .inr (ci, fs))) (hc : vwCl[ci]? = some (Cn, T, N)) (hn : As.length = na) (hst : st0 = As.reverse ++ .ref b :: st) (hroom : (st.map fun v => v.category).sum ≤ 8) (hkn : k ≤ R.cells ∧ n ≤ R.slots) (d : decode cc pc = .ok (.invokevirtual index, 3)) (h : zG X k n lv (.long v :: st) ws (pc + 3)) : zG X k n lv st0 ws pc := by
  intro H locs ls j hl
  obtain ⟨hx, hb, hml, hown, hts, hK, hA, hRR, hnL, hwr, hll, hDD⟩ := id C
  rw [← hll, ← hDD] at hM
  refine zs_csl C (va_runV (nL := nL) (As := As) (rest := st) ⟨hx, hb, hml, hown, hts⟩ hM (cwV na hts hG hw hrm.1 hrm.2 hd (by rw [hRR]; exact hR)) ⟨(fun a U g mk q => ⟨q.1, q.2.1, va_K.moved (u := U) (U := U.calling g mk a) (Vm.Alike.refl U.vm) q.2.2⟩), va_recv hK j.1 hc he, fun U hU hW => ⟨rfl, by rw [hU]; exact j.1.sub is hws, va_K.moved hW.alike hK⟩⟩ rfl hn (by rw [← hnL]; exact hl.1) hst (lv_room hroom) d (by rw [hRR]; exact hkn)) (fun r hr => ?_)
  subst hr
  exact h H locs ls j hl
theorem zg_calls (C : zC X l D cI R nL wr cc own Ts) (is : List Nat) (na : Nat) {index maxL : Nat} {y : MethodName} {wy wy' : List Cond} {bytes : ByteArray} {ret : Option FieldType} {rm : Room} {As st0 : List Value} {wc : va_W} {v : Int32} (hM : zMr l D cI y wy rm As wc v) (hG : GoodIn Ts (va_wsS own index y wy)) (hd : y.cls ≠ "java/lang/invoke/MethodHandle" ∧ y.cls ≠ "java/lang/invoke/VarHandle" ∧ (parseMethodDescriptor y.desc).map (fun d => d.parameters.length) = some na) (hw : wy = Cond.code y bytes maxL ret :: wy') (hrm : rm.cells = 0 ∧ rm.slots = 0) (hR : rm.frames + 1 ≤ R.frames ∧ 8 + (maxL + 11) + rm.locals ≤ R.locals) (hws : is.filterMap (fun i => ws[i]?) = wc) (hn : As.length = na) (hst : st0 = As.reverse ++ st) (hroom : (st.map fun v => v.category).sum ≤ 8) (hkn : k ≤ R.cells ∧ n ≤ R.slots) (d : decode cc pc = .ok (.invokestatic index, 3)) (h : zG X k n lv (.int v :: st) ws (pc + 3)) : zG X k n lv st0 ws pc := by
  intro H locs ls j hl
  obtain ⟨hx, hb, hml, hown, hts, hK, hA, hRR, hnL, hwr, hll, hDD⟩ := id C
  rw [← hll, ← hDD] at hM
  refine zs_cs C (va_runS (nL := nL) (As := As) (rest := st) ⟨hx, hb, hml, hown, hts⟩ hM (va_cwS na hts hG hw hrm.1 hrm.2 hd (by rw [hRR]; exact hR)) ⟨(fun a U g mk q => ⟨q.1, q.2.1, va_K.moved (u := U) (U := U.calling g mk a) (Vm.Alike.refl U.vm) q.2.2⟩), fun U hU hW => ⟨rfl, by rw [hU]; exact j.1.sub is hws, va_K.moved hW.alike hK⟩⟩ rfl hn (by rw [← hnL]; exact hl.1) hst (lv_room hroom) d (by rw [hRR]; exact hkn)) (fun r hr => ?_)
  subst hr
  exact h H locs ls j hl
/-- behind a call of one that writes: its world beside the rest -/
theorem zs_cw (C : zC X l D cI R nL true cc own Ts) {Post : Option Value → va_W → Prop} {a : Array Value} {st0 : List Value} {mc ms : Nat} {H : Heap} {locs : List Loc} {ls : Array Slot} (is ir : List Nat) {wc wo : va_W} (hws : is.map (fun i => ws[i]?) = wc.map some) (hwo : ir.map (fun i => ws[i]?) = wo.map some) (hnd : va_nd ir = true) (hdis : ∀ i ∈ ir, i ∉ is) (j : zJ X ws H locs) (hl : lv_has ls (zx_n X) lv)
    (hr : va_Run (zx_p X) (zx_l X) (zx_e X) (zx_R X) (zx_s X) (zx_m X) (zx_a X) (zx_b X) (zx_h X) (zx_c X) H locs k n mc ms (F0 (zx_m X) pc ls st0) st (zQw (zx_D X) Post (va_A wc H.size) a) (va_A wc H.size))
    (kk : ∀ (v : Option Value) (w1 : va_W), Post v w1 → zG X (k + mc) (n + ms) lv (v.toList ++ st) (wo ++ w1) (pc + 3)) : W (zx_p X) (zx_l X) (zx_e X) (zx_R X) (zx_s X) (zx_m X) (zx_a X) (zx_b X) (zx_h X) (zx_c X) H locs k n (zx_Q X) (F0 (zx_m X) pc ls st0) := by
  obtain ⟨hx, hb, hml, hown, hts, hK, hA, hRR, hnL, hwr, hll, hDD⟩ := id C
  obtain ⟨hD, hS⟩ := j.2.1 hwr
  have hF := va_free hD hS hA is hws
  intro T hT X'
  obtain ⟨v, st₀, t, T', L, h0, X2, hL, e1, e2, ⟨⟨v1, w1, hv, hp, hP1, hD1⟩, hz, hk⟩, st⟩ := hr T hT X'
  cases hv
  rw [h0] at hz hk
  rw [← e1] at hz hk hP1
  obtain ⟨hP2, hD2⟩ := va_join j.1 hD is ir hws hwo hnd hdis hk hF hP1 hD1
  obtain ⟨t2, a1, b1⟩ := kk v w1 hp T'.heap (locs ++ L) ls ⟨hP2, fun _ => ⟨hD2, Nat.le_trans hS.1 hz, fun q h1 h2 => by rw [hk q (Nat.lt_of_lt_of_le h1 hS.1) (fun z => h2 (hF q z))]; exact hS.2.1 q h1 h2, fun q hq => by
      rcases List.mem_append.mp hq with h | h
      · exact hS.2.2 q h
      · exact hF _ (hL q h)⟩, fun q => by rw [hwr] at q; cases q⟩ hl T' rfl X2
  exact ⟨t2, st t2 a1, b1⟩
theorem zg_callw (C : zC X l D cI R nL true cc own Ts) (is ir : List Nat) (q0 : Nat) (na : Nat) {Cn : String} {ci N index maxL b : Nat} {T : u_T} {fs : List Value} {y : MethodName} {wy wy' : List Cond} {bytes : ByteArray} {ret : Option FieldType} {rm : Room} {As st0 : List Value} {wc wo : va_W} {Post : Option Value → va_W → Prop} {mc ms : Nat} (hM : zMw l D cI y wy rm (.ref b :: As) wc Post mc ms) (hG : GoodIn Ts (wsV own index Cn y wy)) (hd : y.cls = Cn ∧ y.cls ≠ "java/lang/invoke/MethodHandle" ∧ y.cls ≠ "java/lang/invoke/VarHandle" ∧ (parseMethodDescriptor y.desc).map (fun d => d.parameters.length) = some na) (hw : wy = Cond.code y bytes maxL ret :: wy') (hrm : rm.cells = mc ∧ rm.slots = ms) (hR : rm.frames + 1 ≤ R.frames ∧ 8 + (maxL + 11) + rm.locals ≤ R.locals) (hnc : va_nd is = true) (hws : is.map (fun i => ws[i]?) = wc.map some) (hwo : ir.map (fun i => ws[i]?) = wo.map some) (hnd : va_nd ir = true) (hdis : ∀ i ∈ ir, i ∉ is) (he : ws[q0]? = some (b, .inr (ci, fs))) (hc : vwCl[ci]? = some (Cn, T, N)) (hn : As.length = na) (hst : st0 = As.reverse ++ .ref b :: st) (hroom : (st.map fun v => v.category).sum ≤ 8) (hkn : k + mc ≤ R.cells ∧ n + ms ≤ R.slots) (d : decode cc pc = .ok (.invokevirtual index, 3)) (h : ∀ (v : Option Value) (w1 : va_W), Post v w1 → zG X (k + mc) (n + ms) lv (v.toList ++ st) (wo ++ w1) (pc + 3)) : zG X k n lv st0 ws pc := by
  intro H locs ls j hl
  obtain ⟨hx, hb, hml, hown, hts, hK, hA, hRR, hnL, hwr, hll, hDD⟩ := id C
  have hM := hM H.size
  rw [← hll, ← hDD] at hM
  have hf : is.filterMap (fun i => ws[i]?) = wc := by
    have h1 : is.filterMap (fun i => ws[i]?) = (is.map (fun i => ws[i]?)).filterMap id := by rw [List.filterMap_map]; rfl
    rw [h1, hws, List.filterMap_map]; simp
  exact zs_cw C is ir hws hwo hnd hdis j hl (va_runV (nL := nL) (As := As) (rest := st) ⟨hx, hb, hml, hown, hts⟩ hM (cwV na hts hG hw hrm.1 hrm.2 hd (by rw [hRR]; exact hR)) ⟨(fun a U g mk q => ⟨q.1, q.2.1, q.2.2.1, va_K.moved (u := U) (U := U.calling g mk a) (Vm.Alike.refl U.vm) q.2.2.2.1, q.2.2.2.2⟩), va_recv hK j.1 hc he, fun U hU hW => ⟨rfl, by rw [hU], by rw [hU]; exact j.1.sub is hf, va_K.moved hW.alike hK, ((j.2.1 hwr).1.sub is hnc hws).weaken (fun _ _ _ _ => trivial)⟩⟩ rfl hn (by rw [← hnL]; exact hl.1) hst (lv_room hroom) d (by rw [hRR]; exact hkn)) h
theorem zg_callI (C : zC X l D cI R nL true cc own Ts) (is ir : List Nat) (na : Nat) {index maxL b : Nat} {y : MethodName} {wy wy' : List Cond} {bytes : ByteArray} {rm : Room} {As st0 : List Value} {wc wo : va_W} {Post : Option Value → va_W → Prop} {mc ms : Nat} (hM : zMw l D cI y wy rm (.ref b :: As) wc Post mc ms) (hG : GoodIn Ts wy) (hini : Cond.initialized y.cls ∈ Ts) (hlk : Cond.methodLink own index y ∈ Ts) (him : Cond.instanceMethod y ∈ Ts) (hy1 : y.name = "<init>") (hd : y.cls ≠ "java/lang/invoke/MethodHandle" ∧ y.cls ≠ "java/lang/invoke/VarHandle" ∧ (parseMethodDescriptor y.desc).map (fun d => d.parameters.length) = some na) (hw : wy = Cond.code y bytes maxL none :: wy') (hrm : rm.cells = mc ∧ rm.slots = ms) (hR : rm.frames + 1 ≤ R.frames ∧ 8 + (maxL + 11) + rm.locals ≤ R.locals) (hnc : va_nd is = true) (hws : is.map (fun i => ws[i]?) = wc.map some) (hwo : ir.map (fun i => ws[i]?) = wo.map some) (hnd : va_nd ir = true) (hdis : ∀ i ∈ ir, i ∉ is) (hn : As.length = na) (hst : st0 = As.reverse ++ .ref b :: st) (hroom : (st.map fun v => v.category).sum ≤ 8) (hkn : k + mc ≤ R.cells ∧ n + ms ≤ R.slots) (d : decode cc pc = .ok (.invokespecial index, 3)) (h : ∀ (v : Option Value) (w1 : va_W), Post v w1 → zG X (k + mc) (n + ms) lv (v.toList ++ st) (wo ++ w1) (pc + 3)) : zG X k n lv st0 ws pc := by
  intro H locs ls j hl
  obtain ⟨hx, hb, hml, hown, hts, hK, hA, hRR, hnL, hwr, hll, hDD⟩ := id C
  have hM := hM H.size
  rw [← hll, ← hDD] at hM
  have hf : is.filterMap (fun i => ws[i]?) = wc := by
    have h1 : is.filterMap (fun i => ws[i]?) = (is.map (fun i => ws[i]?)).filterMap id := by rw [List.filterMap_map]; rfl
    rw [h1, hws, List.filterMap_map]; simp
  exact zs_cw C is ir hws hwo hnd hdis j hl (va_runI (nL := nL) (As := As) (rest := st) ⟨hx, hb, hml, hown, hts⟩ hM (cwI na hts hG hw hrm.1 hrm.2 (hts _ hini) (hts _ hlk) (hts _ him) hy1 hd (by rw [hRR]; exact hR)) ⟨(fun a U g mk q => ⟨q.1, q.2.1, q.2.2.1, va_K.moved (u := U) (U := U.calling g mk a) (Vm.Alike.refl U.vm) q.2.2.2.1, q.2.2.2.2⟩), fun U hU hW => ⟨rfl, by rw [hU], by rw [hU]; exact j.1.sub is hf, va_K.moved hW.alike hK, ((j.2.1 hwr).1.sub is hnc hws).weaken (fun _ _ _ _ => trivial)⟩⟩ rfl hn (by rw [← hnL]; exact hl.1) hst (lv_room hroom) d (by rw [hRR]; exact hkn)) h
theorem zg_iret (C : zC X l D cI R nL wr cc own Ts) {v v0 : Int32} (E : zEi X .int v0) (d : decode cc pc = .ok (.ireturn, 1)) (e : v = v0) : zG X 0 0 lv [.int v] ws pc := by
  intro H locs ls j hl
  obtain ⟨rfl, rfl⟩ := j.2.2 E.2.2.1
  subst e
  rw [E.2.2.2]
  exact W.iret C.1 C.2.1 E.1 (fun t ht hW => ⟨v, rfl, rfl, ht⟩) (fun q h => by cases h) d E.2.1
theorem zg_zret (C : zC X l D cI R nL wr cc own Ts) {v : Int32} {v0 : Bool} (E : zEi X .boolean (zb v0)) (d : decode cc pc = .ok (.ireturn, 1)) (e : v = zb v0) : zG X 0 0 lv [.int v] ws pc := by
  intro H locs ls j hl
  obtain ⟨rfl, rfl⟩ := j.2.2 E.2.2.1
  subst e
  rw [E.2.2.2]
  exact W.zret C.1 C.2.1 E.1 (zb_nar v0) (fun t ht hW => ⟨zb v0, rfl, rfl, ht⟩) (fun q h => by cases h) d E.2.1
theorem zg_lret (C : zC X l D cI R nL wr cc own Ts) {v v0 : Int64} (E : zEl X v0) (d : decode cc pc = .ok (.lreturn, 1)) (e : v = v0) : zG X 0 0 lv [.long v] ws pc := by
  intro H locs ls j hl
  obtain ⟨rfl, rfl⟩ := j.2.2 E.2.2.1
  subst e
  rw [E.2.2.2]
  exact W.lret C.1 C.2.1 E.1 (fun t ht hW => ⟨v, rfl, rfl, ht⟩) (fun q h => by cases h) d E.2.1
theorem zg_wiret (C : zC X l D cI R nL wr cc own Ts) {v : Int32} {Post : Option Value → va_W → Prop} (E : zEw X D (some .int) Post k n) (d : decode cc pc = .ok (.ireturn, 1)) (e : Post (some (.int v)) ws) : zG X k n lv [.int v] ws pc := by
  intro H locs ls j hl
  obtain ⟨hD, hS⟩ := j.2.1 E.2.2.1
  have hP := j.1
  rw [E.2.2.2.1] at hP
  rw [E.2.2.2.2]
  exact W.iret C.1 C.2.1 E.1 (fun t ht hW => ⟨⟨_, ws, rfl, e, by rw [ht]; exact hP, hD⟩, hS.F ht⟩) hS.2.2 d E.2.1
theorem zg_wzret (C : zC X l D cI R nL wr cc own Ts) {v : Int32} (v0 : Bool) {Post : Option Value → va_W → Prop} (E : zEw X D (some .boolean) Post k n) (d : decode cc pc = .ok (.ireturn, 1)) (hv : v = zb v0) (e : Post (some (.int (zb v0))) ws) : zG X k n lv [.int v] ws pc := by
  intro H locs ls j hl
  obtain ⟨hD, hS⟩ := j.2.1 E.2.2.1
  have hP := j.1
  rw [E.2.2.2.1] at hP
  subst hv
  rw [E.2.2.2.2]
  exact W.zret C.1 C.2.1 E.1 (zb_nar v0) (fun t ht hW => ⟨⟨_, ws, rfl, e, by rw [ht]; exact hP, hD⟩, hS.F ht⟩) hS.2.2 d E.2.1
theorem zg_wlret (C : zC X l D cI R nL wr cc own Ts) {v : Int64} {Post : Option Value → va_W → Prop} (E : zEw X D (some .long) Post k n) (d : decode cc pc = .ok (.lreturn, 1)) (e : Post (some (.long v)) ws) : zG X k n lv [.long v] ws pc := by
  intro H locs ls j hl
  obtain ⟨hD, hS⟩ := j.2.1 E.2.2.1
  have hP := j.1
  rw [E.2.2.2.1] at hP
  rw [E.2.2.2.2]
  exact W.lret C.1 C.2.1 E.1 (fun t ht hW => ⟨⟨_, ws, rfl, e, by rw [ht]; exact hP, hD⟩, hS.F ht⟩) hS.2.2 d E.2.1
theorem zg_wvret (C : zC X l D cI R nL wr cc own Ts) {Post : Option Value → va_W → Prop} (E : zEw X D none Post k n) (d : decode cc pc = .ok (.return_, 1)) (e : Post none ws) : zG X k n lv [] ws pc := by
  intro H locs ls j hl
  obtain ⟨hD, hS⟩ := j.2.1 E.2.2.1
  have hP := j.1
  rw [E.2.2.2.1] at hP
  rw [E.2.2.2.2]
  exact W.vret C.1 C.2.1 E.1 (fun t ht hW => ⟨⟨_, ws, rfl, e, by rw [ht]; exact hP, hD⟩, hS.F ht⟩) hS.2.2 d E.2.1
/-- loops: 'h' holds at every i from 0 to N if it holds at i whenever it holds at i + 1 -/
theorem zg_dn {N : Nat} {P : Nat → Prop} (h : ∀ i, i ≤ N → (i < N → P (i + 1)) → P i) : ∀ i, i ≤ N → P i := by
  have key : ∀ m i, i + m = N → P i := by
    intro m
    induction m with
    | zero => exact fun i hi => h i (by omega) (fun q => by omega)
    | succ m ih => exact fun i hi => h i (by omega) (fun _ => ih (i + 1) (by omega))
  exact fun i hi => key (N - i) i (by omega)
end ZG
end
section
/-! small naturals as ints, answers as booleans, ranges -/
theorem zi_inc (a : Nat) : nI a + Int32.ofInt 1 = nI (a + 1) := nI_1 a
theorem zi_m1 {a : Nat} (h : 0 < a) : nI a + Int32.ofInt (-1) = nI (a - 1) := by
  obtain ⟨b, rfl⟩ : ∃ b, a = b + 1 := ⟨a - 1, by omega⟩
  exact pk_m1 b
theorem zi_tn {a : Nat} (ha : a < 2 ^ 31) : (nI a).toBitVec = BitVec.ofNat 32 a := rfl
theorem zi_and (a b : Nat) : nI a &&& nI b = nI (a &&& b) := by
  apply Int32.toBitVec_inj.mp
  show BitVec.ofNat 32 a &&& BitVec.ofNat 32 b = BitVec.ofNat 32 (a &&& b)
  rw [BitVec.ofNat_and]
theorem zi_or (a b : Nat) : nI a ||| nI b = nI (a ||| b) := by
  apply Int32.toBitVec_inj.mp
  show BitVec.ofNat 32 a ||| BitVec.ofNat 32 b = BitVec.ofNat 32 (a ||| b)
  rw [BitVec.ofNat_or]
theorem zi_xor (a b : Nat) : nI a ^^^ nI b = nI (a ^^^ b) := by
  apply Int32.toBitVec_inj.mp
  show BitVec.ofNat 32 a ^^^ BitVec.ofNat 32 b = BitVec.ofNat 32 (a ^^^ b)
  rw [BitVec.ofNat_xor]
theorem zi_sh : ∀ k, k < 32 → ((nI k &&& 31).toBitVec.smod 32).toNat = k := by decide +kernel
theorem zi_shl {a b : Nat} (hb : b < 32) (h : a * 2 ^ b < 2 ^ 31) : nI a <<< (nI b &&& 31) = nI (a * 2 ^ b) := pk_shlN _ b (zi_sh b hb) (Nat.lt_trans h (by decide))
theorem zi_bsh {a b : Nat} (ha : a < 2) (hb : b < 30) : nI a <<< (nI b &&& 31) = nI (a * 2 ^ b) := by
  refine zi_shl (by omega) ?_
  have h : 2 ^ b < 2 ^ 30 := Nat.pow_lt_pow_right (by decide) hb
  rcases (show a = 0 ∨ a = 1 by omega) with rfl | rfl <;> omega
theorem zi_shl1 {b : Nat} (hb : b < 31) : nI 1 <<< (nI b &&& 31) = nI (2 ^ b) := by
  have h : 1 * 2 ^ b < 2 ^ 31 := by rw [Nat.one_mul]; exact Nat.pow_lt_pow_right (by decide) hb
  rw [zi_shl (by omega) h, Nat.one_mul]
theorem zi_shr {a b : Nat} (ha : a < 2 ^ 31) (hb : b < 32) : nI a >>> (nI b &&& 31) = nI (a / 2 ^ b) := pk_shrN ha _ b (zi_sh b hb)
theorem zi_and1 (a : Nat) : nI a &&& nI 1 = nI (a % 2) := by
  rw [zi_and, Nat.and_one_is_mod]
theorem zi_rem2 {a : Nat} (ha : a < 2 ^ 31) : nI a - nI a / nI 2 * nI 2 = nI (a % 2) := pk_rem ha (by decide) (by decide)
theorem zi_div2 {a : Nat} (ha : a < 2 ^ 31) : nI a / nI 2 = nI (a / 2) := pk_div ha (by decide) (by decide)
theorem zi_l {a : Nat} (ha : a < 2 ^ 31) : (nI a).toInt64 = lN a := nI_l ha
/-- an int in a range that begins at 0 -/
abbrev zin (x : Int32) (N : Nat) : Prop := 0 ≤ x ∧ x < nI N
theorem zin_of {x : Int32} {N : Nat} (h : zin x N) (hN : N < 2 ^ 31) : ∃ j : Nat, j < N ∧ x = nI j := by
  obtain ⟨h0, h1⟩ := h
  obtain ⟨j, hj, rfl⟩ := nI_of (x := x) (fun q => by
    have a := Int32.lt_iff_toInt_lt.mp q
    have b := Int32.le_iff_toInt_le.mp h0
    omega)
  exact ⟨j, (nI_ltI hj hN).mp h1, rfl⟩
theorem zin_nI {j N : Nat} (h : j < N) (hN : N < 2 ^ 31) : zin (nI j) N := ⟨nI_pos' (by omega), (nI_ltI (by omega) hN).mpr h⟩
theorem zin_iff {j N : Nat} (hj : j < 2 ^ 31) (hN : N < 2 ^ 31) : zin (nI j) N ↔ j < N := ⟨fun h => (nI_ltI hj hN).mp h.2, fun h => zin_nI h hN⟩
theorem zlt_not {x y : Int32} : ¬ x < y ↔ y ≤ x := by
  rw [Int32.lt_iff_toInt_lt, Int32.le_iff_toInt_le]; omega
theorem zle_not {x y : Int32} : ¬ x ≤ y ↔ y < x := by
  rw [Int32.lt_iff_toInt_lt, Int32.le_iff_toInt_le]; omega
theorem zin_le {x : Int32} {N : Nat} (h0 : 0 < N) (hN : N < 2 ^ 31) : (nI 0 ≤ x ∧ x ≤ nI (N - 1)) ↔ zin x N := by
  have e1 := nI_toInt (n := N) hN
  have e2 := nI_toInt (n := N - 1) (by omega)
  have e3 := nI_toInt (n := 0) (by omega)
  have e4 : (0 : Int32).toInt = 0 := by decide
  rw [Int32.le_iff_toInt_le, Int32.le_iff_toInt_le, e2, e3]
  show _ ↔ (0 ≤ x ∧ x < nI N)
  rw [Int32.le_iff_toInt_le, Int32.lt_iff_toInt_lt, e1, e4]
  omega
theorem zbt {P : Prop} [Decidable P] (h : P) : nI 1 = zb (decide P) := by rw [decide_eq_true h]; rfl
theorem zbf {P : Prop} [Decidable P] (h : ¬ P) : nI 0 = zb (decide P) := by rw [decide_eq_false h]; rfl
theorem zbT {b : Bool} (h : b = true) : nI 1 = zb b := by rw [h]; rfl
theorem zbF {b : Bool} (h : b = false) : nI 0 = zb b := by rw [h]; rfl
theorem zb_congr {P Q : Prop} [Decidable P] [Decidable Q] (h : P ↔ Q) : zb (decide P) = zb (decide Q) := by
  by_cases hp : P
  · rw [decide_eq_true hp, decide_eq_true (h.mp hp)]
  · rw [decide_eq_false hp, decide_eq_false (fun q => hp (h.mpr q))]
section ZP
variable {X : zX} {l : Launch} {D : va_G} {cI : ClassId} {R : Room} {nL : Nat} {wr : Bool} {cc : ByteArray} {own : String} {Ts : List Cond} {k n : Nat} {lv : List (Nat × Value)} {st : List Value} {ws : va_W} {pc : Nat}
theorem zp_if_eq (C : zC X l D cI R nL wr cc own Ts) {P : Prop} {hP : Decidable P} {off : Int} (t : Nat) (d : decode cc pc = .ok (.ifCond .eq off, 3)) (ht : (pc : Int) + off = (t : Int)) (kt : ¬ P → zG X k n lv st ws t) (kf : P → zG X k n lv st ws (pc + 3)) : zG X k n lv (.int (zb (decide P)) :: st) ws pc := zb_if_eq C t d ht (fun q => kt (of_decide_eq_false q)) (fun q => kf (of_decide_eq_true q))
theorem zp_if_ne (C : zC X l D cI R nL wr cc own Ts) {P : Prop} {hP : Decidable P} {off : Int} (t : Nat) (d : decode cc pc = .ok (.ifCond .ne off, 3)) (ht : (pc : Int) + off = (t : Int)) (kt : P → zG X k n lv st ws t) (kf : ¬ P → zG X k n lv st ws (pc + 3)) : zG X k n lv (.int (zb (decide P)) :: st) ws pc := zb_if_ne C t d ht (fun q => kt (of_decide_eq_true q)) (fun q => kf (of_decide_eq_false q))
end ZP
/-- none is told by NONE -/
def zo : Option Nat → Int32
  | none => -1001
  | some v => nI v
theorem zo_ne {v : Nat} (hv : v < 2 ^ 31) : ¬ nI v = -1001 := by
  intro h
  have h1 := nI_toInt hv
  rw [h] at h1
  have h2 : (-1001 : Int32).toInt = -1001 := by decide
  omega
theorem zo_eq {o : Option Nat} (h : ∀ v, o = some v → v < 2 ^ 31) : zo o = -1001 ↔ o = none := by
  cases o with
  | none => exact ⟨fun _ => rfl, fun _ => rfl⟩
  | some v => exact ⟨fun q => absurd q (zo_ne (h v rfl)), fun q => by cases q⟩
theorem zpw {b : Nat} (h : b ≤ 10) : 2 ^ b ≤ 1024 := Nat.pow_le_pow_right (by decide) h
theorem zpw5 {b : Nat} (h : b ≤ 5) : 2 ^ b ≤ 32 := Nat.pow_le_pow_right (by decide) h
theorem zpw0 (b : Nat) : 0 < 2 ^ b := Nat.two_pow_pos b
theorem zupd_s {f : Nat → Int32} {k : Nat} {x : Int32} : upd f k x k = x := pk_us
theorem zupd {f : Nat → Int32} {k j : Nat} {x : Int32} : upd f k x j = if j = k then x else f j := rfl
/-- the bits of an int counted, as java.lang.Integer does -/
def zc1 (x : Int32) : Int32 := x - ((x.toUInt32 >>> ((nI 1).toUInt32 &&& Int32.toUInt32 31)).toInt32 &&& 1431655765)
def zc2 (x : Int32) : Int32 := (x &&& 858993459) + ((x.toUInt32 >>> ((nI 2).toUInt32 &&& Int32.toUInt32 31)).toInt32 &&& 858993459)
def zc3 (x : Int32) : Int32 := (x + (x.toUInt32 >>> ((nI 4).toUInt32 &&& Int32.toUInt32 31)).toInt32) &&& 252645135
def zc4 (x : Int32) : Int32 := x + (x.toUInt32 >>> ((nI 8).toUInt32 &&& Int32.toUInt32 31)).toInt32
def zc5 (x : Int32) : Int32 := x + (x.toUInt32 >>> ((nI 16).toUInt32 &&& Int32.toUInt32 31)).toInt32
def zc6 (x : Int32) : Int32 := x &&& nI 63
/-- how many of the lowest k bits are 1 -/
def zpk (x : Nat) : Nat → Nat
  | 0 => 0
  | k + 1 => zpk x k + x / 2 ^ k % 2
abbrev zpc (x : Nat) : Nat := zpk x 10
theorem zbc_all : (List.range 1024).all (fun w => decide (zc6 (zc5 (zc4 (zc3 (zc2 (zc1 (nI w)))))) = nI (zpc w))) = true := by decide +kernel
theorem zbc {w : Nat} (h : w < 1024) : zc6 (zc5 (zc4 (zc3 (zc2 (zc1 (nI w)))))) = nI (zpc w) := of_decide_eq_true (List.all_eq_true.mp zbc_all w (List.mem_range.mpr h))
end
section
/-! the mathematics: counted bits, syndromes, leaders, distances -/
theorem zpk_le (x k : Nat) : zpk x k ≤ k := by
  induction k with
  | zero => exact Nat.le_refl 0
  | succ k ih =>
    show zpk x k + x / 2 ^ k % 2 ≤ k + 1
    have := Nat.mod_lt (x / 2 ^ k) (show 0 < 2 by decide)
    omega
theorem zpc_le (x : Nat) : zpc x ≤ 10 := zpk_le x 10
theorem zpk_hi {x b : Nat} (h : x < 2 ^ b) : ∀ k, zpk x k ≤ b := by
  intro k
  induction k with
  | zero => exact Nat.zero_le _
  | succ k ih =>
    show zpk x k + x / 2 ^ k % 2 ≤ b
    by_cases hk : k < b
    · have h1 := zpk_le x k
      have := Nat.mod_lt (x / 2 ^ k) (show 0 < 2 by decide)
      omega
    · have h2 : x / 2 ^ k = 0 := Nat.div_eq_of_lt (Nat.lt_of_lt_of_le h (Nat.pow_le_pow_right (by decide) (by omega)))
      rw [h2, Nat.zero_mod, Nat.add_zero]; exact ih
theorem zpc0_all : (List.range 1024).all (fun w => decide (zpc w = 0 → w = 0)) = true := by decide +kernel
theorem zpc0 {w : Nat} (h : w < 1024) (h0 : zpc w = 0) : w = 0 := of_decide_eq_true (List.all_eq_true.mp zpc0_all w (List.mem_range.mpr h)) h0
theorem zpc_z : zpc 0 = 0 := by decide
theorem zbit_xor (a b k : Nat) : (a ^^^ b) / 2 ^ k % 2 = (a / 2 ^ k % 2 + b / 2 ^ k % 2) % 2 := by
  rw [Nat.xor_div_two_pow]
  generalize a / 2 ^ k = x
  generalize b / 2 ^ k = y
  have h := @Nat.xor_mod_two_eq_one x y
  have h1 := Nat.mod_two_eq_zero_or_one (x ^^^ y)
  have h2 := Nat.mod_two_eq_zero_or_one x
  have h3 := Nat.mod_two_eq_zero_or_one y
  rcases h1 with h1 | h1 <;> rcases h2 with h2 | h2 <;> rcases h3 with h3 | h3 <;> rw [h1, h2, h3] at h <;> first | (rw [h1, h2, h3]; done) | (exfalso; revert h; decide)
theorem zpk_xor_le (a b k : Nat) : zpk (a ^^^ b) k ≤ zpk a k + zpk b k := by
  induction k with
  | zero => exact Nat.zero_le _
  | succ k ih =>
    show zpk (a ^^^ b) k + (a ^^^ b) / 2 ^ k % 2 ≤ (zpk a k + a / 2 ^ k % 2) + (zpk b k + b / 2 ^ k % 2)
    rw [zbit_xor]
    generalize a / 2 ^ k = x at *
    generalize b / 2 ^ k = y at *
    omega
theorem zpk_xor_mod (a b k : Nat) : zpk (a ^^^ b) k % 2 = (zpk a k + zpk b k) % 2 := by
  induction k with
  | zero => rfl
  | succ k ih =>
    show (zpk (a ^^^ b) k + (a ^^^ b) / 2 ^ k % 2) % 2 = ((zpk a k + a / 2 ^ k % 2) + (zpk b k + b / 2 ^ k % 2)) % 2
    rw [zbit_xor]
    generalize a / 2 ^ k = x at *
    generalize b / 2 ^ k = y at *
    omega
theorem zand_xor_mod (r a b : Nat) : zpc (r &&& (a ^^^ b)) % 2 = (zpc (r &&& a) + zpc (r &&& b)) % 2 := by
  rw [Nat.and_xor_distrib_left]; exact zpk_xor_mod _ _ _
theorem zxor_0 {a b : Nat} (h : a ^^^ b = 0) : a = b := by
  have h1 : (a ^^^ b) ^^^ b = b := by rw [h, Nat.zero_xor]
  rw [Nat.xor_assoc, Nat.xor_self, Nat.xor_zero] at h1
  exact h1
/-- the syndrome by the first rows -/
def zsk (R : Nat → Nat) (w : Nat) : Nat → Nat
  | 0 => 0
  | i + 1 => zsk R w i + zpc (R i &&& w) % 2 * 2 ^ i
theorem zsk_lt (R : Nat → Nat) (w n : Nat) : zsk R w n < 2 ^ n := by
  induction n with
  | zero => exact Nat.one_pos
  | succ n ih =>
    show zsk R w n + zpc (R n &&& w) % 2 * 2 ^ n < 2 ^ (n + 1)
    rw [Nat.pow_succ]
    rcases Nat.mod_two_eq_zero_or_one (zpc (R n &&& w)) with h | h <;> rw [h] <;> omega
theorem zor_add {s b i : Nat} (h : s < 2 ^ i) : s ||| b * 2 ^ i = s + b * 2 ^ i := by
  have h1 := Nat.two_pow_add_eq_or_of_lt h b
  rw [Nat.mul_comm b, Nat.or_comm, ← h1, Nat.add_comm]
theorem zsk_tb (R : Nat → Nat) (w n i : Nat) : (zsk R w n).testBit i = (decide (i < n) && decide (zpc (R i &&& w) % 2 = 1)) := by
  induction n with
  | zero =>
    show (0 : Nat).testBit i = _
    rw [Nat.zero_testBit, decide_eq_false (Nat.not_lt_zero i), Bool.false_and]
  | succ n ih =>
    show (zsk R w n + zpc (R n &&& w) % 2 * 2 ^ n).testBit i = _
    rw [Nat.add_comm, Nat.mul_comm, Nat.testBit_two_pow_mul_add _ (zsk_lt R w n)]
    by_cases hi : i < n
    · rw [if_pos hi, ih, decide_eq_true hi, decide_eq_true (show i < n + 1 by omega)]
    · rw [if_neg hi]
      by_cases he : i = n
      · subst he
        rw [Nat.sub_self, Nat.testBit_zero, decide_eq_true (show i < i + 1 by omega), Bool.true_and, Nat.mod_mod]
      · have h2 : zpc (R n &&& w) % 2 < 2 ^ (i - n) := by
          have h3 : 2 ^ 1 ≤ 2 ^ (i - n) := Nat.pow_le_pow_right (by decide) (by omega)
          have := Nat.mod_lt (zpc (R n &&& w)) (show 0 < 2 by decide)
          omega
        rw [Nat.testBit_lt_two_pow h2, decide_eq_false (show ¬ i < n + 1 by omega), Bool.false_and]
theorem zsk_xor (R : Nat → Nat) (a b n : Nat) : zsk R (a ^^^ b) n = zsk R a n ^^^ zsk R b n := by
  apply Nat.eq_of_testBit_eq
  intro i
  rw [Nat.testBit_xor, zsk_tb, zsk_tb, zsk_tb]
  by_cases hi : i < n
  · rw [decide_eq_true hi, Bool.true_and, Bool.true_and, Bool.true_and, zand_xor_mod, Nat.add_mod]
    rcases Nat.mod_two_eq_zero_or_one (zpc (R i &&& a)) with h | h <;> rcases Nat.mod_two_eq_zero_or_one (zpc (R i &&& b)) with h' | h' <;> rw [h, h'] <;> rfl
  · rw [decide_eq_false hi]; rfl
theorem zsk_0 (R : Nat → Nat) (n : Nat) : zsk R 0 n = 0 := by
  induction n with
  | zero => rfl
  | succ n ih =>
    show zsk R 0 n + zpc (R n &&& 0) % 2 * 2 ^ n = 0
    rw [ih, Nat.and_zero, zpc_z, Nat.zero_mod, Nat.zero_mul]
theorem zsk_eq {R : Nat → Nat} {a b n : Nat} : zsk R a n = zsk R b n ↔ zsk R (a ^^^ b) n = 0 := by
  rw [zsk_xor]
  exact ⟨fun h => by rw [h, Nat.xor_self], zxor_0⟩
theorem zsk_congr {R S : Nat → Nat} {w n : Nat} (h : ∀ i, i < n → R i = S i) : zsk R w n = zsk S w n := by
  induction n with
  | zero => rfl
  | succ n ih =>
    show zsk R w n + zpc (R n &&& w) % 2 * 2 ^ n = zsk S w n + zpc (S n &&& w) % 2 * 2 ^ n
    rw [ih (fun i hi => h i (by omega)), h n (by omega)]
/-- leaders among the first words -/
def znear (w : Nat) : Option Nat → Bool
  | none => true
  | some v => decide (zpc w < zpc v)
def zld (R : Nat → Nat) (rc : Nat) : Nat → Nat → Option Nat
  | 0, _ => none
  | n + 1, s => if zsk R n rc = s ∧ znear n (zld R rc n s) = true then some n else zld R rc n s
theorem zld_some {R : Nat → Nat} {rc : Nat} : ∀ {n s v : Nat}, zld R rc n s = some v → v < n ∧ zsk R v rc = s := by
  intro n
  induction n with
  | zero => intro s v h; cases h
  | succ n ih =>
    intro s v h
    have h1 : (if zsk R n rc = s ∧ znear n (zld R rc n s) = true then some n else zld R rc n s) = some v := h
    by_cases hc : zsk R n rc = s ∧ znear n (zld R rc n s) = true
    · rw [if_pos hc] at h1
      cases h1
      exact ⟨by omega, hc.1⟩
    · rw [if_neg hc] at h1
      have := ih h1
      exact ⟨by omega, this.2⟩
theorem zld_min {R : Nat → Nat} {rc : Nat} : ∀ {n w : Nat}, w < n → ∃ v, zld R rc n (zsk R w rc) = some v ∧ zpc v ≤ zpc w := by
  intro n
  induction n with
  | zero => intro w h; omega
  | succ n ih =>
    intro w hw
    have key : zld R rc (n + 1) (zsk R w rc) = (if zsk R n rc = zsk R w rc ∧ znear n (zld R rc n (zsk R w rc)) = true then some n else zld R rc n (zsk R w rc)) := rfl
    rw [key]
    by_cases hc : zsk R n rc = zsk R w rc ∧ znear n (zld R rc n (zsk R w rc)) = true
    · rw [if_pos hc]
      refine ⟨n, rfl, ?_⟩
      by_cases he : w = n
      · rw [he]; exact Nat.le_refl _
      · obtain ⟨v, hv, hle⟩ := ih (show w < n by omega)
        rw [hv] at hc
        have := of_decide_eq_true hc.2
        omega
    · rw [if_neg hc]
      by_cases he : w = n
      · subst he
        cases hz : zld R rc w (zsk R w rc) with
        | none => exact absurd ⟨rfl, by rw [hz]; rfl⟩ hc
        | some v =>
          refine ⟨v, rfl, ?_⟩
          have h2 : ¬ zpc w < zpc v := fun q => hc ⟨rfl, by rw [hz]; exact decide_eq_true q⟩
          omega
      · exact ih (by omega)
theorem zld_congr {R S : Nat → Nat} {rc : Nat} (h : ∀ i, i < rc → R i = S i) : ∀ n s, zld R rc n s = zld S rc n s := by
  intro n
  induction n with
  | zero => intro s; rfl
  | succ n ih =>
    intro s
    show (if zsk R n rc = s ∧ znear n (zld R rc n s) = true then some n else zld R rc n s) = (if zsk S n rc = s ∧ znear n (zld S rc n s) = true then some n else zld S rc n s)
    rw [zsk_congr h, ih]
/-- how many of the first numbers have p -/
def zct (p : Nat → Bool) : Nat → Nat
  | 0 => 0
  | s + 1 => zct p s + (if p s = true then 1 else 0)
theorem zct_le (p : Nat → Bool) (n : Nat) : zct p n ≤ n := by
  induction n with
  | zero => exact Nat.le_refl 0
  | succ n ih =>
    show zct p n + (if p n = true then 1 else 0) ≤ n + 1
    split <;> omega
theorem zct_congr {p q : Nat → Bool} {n : Nat} (h : ∀ s, s < n → p s = q s) : zct p n = zct q n := by
  induction n with
  | zero => rfl
  | succ n ih =>
    show zct p n + (if p n = true then 1 else 0) = zct q n + (if q n = true then 1 else 0)
    rw [ih (fun s hs => h s (by omega)), h n (by omega)]
theorem zct_set {p q : Nat → Bool} {k n : Nat} (hk : k < n) (h : ∀ s, s < n → s ≠ k → q s = p s) (hq : q k = true) : zct q n = zct p n + (if p k = true then 0 else 1) := by
  induction n with
  | zero => omega
  | succ n ih =>
    show zct q n + (if q n = true then 1 else 0) = zct p n + (if p n = true then 1 else 0) + (if p k = true then 0 else 1)
    by_cases he : k = n
    · subst he
      rw [zct_congr (q := p) (fun s hs => h s (by omega) (by omega)), hq]
      by_cases hp : p k = true <;> simp [hp]
    · rw [ih (by omega) (fun s hs => h s (by omega)), h n (by omega) (fun q => he q.symm)]
      omega
theorem zct_count (p : Nat → Bool) (n : Nat) : zct p n = (List.range n).countP p := by
  induction n with
  | zero => rfl
  | succ n ih =>
    show zct p n + (if p n = true then 1 else 0) = _
    rw [List.range_succ, List.countP_append, ih, List.countP_singleton]
theorem zxp_all : (List.range 32).all (fun c => decide (((List.range 32).map (fun s => s ^^^ c)).Perm (List.range 32))) = true := by decide +kernel
theorem zct_xor (p : Nat → Bool) {c : Nat} (hc : c < 32) : zct (fun s => p (s ^^^ c)) 32 = zct p 32 := by
  have h := of_decide_eq_true (List.all_eq_true.mp zxp_all c (List.mem_range.mpr hc))
  rw [zct_count, zct_count, ← h.countP_eq p, List.countP_map]
  rfl
theorem zct_or {p q : Nat → Bool} {n : Nat} (h : ∀ s, s < n → ¬ (p s = true ∧ q s = true)) : zct (fun s => p s || q s) n = zct p n + zct q n := by
  induction n with
  | zero => rfl
  | succ n ih =>
    show zct (fun s => p s || q s) n + (if (p n || q n) = true then 1 else 0) = zct p n + (if p n = true then 1 else 0) + (zct q n + (if q n = true then 1 else 0))
    rw [ih (fun s hs => h s (by omega))]
    have := h n (by omega)
    cases hp : p n <;> cases hq : q n <;> simp_all <;> omega
/-- the syndromes that the first words have -/
def zim (R : Nat → Nat) (rc n : Nat) : Nat → Bool := fun s => (zld R rc n s).isSome
theorem zim_iff {R : Nat → Nat} {rc n s : Nat} : zim R rc n s = true ↔ ∃ w, w < n ∧ zsk R w rc = s := by
  constructor
  · intro h
    obtain ⟨v, hv⟩ := Option.isSome_iff_exists.mp h
    exact ⟨v, (zld_some hv).1, (zld_some hv).2⟩
  · rintro ⟨w, hw, rfl⟩
    obtain ⟨v, hv, -⟩ := zld_min (R := R) (rc := rc) hw
    show (zld R rc n (zsk R w rc)).isSome = true
    rw [hv]; rfl
theorem zadd_xor {r k : Nat} (h : r < 2 ^ k) : 2 ^ k + r = 2 ^ k ^^^ r := by
  have h0 : 2 ^ k + r = 2 ^ k * 1 + r := by rw [Nat.mul_one]
  apply Nat.eq_of_testBit_eq
  intro i
  rw [h0, Nat.testBit_two_pow_mul_add _ h, Nat.testBit_xor, Nat.testBit_two_pow]
  by_cases hi : i < k
  · rw [if_pos hi, decide_eq_false (show ¬ k = i by omega), Bool.false_xor]
  · rw [if_neg hi, Nat.testBit_lt_two_pow (Nat.lt_of_lt_of_le h (Nat.pow_le_pow_right (by decide) (by omega))), Bool.xor_false]
    by_cases he : k = i
    · subst he; rw [Nat.sub_self, decide_eq_true rfl]; rfl
    · rw [decide_eq_false he]
      exact Nat.testBit_lt_two_pow (Nat.one_lt_two_pow (by omega))
theorem zim_step {R : Nat → Nat} {rc k : Nat} (s : Nat) : zim R rc (2 ^ (k + 1)) s = (zim R rc (2 ^ k) s || zim R rc (2 ^ k) (s ^^^ zsk R (2 ^ k) rc)) := by
  rw [Bool.eq_iff_iff, Bool.or_eq_true, zim_iff, zim_iff, zim_iff]
  have hp : 2 ^ (k + 1) = 2 ^ k + 2 ^ k := by rw [Nat.pow_succ]; omega
  constructor
  · rintro ⟨w, hw, rfl⟩
    by_cases h : w < 2 ^ k
    · exact Or.inl ⟨w, h, rfl⟩
    · right
      refine ⟨w - 2 ^ k, by omega, ?_⟩
      have h1 := zadd_xor (r := w - 2 ^ k) (k := k) (by omega)
      have h2 : 2 ^ k + (w - 2 ^ k) = w := by omega
      rw [h2] at h1
      have h3 : zsk R w rc = zsk R (2 ^ k) rc ^^^ zsk R (w - 2 ^ k) rc := by rw [← zsk_xor, ← h1]
      rw [h3, Nat.xor_comm (zsk R (2 ^ k) rc), Nat.xor_assoc, Nat.xor_self, Nat.xor_zero]
  · rintro (⟨w, hw, rfl⟩ | ⟨r, hr, he⟩)
    · exact ⟨w, by omega, rfl⟩
    · refine ⟨2 ^ k + r, by omega, ?_⟩
      rw [zadd_xor hr, zsk_xor, he, Nat.xor_comm s, ← Nat.xor_assoc, Nat.xor_self, Nat.zero_xor]
theorem zrank_pow (R : Nat → Nat) {rc : Nat} (hrc : rc ≤ 5) : ∀ k, ∃ r, zct (zim R rc (2 ^ k)) 32 = 2 ^ r := by
  intro k
  induction k with
  | zero =>
    refine ⟨0, ?_⟩
    rw [zct_congr (q := fun s => decide (s = 0)) (fun s _ => ?_)]
    · decide
    · rw [Bool.eq_iff_iff, zim_iff, decide_eq_true_iff]
      constructor
      · rintro ⟨w, hw, rfl⟩
        have : w = 0 := by have : 2 ^ 0 = 1 := rfl; omega
        subst this; exact zsk_0 R rc
      · rintro rfl
        exact ⟨0, by decide, zsk_0 R rc⟩
  | succ k ih =>
    obtain ⟨r, hr⟩ := ih
    have hc : zsk R (2 ^ k) rc < 32 := Nat.lt_of_lt_of_le (zsk_lt _ _ _) (zpw5 hrc)
    by_cases h : zim R rc (2 ^ k) (zsk R (2 ^ k) rc) = true
    · refine ⟨r, ?_⟩
      rw [← hr]
      refine zct_congr (fun s _ => ?_)
      rw [zim_step, Bool.eq_iff_iff, Bool.or_eq_true]
      refine ⟨fun q => q.elim id (fun q => ?_), Or.inl⟩
      obtain ⟨a, ha, ea⟩ := zim_iff.mp h
      obtain ⟨b, hb, eb⟩ := zim_iff.mp q
      refine zim_iff.mpr ⟨a ^^^ b, Nat.xor_lt_two_pow ha hb, ?_⟩
      rw [zsk_xor, ea, eb, Nat.xor_comm s, ← Nat.xor_assoc, Nat.xor_self, Nat.zero_xor]
    · refine ⟨r + 1, ?_⟩
      rw [zct_congr (q := fun s => zim R rc (2 ^ k) s || zim R rc (2 ^ k) (s ^^^ zsk R (2 ^ k) rc)) (fun s _ => zim_step s), zct_or (p := zim R rc (2 ^ k)) (q := fun s => zim R rc (2 ^ k) (s ^^^ zsk R (2 ^ k) rc)), zct_xor _ hc, hr, Nat.pow_succ]
      · omega
      · rintro s - ⟨q1, q2⟩
        obtain ⟨a, ha, ea⟩ := zim_iff.mp q1
        obtain ⟨b, hb, eb⟩ := zim_iff.mp q2
        refine h (zim_iff.mpr ⟨a ^^^ b, Nat.xor_lt_two_pow ha hb, ?_⟩)
        rw [zsk_xor, ea, eb, ← Nat.xor_assoc, Nat.xor_self, Nat.zero_xor]
/-- RANK, by the syndromes that are met -/
def zrk (R : Nat → Nat) (rc ln : Nat) : Nat := zpc (zct (zim R rc (2 ^ ln)) 32 - 1)
theorem zrk_all : (List.range 6).all (fun r => decide (zpc (2 ^ r - 1) = r)) = true := by decide +kernel
theorem zrk_pow (R : Nat → Nat) {rc : Nat} (ln : Nat) (hrc : rc ≤ 5) : zct (zim R rc (2 ^ ln)) 32 = 2 ^ zrk R rc ln ∧ zrk R rc ln ≤ 5 := by
  obtain ⟨r, hr⟩ := zrank_pow R hrc ln
  have h1 := zct_le (zim R rc (2 ^ ln)) 32
  have h2 : r ≤ 5 := by
    apply Nat.le_of_not_lt
    intro h
    have h3 : 2 ^ 6 ≤ 2 ^ r := Nat.pow_le_pow_right (by decide) h
    have h4 : (2 : Nat) ^ 6 = 64 := by decide
    omega
  have h5 : zrk R rc ln = r := by
    show zpc (zct (zim R rc (2 ^ ln)) 32 - 1) = r
    rw [hr]
    exact of_decide_eq_true (List.all_eq_true.mp zrk_all r (List.mem_range.mpr (by omega)))
  rw [h5]
  exact ⟨hr, h2⟩
/-- the distance among the first words; ln + 1: none -/
def zdm (R : Nat → Nat) (rc ln : Nat) : Nat → Nat
  | 0 => ln + 1
  | w + 1 => if 0 < w ∧ zpc w < zdm R rc ln w ∧ zsk R w rc = 0 then zpc w else zdm R rc ln w
theorem zdm_spec (R : Nat → Nat) (rc ln : Nat) : ∀ n, zdm R rc ln n ≤ ln + 1 ∧ (∀ w, 0 < w → w < n → zsk R w rc = 0 → zdm R rc ln n ≤ zpc w) ∧ (zdm R rc ln n ≤ ln → ∃ w, 0 < w ∧ w < n ∧ zsk R w rc = 0 ∧ zpc w = zdm R rc ln n) := by
  intro n
  induction n with
  | zero => exact ⟨Nat.le_refl _, fun w _ h => by omega, fun h => by have : zdm R rc ln 0 = ln + 1 := rfl; omega⟩
  | succ n ih =>
    obtain ⟨h1, h2, h3⟩ := ih
    have key : zdm R rc ln (n + 1) = if 0 < n ∧ zpc n < zdm R rc ln n ∧ zsk R n rc = 0 then zpc n else zdm R rc ln n := rfl
    rw [key]
    by_cases hc : 0 < n ∧ zpc n < zdm R rc ln n ∧ zsk R n rc = 0
    · rw [if_pos hc]
      refine ⟨by omega, fun w w0 wn ws => ?_, fun _ => ⟨n, hc.1, by omega, hc.2.2, rfl⟩⟩
      by_cases he : w = n
      · rw [he]; exact Nat.le_refl _
      · have := h2 w w0 (by omega) ws
        omega
    · rw [if_neg hc]
      refine ⟨h1, fun w w0 wn ws => ?_, fun h => ?_⟩
      · by_cases he : w = n
        · subst he
          have : ¬ zpc w < zdm R rc ln w := fun q => hc ⟨w0, q, ws⟩
          omega
        · exact h2 w w0 (by omega) ws
      · obtain ⟨w, a, b, c⟩ := h3 h
        exact ⟨w, a, by omega, c⟩
theorem zdm_congr {R S : Nat → Nat} {rc ln : Nat} (h : ∀ i, i < rc → R i = S i) : ∀ n, zdm R rc ln n = zdm S rc ln n := by
  intro n
  induction n with
  | zero => rfl
  | succ n ih =>
    show (if 0 < n ∧ zpc n < zdm R rc ln n ∧ zsk R n rc = 0 then zpc n else zdm R rc ln n) = (if 0 < n ∧ zpc n < zdm S rc ln n ∧ zsk S n rc = 0 then zpc n else zdm S rc ln n)
    rw [ih, zsk_congr h]
/-- half of a word's bits -/
def zhf (v t : Nat) : Nat → Nat
  | 0 => 0
  | k + 1 => if v / 2 ^ k % 2 = 1 ∧ zpc (zhf v t k) < t then zhf v t k + 2 ^ k else zhf v t k
theorem zhf_all : (List.range 1024).all (fun v => decide (zhf v ((zpc v + 1) / 2) 10 ≤ v ∧ zpc (zhf v ((zpc v + 1) / 2) 10) = (zpc v + 1) / 2 ∧ zpc (v ^^^ zhf v ((zpc v + 1) / 2) 10) = zpc v / 2)) = true := by decide +kernel
theorem zhalf {v : Nat} (h : v < 1024) : ∃ w, w ≤ v ∧ zpc w = (zpc v + 1) / 2 ∧ zpc (v ^^^ w) = zpc v / 2 := ⟨_, of_decide_eq_true (List.all_eq_true.mp zhf_all v (List.mem_range.mpr h))⟩
/-- how many of the first words are as near as w in its coset -/
def zsl (R : Nat → Nat) (rc w : Nat) : Nat → Nat
  | 0 => 0
  | v + 1 => zsl R rc w v + (if zsk R v rc = zsk R w rc ∧ v ≠ w ∧ zpc v ≤ zpc w then 1 else 0)
theorem zsl_le (R : Nat → Nat) (rc w n : Nat) : zsl R rc w n ≤ n := by
  induction n with
  | zero => exact Nat.le_refl 0
  | succ n ih =>
    show zsl R rc w n + (if zsk R n rc = zsk R w rc ∧ n ≠ w ∧ zpc n ≤ zpc w then 1 else 0) ≤ n + 1
    split <;> omega
theorem zsl_0 {R : Nat → Nat} {rc w : Nat} : ∀ {n : Nat}, zsl R rc w n = 0 ↔ ∀ v, v < n → ¬ (zsk R v rc = zsk R w rc ∧ v ≠ w ∧ zpc v ≤ zpc w) := by
  intro n
  induction n with
  | zero => exact ⟨fun _ v h => by omega, fun _ => rfl⟩
  | succ n ih =>
    have key : zsl R rc w (n + 1) = zsl R rc w n + (if zsk R n rc = zsk R w rc ∧ n ≠ w ∧ zpc n ≤ zpc w then 1 else 0) := rfl
    rw [key]
    constructor
    · intro h v hv
      by_cases he : v = n
      · subst he
        intro q
        rw [if_pos q] at h
        omega
      · exact ih.mp (by omega) v (by omega)
    · intro h
      rw [if_neg (h n (by omega)), ih.mpr (fun v hv => h v (by omega))]
/-- SURE, as the words are gone through -/
def zsr (R : Nat → Nat) (rc ln N : Nat) : Nat → Nat
  | 0 => ln
  | w + 1 => if zpc w ≤ zsr R rc ln N w ∧ zsl R rc w N ≠ 0 then zpc w - 1 else zsr R rc ln N w
theorem zsr_inv (R : Nat → Nat) (rc ln N : Nat) : ∀ n, zsr R rc ln N n ≤ ln ∧ (∀ w, w < n → zsl R rc w N ≠ 0 → zsr R rc ln N n ≤ zpc w - 1) ∧ (zsr R rc ln N n = ln ∨ ∃ w, w < n ∧ zsl R rc w N ≠ 0 ∧ zsr R rc ln N n = zpc w - 1) := by
  intro n
  induction n with
  | zero => exact ⟨Nat.le_refl _, fun w h => by omega, Or.inl rfl⟩
  | succ n ih =>
    obtain ⟨h1, h2, h3⟩ := ih
    have key : zsr R rc ln N (n + 1) = if zpc n ≤ zsr R rc ln N n ∧ zsl R rc n N ≠ 0 then zpc n - 1 else zsr R rc ln N n := rfl
    rw [key]
    by_cases hc : zpc n ≤ zsr R rc ln N n ∧ zsl R rc n N ≠ 0
    · rw [if_pos hc]
      refine ⟨by omega, fun w hw hn => ?_, Or.inr ⟨n, by omega, hc.2, rfl⟩⟩
      by_cases he : w = n
      · rw [he]; exact Nat.le_refl _
      · have := h2 w (by omega) hn
        omega
    · rw [if_neg hc]
      refine ⟨h1, fun w hw hn => ?_, h3.elim Or.inl (fun ⟨w, a, b⟩ => Or.inr ⟨w, by omega, b⟩)⟩
      by_cases he : w = n
      · subst he
        have : ¬ zpc w ≤ zsr R rc ln N w := fun q => hc ⟨q, hn⟩
        omega
      · exact h2 w (by omega) hn
theorem zsl_pos {R : Nat → Nat} {rc w ln : Nat} (hln : ln ≤ 10) (hw : w < 2 ^ ln) (h : zsl R rc w (2 ^ ln) ≠ 0) : ∃ v, v < 2 ^ ln ∧ zsk R v rc = zsk R w rc ∧ v ≠ w ∧ zpc v ≤ zpc w ∧ 0 < zpc w := by
  have hp := zpw hln
  apply Classical.byContradiction
  intro hn
  refine h (zsl_0.mpr (fun v hv q => hn ⟨v, hv, q.1, q.2.1, q.2.2, ?_⟩))
  apply Nat.pos_of_ne_zero
  intro h0
  have e1 := zpc0 (w := w) (by omega) h0
  have e2 := zpc0 (w := v) (by omega) (by omega)
  exact q.2.1 (by omega)
def zsu (ln d : Nat) : Nat := if ln < d then ln else (d - 1) / 2
theorem zsr_eq (R : Nat → Nat) {rc ln : Nat} (h3 : 3 ≤ ln) (hln : ln ≤ 10) : zsr R rc ln (2 ^ ln) (2 ^ ln) = zsu ln (zdm R rc ln (2 ^ ln)) := by
  have hp := zpw hln
  obtain ⟨a1, a2, a3⟩ := zsr_inv R rc ln (2 ^ ln) (2 ^ ln)
  obtain ⟨b1, b2, b3⟩ := zdm_spec R rc ln (2 ^ ln)
  -- two of one coset
  have near : ∀ w, w < 2 ^ ln → zsl R rc w (2 ^ ln) ≠ 0 → zdm R rc ln (2 ^ ln) ≤ 2 * zpc w ∧ 0 < zpc w := by
    intro w hw hn
    obtain ⟨v, hv, e1, e2, e3, e4⟩ := zsl_pos hln hw hn
    refine ⟨?_, e4⟩
    have h1 := b2 (v ^^^ w) (Nat.pos_of_ne_zero (fun q => e2 (zxor_0 q))) (Nat.xor_lt_two_pow hv hw) (zsk_eq.mp e1)
    have h2 := zpk_xor_le v w 10
    have h4 : zpc (v ^^^ w) ≤ zpc v + zpc w := h2
    omega
  unfold zsu
  by_cases hd : ln < zdm R rc ln (2 ^ ln)
  · rw [if_pos hd]
    rcases a3 with h | ⟨w, hw, hn, he⟩
    · exact h
    · exfalso
      have h1 := near w hw hn
      obtain ⟨v, hv, e1, e2, e3, e4⟩ := zsl_pos hln hw hn
      have h2 := b2 (v ^^^ w) (Nat.pos_of_ne_zero (fun q => e2 (zxor_0 q))) (Nat.xor_lt_two_pow hv hw) (zsk_eq.mp e1)
      have h5 : zpc (v ^^^ w) ≤ ln := zpk_hi (Nat.xor_lt_two_pow hv hw) 10
      omega
  · rw [if_neg hd]
    obtain ⟨v, v0, hv, vs, ve⟩ := b3 (by omega)
    obtain ⟨w, wv, w1, w2⟩ := zhalf (v := v) (by omega)
    have hn : zsl R rc w (2 ^ ln) ≠ 0 := by
      intro q
      refine zsl_0.mp q (v ^^^ w) (Nat.xor_lt_two_pow hv (by omega)) ⟨?_, ?_, by omega⟩
      · rw [zsk_xor, vs, Nat.zero_xor]
      · intro e
        have e9 : v = 0 := by
          have e8 : (v ^^^ w) ^^^ w = w ^^^ w := by rw [e]
          rw [Nat.xor_assoc, Nat.xor_self, Nat.xor_zero] at e8
          exact e8
        omega
    have h1 := a2 w (by omega) hn
    rcases a3 with h | ⟨u, hu, hun, he⟩
    · have h6 : zpc v ≤ ln := zpk_hi hv 10
      have h7 := near w (by omega) hn
      omega
    · have h8 := near u hu hun
      omega
/-- RADIUS: by syndromes; by words -/
def zrad (Lf : Nat → Option Nat) : Nat → Nat
  | 0 => 0
  | s + 1 => match Lf s with
    | none => zrad Lf s
    | some v => if zrad Lf s < zpc v then zpc v else zrad Lf s
theorem zrad_none {Lf : Nat → Option Nat} {s : Nat} (h : Lf s = none) : zrad Lf (s + 1) = zrad Lf s := by
  show (match Lf s with | none => zrad Lf s | some v => if zrad Lf s < zpc v then zpc v else zrad Lf s) = _
  rw [h]
theorem zrad_some {Lf : Nat → Option Nat} {s v : Nat} (h : Lf s = some v) : zrad Lf (s + 1) = if zrad Lf s < zpc v then zpc v else zrad Lf s := by
  show (match Lf s with | none => zrad Lf s | some v => if zrad Lf s < zpc v then zpc v else zrad Lf s) = _
  rw [h]
theorem zrad_spec (Lf : Nat → Option Nat) : ∀ n, zrad Lf n ≤ 10 ∧ (∀ s v, s < n → Lf s = some v → zpc v ≤ zrad Lf n) ∧ (zrad Lf n = 0 ∨ ∃ s v, s < n ∧ Lf s = some v ∧ zpc v = zrad Lf n) := by
  intro n
  induction n with
  | zero => exact ⟨Nat.zero_le _, fun s v h => by omega, Or.inl rfl⟩
  | succ n ih =>
    obtain ⟨h0, h1, h2⟩ := ih
    cases hL : Lf n with
    | none =>
      rw [zrad_none hL]
      refine ⟨h0, fun s v hs hv => ?_, h2.elim Or.inl (fun ⟨s, v, a, b⟩ => Or.inr ⟨s, v, by omega, b⟩)⟩
      by_cases he : s = n
      · subst he; rw [hL] at hv; cases hv
      · exact h1 s v (by omega) hv
    | some u =>
      rw [zrad_some hL]
      have hu := zpc_le u
      by_cases hc : zrad Lf n < zpc u
      · rw [if_pos hc]
        refine ⟨hu, fun s v hs hv => ?_, Or.inr ⟨n, u, by omega, hL, rfl⟩⟩
        by_cases he : s = n
        · subst he; rw [hL] at hv; cases hv; exact Nat.le_refl _
        · have := h1 s v (by omega) hv
          omega
      · rw [if_neg hc]
        refine ⟨h0, fun s v hs hv => ?_, h2.elim Or.inl (fun ⟨s, v, a, b⟩ => Or.inr ⟨s, v, by omega, b⟩)⟩
        by_cases he : s = n
        · subst he; rw [hL] at hv; cases hv; omega
        · exact h1 s v (by omega) hv
def zrw (R : Nat → Nat) (rc N : Nat) : Nat → Nat
  | 0 => 0
  | w + 1 => if zld R rc N (zsk R w rc) = some w ∧ zrw R rc N w < zpc w then zpc w else zrw R rc N w
theorem zrw_spec (R : Nat → Nat) (rc N : Nat) : ∀ n, zrw R rc N n ≤ 10 ∧ (∀ w, w < n → zld R rc N (zsk R w rc) = some w → zpc w ≤ zrw R rc N n) ∧ (zrw R rc N n = 0 ∨ ∃ w, w < n ∧ zld R rc N (zsk R w rc) = some w ∧ zpc w = zrw R rc N n) := by
  intro n
  induction n with
  | zero => exact ⟨Nat.zero_le _, fun w h => by omega, Or.inl rfl⟩
  | succ n ih =>
    obtain ⟨h0, h1, h2⟩ := ih
    have key : zrw R rc N (n + 1) = if zld R rc N (zsk R n rc) = some n ∧ zrw R rc N n < zpc n then zpc n else zrw R rc N n := rfl
    rw [key]
    have hu := zpc_le n
    by_cases hc : zld R rc N (zsk R n rc) = some n ∧ zrw R rc N n < zpc n
    · rw [if_pos hc]
      refine ⟨hu, fun w hw he => ?_, Or.inr ⟨n, by omega, hc.1, rfl⟩⟩
      by_cases hwn : w = n
      · rw [hwn]; exact Nat.le_refl _
      · have := h1 w (by omega) he
        omega
    · rw [if_neg hc]
      refine ⟨h0, fun w hw he => ?_, h2.elim Or.inl (fun ⟨w, a, b⟩ => Or.inr ⟨w, by omega, b⟩)⟩
      by_cases hwn : w = n
      · subst hwn
        have : ¬ zrw R rc N w < zpc w := fun q => hc ⟨he, q⟩
        omega
      · exact h1 w (by omega) he
theorem zrw_eq (R : Nat → Nat) {rc N : Nat} (hrc : rc ≤ 5) : zrw R rc N N = zrad (zld R rc N) 32 := by
  obtain ⟨a0, a1, a2⟩ := zrw_spec R rc N N
  obtain ⟨b0, b1, b2⟩ := zrad_spec (zld R rc N) 32
  apply Nat.le_antisymm
  · rcases a2 with h | ⟨w, hw, he, hq⟩
    · omega
    · have := b1 (zsk R w rc) w (Nat.lt_of_lt_of_le (zsk_lt _ _ _) (zpw5 hrc)) he
      omega
  · rcases b2 with h | ⟨s, v, hs, he, hq⟩
    · omega
    · obtain ⟨c1, c2⟩ := zld_some he
      have := a1 v c1 (by rw [c2]; exact he)
      omega
/-- how many leaders have a weight -/
def zhw (Lf : Nat → Option Nat) (wt : Nat) : Nat → Bool := fun s => match Lf s with
  | none => false
  | some v => decide (zpc v = wt)
theorem zhw_none {Lf : Nat → Option Nat} {wt s : Nat} (h : Lf s = none) : zhw Lf wt s = false := by
  show (match Lf s with | none => false | some v => decide (zpc v = wt)) = _
  rw [h]
theorem zhw_some {Lf : Nat → Option Nat} {wt s v : Nat} (h : Lf s = some v) : zhw Lf wt s = decide (zpc v = wt) := by
  show (match Lf s with | none => false | some v => decide (zpc v = wt)) = _
  rw [h]
end
section
/-! the class Sums: its small methods -/
theorem wJ6_bitCount_0f7a4_0 : Cond.constant RJ6 265 (1431655765) ∈ wsJ6_bitCount_0f7a4 := by decide +kernel
theorem wJ6_bitCount_0f7a4_1 : Cond.constant RJ6 266 (858993459) ∈ wsJ6_bitCount_0f7a4 := by decide +kernel
theorem wJ6_bitCount_0f7a4_2 : Cond.constant RJ6 267 (252645135) ∈ wsJ6_bitCount_0f7a4 := by decide +kernel
set_option maxHeartbeats 1000000 in
set_option maxRecDepth 100000 in
/-- Integer.bitCount of a word -/
theorem c_J6_bitCount_0f7a4 (l : Launch) (D : va_G) (cI : ClassId) (w : Nat) (hw : w < 1024) : zMr l D cI yJ6_bitCount_0f7a4 wsJ6_bitCount_0f7a4 { frames := 0, cells := 0, slots := 0, locals := 0 } [.int (nI w)] [] (nI (zpc w)) := by
  refine zr_ent (maxL := 1) (by decide) rfl (Nat.le_of_ble_eq_true rfl) (fun X C E => ?_)
  have C : zC X l D cI { frames := 0, cells := 0, slots := 0, locals := 0 } 1 false cJ6_bitCount_0f7a4 RJ6 wsJ6_bitCount_0f7a4 := C
  refine zg_cv (lv' := [(0, .int (nI w))]) rfl rfl rfl ?_
  refine zg_iload_n C 0 dJ6_bitCount_0f7a4_0 rfl ?_
  refine zg_iload_n C 0 dJ6_bitCount_0f7a4_1 rfl ?_
  refine zg_iconst (v := nI 1) C dJ6_bitCount_0f7a4_2 (by decide) ?_
  refine zg_iushr C dJ6_bitCount_0f7a4_3 (((nI w).toUInt32 >>> ((nI 1).toUInt32 &&& Int32.toUInt32 31)).toInt32) (rfl) ?_
  refine zg_ldcw C dJ6_bitCount_0f7a4_4 wJ6_bitCount_0f7a4_0 ?_
  refine zg_iand C dJ6_bitCount_0f7a4_7 ((((nI w).toUInt32 >>> ((nI 1).toUInt32 &&& Int32.toUInt32 31)).toInt32) &&& (1431655765)) (rfl) ?_
  refine zg_isub C dJ6_bitCount_0f7a4_8 (zc1 (nI w)) (rfl) ?_
  refine zg_istore_n C [0] (lv' := [(0, .int (zc1 (nI w)))]) dJ6_bitCount_0f7a4_9 (by decide) rfl ?_
  refine zg_iload_n C 0 dJ6_bitCount_0f7a4_10 rfl ?_
  refine zg_ldcw C dJ6_bitCount_0f7a4_11 wJ6_bitCount_0f7a4_1 ?_
  refine zg_iand C dJ6_bitCount_0f7a4_14 ((zc1 (nI w)) &&& (858993459)) (rfl) ?_
  refine zg_iload_n C 0 dJ6_bitCount_0f7a4_15 rfl ?_
  refine zg_iconst (v := nI 2) C dJ6_bitCount_0f7a4_16 (by decide) ?_
  refine zg_iushr C dJ6_bitCount_0f7a4_17 (((zc1 (nI w)).toUInt32 >>> ((nI 2).toUInt32 &&& Int32.toUInt32 31)).toInt32) (rfl) ?_
  refine zg_ldcw C dJ6_bitCount_0f7a4_18 wJ6_bitCount_0f7a4_1 ?_
  refine zg_iand C dJ6_bitCount_0f7a4_21 ((((zc1 (nI w)).toUInt32 >>> ((nI 2).toUInt32 &&& Int32.toUInt32 31)).toInt32) &&& (858993459)) (rfl) ?_
  refine zg_iadd C dJ6_bitCount_0f7a4_22 (zc2 (zc1 (nI w))) (rfl) ?_
  refine zg_istore_n C [0] (lv' := [(0, .int (zc2 (zc1 (nI w))))]) dJ6_bitCount_0f7a4_23 (by decide) rfl ?_
  refine zg_iload_n C 0 dJ6_bitCount_0f7a4_24 rfl ?_
  refine zg_iload_n C 0 dJ6_bitCount_0f7a4_25 rfl ?_
  refine zg_iconst (v := nI 4) C dJ6_bitCount_0f7a4_26 (by decide) ?_
  refine zg_iushr C dJ6_bitCount_0f7a4_27 (((zc2 (zc1 (nI w))).toUInt32 >>> ((nI 4).toUInt32 &&& Int32.toUInt32 31)).toInt32) (rfl) ?_
  refine zg_iadd C dJ6_bitCount_0f7a4_28 ((zc2 (zc1 (nI w))) + (((zc2 (zc1 (nI w))).toUInt32 >>> ((nI 4).toUInt32 &&& Int32.toUInt32 31)).toInt32)) (rfl) ?_
  refine zg_ldcw C dJ6_bitCount_0f7a4_29 wJ6_bitCount_0f7a4_2 ?_
  refine zg_iand C dJ6_bitCount_0f7a4_32 (zc3 (zc2 (zc1 (nI w)))) (rfl) ?_
  refine zg_istore_n C [0] (lv' := [(0, .int (zc3 (zc2 (zc1 (nI w)))))]) dJ6_bitCount_0f7a4_33 (by decide) rfl ?_
  refine zg_iload_n C 0 dJ6_bitCount_0f7a4_34 rfl ?_
  refine zg_iload_n C 0 dJ6_bitCount_0f7a4_35 rfl ?_
  refine zg_bipush (v := nI 8) C dJ6_bitCount_0f7a4_36 (by decide) ?_
  refine zg_iushr C dJ6_bitCount_0f7a4_38 (((zc3 (zc2 (zc1 (nI w)))).toUInt32 >>> ((nI 8).toUInt32 &&& Int32.toUInt32 31)).toInt32) (rfl) ?_
  refine zg_iadd C dJ6_bitCount_0f7a4_39 (zc4 (zc3 (zc2 (zc1 (nI w))))) (rfl) ?_
  refine zg_istore_n C [0] (lv' := [(0, .int (zc4 (zc3 (zc2 (zc1 (nI w))))))]) dJ6_bitCount_0f7a4_40 (by decide) rfl ?_
  refine zg_iload_n C 0 dJ6_bitCount_0f7a4_41 rfl ?_
  refine zg_iload_n C 0 dJ6_bitCount_0f7a4_42 rfl ?_
  refine zg_bipush (v := nI 16) C dJ6_bitCount_0f7a4_43 (by decide) ?_
  refine zg_iushr C dJ6_bitCount_0f7a4_45 (((zc4 (zc3 (zc2 (zc1 (nI w))))).toUInt32 >>> ((nI 16).toUInt32 &&& Int32.toUInt32 31)).toInt32) (rfl) ?_
  refine zg_iadd C dJ6_bitCount_0f7a4_46 (zc5 (zc4 (zc3 (zc2 (zc1 (nI w)))))) (rfl) ?_
  refine zg_istore_n C [0] (lv' := [(0, .int (zc5 (zc4 (zc3 (zc2 (zc1 (nI w)))))))]) dJ6_bitCount_0f7a4_47 (by decide) rfl ?_
  refine zg_iload_n C 0 dJ6_bitCount_0f7a4_48 rfl ?_
  refine zg_bipush (v := nI 63) C dJ6_bitCount_0f7a4_49 (by decide) ?_
  refine zg_iand C dJ6_bitCount_0f7a4_51 (zc6 (zc5 (zc4 (zc3 (zc2 (zc1 (nI w))))))) (rfl) ?_
  exact zg_iret C E dJ6_bitCount_0f7a4_52 (zbc hw)
theorem uX3_words_3 : ∀ w ∈ u_ws RX3 TX3 9, w ∈ wsX3_words := fun w h => List.mem_cons_of_mem _ (List.mem_append_right _ h)
theorem fX3_words_3_4 : Cond.fieldLink RX3 25 (TX3 4).1 (TX3 4).2.1 (TX3 4).2.2.1 ∈ wsX3_words := by decide +kernel
set_option maxHeartbeats 1000000 in
set_option maxRecDepth 100000 in
theorem c_X3_words (l : Launch) (D : va_G) (cI : ClassId) (h0 a0 a1 a2 : Nat) (Rf Lf Wf : Nat → Int32) (rc ln rk ds su rd : Nat) (hln : ln ≤ 10) : zMr l D cI yX3_words wsX3_words { frames := 0, cells := 0, slots := 0, locals := 0 } [.ref h0] [(h0, .inr (3, [.ref a0, .ref a1, .ref a2, .int (nI rc), .int (nI ln), .int (nI rk), .int (nI ds), .int (nI su), .int (nI rd)])), (a0, .inl (cI, 5, .inl Rf)), (a1, .inl (cI, 32, .inl Lf)), (a2, .inl (cI, 11, .inl Wf))] (nI (2 ^ ln)) := by
  refine zr_ent (maxL := 1) (by decide) rfl (Nat.le_of_ble_eq_true rfl) (fun X C E => ?_)
  have C : zC X l D cI { frames := 0, cells := 0, slots := 0, locals := 0 } 1 false cX3_words RX3 wsX3_words := C
  refine zg_cv (lv' := [(0, .ref h0)]) rfl rfl rfl ?_
  refine zg_iconst (v := nI 1) C dX3_words_0 (by decide) ?_
  refine zg_aload_n C 0 dX3_words_1 rfl ?_
  refine zg_get C 0 (ci := 3) (f := 4) rfl rfl uX3_words_3 (by decide) fX3_words_3_4 dX3_words_2 rfl ?_
  refine zg_ishl C dX3_words_5 (nI (2 ^ ln)) (zi_shl1 (by omega)) ?_
  exact zg_iret C E dX3_words_6 (rfl)
theorem uX3_syndromes_3 : ∀ w ∈ u_ws RX3 TX3 9, w ∈ wsX3_syndromes := fun w h => List.mem_cons_of_mem _ (List.mem_append_right _ h)
theorem fX3_syndromes_3_3 : Cond.fieldLink RX3 21 (TX3 3).1 (TX3 3).2.1 (TX3 3).2.2.1 ∈ wsX3_syndromes := by decide +kernel
set_option maxHeartbeats 1000000 in
set_option maxRecDepth 100000 in
theorem c_X3_syndromes (l : Launch) (D : va_G) (cI : ClassId) (h0 a0 a1 a2 : Nat) (Rf Lf Wf : Nat → Int32) (rc ln rk ds su rd : Nat) (hrc : rc ≤ 5) : zMr l D cI yX3_syndromes wsX3_syndromes { frames := 0, cells := 0, slots := 0, locals := 0 } [.ref h0] [(h0, .inr (3, [.ref a0, .ref a1, .ref a2, .int (nI rc), .int (nI ln), .int (nI rk), .int (nI ds), .int (nI su), .int (nI rd)])), (a0, .inl (cI, 5, .inl Rf)), (a1, .inl (cI, 32, .inl Lf)), (a2, .inl (cI, 11, .inl Wf))] (nI (2 ^ rc)) := by
  refine zr_ent (maxL := 1) (by decide) rfl (Nat.le_of_ble_eq_true rfl) (fun X C E => ?_)
  have C : zC X l D cI { frames := 0, cells := 0, slots := 0, locals := 0 } 1 false cX3_syndromes RX3 wsX3_syndromes := C
  refine zg_cv (lv' := [(0, .ref h0)]) rfl rfl rfl ?_
  refine zg_iconst (v := nI 1) C dX3_syndromes_0 (by decide) ?_
  refine zg_aload_n C 0 dX3_syndromes_1 rfl ?_
  refine zg_get C 0 (ci := 3) (f := 3) rfl rfl uX3_syndromes_3 (by decide) fX3_syndromes_3_3 dX3_syndromes_2 rfl ?_
  refine zg_ishl C dX3_syndromes_5 (nI (2 ^ rc)) (zi_shl1 (by omega)) ?_
  exact zg_iret C E dX3_syndromes_6 (rfl)
theorem uX3_length_3 : ∀ w ∈ u_ws RX3 TX3 9, w ∈ wsX3_length := fun w h => List.mem_cons_of_mem _ (List.mem_append_right _ h)
theorem fX3_length_3_4 : Cond.fieldLink RX3 25 (TX3 4).1 (TX3 4).2.1 (TX3 4).2.2.1 ∈ wsX3_length := by decide +kernel
set_option maxHeartbeats 1000000 in
set_option maxRecDepth 100000 in
theorem c_X3_length (l : Launch) (D : va_G) (cI : ClassId) (h0 a0 a1 a2 : Nat) (Rf Lf Wf : Nat → Int32) (rc ln rk ds su rd : Nat) : zMr l D cI yX3_length wsX3_length { frames := 0, cells := 0, slots := 0, locals := 0 } [.ref h0] [(h0, .inr (3, [.ref a0, .ref a1, .ref a2, .int (nI rc), .int (nI ln), .int (nI rk), .int (nI ds), .int (nI su), .int (nI rd)])), (a0, .inl (cI, 5, .inl Rf)), (a1, .inl (cI, 32, .inl Lf)), (a2, .inl (cI, 11, .inl Wf))] (nI ln) := by
  refine zr_ent (maxL := 1) (by decide) rfl (Nat.le_of_ble_eq_true rfl) (fun X C E => ?_)
  have C : zC X l D cI { frames := 0, cells := 0, slots := 0, locals := 0 } 1 false cX3_length RX3 wsX3_length := C
  refine zg_cv (lv' := [(0, .ref h0)]) rfl rfl rfl ?_
  refine zg_aload_n C 0 dX3_length_0 rfl ?_
  refine zg_get C 0 (ci := 3) (f := 4) rfl rfl uX3_length_3 (by decide) fX3_length_3_4 dX3_length_1 rfl ?_
  exact zg_iret C E dX3_length_4 (rfl)
theorem uX3_rowCount_3 : ∀ w ∈ u_ws RX3 TX3 9, w ∈ wsX3_rowCount := fun w h => List.mem_cons_of_mem _ (List.mem_append_right _ h)
theorem fX3_rowCount_3_3 : Cond.fieldLink RX3 21 (TX3 3).1 (TX3 3).2.1 (TX3 3).2.2.1 ∈ wsX3_rowCount := by decide +kernel
set_option maxHeartbeats 1000000 in
set_option maxRecDepth 100000 in
theorem c_X3_rowCount (l : Launch) (D : va_G) (cI : ClassId) (h0 a0 a1 a2 : Nat) (Rf Lf Wf : Nat → Int32) (rc ln rk ds su rd : Nat) : zMr l D cI yX3_rowCount wsX3_rowCount { frames := 0, cells := 0, slots := 0, locals := 0 } [.ref h0] [(h0, .inr (3, [.ref a0, .ref a1, .ref a2, .int (nI rc), .int (nI ln), .int (nI rk), .int (nI ds), .int (nI su), .int (nI rd)])), (a0, .inl (cI, 5, .inl Rf)), (a1, .inl (cI, 32, .inl Lf)), (a2, .inl (cI, 11, .inl Wf))] (nI rc) := by
  refine zr_ent (maxL := 1) (by decide) rfl (Nat.le_of_ble_eq_true rfl) (fun X C E => ?_)
  have C : zC X l D cI { frames := 0, cells := 0, slots := 0, locals := 0 } 1 false cX3_rowCount RX3 wsX3_rowCount := C
  refine zg_cv (lv' := [(0, .ref h0)]) rfl rfl rfl ?_
  refine zg_aload_n C 0 dX3_rowCount_0 rfl ?_
  refine zg_get C 0 (ci := 3) (f := 3) rfl rfl uX3_rowCount_3 (by decide) fX3_rowCount_3_3 dX3_rowCount_1 rfl ?_
  exact zg_iret C E dX3_rowCount_4 (rfl)
theorem uX3_rank_3 : ∀ w ∈ u_ws RX3 TX3 9, w ∈ wsX3_rank := fun w h => List.mem_cons_of_mem _ (List.mem_append_right _ h)
theorem fX3_rank_3_5 : Cond.fieldLink RX3 28 (TX3 5).1 (TX3 5).2.1 (TX3 5).2.2.1 ∈ wsX3_rank := by decide +kernel
set_option maxHeartbeats 1000000 in
set_option maxRecDepth 100000 in
theorem c_X3_rank (l : Launch) (D : va_G) (cI : ClassId) (h0 a0 a1 a2 : Nat) (Rf Lf Wf : Nat → Int32) (rc ln rk ds su rd : Nat) : zMr l D cI yX3_rank wsX3_rank { frames := 0, cells := 0, slots := 0, locals := 0 } [.ref h0] [(h0, .inr (3, [.ref a0, .ref a1, .ref a2, .int (nI rc), .int (nI ln), .int (nI rk), .int (nI ds), .int (nI su), .int (nI rd)])), (a0, .inl (cI, 5, .inl Rf)), (a1, .inl (cI, 32, .inl Lf)), (a2, .inl (cI, 11, .inl Wf))] (nI rk) := by
  refine zr_ent (maxL := 1) (by decide) rfl (Nat.le_of_ble_eq_true rfl) (fun X C E => ?_)
  have C : zC X l D cI { frames := 0, cells := 0, slots := 0, locals := 0 } 1 false cX3_rank RX3 wsX3_rank := C
  refine zg_cv (lv' := [(0, .ref h0)]) rfl rfl rfl ?_
  refine zg_aload_n C 0 dX3_rank_0 rfl ?_
  refine zg_get C 0 (ci := 3) (f := 5) rfl rfl uX3_rank_3 (by decide) fX3_rank_3_5 dX3_rank_1 rfl ?_
  exact zg_iret C E dX3_rank_4 (rfl)
theorem uX3_sure_3 : ∀ w ∈ u_ws RX3 TX3 9, w ∈ wsX3_sure := fun w h => List.mem_cons_of_mem _ (List.mem_append_right _ h)
theorem fX3_sure_3_7 : Cond.fieldLink RX3 34 (TX3 7).1 (TX3 7).2.1 (TX3 7).2.2.1 ∈ wsX3_sure := by decide +kernel
set_option maxHeartbeats 1000000 in
set_option maxRecDepth 100000 in
theorem c_X3_sure (l : Launch) (D : va_G) (cI : ClassId) (h0 a0 a1 a2 : Nat) (Rf Lf Wf : Nat → Int32) (rc ln rk ds su rd : Nat) : zMr l D cI yX3_sure wsX3_sure { frames := 0, cells := 0, slots := 0, locals := 0 } [.ref h0] [(h0, .inr (3, [.ref a0, .ref a1, .ref a2, .int (nI rc), .int (nI ln), .int (nI rk), .int (nI ds), .int (nI su), .int (nI rd)])), (a0, .inl (cI, 5, .inl Rf)), (a1, .inl (cI, 32, .inl Lf)), (a2, .inl (cI, 11, .inl Wf))] (nI su) := by
  refine zr_ent (maxL := 1) (by decide) rfl (Nat.le_of_ble_eq_true rfl) (fun X C E => ?_)
  have C : zC X l D cI { frames := 0, cells := 0, slots := 0, locals := 0 } 1 false cX3_sure RX3 wsX3_sure := C
  refine zg_cv (lv' := [(0, .ref h0)]) rfl rfl rfl ?_
  refine zg_aload_n C 0 dX3_sure_0 rfl ?_
  refine zg_get C 0 (ci := 3) (f := 7) rfl rfl uX3_sure_3 (by decide) fX3_sure_3_7 dX3_sure_1 rfl ?_
  exact zg_iret C E dX3_sure_4 (rfl)
theorem uX3_radius_3 : ∀ w ∈ u_ws RX3 TX3 9, w ∈ wsX3_radius := fun w h => List.mem_cons_of_mem _ (List.mem_append_right _ h)
theorem fX3_radius_3_8 : Cond.fieldLink RX3 37 (TX3 8).1 (TX3 8).2.1 (TX3 8).2.2.1 ∈ wsX3_radius := by decide +kernel
set_option maxHeartbeats 1000000 in
set_option maxRecDepth 100000 in
theorem c_X3_radius (l : Launch) (D : va_G) (cI : ClassId) (h0 a0 a1 a2 : Nat) (Rf Lf Wf : Nat → Int32) (rc ln rk ds su rd : Nat) : zMr l D cI yX3_radius wsX3_radius { frames := 0, cells := 0, slots := 0, locals := 0 } [.ref h0] [(h0, .inr (3, [.ref a0, .ref a1, .ref a2, .int (nI rc), .int (nI ln), .int (nI rk), .int (nI ds), .int (nI su), .int (nI rd)])), (a0, .inl (cI, 5, .inl Rf)), (a1, .inl (cI, 32, .inl Lf)), (a2, .inl (cI, 11, .inl Wf))] (nI rd) := by
  refine zr_ent (maxL := 1) (by decide) rfl (Nat.le_of_ble_eq_true rfl) (fun X C E => ?_)
  have C : zC X l D cI { frames := 0, cells := 0, slots := 0, locals := 0 } 1 false cX3_radius RX3 wsX3_radius := C
  refine zg_cv (lv' := [(0, .ref h0)]) rfl rfl rfl ?_
  refine zg_aload_n C 0 dX3_radius_0 rfl ?_
  refine zg_get C 0 (ci := 3) (f := 8) rfl rfl uX3_radius_3 (by decide) fX3_radius_3_8 dX3_radius_1 rfl ?_
  exact zg_iret C E dX3_radius_4 (rfl)
theorem uX3_areThere_3 : ∀ w ∈ u_ws RX3 TX3 9, w ∈ wsX3_areThere := fun w h => List.mem_cons_of_mem _ (List.mem_append_right _ h)
theorem fX3_areThere_3_4 : Cond.fieldLink RX3 25 (TX3 4).1 (TX3 4).2.1 (TX3 4).2.2.1 ∈ wsX3_areThere := by decide +kernel
set_option maxHeartbeats 1000000 in
set_option maxRecDepth 100000 in
theorem c_X3_areThere (l : Launch) (D : va_G) (cI : ClassId) (h0 a0 a1 a2 : Nat) (Rf Lf Wf : Nat → Int32) (rc ln rk ds su rd : Nat) (hln : ln ≤ 10) : zMr l D cI yX3_areThere wsX3_areThere { frames := 0, cells := 0, slots := 0, locals := 0 } [.ref h0] [(h0, .inr (3, [.ref a0, .ref a1, .ref a2, .int (nI rc), .int (nI ln), .int (nI rk), .int (nI ds), .int (nI su), .int (nI rd)])), (a0, .inl (cI, 5, .inl Rf)), (a1, .inl (cI, 32, .inl Lf)), (a2, .inl (cI, 11, .inl Wf))] (zb (decide (0 < ln))) := by
  refine zr_ent (maxL := 1) (by decide) rfl (Nat.le_of_ble_eq_true rfl) (fun X C E => ?_)
  have C : zC X l D cI { frames := 0, cells := 0, slots := 0, locals := 0 } 1 false cX3_areThere RX3 wsX3_areThere := C
  refine zg_cv (lv' := [(0, .ref h0)]) rfl rfl rfl ?_
  refine zg_aload_n C 0 dX3_areThere_0 rfl ?_
  refine zg_get C 0 (ci := 3) (f := 4) rfl rfl uX3_areThere_3 (by decide) fX3_areThere_3_4 dX3_areThere_1 rfl ?_
  refine zn_if_le C 11 (by omega) dX3_areThere_4 (by decide) (fun c_4 => ?_) (fun c_4 => ?_)
  · skip
    refine zg_iconst (v := nI 0) C dX3_areThere_11 (by decide) ?_
    exact zg_zret C E dX3_areThere_12 (zbf (by omega))
  · skip
    refine zg_iconst (v := nI 1) C dX3_areThere_7 (by decide) ?_
    refine zg_goto C 12 dX3_areThere_8 (by decide) ?_
    exact zg_zret C E dX3_areThere_12 (zbt c_4)
def zdn (ln d : Nat) : Int32 := if ln < d then -1001 else nI d
theorem uX3_distanceOrNone_3 : ∀ w ∈ u_ws RX3 TX3 9, w ∈ wsX3_distanceOrNone := fun w h => List.mem_cons_of_mem _ (List.mem_append_right _ h)
theorem fX3_distanceOrNone_3_6 : Cond.fieldLink RX3 31 (TX3 6).1 (TX3 6).2.1 (TX3 6).2.2.1 ∈ wsX3_distanceOrNone := by decide +kernel
theorem fX3_distanceOrNone_3_4 : Cond.fieldLink RX3 25 (TX3 4).1 (TX3 4).2.1 (TX3 4).2.2.1 ∈ wsX3_distanceOrNone := by decide +kernel
set_option maxHeartbeats 1000000 in
set_option maxRecDepth 100000 in
theorem c_X3_distanceOrNone (l : Launch) (D : va_G) (cI : ClassId) (h0 a0 a1 a2 : Nat) (Rf Lf Wf : Nat → Int32) (rc ln rk ds su rd : Nat) (hln : ln ≤ 10) (hds : ds ≤ ln + 1) : zMr l D cI yX3_distanceOrNone wsX3_distanceOrNone { frames := 0, cells := 0, slots := 0, locals := 0 } [.ref h0] [(h0, .inr (3, [.ref a0, .ref a1, .ref a2, .int (nI rc), .int (nI ln), .int (nI rk), .int (nI ds), .int (nI su), .int (nI rd)])), (a0, .inl (cI, 5, .inl Rf)), (a1, .inl (cI, 32, .inl Lf)), (a2, .inl (cI, 11, .inl Wf))] (zdn ln ds) := by
  refine zr_ent (maxL := 1) (by decide) rfl (Nat.le_of_ble_eq_true rfl) (fun X C E => ?_)
  have C : zC X l D cI { frames := 0, cells := 0, slots := 0, locals := 0 } 1 false cX3_distanceOrNone RX3 wsX3_distanceOrNone := C
  refine zg_cv (lv' := [(0, .ref h0)]) rfl rfl rfl ?_
  refine zg_aload_n C 0 dX3_distanceOrNone_0 rfl ?_
  refine zg_get C 0 (ci := 3) (f := 6) rfl rfl uX3_distanceOrNone_3 (by decide) fX3_distanceOrNone_3_6 dX3_distanceOrNone_1 rfl ?_
  refine zg_aload_n C 0 dX3_distanceOrNone_4 rfl ?_
  refine zg_get C 0 (ci := 3) (f := 4) rfl rfl uX3_distanceOrNone_3 (by decide) fX3_distanceOrNone_3_4 dX3_distanceOrNone_5 rfl ?_
  refine zn_icmp_le C 17 (by omega) (by omega) dX3_distanceOrNone_8 (by decide) (fun c_8 => ?_) (fun c_8 => ?_)
  · skip
    refine zg_aload_n C 0 dX3_distanceOrNone_17 rfl ?_
    refine zg_get C 0 (ci := 3) (f := 6) rfl rfl uX3_distanceOrNone_3 (by decide) fX3_distanceOrNone_3_6 dX3_distanceOrNone_18 rfl ?_
    exact zg_iret C E dX3_distanceOrNone_21 (by rw [zdn, if_neg (by omega)])
  · skip
    refine zg_sipush (v := (-1001)) C dX3_distanceOrNone_11 (by decide) ?_
    refine zg_goto C 21 dX3_distanceOrNone_14 (by decide) ?_
    exact zg_iret C E dX3_distanceOrNone_21 (by rw [zdn, if_pos c_8])
theorem uX3_isRow_3 : ∀ w ∈ u_ws RX3 TX3 9, w ∈ wsX3_isRow := fun w h => List.mem_cons_of_mem _ (List.mem_append_right _ h)
theorem fX3_isRow_3_3 : Cond.fieldLink RX3 21 (TX3 3).1 (TX3 3).2.1 (TX3 3).2.2.1 ∈ wsX3_isRow := by decide +kernel
theorem fX3_isRow_3_0 : Cond.fieldLink RX3 9 (TX3 0).1 (TX3 0).2.1 (TX3 0).2.2.1 ∈ wsX3_isRow := by decide +kernel
set_option maxHeartbeats 1000000 in
set_option maxRecDepth 100000 in
theorem c_X3_isRow (l : Launch) (D : va_G) (cI : ClassId) (h0 a0 a1 a2 : Nat) (Rf Lf Wf : Nat → Int32) (rc ln rk ds su rd : Nat) (x : Int32) (hrc : rc ≤ 5) : zMr l D cI yX3_isRow wsX3_isRow { frames := 0, cells := 0, slots := 0, locals := 0 } [.ref h0, .int x] [(h0, .inr (3, [.ref a0, .ref a1, .ref a2, .int (nI rc), .int (nI ln), .int (nI rk), .int (nI ds), .int (nI su), .int (nI rd)])), (a0, .inl (cI, 5, .inl Rf)), (a1, .inl (cI, 32, .inl Lf)), (a2, .inl (cI, 11, .inl Wf))] (zb (decide (zin x rc))) := by
  refine zr_ent (maxL := 2) (by decide) rfl (Nat.le_of_ble_eq_true rfl) (fun X C E => ?_)
  have C : zC X l D cI { frames := 0, cells := 0, slots := 0, locals := 0 } 2 false cX3_isRow RX3 wsX3_isRow := C
  refine zg_cv (lv' := [(0, .ref h0), (1, .int x)]) rfl rfl rfl ?_
  refine zg_iload_n C 1 dX3_isRow_0 rfl ?_
  refine zg_if_lt C 25 dX3_isRow_1 (by decide) (fun c_1 => ?_) (fun c_1 => ?_)
  · skip
    refine zg_iconst (v := nI 0) C dX3_isRow_25 (by decide) ?_
    exact zg_zret C E dX3_isRow_26 (zbf (fun q => absurd c_1 (zlt_not.mpr q.1)))
  · skip
    refine zg_iload_n C 1 dX3_isRow_4 rfl ?_
    refine zg_aload_n C 0 dX3_isRow_5 rfl ?_
    refine zg_get C 0 (ci := 3) (f := 3) rfl rfl uX3_isRow_3 (by decide) fX3_isRow_3_3 dX3_isRow_6 rfl ?_
    refine zg_icmp_ge C 25 dX3_isRow_9 (by decide) (fun c_9 => ?_) (fun c_9 => ?_)
    · skip
      refine zg_iconst (v := nI 0) C dX3_isRow_25 (by decide) ?_
      exact zg_zret C E dX3_isRow_26 (zbf (fun q => absurd q.2 (zlt_not.mpr c_9)))
    · skip
      refine zg_iload_n C 1 dX3_isRow_12 rfl ?_
      refine zg_aload_n C 0 dX3_isRow_13 rfl ?_
      refine zg_get C 0 (ci := 3) (f := 0) rfl rfl uX3_isRow_3 (by decide) fX3_isRow_3_0 dX3_isRow_14 rfl ?_
      refine zg_alen C 1 rfl dX3_isRow_17 ?_
      refine zg_icmp_ge C 25 dX3_isRow_18 (by decide) (fun c_18 => by exact absurd (Int32.lt_iff_toInt_lt.mp (zle_not.mp c_9)) (by have q1 := Int32.le_iff_toInt_le.mp c_18; rw [nI_toInt (by omega)] at q1; rw [nI_toInt (by omega)]; omega)) (fun c_18 => ?_)
      refine zg_iconst (v := nI 1) C dX3_isRow_21 (by decide) ?_
      refine zg_goto C 26 dX3_isRow_22 (by decide) ?_
      exact zg_zret C E dX3_isRow_26 (zbt ⟨zlt_not.mp c_1, zle_not.mp c_9⟩)
set_option maxHeartbeats 1000000 in
set_option maxRecDepth 100000 in
theorem c_X3_isWord (l : Launch) (D : va_G) (cI : ClassId) (h0 a0 a1 a2 : Nat) (Rf Lf Wf : Nat → Int32) (rc ln rk ds su rd : Nat) (x : Int32) (hln : ln ≤ 10) : zMr l D cI yX3_isWord wsX3_isWord { frames := 1, cells := 0, slots := 0, locals := 20 } [.ref h0, .int x] [(h0, .inr (3, [.ref a0, .ref a1, .ref a2, .int (nI rc), .int (nI ln), .int (nI rk), .int (nI ds), .int (nI su), .int (nI rd)])), (a0, .inl (cI, 5, .inl Rf)), (a1, .inl (cI, 32, .inl Lf)), (a2, .inl (cI, 11, .inl Wf))] (zb (decide (zin x (2 ^ ln)))) := by
  refine zr_ent (maxL := 2) (by decide) rfl (Nat.le_of_ble_eq_true rfl) (fun X C E => ?_)
  have C : zC X l D cI { frames := 1, cells := 0, slots := 0, locals := 20 } 2 false cX3_isWord RX3 wsX3_isWord := C
  refine zg_cv (lv' := [(0, .ref h0), (1, .int x)]) rfl rfl rfl ?_
  refine zg_iload_n C 1 dX3_isWord_0 rfl ?_
  refine zg_if_lt C 16 dX3_isWord_1 (by decide) (fun c_1 => ?_) (fun c_1 => ?_)
  · skip
    refine zg_iconst (v := nI 0) C dX3_isWord_16 (by decide) ?_
    exact zg_zret C E dX3_isWord_17 (zbf (fun q => absurd c_1 (zlt_not.mpr q.1)))
  · skip
    refine zg_iload_n C 1 dX3_isWord_4 rfl ?_
    refine zg_aload_n C 0 dX3_isWord_5 rfl ?_
    refine zg_callr (As := []) (st := [.int x]) C [0, 1, 2, 3] 0 0 (c_X3_words l D cI h0 a0 a1 a2 Rf Lf Wf rc ln rk ds su rd hln) gX3_isWord_X3_words (by decide +kernel) rfl ⟨rfl, rfl⟩ ⟨Nat.le_of_ble_eq_true rfl, Nat.le_of_ble_eq_true rfl⟩ rfl (ci := 3) rfl rfl rfl rfl (Nat.le_of_ble_eq_true rfl) ⟨Nat.le_of_ble_eq_true rfl, Nat.le_of_ble_eq_true rfl⟩ dX3_isWord_6 ?_
    refine zg_icmp_ge C 16 dX3_isWord_9 (by decide) (fun c_9 => ?_) (fun c_9 => ?_)
    · skip
      refine zg_iconst (v := nI 0) C dX3_isWord_16 (by decide) ?_
      exact zg_zret C E dX3_isWord_17 (zbf (fun q => absurd q.2 (zlt_not.mpr c_9)))
    · skip
      refine zg_iconst (v := nI 1) C dX3_isWord_12 (by decide) ?_
      refine zg_goto C 17 dX3_isWord_13 (by decide) ?_
      exact zg_zret C E dX3_isWord_17 (zbt ⟨zlt_not.mp c_1, zle_not.mp c_9⟩)
theorem uX3_isSyndrome_3 : ∀ w ∈ u_ws RX3 TX3 9, w ∈ wsX3_isSyndrome := fun w h => List.mem_cons_of_mem _ (List.mem_append_right _ h)
theorem fX3_isSyndrome_3_1 : Cond.fieldLink RX3 15 (TX3 1).1 (TX3 1).2.1 (TX3 1).2.2.1 ∈ wsX3_isSyndrome := by decide +kernel
set_option maxHeartbeats 1000000 in
set_option maxRecDepth 100000 in
theorem c_X3_isSyndrome (l : Launch) (D : va_G) (cI : ClassId) (h0 a0 a1 a2 : Nat) (Rf Lf Wf : Nat → Int32) (rc ln rk ds su rd : Nat) (x : Int32) (hrc : rc ≤ 5) : zMr l D cI yX3_isSyndrome wsX3_isSyndrome { frames := 1, cells := 0, slots := 0, locals := 20 } [.ref h0, .int x] [(h0, .inr (3, [.ref a0, .ref a1, .ref a2, .int (nI rc), .int (nI ln), .int (nI rk), .int (nI ds), .int (nI su), .int (nI rd)])), (a0, .inl (cI, 5, .inl Rf)), (a1, .inl (cI, 32, .inl Lf)), (a2, .inl (cI, 11, .inl Wf))] (zb (decide (zin x (2 ^ rc)))) := by
  refine zr_ent (maxL := 2) (by decide) rfl (Nat.le_of_ble_eq_true rfl) (fun X C E => ?_)
  have C : zC X l D cI { frames := 1, cells := 0, slots := 0, locals := 20 } 2 false cX3_isSyndrome RX3 wsX3_isSyndrome := C
  refine zg_cv (lv' := [(0, .ref h0), (1, .int x)]) rfl rfl rfl ?_
  refine zg_iload_n C 1 dX3_isSyndrome_0 rfl ?_
  refine zg_if_lt C 25 dX3_isSyndrome_1 (by decide) (fun c_1 => ?_) (fun c_1 => ?_)
  · skip
    refine zg_iconst (v := nI 0) C dX3_isSyndrome_25 (by decide) ?_
    exact zg_zret C E dX3_isSyndrome_26 (zbf (fun q => absurd c_1 (zlt_not.mpr q.1)))
  · skip
    refine zg_iload_n C 1 dX3_isSyndrome_4 rfl ?_
    refine zg_aload_n C 0 dX3_isSyndrome_5 rfl ?_
    refine zg_callr (As := []) (st := [.int x]) C [0, 1, 2, 3] 0 0 (c_X3_syndromes l D cI h0 a0 a1 a2 Rf Lf Wf rc ln rk ds su rd hrc) gX3_isSyndrome_X3_syndromes (by decide +kernel) rfl ⟨rfl, rfl⟩ ⟨Nat.le_of_ble_eq_true rfl, Nat.le_of_ble_eq_true rfl⟩ rfl (ci := 3) rfl rfl rfl rfl (Nat.le_of_ble_eq_true rfl) ⟨Nat.le_of_ble_eq_true rfl, Nat.le_of_ble_eq_true rfl⟩ dX3_isSyndrome_6 ?_
    refine zg_icmp_ge C 25 dX3_isSyndrome_9 (by decide) (fun c_9 => ?_) (fun c_9 => ?_)
    · skip
      refine zg_iconst (v := nI 0) C dX3_isSyndrome_25 (by decide) ?_
      exact zg_zret C E dX3_isSyndrome_26 (zbf (fun q => absurd q.2 (zlt_not.mpr c_9)))
    · skip
      refine zg_iload_n C 1 dX3_isSyndrome_12 rfl ?_
      refine zg_aload_n C 0 dX3_isSyndrome_13 rfl ?_
      refine zg_get C 0 (ci := 3) (f := 1) rfl rfl uX3_isSyndrome_3 (by decide) fX3_isSyndrome_3_1 dX3_isSyndrome_14 rfl ?_
      refine zg_alen C 2 rfl dX3_isSyndrome_17 ?_
      refine zg_icmp_ge C 25 dX3_isSyndrome_18 (by decide) (fun c_18 => by exact absurd (Int32.lt_iff_toInt_lt.mp (zle_not.mp c_9)) (by have q0 := zpw5 hrc; have q1 := Int32.le_iff_toInt_le.mp c_18; rw [nI_toInt (by omega)] at q1; rw [nI_toInt (by omega)]; omega)) (fun c_18 => ?_)
      refine zg_iconst (v := nI 1) C dX3_isSyndrome_21 (by decide) ?_
      refine zg_goto C 26 dX3_isSyndrome_22 (by decide) ?_
      exact zg_zret C E dX3_isSyndrome_26 (zbt ⟨zlt_not.mp c_1, zle_not.mp c_9⟩)
theorem uX3_isWeight_3 : ∀ w ∈ u_ws RX3 TX3 9, w ∈ wsX3_isWeight := fun w h => List.mem_cons_of_mem _ (List.mem_append_right _ h)
theorem fX3_isWeight_3_4 : Cond.fieldLink RX3 25 (TX3 4).1 (TX3 4).2.1 (TX3 4).2.2.1 ∈ wsX3_isWeight := by decide +kernel
theorem fX3_isWeight_3_2 : Cond.fieldLink RX3 18 (TX3 2).1 (TX3 2).2.1 (TX3 2).2.2.1 ∈ wsX3_isWeight := by decide +kernel
set_option maxHeartbeats 1000000 in
set_option maxRecDepth 100000 in
theorem c_X3_isWeight (l : Launch) (D : va_G) (cI : ClassId) (h0 a0 a1 a2 : Nat) (Rf Lf Wf : Nat → Int32) (rc ln rk ds su rd : Nat) (x : Int32) (hln : ln ≤ 10) : zMr l D cI yX3_isWeight wsX3_isWeight { frames := 0, cells := 0, slots := 0, locals := 0 } [.ref h0, .int x] [(h0, .inr (3, [.ref a0, .ref a1, .ref a2, .int (nI rc), .int (nI ln), .int (nI rk), .int (nI ds), .int (nI su), .int (nI rd)])), (a0, .inl (cI, 5, .inl Rf)), (a1, .inl (cI, 32, .inl Lf)), (a2, .inl (cI, 11, .inl Wf))] (zb (decide (zin x (ln + 1)))) := by
  refine zr_ent (maxL := 2) (by decide) rfl (Nat.le_of_ble_eq_true rfl) (fun X C E => ?_)
  have C : zC X l D cI { frames := 0, cells := 0, slots := 0, locals := 0 } 2 false cX3_isWeight RX3 wsX3_isWeight := C
  refine zg_cv (lv' := [(0, .ref h0), (1, .int x)]) rfl rfl rfl ?_
  refine zg_iload_n C 1 dX3_isWeight_0 rfl ?_
  refine zg_if_lt C 25 dX3_isWeight_1 (by decide) (fun c_1 => ?_) (fun c_1 => ?_)
  · skip
    refine zg_iconst (v := nI 0) C dX3_isWeight_25 (by decide) ?_
    exact zg_zret C E dX3_isWeight_26 (zbf (fun q => absurd c_1 (zlt_not.mpr q.1)))
  · skip
    refine zg_iload_n C 1 dX3_isWeight_4 rfl ?_
    refine zg_aload_n C 0 dX3_isWeight_5 rfl ?_
    refine zg_get C 0 (ci := 3) (f := 4) rfl rfl uX3_isWeight_3 (by decide) fX3_isWeight_3_4 dX3_isWeight_6 rfl ?_
    refine zg_icmp_gt C 25 dX3_isWeight_9 (by decide) (fun c_9 => ?_) (fun c_9 => ?_)
    · skip
      refine zg_iconst (v := nI 0) C dX3_isWeight_25 (by decide) ?_
      exact zg_zret C E dX3_isWeight_26 (zbf (fun q => absurd ((zin_le (N := ln + 1) (by omega) (by omega)).mpr q).2 (zle_not.mpr c_9)))
    · skip
      refine zg_iload_n C 1 dX3_isWeight_12 rfl ?_
      refine zg_aload_n C 0 dX3_isWeight_13 rfl ?_
      refine zg_get C 0 (ci := 3) (f := 2) rfl rfl uX3_isWeight_3 (by decide) fX3_isWeight_3_2 dX3_isWeight_14 rfl ?_
      refine zg_alen C 3 rfl dX3_isWeight_17 ?_
      refine zg_icmp_ge C 25 dX3_isWeight_18 (by decide) (fun c_18 => by exact absurd (Int32.le_iff_toInt_le.mp (zlt_not.mp c_9)) (by have q1 := Int32.le_iff_toInt_le.mp c_18; rw [nI_toInt (by omega)] at q1; rw [nI_toInt (by omega)]; omega)) (fun c_18 => ?_)
      refine zg_iconst (v := nI 1) C dX3_isWeight_21 (by decide) ?_
      refine zg_goto C 26 dX3_isWeight_22 (by decide) ?_
      exact zg_zret C E dX3_isWeight_26 (zbt ((zin_le (N := ln + 1) (by omega) (by omega)).mp ⟨zlt_not.mp c_1, zlt_not.mp c_9⟩))
set_option maxHeartbeats 1000000 in
set_option maxRecDepth 100000 in
theorem c_X3_areSharedSets (l : Launch) (D : va_G) (cI : ClassId) (h0 a0 a1 a2 : Nat) (Rf Lf Wf : Nat → Int32) (rc ln rk ds su rd : Nat) (x y : Int32) (hln : ln ≤ 10) : zMr l D cI yX3_areSharedSets wsX3_areSharedSets { frames := 2, cells := 0, slots := 0, locals := 41 } [.ref h0, .int x, .int y] [(h0, .inr (3, [.ref a0, .ref a1, .ref a2, .int (nI rc), .int (nI ln), .int (nI rk), .int (nI ds), .int (nI su), .int (nI rd)])), (a0, .inl (cI, 5, .inl Rf)), (a1, .inl (cI, 32, .inl Lf)), (a2, .inl (cI, 11, .inl Wf))] (zb (decide (zin x (2 ^ ln) ∧ zin y (2 ^ ln) ∧ x &&& y = 0))) := by
  refine zr_ent (maxL := 3) (by decide) rfl (Nat.le_of_ble_eq_true rfl) (fun X C E => ?_)
  have C : zC X l D cI { frames := 2, cells := 0, slots := 0, locals := 41 } 3 false cX3_areSharedSets RX3 wsX3_areSharedSets := C
  refine zg_cv (lv' := [(0, .ref h0), (1, .int x), (2, .int y)]) rfl rfl rfl ?_
  refine zg_aload_n C 0 dX3_areSharedSets_0 rfl ?_
  refine zg_iload_n C 1 dX3_areSharedSets_1 rfl ?_
  refine zg_callr (As := [.int x]) (st := []) C [0, 1, 2, 3] 0 1 (c_X3_isWord l D cI h0 a0 a1 a2 Rf Lf Wf rc ln rk ds su rd x hln) gX3_areSharedSets_X3_isWord (by decide +kernel) rfl ⟨rfl, rfl⟩ ⟨Nat.le_of_ble_eq_true rfl, Nat.le_of_ble_eq_true rfl⟩ rfl (ci := 3) rfl rfl rfl rfl (Nat.le_of_ble_eq_true rfl) ⟨Nat.le_of_ble_eq_true rfl, Nat.le_of_ble_eq_true rfl⟩ dX3_areSharedSets_2 ?_
  refine zp_if_eq C 26 dX3_areSharedSets_5 (by decide) (fun c_5 => ?_) (fun c_5 => ?_)
  · skip
    refine zg_iconst (v := nI 0) C dX3_areSharedSets_26 (by decide) ?_
    exact zg_zret C E dX3_areSharedSets_27 (zbf (fun q => c_5 q.1))
  · skip
    refine zg_aload_n C 0 dX3_areSharedSets_8 rfl ?_
    refine zg_iload_n C 2 dX3_areSharedSets_9 rfl ?_
    refine zg_callr (As := [.int y]) (st := []) C [0, 1, 2, 3] 0 1 (c_X3_isWord l D cI h0 a0 a1 a2 Rf Lf Wf rc ln rk ds su rd y hln) gX3_areSharedSets_X3_isWord (by decide +kernel) rfl ⟨rfl, rfl⟩ ⟨Nat.le_of_ble_eq_true rfl, Nat.le_of_ble_eq_true rfl⟩ rfl (ci := 3) rfl rfl rfl rfl (Nat.le_of_ble_eq_true rfl) ⟨Nat.le_of_ble_eq_true rfl, Nat.le_of_ble_eq_true rfl⟩ dX3_areSharedSets_10 ?_
    refine zp_if_eq C 26 dX3_areSharedSets_13 (by decide) (fun c_13 => ?_) (fun c_13 => ?_)
    · skip
      refine zg_iconst (v := nI 0) C dX3_areSharedSets_26 (by decide) ?_
      exact zg_zret C E dX3_areSharedSets_27 (zbf (fun q => c_13 q.2.1))
    · skip
      refine zg_iload_n C 1 dX3_areSharedSets_16 rfl ?_
      refine zg_iload_n C 2 dX3_areSharedSets_17 rfl ?_
      refine zg_iand C dX3_areSharedSets_18 (x &&& y) (rfl) ?_
      refine zg_if_ne C 26 dX3_areSharedSets_19 (by decide) (fun c_19 => ?_) (fun c_19 => ?_)
      · skip
        refine zg_iconst (v := nI 0) C dX3_areSharedSets_26 (by decide) ?_
        exact zg_zret C E dX3_areSharedSets_27 (zbf (fun q => c_19 q.2.2))
      · skip
        refine zg_iconst (v := nI 1) C dX3_areSharedSets_22 (by decide) ?_
        refine zg_goto C 27 dX3_areSharedSets_23 (by decide) ?_
        exact zg_zret C E dX3_areSharedSets_27 (zbt ⟨c_5, c_13, c_19⟩)
theorem uX3_rowAt_3 : ∀ w ∈ u_ws RX3 TX3 9, w ∈ wsX3_rowAt := fun w h => List.mem_cons_of_mem _ (List.mem_append_right _ h)
theorem fX3_rowAt_3_0 : Cond.fieldLink RX3 9 (TX3 0).1 (TX3 0).2.1 (TX3 0).2.2.1 ∈ wsX3_rowAt := by decide +kernel
set_option maxHeartbeats 1000000 in
set_option maxRecDepth 100000 in
theorem c_X3_rowAt (l : Launch) (D : va_G) (cI : ClassId) (h0 a0 a1 a2 : Nat) (Rf Lf Wf : Nat → Int32) (rc ln rk ds su rd : Nat) (i : Nat) (hrc : rc ≤ 5) (hi : i < rc) : zMr l D cI yX3_rowAt wsX3_rowAt { frames := 1, cells := 0, slots := 0, locals := 21 } [.ref h0, .int (nI i)] [(h0, .inr (3, [.ref a0, .ref a1, .ref a2, .int (nI rc), .int (nI ln), .int (nI rk), .int (nI ds), .int (nI su), .int (nI rd)])), (a0, .inl (cI, 5, .inl Rf)), (a1, .inl (cI, 32, .inl Lf)), (a2, .inl (cI, 11, .inl Wf))] (Rf i) := by
  refine zr_ent (maxL := 2) (by decide) rfl (Nat.le_of_ble_eq_true rfl) (fun X C E => ?_)
  have C : zC X l D cI { frames := 1, cells := 0, slots := 0, locals := 21 } 2 false cX3_rowAt RX3 wsX3_rowAt := C
  refine zg_cv (lv' := [(0, .ref h0), (1, .int (nI i))]) rfl rfl rfl ?_
  refine zg_aload_n C 0 dX3_rowAt_0 rfl ?_
  refine zg_iload_n C 1 dX3_rowAt_1 rfl ?_
  refine zg_callr (As := [.int (nI i)]) (st := []) C [0, 1, 2, 3] 0 1 (c_X3_isRow l D cI h0 a0 a1 a2 Rf Lf Wf rc ln rk ds su rd (nI i) hrc) gX3_rowAt_X3_isRow (by decide +kernel) rfl ⟨rfl, rfl⟩ ⟨Nat.le_of_ble_eq_true rfl, Nat.le_of_ble_eq_true rfl⟩ rfl (ci := 3) rfl rfl rfl rfl (Nat.le_of_ble_eq_true rfl) ⟨Nat.le_of_ble_eq_true rfl, Nat.le_of_ble_eq_true rfl⟩ dX3_rowAt_2 ?_
  refine zp_if_eq C 17 dX3_rowAt_5 (by decide) (fun c_5 => by exact absurd (zin_nI hi (by omega)) c_5) (fun c_5 => ?_)
  refine zg_aload_n C 0 dX3_rowAt_8 rfl ?_
  refine zg_get C 0 (ci := 3) (f := 0) rfl rfl uX3_rowAt_3 (by decide) fX3_rowAt_3_0 dX3_rowAt_9 rfl ?_
  refine zg_iload_n C 1 dX3_rowAt_12 rfl ?_
  refine zg_iald C 1 rfl (by omega) (by decide) dX3_rowAt_13 (Rf i) (rfl) ?_
  refine zg_goto C 18 dX3_rowAt_14 (by decide) ?_
  exact zg_iret C E dX3_rowAt_18 (rfl)
theorem uX3_leaderOf_3 : ∀ w ∈ u_ws RX3 TX3 9, w ∈ wsX3_leaderOf := fun w h => List.mem_cons_of_mem _ (List.mem_append_right _ h)
theorem fX3_leaderOf_3_1 : Cond.fieldLink RX3 15 (TX3 1).1 (TX3 1).2.1 (TX3 1).2.2.1 ∈ wsX3_leaderOf := by decide +kernel
set_option maxHeartbeats 1000000 in
set_option maxRecDepth 100000 in
theorem c_X3_leaderOf (l : Launch) (D : va_G) (cI : ClassId) (h0 a0 a1 a2 : Nat) (Rf Lf Wf : Nat → Int32) (rc ln rk ds su rd : Nat) (y : Nat) (hrc : rc ≤ 5) (hy : y < 2 ^ rc) : zMr l D cI yX3_leaderOf wsX3_leaderOf { frames := 2, cells := 0, slots := 0, locals := 41 } [.ref h0, .int (nI y)] [(h0, .inr (3, [.ref a0, .ref a1, .ref a2, .int (nI rc), .int (nI ln), .int (nI rk), .int (nI ds), .int (nI su), .int (nI rd)])), (a0, .inl (cI, 5, .inl Rf)), (a1, .inl (cI, 32, .inl Lf)), (a2, .inl (cI, 11, .inl Wf))] (Lf y) := by
  refine zr_ent (maxL := 2) (by decide) rfl (Nat.le_of_ble_eq_true rfl) (fun X C E => ?_)
  have C : zC X l D cI { frames := 2, cells := 0, slots := 0, locals := 41 } 2 false cX3_leaderOf RX3 wsX3_leaderOf := C
  refine zg_cv (lv' := [(0, .ref h0), (1, .int (nI y))]) rfl rfl rfl ?_
  have q0 := zpw5 hrc
  refine zg_aload_n C 0 dX3_leaderOf_0 rfl ?_
  refine zg_iload_n C 1 dX3_leaderOf_1 rfl ?_
  refine zg_callr (As := [.int (nI y)]) (st := []) C [0, 1, 2, 3] 0 1 (c_X3_isSyndrome l D cI h0 a0 a1 a2 Rf Lf Wf rc ln rk ds su rd (nI y) hrc) gX3_leaderOf_X3_isSyndrome (by decide +kernel) rfl ⟨rfl, rfl⟩ ⟨Nat.le_of_ble_eq_true rfl, Nat.le_of_ble_eq_true rfl⟩ rfl (ci := 3) rfl rfl rfl rfl (Nat.le_of_ble_eq_true rfl) ⟨Nat.le_of_ble_eq_true rfl, Nat.le_of_ble_eq_true rfl⟩ dX3_leaderOf_2 ?_
  refine zp_if_eq C 17 dX3_leaderOf_5 (by decide) (fun c_5 => by exact absurd (zin_nI hy (by omega)) c_5) (fun c_5 => ?_)
  refine zg_aload_n C 0 dX3_leaderOf_8 rfl ?_
  refine zg_get C 0 (ci := 3) (f := 1) rfl rfl uX3_leaderOf_3 (by decide) fX3_leaderOf_3_1 dX3_leaderOf_9 rfl ?_
  refine zg_iload_n C 1 dX3_leaderOf_12 rfl ?_
  refine zg_iald C 2 rfl (by omega) (by decide) dX3_leaderOf_13 (Lf y) (rfl) ?_
  refine zg_goto C 20 dX3_leaderOf_14 (by decide) ?_
  exact zg_iret C E dX3_leaderOf_20 (rfl)
theorem uX3_leadersOfWeight_3 : ∀ w ∈ u_ws RX3 TX3 9, w ∈ wsX3_leadersOfWeight := fun w h => List.mem_cons_of_mem _ (List.mem_append_right _ h)
theorem fX3_leadersOfWeight_3_2 : Cond.fieldLink RX3 18 (TX3 2).1 (TX3 2).2.1 (TX3 2).2.2.1 ∈ wsX3_leadersOfWeight := by decide +kernel
set_option maxHeartbeats 1000000 in
set_option maxRecDepth 100000 in
theorem c_X3_leadersOfWeight (l : Launch) (D : va_G) (cI : ClassId) (h0 a0 a1 a2 : Nat) (Rf Lf Wf : Nat → Int32) (rc ln rk ds su rd : Nat) (y : Nat) (hln : ln ≤ 10) (hy : y < ln + 1) : zMr l D cI yX3_leadersOfWeight wsX3_leadersOfWeight { frames := 1, cells := 0, slots := 0, locals := 21 } [.ref h0, .int (nI y)] [(h0, .inr (3, [.ref a0, .ref a1, .ref a2, .int (nI rc), .int (nI ln), .int (nI rk), .int (nI ds), .int (nI su), .int (nI rd)])), (a0, .inl (cI, 5, .inl Rf)), (a1, .inl (cI, 32, .inl Lf)), (a2, .inl (cI, 11, .inl Wf))] (Wf y) := by
  refine zr_ent (maxL := 2) (by decide) rfl (Nat.le_of_ble_eq_true rfl) (fun X C E => ?_)
  have C : zC X l D cI { frames := 1, cells := 0, slots := 0, locals := 21 } 2 false cX3_leadersOfWeight RX3 wsX3_leadersOfWeight := C
  refine zg_cv (lv' := [(0, .ref h0), (1, .int (nI y))]) rfl rfl rfl ?_
  refine zg_aload_n C 0 dX3_leadersOfWeight_0 rfl ?_
  refine zg_iload_n C 1 dX3_leadersOfWeight_1 rfl ?_
  refine zg_callr (As := [.int (nI y)]) (st := []) C [0, 1, 2, 3] 0 1 (c_X3_isWeight l D cI h0 a0 a1 a2 Rf Lf Wf rc ln rk ds su rd (nI y) hln) gX3_leadersOfWeight_X3_isWeight (by decide +kernel) rfl ⟨rfl, rfl⟩ ⟨Nat.le_of_ble_eq_true rfl, Nat.le_of_ble_eq_true rfl⟩ rfl (ci := 3) rfl rfl rfl rfl (Nat.le_of_ble_eq_true rfl) ⟨Nat.le_of_ble_eq_true rfl, Nat.le_of_ble_eq_true rfl⟩ dX3_leadersOfWeight_2 ?_
  refine zp_if_eq C 17 dX3_leadersOfWeight_5 (by decide) (fun c_5 => by exact absurd (zin_nI hy (by omega)) c_5) (fun c_5 => ?_)
  refine zg_aload_n C 0 dX3_leadersOfWeight_8 rfl ?_
  refine zg_get C 0 (ci := 3) (f := 2) rfl rfl uX3_leadersOfWeight_3 (by decide) fX3_leadersOfWeight_3_2 dX3_leadersOfWeight_9 rfl ?_
  refine zg_iload_n C 1 dX3_leadersOfWeight_12 rfl ?_
  refine zg_iald C 3 rfl (by omega) (by decide) dX3_leadersOfWeight_13 (Wf y) (rfl) ?_
  refine zg_goto C 18 dX3_leadersOfWeight_14 (by decide) ?_
  exact zg_iret C E dX3_leadersOfWeight_18 (rfl)
set_option maxHeartbeats 1000000 in
set_option maxRecDepth 100000 in
theorem c_X3_isNearer (l : Launch) (D : va_G) (cI : ClassId) (w : Nat) (o : Option Nat) (hw : w < 1024) (ho : ∀ v, o = some v → v < 1024) : zMr l D cI yX3_isNearer wsX3_isNearer { frames := 1, cells := 0, slots := 0, locals := 20 } [.int (nI w), .int (zo o)] [] (zb (znear w o)) := by
  refine zr_ent (maxL := 2) (by decide) rfl (Nat.le_of_ble_eq_true rfl) (fun X C E => ?_)
  have C : zC X l D cI { frames := 1, cells := 0, slots := 0, locals := 20 } 2 false cX3_isNearer RX3 wsX3_isNearer := C
  refine zg_cv (lv' := [(0, .int (nI w)), (1, .int (zo o))]) rfl rfl rfl ?_
  rcases o with _ | v
  · skip
    refine zg_iload_n C 1 dX3_isNearer_0 rfl ?_
    refine zg_sipush (v := (-1001)) C dX3_isNearer_1 (by decide) ?_
    refine zg_icmp_eq C 18 dX3_isNearer_4 (by decide) (fun c_4 => ?_) (fun c_4 => by exact absurd rfl c_4)
    refine zg_iconst (v := nI 1) C dX3_isNearer_18 (by decide) ?_
    refine zg_goto C 23 dX3_isNearer_19 (by decide) ?_
    exact zg_zret C E dX3_isNearer_23 (rfl)
  · skip
    have hv := ho v rfl
    refine zg_cv (lv' := [(0, .int (nI w)), (1, .int (nI v))]) (by rw [show zo (some v) = nI v from rfl]) rfl rfl ?_
    refine zg_iload_n C 1 dX3_isNearer_0 rfl ?_
    refine zg_sipush (v := (-1001)) C dX3_isNearer_1 (by decide) ?_
    refine zg_icmp_eq C 18 dX3_isNearer_4 (by decide) (fun c_4 => by exact absurd c_4 (zo_ne (by omega))) (fun c_4 => ?_)
    refine zg_iload_n C 0 dX3_isNearer_7 rfl ?_
    refine zg_calls (As := [.int (nI w)]) (st := []) C [] 1 (c_J6_bitCount_0f7a4 l D cI w hw) gX3_isNearer_J6_bitCount_0f7a4 (by decide +kernel) rfl ⟨rfl, rfl⟩ ⟨Nat.le_of_ble_eq_true rfl, Nat.le_of_ble_eq_true rfl⟩ rfl rfl rfl (Nat.le_of_ble_eq_true rfl) ⟨Nat.le_of_ble_eq_true rfl, Nat.le_of_ble_eq_true rfl⟩ dX3_isNearer_8 ?_
    refine zg_iload_n C 1 dX3_isNearer_11 rfl ?_
    refine zg_calls (As := [.int (nI v)]) (st := [.int (nI (zpc w))]) C [] 1 (c_J6_bitCount_0f7a4 l D cI v (by omega)) gX3_isNearer_J6_bitCount_0f7a4 (by decide +kernel) rfl ⟨rfl, rfl⟩ ⟨Nat.le_of_ble_eq_true rfl, Nat.le_of_ble_eq_true rfl⟩ rfl rfl rfl (Nat.le_of_ble_eq_true rfl) ⟨Nat.le_of_ble_eq_true rfl, Nat.le_of_ble_eq_true rfl⟩ dX3_isNearer_12 ?_
    have q1 := zpc_le w
    have q2 := zpc_le v
    refine zn_icmp_ge C 22 (by omega) (by omega) dX3_isNearer_15 (by decide) (fun c_15 => ?_) (fun c_15 => ?_)
    · skip
      refine zg_iconst (v := nI 0) C dX3_isNearer_22 (by decide) ?_
      exact zg_zret C E dX3_isNearer_23 (zbf (P := zpc w < zpc v) (by omega))
    · skip
      refine zg_iconst (v := nI 1) C dX3_isNearer_18 (by decide) ?_
      refine zg_goto C 23 dX3_isNearer_19 (by decide) ?_
      exact zg_zret C E dX3_isNearer_23 (zbt (P := zpc w < zpc v) c_15)
theorem uX3_syndromeOf_3 : ∀ w ∈ u_ws RX3 TX3 9, w ∈ wsX3_syndromeOf := fun w h => List.mem_cons_of_mem _ (List.mem_append_right _ h)
theorem fX3_syndromeOf_3_3 : Cond.fieldLink RX3 21 (TX3 3).1 (TX3 3).2.1 (TX3 3).2.2.1 ∈ wsX3_syndromeOf := by decide +kernel
theorem fX3_syndromeOf_3_0 : Cond.fieldLink RX3 9 (TX3 0).1 (TX3 0).2.1 (TX3 0).2.2.1 ∈ wsX3_syndromeOf := by decide +kernel
set_option maxHeartbeats 1000000 in
set_option maxRecDepth 100000 in
/-- the syndrome of a word -/
theorem c_X3_syndromeOf (l : Launch) (D : va_G) (cI : ClassId) (h0 a0 a1 a2 : Nat) (Rf Lf Wf : Nat → Int32) (rc ln rk ds su rd : Nat) (R : Nat → Nat) (w : Nat) (hrc : rc ≤ 5) (hR : ∀ i, i < rc → Rf i = nI (R i)) (hRb : ∀ i, i < rc → R i < 1024) (hw : w < 1024) : zMr l D cI yX3_syndromeOf wsX3_syndromeOf { frames := 1, cells := 0, slots := 0, locals := 20 } [.ref h0, .int (nI w)] [(h0, .inr (3, [.ref a0, .ref a1, .ref a2, .int (nI rc), .int (nI ln), .int (nI rk), .int (nI ds), .int (nI su), .int (nI rd)])), (a0, .inl (cI, 5, .inl Rf)), (a1, .inl (cI, 32, .inl Lf)), (a2, .inl (cI, 11, .inl Wf))] (nI (zsk R w rc)) := by
  refine zr_ent (maxL := 4) (by decide) rfl (Nat.le_of_ble_eq_true rfl) (fun X C E => ?_)
  have C : zC X l D cI { frames := 1, cells := 0, slots := 0, locals := 20 } 4 false cX3_syndromeOf RX3 wsX3_syndromeOf := C
  refine zg_cv (lv' := [(0, .ref h0), (1, .int (nI w))]) rfl rfl rfl ?_
  refine zg_iconst (v := nI 0) C dX3_syndromeOf_0 (by decide) ?_
  refine zg_istore_n C [1, 2, 0] (lv' := [(0, .ref h0), (1, .int (nI w)), (2, .int (nI 0))]) dX3_syndromeOf_1 (by decide) rfl ?_
  refine zg_iconst (v := nI 0) C dX3_syndromeOf_2 (by decide) ?_
  refine zg_istore_n C [1, 2, 3, 0] (lv' := [(0, .ref h0), (1, .int (nI w)), (2, .int (nI 0)), (3, .int (nI 0))]) dX3_syndromeOf_3 (by decide) rfl ?_
  have L_4 : ∀ i, i ≤ rc → zG X 0 0 [(0, .ref h0), (1, .int (nI w)), (2, .int (nI (zsk R w i))), (3, .int (nI i))] [] [(h0, .inr (3, [.ref a0, .ref a1, .ref a2, .int (nI rc), .int (nI ln), .int (nI rk), .int (nI ds), .int (nI su), .int (nI rd)])), (a0, .inl (cI, 5, .inl Rf)), (a1, .inl (cI, 32, .inl Lf)), (a2, .inl (cI, 11, .inl Wf))] 4 := by
    refine zg_dn (fun i hi ih_4  => ?_)
    refine zg_iload_n C 3 dX3_syndromeOf_4 rfl ?_
    refine zg_aload_n C 0 dX3_syndromeOf_5 rfl ?_
    refine zg_get C 0 (ci := 3) (f := 3) rfl rfl uX3_syndromeOf_3 (by decide) fX3_syndromeOf_3_3 dX3_syndromeOf_6 rfl ?_
    refine zn_icmp_ge C 45 (by omega) (by omega) dX3_syndromeOf_9 (by decide) (fun c_9 => ?_) (fun c_9 => ?_)
    · skip
      refine zg_iload_n C 2 dX3_syndromeOf_45 rfl ?_
      exact zg_iret C E dX3_syndromeOf_46 (by rw [show i = rc by omega])
    · skip
      refine zg_iload_n C 3 dX3_syndromeOf_12 rfl ?_
      refine zg_aload_n C 0 dX3_syndromeOf_13 rfl ?_
      refine zg_get C 0 (ci := 3) (f := 0) rfl rfl uX3_syndromeOf_3 (by decide) fX3_syndromeOf_3_0 dX3_syndromeOf_14 rfl ?_
      refine zg_alen C 1 rfl dX3_syndromeOf_17 ?_
      refine zn_icmp_ge C 45 (by omega) (by omega) dX3_syndromeOf_18 (by decide) (fun c_18 => by exfalso; omega) (fun c_18 => ?_)
      refine zg_iload_n C 2 dX3_syndromeOf_21 rfl ?_
      refine zg_aload_n C 0 dX3_syndromeOf_22 rfl ?_
      refine zg_get C 0 (ci := 3) (f := 0) rfl rfl uX3_syndromeOf_3 (by decide) fX3_syndromeOf_3_0 dX3_syndromeOf_23 rfl ?_
      refine zg_iload_n C 3 dX3_syndromeOf_26 rfl ?_
      refine zg_iald C 1 rfl (by omega) (by decide) dX3_syndromeOf_27 (nI (R i)) (hR i c_9) ?_
      refine zg_iload_n C 1 dX3_syndromeOf_28 rfl ?_
      refine zg_iand C dX3_syndromeOf_29 (nI ((R i) &&& w)) (zi_and _ _) ?_
      refine zg_calls (As := [.int (nI ((R i) &&& w))]) (st := [.int (nI (zsk R w i))]) C [] 1 (c_J6_bitCount_0f7a4 l D cI ((R i) &&& w) (Nat.lt_of_le_of_lt Nat.and_le_right hw)) gX3_syndromeOf_J6_bitCount_0f7a4 (by decide +kernel) rfl ⟨rfl, rfl⟩ ⟨Nat.le_of_ble_eq_true rfl, Nat.le_of_ble_eq_true rfl⟩ rfl rfl rfl (Nat.le_of_ble_eq_true rfl) ⟨Nat.le_of_ble_eq_true rfl, Nat.le_of_ble_eq_true rfl⟩ dX3_syndromeOf_30 ?_
      refine zg_iconst (v := nI 1) C dX3_syndromeOf_33 (by decide) ?_
      refine zg_iand C dX3_syndromeOf_34 (nI (zpc (R i &&& w) % 2)) (zi_and1 _) ?_
      refine zg_iload_n C 3 dX3_syndromeOf_35 rfl ?_
      refine zg_ishl C dX3_syndromeOf_36 (nI (zpc (R i &&& w) % 2 * 2 ^ i)) (zi_bsh (Nat.mod_lt _ (by decide)) (by omega)) ?_
      refine zg_ior C dX3_syndromeOf_37 (nI (zsk R w (i + 1))) ((zi_or _ _).trans (congrArg nI (zor_add (zsk_lt R w i)))) ?_
      refine zg_istore_n C [1, 2, 0, 3] (lv' := [(0, .ref h0), (1, .int (nI w)), (2, .int (nI (zsk R w (i + 1)))), (3, .int (nI i))]) dX3_syndromeOf_38 (by decide) rfl ?_
      refine zg_iinc C 3 [1, 2, 3, 0] (lv' := [(0, .ref h0), (1, .int (nI w)), (2, .int (nI (zsk R w (i + 1)))), (3, .int (nI (i + 1)))]) (nI (i + 1)) dX3_syndromeOf_39 rfl (zi_inc _) (by decide) rfl ?_
      refine zg_goto C 4 dX3_syndromeOf_42 (by decide) ?_
      exact zg_cv (lv' := [(0, .ref h0), (1, .int (nI w)), (2, .int (nI (zsk R w (i + 1)))), (3, .int (nI (i + 1)))]) (rfl) rfl (rfl) (ih_4 (by omega) )
  exact zg_cv (lv' := [(0, .ref h0), (1, .int (nI w)), (2, .int (nI (zsk R w 0))), (3, .int (nI 0))]) (rfl) rfl (rfl) (L_4 0 (by omega) )
end
section
/-! steps of the loops, in the words of 05 -/
theorem zopt (o : Option Nat) : o = none ∨ ∃ v, o = some v := by
  cases o with
  | none => exact Or.inl rfl
  | some v => exact Or.inr ⟨v, rfl⟩
theorem zdm_1 (R : Nat → Nat) (rc ln : Nat) : zdm R rc ln 1 = ln + 1 := by
  show (if 0 < 0 ∧ zpc 0 < zdm R rc ln 0 ∧ zsk R 0 rc = 0 then zpc 0 else zdm R rc ln 0) = ln + 1
  rw [if_neg (fun q => Nat.lt_irrefl 0 q.1)]
  rfl
theorem zdm_hit {R : Nat → Nat} {rc ln w : Nat} (h1 : zpc w < zdm R rc ln w) (h2 : zsk R w rc = 0) (h0 : 0 < w) : zdm R rc ln (w + 1) = zpc w := by
  show (if 0 < w ∧ zpc w < zdm R rc ln w ∧ zsk R w rc = 0 then zpc w else zdm R rc ln w) = zpc w
  rw [if_pos ⟨h0, h1, h2⟩]
theorem zdm_miss {R : Nat → Nat} {rc ln w : Nat} (h : ¬ (zpc w < zdm R rc ln w ∧ zsk R w rc = 0)) : zdm R rc ln (w + 1) = zdm R rc ln w := by
  show (if 0 < w ∧ zpc w < zdm R rc ln w ∧ zsk R w rc = 0 then zpc w else zdm R rc ln w) = zdm R rc ln w
  rw [if_neg (fun q => h q.2)]
theorem zdm_le (R : Nat → Nat) (rc ln n : Nat) : zdm R rc ln n ≤ ln + 1 := (zdm_spec R rc ln n).1
/-- the so-manieth of the words from w on -/
def zco (p : Nat → Bool) (x : Int32) : Nat → Nat → Nat → Int32
  | 0, _, _ => -1001
  | k + 1, w, a => if p w = true then (if nI a = x then nI w else zco p x k (w + 1) (a + 1)) else zco p x k (w + 1) a
theorem zco_end {p : Nat → Bool} {x : Int32} {N i a : Nat} (h : N ≤ i) : zco p x (N - i) i a = -1001 := by
  rw [show N - i = 0 by omega]; rfl
theorem zco_hit {p : Nat → Bool} {x : Int32} {N i a : Nat} (h : i < N) (hp : p i = true) (hx : nI a = x) : zco p x (N - i) i a = nI i := by
  rw [show N - i = (N - (i + 1)) + 1 by omega]
  show (if p i = true then (if nI a = x then nI i else zco p x (N - (i + 1)) (i + 1) (a + 1)) else zco p x (N - (i + 1)) (i + 1) a) = _
  rw [if_pos hp, if_pos hx]
theorem zco_go {p : Nat → Bool} {x : Int32} {N i a : Nat} (h : i < N) (hp : p i = true) (hx : ¬ nI a = x) : zco p x (N - i) i a = zco p x (N - (i + 1)) (i + 1) (a + 1) := by
  rw [show N - i = (N - (i + 1)) + 1 by omega]
  show (if p i = true then (if nI a = x then nI i else zco p x (N - (i + 1)) (i + 1) (a + 1)) else zco p x (N - (i + 1)) (i + 1) a) = _
  rw [if_pos hp, if_neg hx]
theorem zco_skip {p : Nat → Bool} {x : Int32} {N i a : Nat} (h : i < N) (hp : ¬ p i = true) : zco p x (N - i) i a = zco p x (N - (i + 1)) (i + 1) a := by
  rw [show N - i = (N - (i + 1)) + 1 by omega]
  show (if p i = true then (if nI a = x then nI i else zco p x (N - (i + 1)) (i + 1) (a + 1)) else zco p x (N - (i + 1)) (i + 1) a) = _
  rw [if_neg hp]
theorem zco_neg {p : Nat → Bool} {x : Int32} (hx : x < 0) : ∀ k w a, a + k < 2 ^ 31 → zco p x k w a = -1001 := by
  intro k
  induction k with
  | zero => intro w a _; rfl
  | succ k ih =>
    intro w a h
    show (if p w = true then (if nI a = x then nI w else zco p x k (w + 1) (a + 1)) else zco p x k (w + 1) a) = _
    rw [if_neg (show ¬ nI a = x from fun q => nI_pos (n := a) (by omega) (q ▸ hx)), ih _ _ (by omega), ih _ _ (by omega)]
    split <;> rfl
/-- no word but 0 has syndrome 0 and 0 at the known places -/
def zen (R : Nat → Nat) (rc kn : Nat) : Nat → Bool
  | 0 => true
  | w + 1 => zen R rc kn w && !(decide (0 < w ∧ w &&& kn = 0 ∧ zsk R w rc = 0))
theorem zen_1 (R : Nat → Nat) (rc kn : Nat) : zen R rc kn 1 = true := by
  show (true && !(decide (0 < 0 ∧ 0 &&& kn = 0 ∧ zsk R 0 rc = 0))) = true
  rw [decide_eq_false (fun q => Nat.lt_irrefl 0 q.1)]; rfl
theorem zen_bad {R : Nat → Nat} {rc kn w : Nat} (h1 : w &&& kn = 0) (h2 : zsk R w rc = 0) (h0 : 0 < w) : zen R rc kn (w + 1) = false := by
  show (zen R rc kn w && !(decide (0 < w ∧ w &&& kn = 0 ∧ zsk R w rc = 0))) = false
  rw [decide_eq_true ⟨h0, h1, h2⟩]; cases zen R rc kn w <;> rfl
theorem zen_good {R : Nat → Nat} {rc kn w : Nat} (h : zen R rc kn w = true) (hn : ¬ (w &&& kn = 0 ∧ zsk R w rc = 0)) : zen R rc kn (w + 1) = true := by
  show (zen R rc kn w && !(decide (0 < w ∧ w &&& kn = 0 ∧ zsk R w rc = 0))) = true
  rw [decide_eq_false (fun q => hn q.2), h]; rfl
theorem zen_mono {R : Nat → Nat} {rc kn : Nat} : ∀ {a b : Nat}, a ≤ b → zen R rc kn a = false → zen R rc kn b = false := by
  intro a b h ha
  induction b with
  | zero => rw [show a = 0 by omega] at ha; exact ha
  | succ b ih =>
    by_cases he : a = b + 1
    · rw [← he]; exact ha
    · show (zen R rc kn b && !(decide (0 < b ∧ b &&& kn = 0 ∧ zsk R b rc = 0))) = false
      rw [ih (by omega)]; rfl
theorem zen_iff {R : Nat → Nat} {rc kn : Nat} : ∀ {n : Nat}, zen R rc kn n = true ↔ ∀ w, 0 < w → w < n → ¬ (w &&& kn = 0 ∧ zsk R w rc = 0) := by
  intro n
  induction n with
  | zero => exact ⟨fun _ w _ h => by omega, fun _ => rfl⟩
  | succ n ih =>
    have key : zen R rc kn (n + 1) = (zen R rc kn n && !(decide (0 < n ∧ n &&& kn = 0 ∧ zsk R n rc = 0))) := rfl
    rw [key, Bool.and_eq_true, ih]
    constructor
    · rintro ⟨h1, h2⟩ w w0 wn q
      by_cases he : w = n
      · subst he
        rw [decide_eq_true ⟨w0, q⟩] at h2
        cases h2
      · exact h1 w w0 (by omega) q
    · intro h
      refine ⟨fun w w0 wn => h w w0 (by omega), ?_⟩
      rw [decide_eq_false]
      · rfl
      · exact fun q => h n q.1 (by omega) q.2
/-- the first word, the last word -/
def zfs (p : Nat → Bool) : Nat → Nat → Option Nat
  | 0, _ => none
  | k + 1, w => if p w = true then some w else zfs p k (w + 1)
theorem zfs_end {p : Nat → Bool} {N i : Nat} (h : N ≤ i) : zfs p (N - i) i = none := by
  rw [show N - i = 0 by omega]; rfl
theorem zfs_hit {p : Nat → Bool} {N i : Nat} (h : i < N) (hp : p i = true) : zfs p (N - i) i = some i := by
  rw [show N - i = (N - (i + 1)) + 1 by omega]
  show (if p i = true then some i else zfs p (N - (i + 1)) (i + 1)) = _
  rw [if_pos hp]
theorem zfs_skip {p : Nat → Bool} {N i : Nat} (h : i < N) (hp : ¬ p i = true) : zfs p (N - i) i = zfs p (N - (i + 1)) (i + 1) := by
  rw [show N - i = (N - (i + 1)) + 1 by omega]
  show (if p i = true then some i else zfs p (N - (i + 1)) (i + 1)) = _
  rw [if_neg hp]
def zls (p : Nat → Bool) : Nat → Option Nat
  | 0 => none
  | w + 1 => if p w = true then some w else zls p w
theorem zls_hit {p : Nat → Bool} {w : Nat} (h : p w = true) : zls p (w + 1) = some w := by
  show (if p w = true then some w else zls p w) = _
  rw [if_pos h]
theorem zls_miss {p : Nat → Bool} {w : Nat} (h : ¬ p w = true) : zls p (w + 1) = zls p w := by
  show (if p w = true then some w else zls p w) = _
  rw [if_neg h]
theorem zls_spec {p : Nat → Bool} : ∀ n, (∀ v, zls p n = some v → v < n ∧ p v = true) ∧ (zls p n = none → ∀ w, w < n → ¬ p w = true) := by
  intro n
  induction n with
  | zero => exact ⟨(fun v h => by cases h), fun _ w h => by omega⟩
  | succ n ih =>
    by_cases hp : p n = true
    · rw [zls_hit hp]
      exact ⟨fun v h => by cases h; exact ⟨by omega, hp⟩, fun h => by cases h⟩
    · rw [zls_miss hp]
      refine ⟨fun v h => ⟨by have := (ih.1 v h).1; omega, (ih.1 v h).2⟩, fun h w hw => ?_⟩
      by_cases he : w = n
      · rw [he]; exact hp
      · exact ih.2 h w (by omega)
theorem zfs_spec {p : Nat → Bool} : ∀ k w, (∀ v, zfs p k w = some v → w ≤ v ∧ v < w + k ∧ p v = true) ∧ (zfs p k w = none → ∀ v, w ≤ v → v < w + k → ¬ p v = true) := by
  intro k
  induction k with
  | zero => intro w; exact ⟨(fun v h => by cases h), fun _ v h1 h2 => by omega⟩
  | succ k ih =>
    intro w
    have key : zfs p (k + 1) w = if p w = true then some w else zfs p k (w + 1) := rfl
    rw [key]
    by_cases hp : p w = true
    · rw [if_pos hp]
      exact ⟨fun v h => by cases h; exact ⟨by omega, by omega, hp⟩, fun h => by cases h⟩
    · rw [if_neg hp]
      obtain ⟨h1, h2⟩ := ih (w + 1)
      refine ⟨fun v h => ?_, fun h v hv1 hv2 => ?_⟩
      · have := h1 v h
        exact ⟨by omega, by omega, this.2.2⟩
      · by_cases he : v = w
        · rw [he]; exact hp
        · exact h2 h v (by omega) (by omega)
theorem zfs_zls {p : Nat → Bool} {N : Nat} (h : ∀ a b, a < N → b < N → p a = true → p b = true → a = b) : zfs p N 0 = zls p N := by
  obtain ⟨f1, f2⟩ := zfs_spec (p := p) N 0
  obtain ⟨g1, g2⟩ := zls_spec (p := p) N
  cases ha : zfs p N 0 with
  | none =>
    cases hb : zls p N with
    | none => rfl
    | some b => exact absurd (g1 b hb).2 (f2 ha b (Nat.zero_le _) (by have := (g1 b hb).1; omega))
  | some a =>
    obtain ⟨-, a1, a2⟩ := f1 a ha
    cases hb : zls p N with
    | none => exact absurd a2 (g2 hb a (by omega))
    | some b => rw [h a b (by omega) (g1 b hb).1 a2 (g1 b hb).2]
/-- VERDICT -/
def zvd (x y f su : Nat) : Nat := if x ^^^ f = y then (if zpc f ≤ su then 0 else 1) else (if zpc f ≤ su then 3 else 2)
theorem zvd_lt (x y f su : Nat) : zvd x y f su < 4 := by
  unfold zvd
  split <;> split <;> decide
/-- what the first word is taken to be -/
def zsp (R : Nat → Nat) (rc one other x y f : Nat) : Nat → Bool := fun w => decide (w &&& (one ||| other) = (x &&& one ||| (y ^^^ f) &&& other) ∧ zsk R w rc = zsk R x rc)
def zsh (R : Nat → Nat) (rc ln one other x y f : Nat) : Int32 := if zen R rc (one ||| other) (2 ^ ln) = true then zo (zfs (zsp R rc one other x y f) (2 ^ ln) 0) else -1001
/-- leaders, one word more -/
theorem zld_hit {R : Nat → Nat} {rc i : Nat} (h : znear i (zld R rc i (zsk R i rc)) = true) (s : Nat) : upd (fun s => zo (zld R rc i s)) (zsk R i rc) (nI i) s = zo (zld R rc (i + 1) s) := by
  show (if s = zsk R i rc then nI i else zo (zld R rc i s)) = zo (if zsk R i rc = s ∧ znear i (zld R rc i s) = true then some i else zld R rc i s)
  by_cases hs : s = zsk R i rc
  · subst hs
    rw [if_pos rfl, if_pos ⟨rfl, h⟩]; rfl
  · rw [if_neg hs, if_neg (fun q => hs q.1.symm)]
theorem zld_miss {R : Nat → Nat} {rc i : Nat} (h : znear i (zld R rc i (zsk R i rc)) = false) (s : Nat) : zo (zld R rc i s) = zo (zld R rc (i + 1) s) := by
  show _ = zo (if zsk R i rc = s ∧ znear i (zld R rc i s) = true then some i else zld R rc i s)
  rw [if_neg]
  rintro ⟨rfl, q⟩
  rw [h] at q; cases q
/-- an array filled from its beginning -/
theorem zfill {f : Nat → Int32} {v : Int32} {i : Nat} (j : Nat) : upd (fun j => if j < i then v else f j) i v j = if j < i + 1 then v else f j := by
  show (if j = i then v else if j < i then v else f j) = _
  by_cases h : j = i
  · rw [if_pos h, if_pos (by omega)]
  · rw [if_neg h]
    by_cases h2 : j < i
    · rw [if_pos h2, if_pos (by omega)]
    · rw [if_neg h2, if_neg (by omega)]
theorem zcopy {f g : Nat → Int32} {i : Nat} (j : Nat) : upd (fun j => if j < i then g j else f j) i (g i) j = if j < i + 1 then g j else f j := by
  show (if j = i then g i else if j < i then g j else f j) = _
  by_cases h : j = i
  · rw [if_pos h, if_pos (by omega), h]
  · rw [if_neg h]
    by_cases h2 : j < i
    · rw [if_pos h2, if_pos (by omega)]
    · rw [if_neg h2, if_neg (by omega)]
theorem zmx {a b : Nat} (ha : a < 2 ^ 31) (hb : b < 2 ^ 31) : (if nI a < nI b then nI b else nI a) = nI (if a < b then b else a) := by
  by_cases h : a < b
  · rw [if_pos h, if_pos ((nI_ltI ha hb).mpr h)]
  · rw [if_neg h, if_neg (fun q => h ((nI_ltI ha hb).mp q))]
theorem zct_t {p : Nat → Bool} {i : Nat} (h : p i = true) : zct p (i + 1) = zct p i + 1 := by
  show zct p i + (if p i = true then 1 else 0) = _
  rw [if_pos h]
theorem zct_f {p : Nat → Bool} {i : Nat} (h : p i = false) : zct p (i + 1) = zct p i := by
  show zct p i + (if p i = true then 1 else 0) = _
  rw [h]; rfl
theorem zsome_f {Lo : Nat → Option Nat} {i : Nat} (h : Lo i = none) : (fun s => (Lo s).isSome) i = false := by
  show (Lo i).isSome = false
  rw [h]; rfl
theorem zsome_t {Lo : Nat → Option Nat} {i v : Nat} (h : Lo i = some v) : (fun s => (Lo s).isSome) i = true := by
  show (Lo i).isSome = true
  rw [h]; rfl
theorem zw_add {Lo : Nat → Option Nat} {i v : Nat} (h : Lo i = some v) (j : Nat) : upd (fun j => nI (zct (zhw Lo j) i)) (zpc v) (nI (zct (zhw Lo (zpc v)) i + 1)) j = nI (zct (zhw Lo j) (i + 1)) := by
  show (if j = zpc v then nI (zct (zhw Lo (zpc v)) i + 1) else nI (zct (zhw Lo j) i)) = _
  by_cases hj : j = zpc v
  · subst hj
    rw [if_pos rfl, zct_t (by rw [zhw_some h, decide_eq_true rfl])]
  · rw [if_neg hj, zct_f (by rw [zhw_some h, decide_eq_false (fun q => hj q.symm)])]
theorem zw_same {Lo : Nat → Option Nat} {i : Nat} (h : Lo i = none) (j : Nat) : nI (zct (zhw Lo j) i) = nI (zct (zhw Lo j) (i + 1)) := by
  rw [zct_f (zhw_none h)]
/-- one row put in another's place -/
def zset (R : Nat → Nat) (i v : Nat) : Nat → Nat := fun j => if j = i then v else R j
theorem zset_arr {Rf : Nat → Int32} {R : Nat → Nat} {rc i v : Nat} (hR : ∀ j, j < rc → Rf j = nI (R j)) (j : Nat) (hj : j < rc) : upd Rf i (nI v) j = nI (zset R i v j) := by
  show (if j = i then nI v else Rf j) = nI (if j = i then v else R j)
  by_cases h : j = i
  · rw [if_pos h, if_pos h]
  · rw [if_neg h, if_neg h]; exact hR j hj
theorem zset_b {R : Nat → Nat} {rc i v : Nat} (hRb : ∀ j, j < rc → R j < 1024) (hv : v < 1024) (j : Nat) (hj : j < rc) : zset R i v j < 1024 := by
  show (if j = i then v else R j) < 1024
  by_cases h : j = i
  · rw [if_pos h]; exact hv
  · rw [if_neg h]; exact hRb j hj
theorem zback {f : Nat → Int32} {i : Nat} {v : Int32} (j : Nat) : upd (upd f i v) i (f i) j = f j := by
  show (if j = i then f i else if j = i then v else f j) = f j
  by_cases h : j = i
  · rw [if_pos h, h]
  · rw [if_neg h, if_neg h]
/-! READING: the text is read letter by letter -/
def zwh (rw sg lg : Nat) : Bool := if rw = 0 then decide (3 ≤ sg) else decide (sg = lg)
def zmo (rw lg : Nat) : Nat := if rw = 0 then 10 else lg
def zsgn (rw sg lg : Nat) (R : Nat → Nat) (b : Nat) : Option (Nat × Nat × Nat × (Nat → Nat)) := if sg < zmo rw lg then some (rw, sg + 1, lg, zset R rw (R rw + b * 2 ^ sg)) else none
def zeor (rw sg lg : Nat) (R : Nat → Nat) : Option (Nat × Nat × Nat × (Nat → Nat)) := if zwh rw sg lg = true ∧ rw < 4 then some (rw + 1, 0, sg, R) else none
def zstep (st : Nat × Nat × Nat × (Nat → Nat)) (c : Int32) : Option (Nat × Nat × Nat × (Nat → Nat)) := match st with
  | (rw, sg, lg, R) => if c.toInt = 47 then zeor rw sg lg R else if c.toInt = 48 then zsgn rw sg lg R 0 else if c.toInt = 49 then zsgn rw sg lg R 1 else none
def zrok (st : Nat × Nat × Nat × (Nat → Nat)) : Prop := match st with
  | (rw, sg, lg, R) => rw ≤ 4 ∧ sg ≤ 10 ∧ lg ≤ 10 ∧ (rw = 0 → lg = 0) ∧ (0 < rw → 3 ≤ lg ∧ sg ≤ lg) ∧ (∀ i, i < rw → R i < 2 ^ lg) ∧ R rw < 2 ^ sg ∧ (∀ i, rw < i → R i = 0)
def zr0 : Nat × Nat × Nat × (Nat → Nat) := (0, 0, 0, fun _ => 0)
theorem zrok_0 : zrok zr0 := ⟨by decide, by decide, by decide, fun _ => rfl, fun h => by omega, fun i h => by omega, Nat.one_pos, fun _ _ => rfl⟩
theorem zrok_eor {rw sg lg : Nat} {R : Nat → Nat} {st : Nat × Nat × Nat × (Nat → Nat)} (h : zrok (rw, sg, lg, R)) (e : zeor rw sg lg R = some st) : zrok st := by
  obtain ⟨h1, h2, h3, h4, h5, h6, h7, h8⟩ := h
  unfold zeor at e
  by_cases hc : zwh rw sg lg = true ∧ rw < 4
  · rw [if_pos hc] at e
    cases e
    obtain ⟨hw, hr⟩ := hc
    unfold zwh at hw
    by_cases h0 : rw = 0
    · rw [if_pos h0] at hw
      have := of_decide_eq_true hw
      subst h0
      refine ⟨by omega, by omega, h2, fun q => by omega, fun _ => ⟨by omega, by omega⟩, fun i hi => ?_, ?_, fun i hi => h8 i (by omega)⟩
      · rw [show i = 0 by omega]; exact h7
      · rw [h8 1 (by omega)]; exact Nat.one_pos
    · rw [if_neg h0] at hw
      have he := of_decide_eq_true hw
      refine ⟨by omega, by omega, h2, fun q => by omega, fun _ => ⟨by have := h5 (by omega); omega, by omega⟩, fun i hi => ?_, ?_, fun i hi => h8 i (by omega)⟩
      · by_cases hi2 : i = rw
        · rw [hi2]; exact h7
        · rw [he]; exact h6 i (by omega)
      · rw [h8 (rw + 1) (by omega)]; exact Nat.one_pos
  · rw [if_neg hc] at e; cases e
theorem zrok_sgn {rw sg lg b : Nat} {R : Nat → Nat} {st : Nat × Nat × Nat × (Nat → Nat)} (hb : b < 2) (h : zrok (rw, sg, lg, R)) (e : zsgn rw sg lg R b = some st) : zrok st := by
  obtain ⟨h1, h2, h3, h4, h5, h6, h7, h8⟩ := h
  unfold zsgn at e
  by_cases hc : sg < zmo rw lg
  · rw [if_pos hc] at e
    cases e
    have hm : zmo rw lg ≤ 10 ∧ (0 < rw → zmo rw lg = lg) := by
      unfold zmo
      by_cases h0 : rw = 0
      · rw [if_pos h0]; exact ⟨by omega, fun q => by omega⟩
      · rw [if_neg h0]; exact ⟨by omega, fun _ => rfl⟩
    refine ⟨h1, by omega, h3, h4, fun q => ⟨(h5 q).1, by have := hm.2 q; omega⟩, fun i hi => ?_, ?_, fun i hi => ?_⟩
    · show (if i = rw then R rw + b * 2 ^ sg else R i) < 2 ^ lg
      rw [if_neg (by omega)]; exact h6 i hi
    · show (if rw = rw then R rw + b * 2 ^ sg else R rw) < 2 ^ (sg + 1)
      rw [if_pos rfl, Nat.pow_succ]
      rcases (show b = 0 ∨ b = 1 by omega) with rfl | rfl <;> omega
    · show (if i = rw then R rw + b * 2 ^ sg else R i) = 0
      rw [if_neg (by omega)]; exact h8 i hi
  · rw [if_neg hc] at e; cases e
theorem zrok_step {st st' : Nat × Nat × Nat × (Nat → Nat)} {c : Int32} (h : zrok st) (e : zstep st c = some st') : zrok st' := by
  obtain ⟨rw, sg, lg, R⟩ := st
  have e1 : (if c.toInt = 47 then zeor rw sg lg R else if c.toInt = 48 then zsgn rw sg lg R 0 else if c.toInt = 49 then zsgn rw sg lg R 1 else none) = some st' := e
  by_cases h1 : c.toInt = 47
  · rw [if_pos h1] at e1; exact zrok_eor h e1
  · rw [if_neg h1] at e1
    by_cases h2 : c.toInt = 48
    · rw [if_pos h2] at e1; exact zrok_sgn (by decide) h e1
    · rw [if_neg h2] at e1
      by_cases h3 : c.toInt = 49
      · rw [if_pos h3] at e1; exact zrok_sgn (by decide) h e1
      · rw [if_neg h3] at e1; cases e1
/-- as far as it goes: the place, and what was read -/
def zfa (pg : Nat → Int32) : Nat → Nat → (Nat × Nat × Nat × (Nat → Nat)) → Nat × (Nat × Nat × Nat × (Nat → Nat))
  | 0, i, st => (i, st)
  | k + 1, i, st => match zstep st (pg i) with
    | none => (i, st)
    | some st' => zfa pg k (i + 1) st'
theorem zfa_end {pg : Nat → Int32} {n i : Nat} {st : Nat × Nat × Nat × (Nat → Nat)} (h : n ≤ i) : zfa pg (n - i) i st = (i, st) := by
  rw [show n - i = 0 by omega]; rfl
theorem zfa_no {pg : Nat → Int32} {n i : Nat} {st : Nat × Nat × Nat × (Nat → Nat)} (h : i < n) (e : zstep st (pg i) = none) : zfa pg (n - i) i st = (i, st) := by
  rw [show n - i = (n - (i + 1)) + 1 by omega]
  show (match zstep st (pg i) with | none => (i, st) | some st' => zfa pg (n - (i + 1)) (i + 1) st') = _
  rw [e]
theorem zfa_yes {pg : Nat → Int32} {n i : Nat} {st st' : Nat × Nat × Nat × (Nat → Nat)} (h : i < n) (e : zstep st (pg i) = some st') : zfa pg (n - i) i st = zfa pg (n - (i + 1)) (i + 1) st' := by
  rw [show n - i = (n - (i + 1)) + 1 by omega]
  show (match zstep st (pg i) with | none => (i, st) | some st' => zfa pg (n - (i + 1)) (i + 1) st') = _
  rw [e]
theorem zfa_le {pg : Nat → Int32} : ∀ k i st, i ≤ (zfa pg k i st).1 ∧ (zfa pg k i st).1 ≤ i + k := by
  intro k
  induction k with
  | zero => intro i st; exact ⟨Nat.le_refl _, Nat.le_refl _⟩
  | succ k ih =>
    intro i st
    cases e : zstep st (pg i) with
    | none =>
      have : zfa pg (k + 1) i st = (i, st) := by
        show (match zstep st (pg i) with | none => (i, st) | some st' => zfa pg k (i + 1) st') = _
        rw [e]
      rw [this]; exact ⟨Nat.le_refl _, by show i ≤ _; omega⟩
    | some st' =>
      have : zfa pg (k + 1) i st = zfa pg k (i + 1) st' := by
        show (match zstep st (pg i) with | none => (i, st) | some st' => zfa pg k (i + 1) st') = _
        rw [e]
      rw [this]
      have := ih (i + 1) st'
      omega
theorem zfa_ok {pg : Nat → Int32} : ∀ k i st, zrok st → zrok (zfa pg k i st).2 := by
  intro k
  induction k with
  | zero => intro i st h; exact h
  | succ k ih =>
    intro i st h
    cases e : zstep st (pg i) with
    | none =>
      have : zfa pg (k + 1) i st = (i, st) := by
        show (match zstep st (pg i) with | none => (i, st) | some st' => zfa pg k (i + 1) st') = _
        rw [e]
      rw [this]; exact h
    | some st' =>
      have : zfa pg (k + 1) i st = zfa pg k (i + 1) st' := by
        show (match zstep st (pg i) with | none => (i, st) | some st' => zfa pg k (i + 1) st') = _
        rw [e]
      rw [this]
      exact ih (i + 1) st' (zrok_step h e)
/-! DRAWS -/
def znx (s : Nat) : Nat := (1103515245 * s + 12345) % 2 ^ 31
def zdr (s N : Nat) : Nat := znx s / 2 ^ 16 % N
theorem znx_lt (s : Nat) : znx s < 2 ^ 31 := Nat.mod_lt _ (by decide)
theorem zl_a : (1103515245 : Int64) = lN 1103515245 := rfl
theorem zl_b : (12345 : Int64) = lN 12345 := rfl
theorem zl_c : (2147483648 : Int64) = lN (2 ^ 31) := rfl
theorem zl_d : (65536 : Int64) = lN (2 ^ 16) := rfl
theorem zl_and (a : Nat) : lN a &&& 2147483647 = lN (a % 2 ^ 31) := by
  apply Int64.toBitVec_inj.mp
  show BitVec.ofNat 64 a &&& BitVec.ofNat 64 (2 ^ 31 - 1) = BitVec.ofNat 64 (a % 2 ^ 31)
  rw [← BitVec.ofNat_and, Nat.and_two_pow_sub_one_eq_mod]
theorem zi_mask (a b : Nat) : nI a &&& nI (2 ^ b - 1) = nI (a % 2 ^ b) := by
  rw [zi_and, Nat.and_two_pow_sub_one_eq_mod]
end
section
/-! the class Sums: its searches -/
theorem uX3_leastWeightWithoutSyndrome_3 : ∀ w ∈ u_ws RX3 TX3 9, w ∈ wsX3_leastWeightWithoutSyndrome := fun w h => List.mem_cons_of_mem _ (List.mem_append_right _ h)
theorem fX3_leastWeightWithoutSyndrome_3_4 : Cond.fieldLink RX3 25 (TX3 4).1 (TX3 4).2.1 (TX3 4).2.2.1 ∈ wsX3_leastWeightWithoutSyndrome := by decide +kernel
set_option maxHeartbeats 1000000 in
set_option maxRecDepth 100000 in
theorem c_X3_leastWeightWithoutSyndrome (l : Launch) (D : va_G) (cI : ClassId) (h0 a0 a1 a2 : Nat) (Rf Lf Wf : Nat → Int32) (rc ln rk ds su rd : Nat) (R : Nat → Nat) (hrc : rc ≤ 5) (hln : ln ≤ 10) (hR : ∀ i, i < rc → Rf i = nI (R i)) (hRb : ∀ i, i < rc → R i < 1024) : zMr l D cI yX3_leastWeightWithoutSyndrome wsX3_leastWeightWithoutSyndrome { frames := 2, cells := 0, slots := 0, locals := 43 } [.ref h0] [(h0, .inr (3, [.ref a0, .ref a1, .ref a2, .int (nI rc), .int (nI ln), .int (nI rk), .int (nI ds), .int (nI su), .int (nI rd)])), (a0, .inl (cI, 5, .inl Rf)), (a1, .inl (cI, 32, .inl Lf)), (a2, .inl (cI, 11, .inl Wf))] (nI (zdm R rc ln (2 ^ ln))) := by
  refine zr_ent (maxL := 5) (by decide) rfl (Nat.le_of_ble_eq_true rfl) (fun X C E => ?_)
  have C : zC X l D cI { frames := 2, cells := 0, slots := 0, locals := 43 } 5 false cX3_leastWeightWithoutSyndrome RX3 wsX3_leastWeightWithoutSyndrome := C
  refine zg_cv (lv' := [(0, .ref h0)]) rfl rfl rfl ?_
  have q0 := zpw hln
  have q1 := zpw0 ln
  refine zg_aload_n C 0 dX3_leastWeightWithoutSyndrome_0 rfl ?_
  refine zg_callr (As := []) (st := []) C [0, 1, 2, 3] 0 0 (c_X3_words l D cI h0 a0 a1 a2 Rf Lf Wf rc ln rk ds su rd hln) gX3_leastWeightWithoutSyndrome_X3_words (by decide +kernel) rfl ⟨rfl, rfl⟩ ⟨Nat.le_of_ble_eq_true rfl, Nat.le_of_ble_eq_true rfl⟩ rfl (ci := 3) rfl rfl rfl rfl (Nat.le_of_ble_eq_true rfl) ⟨Nat.le_of_ble_eq_true rfl, Nat.le_of_ble_eq_true rfl⟩ dX3_leastWeightWithoutSyndrome_1 ?_
  refine zg_istore_n C [1, 0] (lv' := [(0, .ref h0), (1, .int (nI (2 ^ ln)))]) dX3_leastWeightWithoutSyndrome_4 (by decide) rfl ?_
  refine zg_aload_n C 0 dX3_leastWeightWithoutSyndrome_5 rfl ?_
  refine zg_get C 0 (ci := 3) (f := 4) rfl rfl uX3_leastWeightWithoutSyndrome_3 (by decide) fX3_leastWeightWithoutSyndrome_3_4 dX3_leastWeightWithoutSyndrome_6 rfl ?_
  refine zg_iconst (v := nI 1) C dX3_leastWeightWithoutSyndrome_9 (by decide) ?_
  refine zg_iadd C dX3_leastWeightWithoutSyndrome_10 (nI (ln + 1)) (nI_add _ _) ?_
  refine zg_istore_n C [1, 2, 0] (lv' := [(0, .ref h0), (1, .int (nI (2 ^ ln))), (2, .int (nI (ln + 1)))]) dX3_leastWeightWithoutSyndrome_11 (by decide) rfl ?_
  refine zg_iconst (v := nI 1) C dX3_leastWeightWithoutSyndrome_12 (by decide) ?_
  refine zg_istore_n C [1, 2, 3, 0] (lv' := [(0, .ref h0), (1, .int (nI (2 ^ ln))), (2, .int (nI (ln + 1))), (3, .int (nI 1))]) dX3_leastWeightWithoutSyndrome_13 (by decide) rfl ?_
  have L_14 : ∀ i, i ≤ 2 ^ ln - 1 → zG X 0 0 [(0, .ref h0), (1, .int (nI (2 ^ ln))), (2, .int (nI (zdm R rc ln (i + 1)))), (3, .int (nI (i + 1)))] [] [(h0, .inr (3, [.ref a0, .ref a1, .ref a2, .int (nI rc), .int (nI ln), .int (nI rk), .int (nI ds), .int (nI su), .int (nI rd)])), (a0, .inl (cI, 5, .inl Rf)), (a1, .inl (cI, 32, .inl Lf)), (a2, .inl (cI, 11, .inl Wf))] 14 := by
    refine zg_dn (fun i hi ih_14  => ?_)
    refine zg_iload_n C 3 dX3_leastWeightWithoutSyndrome_14 rfl ?_
    refine zg_iload_n C 1 dX3_leastWeightWithoutSyndrome_15 rfl ?_
    have q2 := zdm_le R rc ln (i + 1)
    have q3 := zpc_le (i + 1)
    have q4 := zsk_lt R (i + 1) rc
    have q5 := zpw5 hrc
    refine zn_icmp_ge C 48 (by omega) (by omega) dX3_leastWeightWithoutSyndrome_16 (by decide) (fun c_16 => ?_) (fun c_16 => ?_)
    · skip
      refine zg_iload_n C 2 dX3_leastWeightWithoutSyndrome_48 rfl ?_
      exact zg_iret C E dX3_leastWeightWithoutSyndrome_49 (by rw [show i + 1 = 2 ^ ln by omega])
    · skip
      refine zg_iload_n C 3 dX3_leastWeightWithoutSyndrome_19 rfl ?_
      refine zg_calls (As := [.int (nI (i + 1))]) (st := []) C [] 1 (c_J6_bitCount_0f7a4 l D cI (i + 1) (by omega)) gX3_leastWeightWithoutSyndrome_J6_bitCount_0f7a4 (by decide +kernel) rfl ⟨rfl, rfl⟩ ⟨Nat.le_of_ble_eq_true rfl, Nat.le_of_ble_eq_true rfl⟩ rfl rfl rfl (Nat.le_of_ble_eq_true rfl) ⟨Nat.le_of_ble_eq_true rfl, Nat.le_of_ble_eq_true rfl⟩ dX3_leastWeightWithoutSyndrome_20 ?_
      refine zg_istore C [1, 2, 3, 4, 0] (lv' := [(0, .ref h0), (1, .int (nI (2 ^ ln))), (2, .int (nI (zdm R rc ln (i + 1)))), (3, .int (nI (i + 1))), (4, .int (nI (zpc (i + 1))))]) dX3_leastWeightWithoutSyndrome_23 (by decide) rfl ?_
      refine zg_iload C 4 dX3_leastWeightWithoutSyndrome_25 rfl ?_
      refine zg_iload_n C 2 dX3_leastWeightWithoutSyndrome_27 rfl ?_
      refine zn_icmp_ge C 42 (by omega) (by omega) dX3_leastWeightWithoutSyndrome_28 (by decide) (fun c_28 => ?_) (fun c_28 => ?_)
      · skip
        refine zg_iinc C 3 [1, 2, 3, 0, 4] (lv' := [(0, .ref h0), (1, .int (nI (2 ^ ln))), (2, .int (nI (zdm R rc ln (i + 1)))), (3, .int (nI (i + 1 + 1))), (4, .int (nI (zpc (i + 1))))]) (nI (i + 1 + 1)) dX3_leastWeightWithoutSyndrome_42 rfl (zi_inc _) (by decide) rfl ?_
        refine zg_goto C 14 dX3_leastWeightWithoutSyndrome_45 (by decide) ?_
        refine zg_lv [0, 1, 2, 3] (lv' := [(0, .ref h0), (1, .int (nI (2 ^ ln))), (2, .int (nI (zdm R rc ln (i + 1)))), (3, .int (nI (i + 1 + 1)))]) rfl ?_
        exact zg_cv (lv' := [(0, .ref h0), (1, .int (nI (2 ^ ln))), (2, .int (nI (zdm R rc ln ((i + 1) + 1)))), (3, .int (nI ((i + 1) + 1)))]) (by rw [zdm_miss (w := i + 1) (fun q => by omega)]) rfl (rfl) (ih_14 (by omega) )
      · skip
        refine zg_aload_n C 0 dX3_leastWeightWithoutSyndrome_31 rfl ?_
        refine zg_iload_n C 3 dX3_leastWeightWithoutSyndrome_32 rfl ?_
        refine zg_callr (As := [.int (nI (i + 1))]) (st := []) C [0, 1, 2, 3] 0 1 (c_X3_syndromeOf l D cI h0 a0 a1 a2 Rf Lf Wf rc ln rk ds su rd R (i + 1) hrc hR hRb (by omega)) gX3_leastWeightWithoutSyndrome_X3_syndromeOf (by decide +kernel) rfl ⟨rfl, rfl⟩ ⟨Nat.le_of_ble_eq_true rfl, Nat.le_of_ble_eq_true rfl⟩ rfl (ci := 3) rfl rfl rfl rfl (Nat.le_of_ble_eq_true rfl) ⟨Nat.le_of_ble_eq_true rfl, Nat.le_of_ble_eq_true rfl⟩ dX3_leastWeightWithoutSyndrome_33 ?_
        refine zn_if_ne C 42 (by omega) dX3_leastWeightWithoutSyndrome_36 (by decide) (fun c_36 => ?_) (fun c_36 => ?_)
        · skip
          refine zg_iinc C 3 [1, 2, 3, 0, 4] (lv' := [(0, .ref h0), (1, .int (nI (2 ^ ln))), (2, .int (nI (zdm R rc ln (i + 1)))), (3, .int (nI (i + 1 + 1))), (4, .int (nI (zpc (i + 1))))]) (nI (i + 1 + 1)) dX3_leastWeightWithoutSyndrome_42 rfl (zi_inc _) (by decide) rfl ?_
          refine zg_goto C 14 dX3_leastWeightWithoutSyndrome_45 (by decide) ?_
          refine zg_lv [0, 1, 2, 3] (lv' := [(0, .ref h0), (1, .int (nI (2 ^ ln))), (2, .int (nI (zdm R rc ln (i + 1)))), (3, .int (nI (i + 1 + 1)))]) rfl ?_
          exact zg_cv (lv' := [(0, .ref h0), (1, .int (nI (2 ^ ln))), (2, .int (nI (zdm R rc ln ((i + 1) + 1)))), (3, .int (nI ((i + 1) + 1)))]) (by rw [zdm_miss (w := i + 1) (fun q => by omega)]) rfl (rfl) (ih_14 (by omega) )
        · skip
          refine zg_iload C 4 dX3_leastWeightWithoutSyndrome_39 rfl ?_
          refine zg_istore_n C [1, 2, 0, 3, 4] (lv' := [(0, .ref h0), (1, .int (nI (2 ^ ln))), (2, .int (nI (zpc (i + 1)))), (3, .int (nI (i + 1))), (4, .int (nI (zpc (i + 1))))]) dX3_leastWeightWithoutSyndrome_41 (by decide) rfl ?_
          refine zg_iinc C 3 [1, 2, 3, 0, 4] (lv' := [(0, .ref h0), (1, .int (nI (2 ^ ln))), (2, .int (nI (zpc (i + 1)))), (3, .int (nI (i + 1 + 1))), (4, .int (nI (zpc (i + 1))))]) (nI (i + 1 + 1)) dX3_leastWeightWithoutSyndrome_42 rfl (zi_inc _) (by decide) rfl ?_
          refine zg_goto C 14 dX3_leastWeightWithoutSyndrome_45 (by decide) ?_
          refine zg_lv [0, 1, 2, 3] (lv' := [(0, .ref h0), (1, .int (nI (2 ^ ln))), (2, .int (nI (zpc (i + 1)))), (3, .int (nI (i + 1 + 1)))]) rfl ?_
          exact zg_cv (lv' := [(0, .ref h0), (1, .int (nI (2 ^ ln))), (2, .int (nI (zdm R rc ln ((i + 1) + 1)))), (3, .int (nI ((i + 1) + 1)))]) (by rw [zdm_hit (w := i + 1) c_28 c_36 (by omega)]) rfl (rfl) (ih_14 (by omega) )
  exact zg_cv (lv' := [(0, .ref h0), (1, .int (nI (2 ^ ln))), (2, .int (nI (zdm R rc ln (0 + 1)))), (3, .int (nI (0 + 1)))]) (by rw [zdm_1]) rfl (rfl) (L_14 0 (by omega) )
set_option maxHeartbeats 1000000 in
set_option maxRecDepth 100000 in
theorem c_X3_wordOfCoset (l : Launch) (D : va_G) (cI : ClassId) (h0 a0 a1 a2 : Nat) (Rf Lf Wf : Nat → Int32) (rc ln rk ds su rd : Nat) (R : Nat → Nat) (y : Nat) (x : Int32) (hrc : rc ≤ 5) (hln : ln ≤ 10) (hR : ∀ i, i < rc → Rf i = nI (R i)) (hRb : ∀ i, i < rc → R i < 1024) (hy : y < 2 ^ rc) : zMr l D cI yX3_wordOfCoset wsX3_wordOfCoset { frames := 2, cells := 0, slots := 0, locals := 43 } [.ref h0, .int (nI y), .int x] [(h0, .inr (3, [.ref a0, .ref a1, .ref a2, .int (nI rc), .int (nI ln), .int (nI rk), .int (nI ds), .int (nI su), .int (nI rd)])), (a0, .inl (cI, 5, .inl Rf)), (a1, .inl (cI, 32, .inl Lf)), (a2, .inl (cI, 11, .inl Wf))] (zco (fun w => decide (zsk R w rc = y)) x (2 ^ ln) 0 0) := by
  refine zr_ent (maxL := 6) (by decide) rfl (Nat.le_of_ble_eq_true rfl) (fun X C E => ?_)
  have C : zC X l D cI { frames := 2, cells := 0, slots := 0, locals := 43 } 6 false cX3_wordOfCoset RX3 wsX3_wordOfCoset := C
  refine zg_cv (lv' := [(0, .ref h0), (1, .int (nI y)), (2, .int x)]) rfl rfl rfl ?_
  have q0 := zpw hln
  have q1 := zpw0 ln
  have q5 := zpw5 hrc
  refine zg_aload_n C 0 dX3_wordOfCoset_0 rfl ?_
  refine zg_callr (As := []) (st := []) C [0, 1, 2, 3] 0 0 (c_X3_words l D cI h0 a0 a1 a2 Rf Lf Wf rc ln rk ds su rd hln) gX3_wordOfCoset_X3_words (by decide +kernel) rfl ⟨rfl, rfl⟩ ⟨Nat.le_of_ble_eq_true rfl, Nat.le_of_ble_eq_true rfl⟩ rfl (ci := 3) rfl rfl rfl rfl (Nat.le_of_ble_eq_true rfl) ⟨Nat.le_of_ble_eq_true rfl, Nat.le_of_ble_eq_true rfl⟩ dX3_wordOfCoset_1 ?_
  refine zg_istore_n C [1, 2, 3, 0] (lv' := [(0, .ref h0), (1, .int (nI y)), (2, .int x), (3, .int (nI (2 ^ ln)))]) dX3_wordOfCoset_4 (by decide) rfl ?_
  refine zg_iconst (v := nI 0) C dX3_wordOfCoset_5 (by decide) ?_
  refine zg_istore C [1, 2, 3, 4, 0] (lv' := [(0, .ref h0), (1, .int (nI y)), (2, .int x), (3, .int (nI (2 ^ ln))), (4, .int (nI 0))]) dX3_wordOfCoset_6 (by decide) rfl ?_
  refine zg_iconst (v := nI 0) C dX3_wordOfCoset_8 (by decide) ?_
  refine zg_istore C [1, 2, 3, 4, 5, 0] (lv' := [(0, .ref h0), (1, .int (nI y)), (2, .int x), (3, .int (nI (2 ^ ln))), (4, .int (nI 0)), (5, .int (nI 0))]) dX3_wordOfCoset_9 (by decide) rfl ?_
  have L_11 : ∀ i, i ≤ 2 ^ ln → ∀ (a : Nat), zco (fun w => decide (zsk R w rc = y)) x (2 ^ ln - i) i a = zco (fun w => decide (zsk R w rc = y)) x (2 ^ ln) 0 0 → zG X 0 0 [(0, .ref h0), (1, .int (nI y)), (2, .int x), (3, .int (nI (2 ^ ln))), (4, .int (nI a)), (5, .int (nI i))] [] [(h0, .inr (3, [.ref a0, .ref a1, .ref a2, .int (nI rc), .int (nI ln), .int (nI rk), .int (nI ds), .int (nI su), .int (nI rd)])), (a0, .inl (cI, 5, .inl Rf)), (a1, .inl (cI, 32, .inl Lf)), (a2, .inl (cI, 11, .inl Wf))] 11 := by
    refine zg_dn (fun i hi ih_11 a hz => ?_)
    refine zg_iload C 5 dX3_wordOfCoset_11 rfl ?_
    refine zg_iload_n C 3 dX3_wordOfCoset_13 rfl ?_
    refine zn_icmp_ge C 45 (by omega) (by omega) dX3_wordOfCoset_14 (by decide) (fun c_14 => ?_) (fun c_14 => ?_)
    · skip
      refine zg_sipush (v := (-1001)) C dX3_wordOfCoset_45 (by decide) ?_
      exact zg_iret C E dX3_wordOfCoset_48 ((zco_end (by omega)).symm.trans hz)
    · skip
      refine zg_aload_n C 0 dX3_wordOfCoset_17 rfl ?_
      refine zg_iload C 5 dX3_wordOfCoset_18 rfl ?_
      refine zg_callr (As := [.int (nI i)]) (st := []) C [0, 1, 2, 3] 0 1 (c_X3_syndromeOf l D cI h0 a0 a1 a2 Rf Lf Wf rc ln rk ds su rd R i hrc hR hRb (by omega)) gX3_wordOfCoset_X3_syndromeOf (by decide +kernel) rfl ⟨rfl, rfl⟩ ⟨Nat.le_of_ble_eq_true rfl, Nat.le_of_ble_eq_true rfl⟩ rfl (ci := 3) rfl rfl rfl rfl (Nat.le_of_ble_eq_true rfl) ⟨Nat.le_of_ble_eq_true rfl, Nat.le_of_ble_eq_true rfl⟩ dX3_wordOfCoset_20 ?_
      refine zg_iload_n C 1 dX3_wordOfCoset_23 rfl ?_
      have q4 := zsk_lt R i rc
      refine zn_icmp_ne C 39 (by omega) (by omega) dX3_wordOfCoset_24 (by decide) (fun c_24 => ?_) (fun c_24 => ?_)
      · skip
        refine zg_iinc C 5 [1, 2, 3, 4, 5, 0] (lv' := [(0, .ref h0), (1, .int (nI y)), (2, .int x), (3, .int (nI (2 ^ ln))), (4, .int (nI a)), (5, .int (nI (i + 1)))]) (nI (i + 1)) dX3_wordOfCoset_39 rfl (zi_inc _) (by decide) rfl ?_
        refine zg_goto C 11 dX3_wordOfCoset_42 (by decide) ?_
        exact zg_cv (lv' := [(0, .ref h0), (1, .int (nI y)), (2, .int x), (3, .int (nI (2 ^ ln))), (4, .int (nI a)), (5, .int (nI (i + 1)))]) (rfl) rfl (rfl) (ih_11 (by omega) a ((zco_skip (p := (fun w => decide (zsk R w rc = y))) (by omega) (fun q => c_24 (of_decide_eq_true q))).symm.trans hz))
      · skip
        refine zg_iload C 4 dX3_wordOfCoset_27 rfl ?_
        refine zg_iload_n C 2 dX3_wordOfCoset_29 rfl ?_
        refine zg_icmp_ne C 36 dX3_wordOfCoset_30 (by decide) (fun c_30 => ?_) (fun c_30 => ?_)
        · skip
          refine zg_iinc C 4 [1, 2, 3, 4, 0, 5] (lv' := [(0, .ref h0), (1, .int (nI y)), (2, .int x), (3, .int (nI (2 ^ ln))), (4, .int (nI (a + 1))), (5, .int (nI i))]) (nI (a + 1)) dX3_wordOfCoset_36 rfl (zi_inc _) (by decide) rfl ?_
          refine zg_iinc C 5 [1, 2, 3, 4, 5, 0] (lv' := [(0, .ref h0), (1, .int (nI y)), (2, .int x), (3, .int (nI (2 ^ ln))), (4, .int (nI (a + 1))), (5, .int (nI (i + 1)))]) (nI (i + 1)) dX3_wordOfCoset_39 rfl (zi_inc _) (by decide) rfl ?_
          refine zg_goto C 11 dX3_wordOfCoset_42 (by decide) ?_
          exact zg_cv (lv' := [(0, .ref h0), (1, .int (nI y)), (2, .int x), (3, .int (nI (2 ^ ln))), (4, .int (nI (a + 1))), (5, .int (nI (i + 1)))]) (rfl) rfl (rfl) (ih_11 (by omega) (a + 1) ((zco_go (p := (fun w => decide (zsk R w rc = y))) (by omega) (decide_eq_true c_24) c_30).symm.trans hz))
        · skip
          refine zg_iload C 5 dX3_wordOfCoset_33 rfl ?_
          exact zg_iret C E dX3_wordOfCoset_35 ((zco_hit (p := (fun w => decide (zsk R w rc = y))) (by omega) (decide_eq_true c_24) c_30).symm.trans hz)
  exact zg_cv (lv' := [(0, .ref h0), (1, .int (nI y)), (2, .int x), (3, .int (nI (2 ^ ln))), (4, .int (nI 0)), (5, .int (nI 0))]) (rfl) rfl (rfl) (L_11 0 (by omega) 0 (rfl))
set_option maxHeartbeats 1000000 in
set_option maxRecDepth 100000 in
theorem c_X3_flipsOf (l : Launch) (D : va_G) (cI : ClassId) (h0 a0 a1 a2 : Nat) (Rf Lf Wf : Nat → Int32) (rc ln rk ds su rd : Nat) (R : Nat → Nat) (x y f : Nat) (hrc : rc ≤ 5) (hln : ln ≤ 10) (hR : ∀ i, i < rc → Rf i = nI (R i)) (hRb : ∀ i, i < rc → R i < 1024) (hL : ∀ y, y < 32 → Lf y = zo (zld R rc (2 ^ ln) y)) (hf : zld R rc (2 ^ ln) (zsk R (x ^^^ y) rc) = some f) (hx : x < 2 ^ ln) (hy : y < 2 ^ ln) : zMr l D cI yX3_flipsOf wsX3_flipsOf { frames := 3, cells := 0, slots := 0, locals := 62 } [.ref h0, .int (nI x), .int (nI y)] [(h0, .inr (3, [.ref a0, .ref a1, .ref a2, .int (nI rc), .int (nI ln), .int (nI rk), .int (nI ds), .int (nI su), .int (nI rd)])), (a0, .inl (cI, 5, .inl Rf)), (a1, .inl (cI, 32, .inl Lf)), (a2, .inl (cI, 11, .inl Wf))] (nI f) := by
  refine zr_ent (maxL := 3) (by decide) rfl (Nat.le_of_ble_eq_true rfl) (fun X C E => ?_)
  have C : zC X l D cI { frames := 3, cells := 0, slots := 0, locals := 62 } 3 false cX3_flipsOf RX3 wsX3_flipsOf := C
  refine zg_cv (lv' := [(0, .ref h0), (1, .int (nI x)), (2, .int (nI y))]) rfl rfl rfl ?_
  have q0 := zpw hln
  have q2 : x ^^^ y < 2 ^ ln := Nat.xor_lt_two_pow hx hy
  have q3 := zsk_lt R (x ^^^ y) rc
  have q5 := zpw5 hrc
  refine zg_aload_n C 0 dX3_flipsOf_0 rfl ?_
  refine zg_aload_n C 0 dX3_flipsOf_1 rfl ?_
  refine zg_iload_n C 1 dX3_flipsOf_2 rfl ?_
  refine zg_iload_n C 2 dX3_flipsOf_3 rfl ?_
  refine zg_ixor C dX3_flipsOf_4 (nI (x ^^^ y)) (zi_xor _ _) ?_
  refine zg_callr (As := [.int (nI (x ^^^ y))]) (st := [.ref h0]) C [0, 1, 2, 3] 0 1 (c_X3_syndromeOf l D cI h0 a0 a1 a2 Rf Lf Wf rc ln rk ds su rd R (x ^^^ y) hrc hR hRb (by omega)) gX3_flipsOf_X3_syndromeOf (by decide +kernel) rfl ⟨rfl, rfl⟩ ⟨Nat.le_of_ble_eq_true rfl, Nat.le_of_ble_eq_true rfl⟩ rfl (ci := 3) rfl rfl rfl rfl (Nat.le_of_ble_eq_true rfl) ⟨Nat.le_of_ble_eq_true rfl, Nat.le_of_ble_eq_true rfl⟩ dX3_flipsOf_5 ?_
  refine zg_callr (As := [.int (nI (zsk R (x ^^^ y) rc))]) (st := []) C [0, 1, 2, 3] 0 1 (c_X3_leaderOf l D cI h0 a0 a1 a2 Rf Lf Wf rc ln rk ds su rd (zsk R (x ^^^ y) rc) hrc (q3)) gX3_flipsOf_X3_leaderOf (by decide +kernel) rfl ⟨rfl, rfl⟩ ⟨Nat.le_of_ble_eq_true rfl, Nat.le_of_ble_eq_true rfl⟩ rfl (ci := 3) rfl rfl rfl rfl (Nat.le_of_ble_eq_true rfl) ⟨Nat.le_of_ble_eq_true rfl, Nat.le_of_ble_eq_true rfl⟩ dX3_flipsOf_8 ?_
  refine zg_cv (st' := [.int (nI f)]) rfl (by rw [show Lf (zsk R (x ^^^ y) rc) = nI f from by rw [hL _ (by omega), hf]; rfl]) rfl ?_
  exact zg_iret C E dX3_flipsOf_11 (rfl)
theorem uX3_verdictOf_3 : ∀ w ∈ u_ws RX3 TX3 9, w ∈ wsX3_verdictOf := fun w h => List.mem_cons_of_mem _ (List.mem_append_right _ h)
theorem fX3_verdictOf_3_7 : Cond.fieldLink RX3 34 (TX3 7).1 (TX3 7).2.1 (TX3 7).2.2.1 ∈ wsX3_verdictOf := by decide +kernel
set_option maxHeartbeats 1000000 in
set_option maxRecDepth 100000 in
theorem c_X3_verdictOf (l : Launch) (D : va_G) (cI : ClassId) (h0 a0 a1 a2 : Nat) (Rf Lf Wf : Nat → Int32) (rc ln rk ds su rd : Nat) (R : Nat → Nat) (x y f : Nat) (hrc : rc ≤ 5) (hln : ln ≤ 10) (hR : ∀ i, i < rc → Rf i = nI (R i)) (hRb : ∀ i, i < rc → R i < 1024) (hL : ∀ y, y < 32 → Lf y = zo (zld R rc (2 ^ ln) y)) (hf : zld R rc (2 ^ ln) (zsk R (x ^^^ y) rc) = some f) (hx : x < 2 ^ ln) (hy : y < 2 ^ ln) (hsu : su ≤ 10) : zMr l D cI yX3_verdictOf wsX3_verdictOf { frames := 4, cells := 0, slots := 0, locals := 84 } [.ref h0, .int (nI x), .int (nI y)] [(h0, .inr (3, [.ref a0, .ref a1, .ref a2, .int (nI rc), .int (nI ln), .int (nI rk), .int (nI ds), .int (nI su), .int (nI rd)])), (a0, .inl (cI, 5, .inl Rf)), (a1, .inl (cI, 32, .inl Lf)), (a2, .inl (cI, 11, .inl Wf))] (nI (zvd x y f su)) := by
  refine zr_ent (maxL := 5) (by decide) rfl (Nat.le_of_ble_eq_true rfl) (fun X C E => ?_)
  have C : zC X l D cI { frames := 4, cells := 0, slots := 0, locals := 84 } 5 false cX3_verdictOf RX3 wsX3_verdictOf := C
  refine zg_cv (lv' := [(0, .ref h0), (1, .int (nI x)), (2, .int (nI y))]) rfl rfl rfl ?_
  have q0 := zpw hln
  have q1 := (zld_some hf).1
  have q2 : x ^^^ f < 2 ^ ln := Nat.xor_lt_two_pow hx q1
  refine zg_aload_n C 0 dX3_verdictOf_0 rfl ?_
  refine zg_iload_n C 1 dX3_verdictOf_1 rfl ?_
  refine zg_iload_n C 2 dX3_verdictOf_2 rfl ?_
  refine zg_callr (As := [.int (nI x), .int (nI y)]) (st := []) C [0, 1, 2, 3] 0 2 (c_X3_flipsOf l D cI h0 a0 a1 a2 Rf Lf Wf rc ln rk ds su rd R x y f hrc hln hR hRb hL hf hx hy) gX3_verdictOf_X3_flipsOf (by decide +kernel) rfl ⟨rfl, rfl⟩ ⟨Nat.le_of_ble_eq_true rfl, Nat.le_of_ble_eq_true rfl⟩ rfl (ci := 3) rfl rfl rfl rfl (Nat.le_of_ble_eq_true rfl) ⟨Nat.le_of_ble_eq_true rfl, Nat.le_of_ble_eq_true rfl⟩ dX3_verdictOf_3 ?_
  refine zg_istore_n C [1, 2, 3, 0] (lv' := [(0, .ref h0), (1, .int (nI x)), (2, .int (nI y)), (3, .int (nI f))]) dX3_verdictOf_6 (by decide) rfl ?_
  refine zg_iload_n C 3 dX3_verdictOf_7 rfl ?_
  refine zg_calls (As := [.int (nI f)]) (st := []) C [] 1 (c_J6_bitCount_0f7a4 l D cI f (by omega)) gX3_verdictOf_J6_bitCount_0f7a4 (by decide +kernel) rfl ⟨rfl, rfl⟩ ⟨Nat.le_of_ble_eq_true rfl, Nat.le_of_ble_eq_true rfl⟩ rfl rfl rfl (Nat.le_of_ble_eq_true rfl) ⟨Nat.le_of_ble_eq_true rfl, Nat.le_of_ble_eq_true rfl⟩ dX3_verdictOf_8 ?_
  refine zg_aload_n C 0 dX3_verdictOf_11 rfl ?_
  refine zg_get C 0 (ci := 3) (f := 7) rfl rfl uX3_verdictOf_3 (by decide) fX3_verdictOf_3_7 dX3_verdictOf_12 rfl ?_
  have q3 := zpc_le f
  refine zn_icmp_gt C 22 (by omega) (by omega) dX3_verdictOf_15 (by decide) (fun c_15 => ?_) (fun c_15 => ?_)
  · skip
    refine zg_iconst (v := nI 0) C dX3_verdictOf_22 (by decide) ?_
    refine zg_istore C [1, 2, 3, 4, 0] (lv' := [(0, .ref h0), (1, .int (nI x)), (2, .int (nI y)), (3, .int (nI f)), (4, .int (nI 0))]) dX3_verdictOf_23 (by decide) rfl ?_
    refine zg_iload_n C 1 dX3_verdictOf_25 rfl ?_
    refine zg_iload_n C 3 dX3_verdictOf_26 rfl ?_
    refine zg_ixor C dX3_verdictOf_27 (nI (x ^^^ f)) (zi_xor _ _) ?_
    refine zg_iload_n C 2 dX3_verdictOf_28 rfl ?_
    refine zn_icmp_ne C 43 (by omega) (by omega) dX3_verdictOf_29 (by decide) (fun c_29 => ?_) (fun c_29 => ?_)
    · skip
      refine zg_iload C 4 dX3_verdictOf_43 rfl ?_
      refine zn_if_eq C 52 (by omega) dX3_verdictOf_45 (by decide) (fun c_45 => ?_) (fun c_45 => by omega)
      refine zg_iconst (v := nI 2) C dX3_verdictOf_52 (by decide) ?_
      exact zg_iret C E dX3_verdictOf_53 (by rw [zvd, if_neg c_29, if_neg (by omega)])
    · skip
      refine zg_iload C 4 dX3_verdictOf_32 rfl ?_
      refine zn_if_eq C 41 (by omega) dX3_verdictOf_34 (by decide) (fun c_34 => ?_) (fun c_34 => by omega)
      refine zg_iconst (v := nI 1) C dX3_verdictOf_41 (by decide) ?_
      exact zg_iret C E dX3_verdictOf_42 (by rw [zvd, if_pos c_29, if_neg (by omega)])
  · skip
    refine zg_iconst (v := nI 1) C dX3_verdictOf_18 (by decide) ?_
    refine zg_goto C 23 dX3_verdictOf_19 (by decide) ?_
    refine zg_istore C [1, 2, 3, 4, 0] (lv' := [(0, .ref h0), (1, .int (nI x)), (2, .int (nI y)), (3, .int (nI f)), (4, .int (nI 1))]) dX3_verdictOf_23 (by decide) rfl ?_
    refine zg_iload_n C 1 dX3_verdictOf_25 rfl ?_
    refine zg_iload_n C 3 dX3_verdictOf_26 rfl ?_
    refine zg_ixor C dX3_verdictOf_27 (nI (x ^^^ f)) (zi_xor _ _) ?_
    refine zg_iload_n C 2 dX3_verdictOf_28 rfl ?_
    refine zn_icmp_ne C 43 (by omega) (by omega) dX3_verdictOf_29 (by decide) (fun c_29 => ?_) (fun c_29 => ?_)
    · skip
      refine zg_iload C 4 dX3_verdictOf_43 rfl ?_
      refine zn_if_eq C 52 (by omega) dX3_verdictOf_45 (by decide) (fun c_45 => by omega) (fun c_45 => ?_)
      refine zg_iconst (v := nI 3) C dX3_verdictOf_48 (by decide) ?_
      refine zg_goto C 53 dX3_verdictOf_49 (by decide) ?_
      exact zg_iret C E dX3_verdictOf_53 (by rw [zvd, if_neg c_29, if_pos (by omega)])
    · skip
      refine zg_iload C 4 dX3_verdictOf_32 rfl ?_
      refine zn_if_eq C 41 (by omega) dX3_verdictOf_34 (by decide) (fun c_34 => by omega) (fun c_34 => ?_)
      refine zg_iconst (v := nI 0) C dX3_verdictOf_37 (by decide) ?_
      refine zg_goto C 42 dX3_verdictOf_38 (by decide) ?_
      exact zg_iret C E dX3_verdictOf_42 (by rw [zvd, if_pos c_29, if_pos (by omega)])
set_option maxHeartbeats 1000000 in
set_option maxRecDepth 100000 in
theorem c_X3_isEnough (l : Launch) (D : va_G) (cI : ClassId) (h0 a0 a1 a2 : Nat) (Rf Lf Wf : Nat → Int32) (rc ln rk ds su rd : Nat) (R : Nat → Nat) (kn : Nat) (hrc : rc ≤ 5) (hln : ln ≤ 10) (hR : ∀ i, i < rc → Rf i = nI (R i)) (hRb : ∀ i, i < rc → R i < 1024) (hkn : kn < 2 ^ ln) : zMr l D cI yX3_isEnough wsX3_isEnough { frames := 2, cells := 0, slots := 0, locals := 43 } [.ref h0, .int (nI kn)] [(h0, .inr (3, [.ref a0, .ref a1, .ref a2, .int (nI rc), .int (nI ln), .int (nI rk), .int (nI ds), .int (nI su), .int (nI rd)])), (a0, .inl (cI, 5, .inl Rf)), (a1, .inl (cI, 32, .inl Lf)), (a2, .inl (cI, 11, .inl Wf))] (zb (zen R rc kn (2 ^ ln))) := by
  refine zr_ent (maxL := 4) (by decide) rfl (Nat.le_of_ble_eq_true rfl) (fun X C E => ?_)
  have C : zC X l D cI { frames := 2, cells := 0, slots := 0, locals := 43 } 4 false cX3_isEnough RX3 wsX3_isEnough := C
  refine zg_cv (lv' := [(0, .ref h0), (1, .int (nI kn))]) rfl rfl rfl ?_
  have q0 := zpw hln
  have q1 := zpw0 ln
  refine zg_aload_n C 0 dX3_isEnough_0 rfl ?_
  refine zg_callr (As := []) (st := []) C [0, 1, 2, 3] 0 0 (c_X3_words l D cI h0 a0 a1 a2 Rf Lf Wf rc ln rk ds su rd hln) gX3_isEnough_X3_words (by decide +kernel) rfl ⟨rfl, rfl⟩ ⟨Nat.le_of_ble_eq_true rfl, Nat.le_of_ble_eq_true rfl⟩ rfl (ci := 3) rfl rfl rfl rfl (Nat.le_of_ble_eq_true rfl) ⟨Nat.le_of_ble_eq_true rfl, Nat.le_of_ble_eq_true rfl⟩ dX3_isEnough_1 ?_
  refine zg_istore_n C [1, 2, 0] (lv' := [(0, .ref h0), (1, .int (nI kn)), (2, .int (nI (2 ^ ln)))]) dX3_isEnough_4 (by decide) rfl ?_
  refine zg_iconst (v := nI 1) C dX3_isEnough_5 (by decide) ?_
  refine zg_istore_n C [1, 2, 3, 0] (lv' := [(0, .ref h0), (1, .int (nI kn)), (2, .int (nI (2 ^ ln))), (3, .int (nI 1))]) dX3_isEnough_6 (by decide) rfl ?_
  have L_7 : ∀ i, i ≤ 2 ^ ln - 1 → zen R rc kn (i + 1) = true → zG X 0 0 [(0, .ref h0), (1, .int (nI kn)), (2, .int (nI (2 ^ ln))), (3, .int (nI (i + 1)))] [] [(h0, .inr (3, [.ref a0, .ref a1, .ref a2, .int (nI rc), .int (nI ln), .int (nI rk), .int (nI ds), .int (nI su), .int (nI rd)])), (a0, .inl (cI, 5, .inl Rf)), (a1, .inl (cI, 32, .inl Lf)), (a2, .inl (cI, 11, .inl Wf))] 7 := by
    refine zg_dn (fun i hi ih_7 hz => ?_)
    refine zg_iload_n C 3 dX3_isEnough_7 rfl ?_
    refine zg_iload_n C 2 dX3_isEnough_8 rfl ?_
    refine zn_icmp_ge C 34 (by omega) (by omega) dX3_isEnough_9 (by decide) (fun c_9 => ?_) (fun c_9 => ?_)
    · skip
      refine zg_iconst (v := nI 1) C dX3_isEnough_34 (by decide) ?_
      exact zg_zret C E dX3_isEnough_35 (zbT (by rw [← show i + 1 = 2 ^ ln by omega]; exact hz))
    · skip
      refine zg_iload_n C 3 dX3_isEnough_12 rfl ?_
      refine zg_iload_n C 1 dX3_isEnough_13 rfl ?_
      refine zg_iand C dX3_isEnough_14 (nI ((i + 1) &&& kn)) (zi_and _ _) ?_
      have q3 : (i + 1) &&& kn ≤ kn := Nat.and_le_right
      refine zn_if_ne C 28 (by omega) dX3_isEnough_15 (by decide) (fun c_15 => ?_) (fun c_15 => ?_)
      · skip
        refine zg_iinc C 3 [1, 2, 3, 0] (lv' := [(0, .ref h0), (1, .int (nI kn)), (2, .int (nI (2 ^ ln))), (3, .int (nI (i + 1 + 1)))]) (nI (i + 1 + 1)) dX3_isEnough_28 rfl (zi_inc _) (by decide) rfl ?_
        refine zg_goto C 7 dX3_isEnough_31 (by decide) ?_
        exact zg_cv (lv' := [(0, .ref h0), (1, .int (nI kn)), (2, .int (nI (2 ^ ln))), (3, .int (nI ((i + 1) + 1)))]) (rfl) rfl (rfl) (ih_7 (by omega) (zen_good hz (fun q => by omega)))
      · skip
        refine zg_aload_n C 0 dX3_isEnough_18 rfl ?_
        refine zg_iload_n C 3 dX3_isEnough_19 rfl ?_
        refine zg_callr (As := [.int (nI (i + 1))]) (st := []) C [0, 1, 2, 3] 0 1 (c_X3_syndromeOf l D cI h0 a0 a1 a2 Rf Lf Wf rc ln rk ds su rd R (i + 1) hrc hR hRb (by omega)) gX3_isEnough_X3_syndromeOf (by decide +kernel) rfl ⟨rfl, rfl⟩ ⟨Nat.le_of_ble_eq_true rfl, Nat.le_of_ble_eq_true rfl⟩ rfl (ci := 3) rfl rfl rfl rfl (Nat.le_of_ble_eq_true rfl) ⟨Nat.le_of_ble_eq_true rfl, Nat.le_of_ble_eq_true rfl⟩ dX3_isEnough_20 ?_
        have q4 := zsk_lt R (i + 1) rc
        have q5 := zpw5 hrc
        refine zn_if_ne C 28 (by omega) dX3_isEnough_23 (by decide) (fun c_23 => ?_) (fun c_23 => ?_)
        · skip
          refine zg_iinc C 3 [1, 2, 3, 0] (lv' := [(0, .ref h0), (1, .int (nI kn)), (2, .int (nI (2 ^ ln))), (3, .int (nI (i + 1 + 1)))]) (nI (i + 1 + 1)) dX3_isEnough_28 rfl (zi_inc _) (by decide) rfl ?_
          refine zg_goto C 7 dX3_isEnough_31 (by decide) ?_
          exact zg_cv (lv' := [(0, .ref h0), (1, .int (nI kn)), (2, .int (nI (2 ^ ln))), (3, .int (nI ((i + 1) + 1)))]) (rfl) rfl (rfl) (ih_7 (by omega) (zen_good hz (fun q => by omega)))
        · skip
          refine zg_iconst (v := nI 0) C dX3_isEnough_26 (by decide) ?_
          exact zg_zret C E dX3_isEnough_27 (zbF (zen_mono (show i + 1 + 1 ≤ 2 ^ ln by omega) (zen_bad c_15 c_23 (by omega))))
  exact zg_cv (lv' := [(0, .ref h0), (1, .int (nI kn)), (2, .int (nI (2 ^ ln))), (3, .int (nI (0 + 1)))]) (rfl) rfl (rfl) (L_7 0 (by omega) (zen_1 _ _ _))
set_option maxHeartbeats 1000000 in
set_option maxRecDepth 100000 in
theorem c_X3_firstOfShared (l : Launch) (D : va_G) (cI : ClassId) (h0 a0 a1 a2 : Nat) (Rf Lf Wf : Nat → Int32) (rc ln rk ds su rd : Nat) (R : Nat → Nat) (one other x y f : Nat) (hrc : rc ≤ 5) (hln : ln ≤ 10) (hR : ∀ i, i < rc → Rf i = nI (R i)) (hRb : ∀ i, i < rc → R i < 1024) (hL : ∀ y, y < 32 → Lf y = zo (zld R rc (2 ^ ln) y)) (hf : zld R rc (2 ^ ln) (zsk R (x ^^^ y) rc) = some f) (hx : x < 2 ^ ln) (hy : y < 2 ^ ln) (h1 : one < 2 ^ ln) (h2 : other < 2 ^ ln) : zMr l D cI yX3_firstOfShared wsX3_firstOfShared { frames := 4, cells := 0, slots := 0, locals := 84 } [.ref h0, .int (nI one), .int (nI other), .int (nI x), .int (nI y)] [(h0, .inr (3, [.ref a0, .ref a1, .ref a2, .int (nI rc), .int (nI ln), .int (nI rk), .int (nI ds), .int (nI su), .int (nI rd)])), (a0, .inl (cI, 5, .inl Rf)), (a1, .inl (cI, 32, .inl Lf)), (a2, .inl (cI, 11, .inl Wf))] (zsh R rc ln one other x y f) := by
  refine zr_ent (maxL := 10) (by decide) rfl (Nat.le_of_ble_eq_true rfl) (fun X C E => ?_)
  have C : zC X l D cI { frames := 4, cells := 0, slots := 0, locals := 84 } 10 false cX3_firstOfShared RX3 wsX3_firstOfShared := C
  refine zg_cv (lv' := [(0, .ref h0), (1, .int (nI one)), (2, .int (nI other)), (3, .int (nI x)), (4, .int (nI y))]) rfl rfl rfl ?_
  have q0 := zpw hln
  have q1 := zpw0 ln
  have q2 := (zld_some hf).1
  have q3 : one ||| other < 2 ^ ln := Nat.or_lt_two_pow h1 h2
  have q4 : (x &&& one ||| (y ^^^ f) &&& other) < 2 ^ ln := Nat.or_lt_two_pow (Nat.and_lt_two_pow _ h1) (Nat.and_lt_two_pow _ h2)
  have q5 := zpw5 hrc
  have q6 := zsk_lt R x rc
  refine zg_iload_n C 1 dX3_firstOfShared_0 rfl ?_
  refine zg_iload_n C 2 dX3_firstOfShared_1 rfl ?_
  refine zg_ior C dX3_firstOfShared_2 (nI (one ||| other)) (zi_or _ _) ?_
  refine zg_istore C [1, 2, 3, 4, 5, 0] (lv' := [(0, .ref h0), (1, .int (nI one)), (2, .int (nI other)), (3, .int (nI x)), (4, .int (nI y)), (5, .int (nI (one ||| other)))]) dX3_firstOfShared_3 (by decide) rfl ?_
  refine zg_aload_n C 0 dX3_firstOfShared_5 rfl ?_
  refine zg_iload C 5 dX3_firstOfShared_6 rfl ?_
  refine zg_callr (As := [.int (nI (one ||| other))]) (st := []) C [0, 1, 2, 3] 0 1 (c_X3_isEnough l D cI h0 a0 a1 a2 Rf Lf Wf rc ln rk ds su rd R (one ||| other) hrc hln hR hRb (by omega)) gX3_firstOfShared_X3_isEnough (by decide +kernel) rfl ⟨rfl, rfl⟩ ⟨Nat.le_of_ble_eq_true rfl, Nat.le_of_ble_eq_true rfl⟩ rfl (ci := 3) rfl rfl rfl rfl (Nat.le_of_ble_eq_true rfl) ⟨Nat.le_of_ble_eq_true rfl, Nat.le_of_ble_eq_true rfl⟩ dX3_firstOfShared_8 ?_
  refine zb_if_ne C 18 dX3_firstOfShared_11 (by decide) (fun c_11 => ?_) (fun c_11 => ?_)
  · skip
    refine zg_iload_n C 3 dX3_firstOfShared_18 rfl ?_
    refine zg_iload_n C 1 dX3_firstOfShared_19 rfl ?_
    refine zg_iand C dX3_firstOfShared_20 (nI (x &&& one)) (zi_and _ _) ?_
    refine zg_iload C 4 dX3_firstOfShared_21 rfl ?_
    refine zg_aload_n C 0 dX3_firstOfShared_23 rfl ?_
    refine zg_iload_n C 3 dX3_firstOfShared_24 rfl ?_
    refine zg_iload C 4 dX3_firstOfShared_25 rfl ?_
    refine zg_callr (As := [.int (nI x), .int (nI y)]) (st := [.int (nI y), .int (nI (x &&& one))]) C [0, 1, 2, 3] 0 2 (c_X3_flipsOf l D cI h0 a0 a1 a2 Rf Lf Wf rc ln rk ds su rd R x y f hrc hln hR hRb hL hf hx hy) gX3_firstOfShared_X3_flipsOf (by decide +kernel) rfl ⟨rfl, rfl⟩ ⟨Nat.le_of_ble_eq_true rfl, Nat.le_of_ble_eq_true rfl⟩ rfl (ci := 3) rfl rfl rfl rfl (Nat.le_of_ble_eq_true rfl) ⟨Nat.le_of_ble_eq_true rfl, Nat.le_of_ble_eq_true rfl⟩ dX3_firstOfShared_27 ?_
    refine zg_ixor C dX3_firstOfShared_30 (nI (y ^^^ f)) (zi_xor _ _) ?_
    refine zg_iload_n C 2 dX3_firstOfShared_31 rfl ?_
    refine zg_iand C dX3_firstOfShared_32 (nI ((y ^^^ f) &&& other)) (zi_and _ _) ?_
    refine zg_ior C dX3_firstOfShared_33 (nI ((x &&& one) ||| ((y ^^^ f) &&& other))) (zi_or _ _) ?_
    refine zg_istore C [1, 2, 3, 4, 5, 6, 0] (lv' := [(0, .ref h0), (1, .int (nI one)), (2, .int (nI other)), (3, .int (nI x)), (4, .int (nI y)), (5, .int (nI (one ||| other))), (6, .int (nI ((x &&& one) ||| ((y ^^^ f) &&& other))))]) dX3_firstOfShared_34 (by decide) rfl ?_
    refine zg_aload_n C 0 dX3_firstOfShared_36 rfl ?_
    refine zg_iload_n C 3 dX3_firstOfShared_37 rfl ?_
    refine zg_callr (As := [.int (nI x)]) (st := []) C [0, 1, 2, 3] 0 1 (c_X3_syndromeOf l D cI h0 a0 a1 a2 Rf Lf Wf rc ln rk ds su rd R x hrc hR hRb (by omega)) gX3_firstOfShared_X3_syndromeOf (by decide +kernel) rfl ⟨rfl, rfl⟩ ⟨Nat.le_of_ble_eq_true rfl, Nat.le_of_ble_eq_true rfl⟩ rfl (ci := 3) rfl rfl rfl rfl (Nat.le_of_ble_eq_true rfl) ⟨Nat.le_of_ble_eq_true rfl, Nat.le_of_ble_eq_true rfl⟩ dX3_firstOfShared_38 ?_
    refine zg_istore C [1, 2, 3, 4, 5, 6, 7, 0] (lv' := [(0, .ref h0), (1, .int (nI one)), (2, .int (nI other)), (3, .int (nI x)), (4, .int (nI y)), (5, .int (nI (one ||| other))), (6, .int (nI ((x &&& one) ||| ((y ^^^ f) &&& other)))), (7, .int (nI (zsk R x rc)))]) dX3_firstOfShared_41 (by decide) rfl ?_
    refine zg_aload_n C 0 dX3_firstOfShared_43 rfl ?_
    refine zg_callr (As := []) (st := []) C [0, 1, 2, 3] 0 0 (c_X3_words l D cI h0 a0 a1 a2 Rf Lf Wf rc ln rk ds su rd hln) gX3_firstOfShared_X3_words (by decide +kernel) rfl ⟨rfl, rfl⟩ ⟨Nat.le_of_ble_eq_true rfl, Nat.le_of_ble_eq_true rfl⟩ rfl (ci := 3) rfl rfl rfl rfl (Nat.le_of_ble_eq_true rfl) ⟨Nat.le_of_ble_eq_true rfl, Nat.le_of_ble_eq_true rfl⟩ dX3_firstOfShared_44 ?_
    refine zg_istore C [1, 2, 3, 4, 5, 6, 7, 8, 0] (lv' := [(0, .ref h0), (1, .int (nI one)), (2, .int (nI other)), (3, .int (nI x)), (4, .int (nI y)), (5, .int (nI (one ||| other))), (6, .int (nI ((x &&& one) ||| ((y ^^^ f) &&& other)))), (7, .int (nI (zsk R x rc))), (8, .int (nI (2 ^ ln)))]) dX3_firstOfShared_47 (by decide) rfl ?_
    refine zg_iconst (v := nI 0) C dX3_firstOfShared_49 (by decide) ?_
    refine zg_istore C [1, 2, 3, 4, 5, 6, 7, 8, 9, 0] (lv' := [(0, .ref h0), (1, .int (nI one)), (2, .int (nI other)), (3, .int (nI x)), (4, .int (nI y)), (5, .int (nI (one ||| other))), (6, .int (nI ((x &&& one) ||| ((y ^^^ f) &&& other)))), (7, .int (nI (zsk R x rc))), (8, .int (nI (2 ^ ln))), (9, .int (nI 0))]) dX3_firstOfShared_50 (by decide) rfl ?_
    have L_52 : ∀ i, i ≤ 2 ^ ln → zo (zfs (zsp R rc one other x y f) (2 ^ ln - i) i) = zo (zfs (zsp R rc one other x y f) (2 ^ ln) 0) → zG X 0 0 [(0, .ref h0), (1, .int (nI one)), (2, .int (nI other)), (3, .int (nI x)), (4, .int (nI y)), (5, .int (nI (one ||| other))), (6, .int (nI ((x &&& one) ||| ((y ^^^ f) &&& other)))), (7, .int (nI (zsk R x rc))), (8, .int (nI (2 ^ ln))), (9, .int (nI i))] [] [(h0, .inr (3, [.ref a0, .ref a1, .ref a2, .int (nI rc), .int (nI ln), .int (nI rk), .int (nI ds), .int (nI su), .int (nI rd)])), (a0, .inl (cI, 5, .inl Rf)), (a1, .inl (cI, 32, .inl Lf)), (a2, .inl (cI, 11, .inl Wf))] 52 := by
      refine zg_dn (fun i hi ih_52 hz => ?_)
      refine zg_iload C 9 dX3_firstOfShared_52 rfl ?_
      refine zg_iload C 8 dX3_firstOfShared_54 rfl ?_
      refine zn_icmp_ge C 89 (by omega) (by omega) dX3_firstOfShared_56 (by decide) (fun c_56 => ?_) (fun c_56 => ?_)
      · skip
        refine zg_sipush (v := (-1001)) C dX3_firstOfShared_89 (by decide) ?_
        exact zg_iret C E dX3_firstOfShared_92 (by rw [zsh, if_pos c_11, ← hz, zfs_end (by omega)]; rfl)
      · skip
        refine zg_iload C 9 dX3_firstOfShared_59 rfl ?_
        refine zg_iload C 5 dX3_firstOfShared_61 rfl ?_
        refine zg_iand C dX3_firstOfShared_63 (nI (i &&& (one ||| other))) (zi_and _ _) ?_
        refine zg_iload C 6 dX3_firstOfShared_64 rfl ?_
        have q7 : i &&& (one ||| other) ≤ one ||| other := Nat.and_le_right
        refine zn_icmp_ne C 83 (by omega) (by omega) dX3_firstOfShared_66 (by decide) (fun c_66 => ?_) (fun c_66 => ?_)
        · skip
          refine zg_iinc C 9 [1, 2, 3, 4, 5, 6, 7, 8, 9, 0] (lv' := [(0, .ref h0), (1, .int (nI one)), (2, .int (nI other)), (3, .int (nI x)), (4, .int (nI y)), (5, .int (nI (one ||| other))), (6, .int (nI ((x &&& one) ||| ((y ^^^ f) &&& other)))), (7, .int (nI (zsk R x rc))), (8, .int (nI (2 ^ ln))), (9, .int (nI (i + 1)))]) (nI (i + 1)) dX3_firstOfShared_83 rfl (zi_inc _) (by decide) rfl ?_
          refine zg_goto C 52 dX3_firstOfShared_86 (by decide) ?_
          exact zg_cv (lv' := [(0, .ref h0), (1, .int (nI one)), (2, .int (nI other)), (3, .int (nI x)), (4, .int (nI y)), (5, .int (nI (one ||| other))), (6, .int (nI ((x &&& one) ||| ((y ^^^ f) &&& other)))), (7, .int (nI (zsk R x rc))), (8, .int (nI (2 ^ ln))), (9, .int (nI (i + 1)))]) (rfl) rfl (rfl) (ih_52 (by omega) ((congrArg zo (zfs_skip (p := (zsp R rc one other x y f)) (by omega) (fun q => c_66 (of_decide_eq_true q).1))).symm.trans hz))
        · skip
          refine zg_aload_n C 0 dX3_firstOfShared_69 rfl ?_
          refine zg_iload C 9 dX3_firstOfShared_70 rfl ?_
          refine zg_callr (As := [.int (nI i)]) (st := []) C [0, 1, 2, 3] 0 1 (c_X3_syndromeOf l D cI h0 a0 a1 a2 Rf Lf Wf rc ln rk ds su rd R i hrc hR hRb (by omega)) gX3_firstOfShared_X3_syndromeOf (by decide +kernel) rfl ⟨rfl, rfl⟩ ⟨Nat.le_of_ble_eq_true rfl, Nat.le_of_ble_eq_true rfl⟩ rfl (ci := 3) rfl rfl rfl rfl (Nat.le_of_ble_eq_true rfl) ⟨Nat.le_of_ble_eq_true rfl, Nat.le_of_ble_eq_true rfl⟩ dX3_firstOfShared_72 ?_
          refine zg_iload C 7 dX3_firstOfShared_75 rfl ?_
          have q8 := zsk_lt R i rc
          refine zn_icmp_ne C 83 (by omega) (by omega) dX3_firstOfShared_77 (by decide) (fun c_77 => ?_) (fun c_77 => ?_)
          · skip
            refine zg_iinc C 9 [1, 2, 3, 4, 5, 6, 7, 8, 9, 0] (lv' := [(0, .ref h0), (1, .int (nI one)), (2, .int (nI other)), (3, .int (nI x)), (4, .int (nI y)), (5, .int (nI (one ||| other))), (6, .int (nI ((x &&& one) ||| ((y ^^^ f) &&& other)))), (7, .int (nI (zsk R x rc))), (8, .int (nI (2 ^ ln))), (9, .int (nI (i + 1)))]) (nI (i + 1)) dX3_firstOfShared_83 rfl (zi_inc _) (by decide) rfl ?_
            refine zg_goto C 52 dX3_firstOfShared_86 (by decide) ?_
            exact zg_cv (lv' := [(0, .ref h0), (1, .int (nI one)), (2, .int (nI other)), (3, .int (nI x)), (4, .int (nI y)), (5, .int (nI (one ||| other))), (6, .int (nI ((x &&& one) ||| ((y ^^^ f) &&& other)))), (7, .int (nI (zsk R x rc))), (8, .int (nI (2 ^ ln))), (9, .int (nI (i + 1)))]) (rfl) rfl (rfl) (ih_52 (by omega) ((congrArg zo (zfs_skip (p := (zsp R rc one other x y f)) (by omega) (fun q => c_77 (of_decide_eq_true q).2))).symm.trans hz))
          · skip
            refine zg_iload C 9 dX3_firstOfShared_80 rfl ?_
            exact zg_iret C E dX3_firstOfShared_82 (by rw [zsh, if_pos c_11, ← hz, zfs_hit (by omega) (decide_eq_true ⟨c_66, c_77⟩)]; rfl)
    exact zg_cv (lv' := [(0, .ref h0), (1, .int (nI one)), (2, .int (nI other)), (3, .int (nI x)), (4, .int (nI y)), (5, .int (nI (one ||| other))), (6, .int (nI ((x &&& one) ||| ((y ^^^ f) &&& other)))), (7, .int (nI (zsk R x rc))), (8, .int (nI (2 ^ ln))), (9, .int (nI 0))]) (rfl) rfl (rfl) (L_52 0 (by omega) (rfl))
  · skip
    refine zg_sipush (v := (-1001)) C dX3_firstOfShared_14 (by decide) ?_
    exact zg_iret C E dX3_firstOfShared_17 (by rw [zsh, if_neg (by rw [c_11]; decide)])
end
section
/-! the class Sums: its tables -/
theorem uX3_findLeaders_3 : ∀ w ∈ u_ws RX3 TX3 9, w ∈ wsX3_findLeaders := fun w h => List.mem_cons_of_mem _ (List.mem_append_right _ h)
theorem fX3_findLeaders_3_1 : Cond.fieldLink RX3 15 (TX3 1).1 (TX3 1).2.1 (TX3 1).2.2.1 ∈ wsX3_findLeaders := by decide +kernel
set_option maxHeartbeats 1000000 in
set_option maxRecDepth 100000 in
theorem c_X3_findLeaders (l : Launch) (D : va_G) (cI : ClassId) (h0 a0 a1 a2 : Nat) (Rf Lf Wf : Nat → Int32) (rc ln rk ds su rd : Nat) (R : Nat → Nat) (hrc : rc ≤ 5) (hln : ln ≤ 10) (hR : ∀ i, i < rc → Rf i = nI (R i)) (hRb : ∀ i, i < rc → R i < 1024) : zMw l D cI yX3_findLeaders wsX3_findLeaders { frames := 3, cells := 0, slots := 0, locals := 62 } [.ref h0] [(h0, .inr (3, [.ref a0, .ref a1, .ref a2, .int (nI rc), .int (nI ln), .int (nI rk), .int (nI ds), .int (nI su), .int (nI rd)])), (a0, .inl (cI, 5, .inl Rf)), (a1, .inl (cI, 32, .inl Lf)), (a2, .inl (cI, 11, .inl Wf))] (fun v9 w9 => v9 = none ∧ w9 = [(h0, .inr (3, [.ref a0, .ref a1, .ref a2, .int (nI rc), .int (nI ln), .int (nI rk), .int (nI ds), .int (nI su), .int (nI rd)])), (a0, .inl (cI, 5, .inl Rf)), (a1, .inl (cI, 32, .inl (fun s => zo (zld R rc (2 ^ ln) s)))), (a2, .inl (cI, 11, .inl Wf))]) 0 0 := by
  refine zw_ent (maxL := 4) (by decide) rfl (Nat.le_of_ble_eq_true rfl) (fun X C E hin9 => ?_)
  have C : zC X l D cI { frames := 3, cells := 0, slots := 0, locals := 62 } 4 true cX3_findLeaders RX3 wsX3_findLeaders := C
  refine zg_cv (lv' := [(0, .ref h0)]) rfl rfl rfl ?_
  have q0 := zpw hln
  have q1 := zpw0 ln
  have q5 := zpw5 hrc
  refine zg_cell 2 (ws' := [(h0, .inr (3, [.ref a0, .ref a1, .ref a2, .int (nI rc), .int (nI ln), .int (nI rk), .int (nI ds), .int (nI su), .int (nI rd)])), (a0, .inl (cI, 5, .inl Rf)), (a1, .inl (cI, 32, .inl (fun j => if j < 0 then -1001 else Lf j))), (a2, .inl (cI, 11, .inl Wf))]) (fun j => if j < 0 then -1001 else Lf j) rfl (fun j _ => by rw [if_neg (Nat.not_lt_zero j)]) rfl ?_
  refine zg_iconst (v := nI 0) C dX3_findLeaders_0 (by decide) ?_
  refine zg_istore_n C [1, 0] (lv' := [(0, .ref h0), (1, .int (nI 0))]) dX3_findLeaders_1 (by decide) rfl ?_
  have L_2 : ∀ i, i ≤ 32 → zG X 0 0 [(0, .ref h0), (1, .int (nI i))] [] [(h0, .inr (3, [.ref a0, .ref a1, .ref a2, .int (nI rc), .int (nI ln), .int (nI rk), .int (nI ds), .int (nI su), .int (nI rd)])), (a0, .inl (cI, 5, .inl Rf)), (a1, .inl (cI, 32, .inl (fun j => if j < i then -1001 else Lf j))), (a2, .inl (cI, 11, .inl Wf))] 2 := by
    refine zg_dn (fun i hi ih_2  => ?_)
    refine zg_iload_n C 1 dX3_findLeaders_2 rfl ?_
    refine zg_aload_n C 0 dX3_findLeaders_3 rfl ?_
    refine zg_get C 0 (ci := 3) (f := 1) rfl rfl uX3_findLeaders_3 (by decide) fX3_findLeaders_3_1 dX3_findLeaders_4 rfl ?_
    refine zg_alen C 2 rfl dX3_findLeaders_7 ?_
    refine zn_icmp_ge C 26 (by omega) (by omega) dX3_findLeaders_8 (by decide) (fun c_8 => ?_) (fun c_8 => ?_)
    · skip
      have e9_26 : 32 = i := by omega
      subst e9_26
      refine zg_cell 2 (ws' := [(h0, .inr (3, [.ref a0, .ref a1, .ref a2, .int (nI rc), .int (nI ln), .int (nI rk), .int (nI ds), .int (nI su), .int (nI rd)])), (a0, .inl (cI, 5, .inl Rf)), (a1, .inl (cI, 32, .inl (fun s => zo (zld R rc 0 s)))), (a2, .inl (cI, 11, .inl Wf))]) (fun s => zo (zld R rc 0 s)) rfl (fun s hs => by show (if s < 32 then (-1001 : Int32) else Lf s) = -1001; rw [if_pos hs]) rfl ?_
      refine zg_aload_n C 0 dX3_findLeaders_26 rfl ?_
      refine zg_callr (As := []) (st := []) C [0, 1, 2, 3] 0 0 (c_X3_words l D cI h0 a0 a1 a2 Rf (fun s => zo (zld R rc 0 s)) Wf rc ln rk ds su rd hln) gX3_findLeaders_X3_words (by decide +kernel) rfl ⟨rfl, rfl⟩ ⟨Nat.le_of_ble_eq_true rfl, Nat.le_of_ble_eq_true rfl⟩ rfl (ci := 3) rfl rfl rfl rfl (Nat.le_of_ble_eq_true rfl) ⟨Nat.le_of_ble_eq_true rfl, Nat.le_of_ble_eq_true rfl⟩ dX3_findLeaders_27 ?_
      refine zg_istore_n C [1, 0] (lv' := [(0, .ref h0), (1, .int (nI (2 ^ ln)))]) dX3_findLeaders_30 (by decide) rfl ?_
      refine zg_iconst (v := nI 0) C dX3_findLeaders_31 (by decide) ?_
      refine zg_istore_n C [1, 2, 0] (lv' := [(0, .ref h0), (1, .int (nI (2 ^ ln))), (2, .int (nI 0))]) dX3_findLeaders_32 (by decide) rfl ?_
      have L_33 : ∀ i, i ≤ 2 ^ ln → zG X 0 0 [(0, .ref h0), (1, .int (nI (2 ^ ln))), (2, .int (nI i))] [] [(h0, .inr (3, [.ref a0, .ref a1, .ref a2, .int (nI rc), .int (nI ln), .int (nI rk), .int (nI ds), .int (nI su), .int (nI rd)])), (a0, .inl (cI, 5, .inl Rf)), (a1, .inl (cI, 32, .inl (fun s => zo (zld R rc i s)))), (a2, .inl (cI, 11, .inl Wf))] 33 := by
        refine zg_dn (fun i hi ih_33  => ?_)
        refine zg_iload_n C 2 dX3_findLeaders_33 rfl ?_
        refine zg_iload_n C 1 dX3_findLeaders_34 rfl ?_
        refine zn_icmp_ge C 77 (by omega) (by omega) dX3_findLeaders_35 (by decide) (fun c_35 => ?_) (fun c_35 => ?_)
        · skip
          have e9_77 : 2 ^ ln = i := by omega
          subst e9_77
          exact zg_wvret C E dX3_findLeaders_77 (⟨rfl, rfl⟩)
        · skip
          refine zg_aload_n C 0 dX3_findLeaders_38 rfl ?_
          refine zg_iload_n C 2 dX3_findLeaders_39 rfl ?_
          refine zg_callr (As := [.int (nI i)]) (st := []) C [0, 1, 2, 3] 0 1 (c_X3_syndromeOf l D cI h0 a0 a1 a2 Rf (fun s => zo (zld R rc i s)) Wf rc ln rk ds su rd R i hrc hR hRb (by omega)) gX3_findLeaders_X3_syndromeOf (by decide +kernel) rfl ⟨rfl, rfl⟩ ⟨Nat.le_of_ble_eq_true rfl, Nat.le_of_ble_eq_true rfl⟩ rfl (ci := 3) rfl rfl rfl rfl (Nat.le_of_ble_eq_true rfl) ⟨Nat.le_of_ble_eq_true rfl, Nat.le_of_ble_eq_true rfl⟩ dX3_findLeaders_40 ?_
          refine zg_istore_n C [1, 2, 3, 0] (lv' := [(0, .ref h0), (1, .int (nI (2 ^ ln))), (2, .int (nI i)), (3, .int (nI (zsk R i rc)))]) dX3_findLeaders_43 (by decide) rfl ?_
          refine zg_aload_n C 0 dX3_findLeaders_44 rfl ?_
          refine zg_iload_n C 3 dX3_findLeaders_45 rfl ?_
          have q6 := zsk_lt R i rc
          refine zg_callr (As := [.int (nI (zsk R i rc))]) (st := []) C [0, 1, 2, 3] 0 1 (c_X3_isSyndrome l D cI h0 a0 a1 a2 Rf (fun s => zo (zld R rc i s)) Wf rc ln rk ds su rd (nI (zsk R i rc)) hrc) gX3_findLeaders_X3_isSyndrome (by decide +kernel) rfl ⟨rfl, rfl⟩ ⟨Nat.le_of_ble_eq_true rfl, Nat.le_of_ble_eq_true rfl⟩ rfl (ci := 3) rfl rfl rfl rfl (Nat.le_of_ble_eq_true rfl) ⟨Nat.le_of_ble_eq_true rfl, Nat.le_of_ble_eq_true rfl⟩ dX3_findLeaders_46 ?_
          refine zp_if_eq C 71 dX3_findLeaders_49 (by decide) (fun c_49 => by exact absurd (zin_nI q6 (by omega)) c_49) (fun c_49 => ?_)
          refine zg_iload_n C 2 dX3_findLeaders_52 rfl ?_
          refine zg_aload_n C 0 dX3_findLeaders_53 rfl ?_
          refine zg_iload_n C 3 dX3_findLeaders_54 rfl ?_
          refine zg_callr (As := [.int (nI (zsk R i rc))]) (st := [.int (nI i)]) C [0, 1, 2, 3] 0 1 (c_X3_leaderOf l D cI h0 a0 a1 a2 Rf (fun s => zo (zld R rc i s)) Wf rc ln rk ds su rd (zsk R i rc) hrc (by omega)) gX3_findLeaders_X3_leaderOf (by decide +kernel) rfl ⟨rfl, rfl⟩ ⟨Nat.le_of_ble_eq_true rfl, Nat.le_of_ble_eq_true rfl⟩ rfl (ci := 3) rfl rfl rfl rfl (Nat.le_of_ble_eq_true rfl) ⟨Nat.le_of_ble_eq_true rfl, Nat.le_of_ble_eq_true rfl⟩ dX3_findLeaders_55 ?_
          refine zg_calls (As := [.int (nI i), .int (zo (zld R rc i (zsk R i rc)))]) (st := []) C [] 2 (c_X3_isNearer l D cI i (zld R rc i (zsk R i rc)) (by omega) (fun v hv => by have := (zld_some hv).1; omega)) gX3_findLeaders_X3_isNearer (by decide +kernel) rfl ⟨rfl, rfl⟩ ⟨Nat.le_of_ble_eq_true rfl, Nat.le_of_ble_eq_true rfl⟩ rfl rfl rfl (Nat.le_of_ble_eq_true rfl) ⟨Nat.le_of_ble_eq_true rfl, Nat.le_of_ble_eq_true rfl⟩ dX3_findLeaders_58 ?_
          refine zb_if_eq C 71 dX3_findLeaders_61 (by decide) (fun c_61 => ?_) (fun c_61 => ?_)
          · skip
            refine zg_cell 2 (ws' := [(h0, .inr (3, [.ref a0, .ref a1, .ref a2, .int (nI rc), .int (nI ln), .int (nI rk), .int (nI ds), .int (nI su), .int (nI rd)])), (a0, .inl (cI, 5, .inl Rf)), (a1, .inl (cI, 32, .inl (fun s => zo (zld R rc (i + 1) s)))), (a2, .inl (cI, 11, .inl Wf))]) (fun s => zo (zld R rc (i + 1) s)) rfl (fun s _ => zld_miss c_61 s) rfl ?_
            refine zg_iinc C 2 [1, 2, 0, 3] (lv' := [(0, .ref h0), (1, .int (nI (2 ^ ln))), (2, .int (nI (i + 1))), (3, .int (nI (zsk R i rc)))]) (nI (i + 1)) dX3_findLeaders_71 rfl (zi_inc _) (by decide) rfl ?_
            refine zg_goto C 33 dX3_findLeaders_74 (by decide) ?_
            refine zg_lv [0, 1, 2] (lv' := [(0, .ref h0), (1, .int (nI (2 ^ ln))), (2, .int (nI (i + 1)))]) rfl ?_
            exact zg_cv (lv' := [(0, .ref h0), (1, .int (nI (2 ^ ln))), (2, .int (nI (i + 1)))]) (rfl) rfl (rfl) (ih_33 (by omega) )
          · skip
            refine zg_aload_n C 0 dX3_findLeaders_64 rfl ?_
            refine zg_get C 0 (ci := 3) (f := 1) rfl rfl uX3_findLeaders_3 (by decide) fX3_findLeaders_3_1 dX3_findLeaders_65 rfl ?_
            refine zg_iload_n C 3 dX3_findLeaders_68 rfl ?_
            refine zg_iload_n C 2 dX3_findLeaders_69 rfl ?_
            refine zg_iast C 2 (ws' := [(h0, .inr (3, [.ref a0, .ref a1, .ref a2, .int (nI rc), .int (nI ln), .int (nI rk), .int (nI ds), .int (nI su), .int (nI rd)])), (a0, .inl (cI, 5, .inl Rf)), (a1, .inl (cI, 32, .inl (upd (fun s => zo (zld R rc i s)) (zsk R i rc) (nI i)))), (a2, .inl (cI, 11, .inl Wf))]) rfl (by omega) (by decide) dX3_findLeaders_70 rfl ?_
            refine zg_cell 2 (ws' := [(h0, .inr (3, [.ref a0, .ref a1, .ref a2, .int (nI rc), .int (nI ln), .int (nI rk), .int (nI ds), .int (nI su), .int (nI rd)])), (a0, .inl (cI, 5, .inl Rf)), (a1, .inl (cI, 32, .inl (fun s => zo (zld R rc (i + 1) s)))), (a2, .inl (cI, 11, .inl Wf))]) (fun s => zo (zld R rc (i + 1) s)) rfl (fun s _ => zld_hit c_61 s) rfl ?_
            refine zg_iinc C 2 [1, 2, 0, 3] (lv' := [(0, .ref h0), (1, .int (nI (2 ^ ln))), (2, .int (nI (i + 1))), (3, .int (nI (zsk R i rc)))]) (nI (i + 1)) dX3_findLeaders_71 rfl (zi_inc _) (by decide) rfl ?_
            refine zg_goto C 33 dX3_findLeaders_74 (by decide) ?_
            refine zg_lv [0, 1, 2] (lv' := [(0, .ref h0), (1, .int (nI (2 ^ ln))), (2, .int (nI (i + 1)))]) rfl ?_
            exact zg_cv (lv' := [(0, .ref h0), (1, .int (nI (2 ^ ln))), (2, .int (nI (i + 1)))]) (rfl) rfl (rfl) (ih_33 (by omega) )
      exact zg_cv (lv' := [(0, .ref h0), (1, .int (nI (2 ^ ln))), (2, .int (nI 0))]) (rfl) rfl (rfl) (L_33 0 (by omega) )
    · skip
      refine zg_aload_n C 0 dX3_findLeaders_11 rfl ?_
      refine zg_get C 0 (ci := 3) (f := 1) rfl rfl uX3_findLeaders_3 (by decide) fX3_findLeaders_3_1 dX3_findLeaders_12 rfl ?_
      refine zg_iload_n C 1 dX3_findLeaders_15 rfl ?_
      refine zg_sipush (v := (-1001)) C dX3_findLeaders_16 (by decide) ?_
      refine zg_iast C 2 (ws' := [(h0, .inr (3, [.ref a0, .ref a1, .ref a2, .int (nI rc), .int (nI ln), .int (nI rk), .int (nI ds), .int (nI su), .int (nI rd)])), (a0, .inl (cI, 5, .inl Rf)), (a1, .inl (cI, 32, .inl (upd (fun j => if j < i then -1001 else Lf j) i (-1001)))), (a2, .inl (cI, 11, .inl Wf))]) rfl (by omega) (by decide) dX3_findLeaders_19 rfl ?_
      refine zg_cell 2 (ws' := [(h0, .inr (3, [.ref a0, .ref a1, .ref a2, .int (nI rc), .int (nI ln), .int (nI rk), .int (nI ds), .int (nI su), .int (nI rd)])), (a0, .inl (cI, 5, .inl Rf)), (a1, .inl (cI, 32, .inl (fun j => if j < (i + 1) then -1001 else Lf j))), (a2, .inl (cI, 11, .inl Wf))]) (fun j => if j < (i + 1) then -1001 else Lf j) rfl (fun j _ => zfill j) rfl ?_
      refine zg_iinc C 1 [1, 0] (lv' := [(0, .ref h0), (1, .int (nI (i + 1)))]) (nI (i + 1)) dX3_findLeaders_20 rfl (zi_inc _) (by decide) rfl ?_
      refine zg_goto C 2 dX3_findLeaders_23 (by decide) ?_
      exact zg_cv (lv' := [(0, .ref h0), (1, .int (nI (i + 1)))]) (rfl) rfl (rfl) (ih_2 (by omega) )
  exact zg_cv (lv' := [(0, .ref h0), (1, .int (nI 0))]) (rfl) rfl (rfl) (L_2 0 (by omega) )
theorem uX3_countLeaders_3 : ∀ w ∈ u_ws RX3 TX3 9, w ∈ wsX3_countLeaders := fun w h => List.mem_cons_of_mem _ (List.mem_append_right _ h)
theorem fX3_countLeaders_3_2 : Cond.fieldLink RX3 18 (TX3 2).1 (TX3 2).2.1 (TX3 2).2.2.1 ∈ wsX3_countLeaders := by decide +kernel
theorem fX3_countLeaders_3_8 : Cond.fieldLink RX3 37 (TX3 8).1 (TX3 8).2.1 (TX3 8).2.2.1 ∈ wsX3_countLeaders := by decide +kernel
theorem fX3_countLeaders_3_1 : Cond.fieldLink RX3 15 (TX3 1).1 (TX3 1).2.1 (TX3 1).2.2.1 ∈ wsX3_countLeaders := by decide +kernel
theorem fX3_countLeaders_3_5 : Cond.fieldLink RX3 28 (TX3 5).1 (TX3 5).2.1 (TX3 5).2.2.1 ∈ wsX3_countLeaders := by decide +kernel
theorem wX3_countLeaders_0 : Cond.methodLink RX3 84 Lib.Math.max.name ∈ wsX3_countLeaders := by decide +kernel
theorem wX3_countLeaders_1 : Cond.static Lib.Math.max.name ∈ wsX3_countLeaders := by decide +kernel
theorem wX3_countLeaders_2 : Cond.initialized "java/lang/Math" ∈ wsX3_countLeaders := by decide +kernel
theorem wX3_countLeaders_3 : Cond.code Lib.Math.max.name Lib.Math.max.code 2 (some .int) ∈ wsX3_countLeaders := by decide +kernel
set_option maxHeartbeats 1000000 in
set_option maxRecDepth 100000 in
theorem c_X3_countLeaders (l : Launch) (D : va_G) (cI : ClassId) (h0 a0 a1 a2 : Nat) (Rf Lf Wf : Nat → Int32) (rc ln rk ds su rd : Nat) (Lo : Nat → Option Nat) (hL : ∀ y, y < 32 → Lf y = zo (Lo y)) (hLo : ∀ y v, Lo y = some v → v < 1024) (hct : 0 < zct (fun s => (Lo s).isSome) 32) : zMw l D cI yX3_countLeaders wsX3_countLeaders { frames := 1, cells := 0, slots := 0, locals := 20 } [.ref h0] [(h0, .inr (3, [.ref a0, .ref a1, .ref a2, .int (nI rc), .int (nI ln), .int (nI rk), .int (nI ds), .int (nI su), .int (nI rd)])), (a0, .inl (cI, 5, .inl Rf)), (a1, .inl (cI, 32, .inl Lf)), (a2, .inl (cI, 11, .inl Wf))] (fun v9 w9 => v9 = none ∧ w9 = [(h0, .inr (3, [.ref a0, .ref a1, .ref a2, .int (nI rc), .int (nI ln), .int (nI (zpc (zct (fun s => (Lo s).isSome) 32 - 1))), .int (nI ds), .int (nI su), .int (nI (zrad Lo 32))])), (a0, .inl (cI, 5, .inl Rf)), (a1, .inl (cI, 32, .inl Lf)), (a2, .inl (cI, 11, .inl (fun j => nI (zct (zhw Lo j) 32))))]) 0 0 := by
  refine zw_ent (maxL := 4) (by decide) rfl (Nat.le_of_ble_eq_true rfl) (fun X C E hin9 => ?_)
  have C : zC X l D cI { frames := 1, cells := 0, slots := 0, locals := 20 } 4 true cX3_countLeaders RX3 wsX3_countLeaders := C
  refine zg_cv (lv' := [(0, .ref h0)]) rfl rfl rfl ?_
  refine zg_cell 3 (ws' := [(h0, .inr (3, [.ref a0, .ref a1, .ref a2, .int (nI rc), .int (nI ln), .int (nI rk), .int (nI ds), .int (nI su), .int (nI rd)])), (a0, .inl (cI, 5, .inl Rf)), (a1, .inl (cI, 32, .inl Lf)), (a2, .inl (cI, 11, .inl (fun j => if j < 0 then nI 0 else Wf j)))]) (fun j => if j < 0 then nI 0 else Wf j) rfl (fun j _ => by rw [if_neg (Nat.not_lt_zero j)]) rfl ?_
  refine zg_iconst (v := nI 0) C dX3_countLeaders_0 (by decide) ?_
  refine zg_istore_n C [1, 0] (lv' := [(0, .ref h0), (1, .int (nI 0))]) dX3_countLeaders_1 (by decide) rfl ?_
  have L_2 : ∀ i, i ≤ 11 → zG X 0 0 [(0, .ref h0), (1, .int (nI i))] [] [(h0, .inr (3, [.ref a0, .ref a1, .ref a2, .int (nI rc), .int (nI ln), .int (nI rk), .int (nI ds), .int (nI su), .int (nI rd)])), (a0, .inl (cI, 5, .inl Rf)), (a1, .inl (cI, 32, .inl Lf)), (a2, .inl (cI, 11, .inl (fun j => if j < i then nI 0 else Wf j)))] 2 := by
    refine zg_dn (fun i hi ih_2  => ?_)
    refine zg_iload_n C 1 dX3_countLeaders_2 rfl ?_
    refine zg_aload_n C 0 dX3_countLeaders_3 rfl ?_
    refine zg_get C 0 (ci := 3) (f := 2) rfl rfl uX3_countLeaders_3 (by decide) fX3_countLeaders_3_2 dX3_countLeaders_4 rfl ?_
    refine zg_alen C 3 rfl dX3_countLeaders_7 ?_
    refine zn_icmp_ge C 24 (by omega) (by omega) dX3_countLeaders_8 (by decide) (fun c_8 => ?_) (fun c_8 => ?_)
    · skip
      have e9_24 : 11 = i := by omega
      subst e9_24
      refine zg_cell 3 (ws' := [(h0, .inr (3, [.ref a0, .ref a1, .ref a2, .int (nI rc), .int (nI ln), .int (nI rk), .int (nI ds), .int (nI su), .int (nI rd)])), (a0, .inl (cI, 5, .inl Rf)), (a1, .inl (cI, 32, .inl Lf)), (a2, .inl (cI, 11, .inl (fun j => nI (zct (zhw Lo j) 0))))]) (fun j => nI (zct (zhw Lo j) 0)) rfl (fun j hj => by show (if j < 11 then nI 0 else Wf j) = nI 0; rw [if_pos hj]) rfl ?_
      refine zg_iconst (v := nI 0) C dX3_countLeaders_24 (by decide) ?_
      refine zg_istore_n C [1, 0] (lv' := [(0, .ref h0), (1, .int (nI 0))]) dX3_countLeaders_25 (by decide) rfl ?_
      refine zg_aload_n C 0 dX3_countLeaders_26 rfl ?_
      refine zg_iconst (v := nI 0) C dX3_countLeaders_27 (by decide) ?_
      refine zg_put C 0 (ci := 3) (f := 8) (ws' := [(h0, .inr (3, [.ref a0, .ref a1, .ref a2, .int (nI rc), .int (nI ln), .int (nI rk), .int (nI ds), .int (nI su), .int (nI 0)])), (a0, .inl (cI, 5, .inl Rf)), (a1, .inl (cI, 32, .inl Lf)), (a2, .inl (cI, 11, .inl (fun j => nI (zct (zhw Lo j) 0))))]) rfl rfl uX3_countLeaders_3 tyX3_ok nmX3 (by decide) fX3_countLeaders_3_8 rfl rfl rfl rfl (Nat.le_of_ble_eq_true rfl) dX3_countLeaders_28 rfl ?_
      refine zg_iconst (v := nI 0) C dX3_countLeaders_31 (by decide) ?_
      refine zg_istore_n C [1, 2, 0] (lv' := [(0, .ref h0), (1, .int (nI 0)), (2, .int (nI 0))]) dX3_countLeaders_32 (by decide) rfl ?_
      have L_33 : ∀ i, i ≤ 32 → zG X 0 0 [(0, .ref h0), (1, .int (nI (zct (fun s => (Lo s).isSome) i))), (2, .int (nI i))] [] [(h0, .inr (3, [.ref a0, .ref a1, .ref a2, .int (nI rc), .int (nI ln), .int (nI rk), .int (nI ds), .int (nI su), .int (nI (zrad Lo i))])), (a0, .inl (cI, 5, .inl Rf)), (a1, .inl (cI, 32, .inl Lf)), (a2, .inl (cI, 11, .inl (fun j => nI (zct (zhw Lo j) i))))] 33 := by
        refine zg_dn (fun i hi ih_33  => ?_)
        refine zg_iload_n C 2 dX3_countLeaders_33 rfl ?_
        refine zg_aload_n C 0 dX3_countLeaders_34 rfl ?_
        refine zg_get C 0 (ci := 3) (f := 1) rfl rfl uX3_countLeaders_3 (by decide) fX3_countLeaders_3_1 dX3_countLeaders_35 rfl ?_
        refine zg_alen C 2 rfl dX3_countLeaders_38 ?_
        refine zn_icmp_ge C 104 (by omega) (by omega) dX3_countLeaders_39 (by decide) (fun c_39 => ?_) (fun c_39 => ?_)
        · skip
          have e9_104 : 32 = i := by omega
          subst e9_104
          refine zg_aload_n C 0 dX3_countLeaders_104 rfl ?_
          refine zg_iload_n C 1 dX3_countLeaders_105 rfl ?_
          refine zg_iconst (v := nI 1) C dX3_countLeaders_106 (by decide) ?_
          have q6 := zct_le (fun s => (Lo s).isSome) 32
          refine zg_isub C dX3_countLeaders_107 (nI ((zct (fun s => (Lo s).isSome) 32) - 1)) (pk_sub (by omega)) ?_
          refine zg_calls (As := [.int (nI ((zct (fun s => (Lo s).isSome) 32) - 1))]) (st := [.ref h0]) C [] 1 (c_J6_bitCount_0f7a4 l D cI ((zct (fun s => (Lo s).isSome) 32) - 1) (by omega)) gX3_countLeaders_J6_bitCount_0f7a4 (by decide +kernel) rfl ⟨rfl, rfl⟩ ⟨Nat.le_of_ble_eq_true rfl, Nat.le_of_ble_eq_true rfl⟩ rfl rfl rfl (Nat.le_of_ble_eq_true rfl) ⟨Nat.le_of_ble_eq_true rfl, Nat.le_of_ble_eq_true rfl⟩ dX3_countLeaders_108 ?_
          refine zg_put C 0 (ci := 3) (f := 5) (ws' := [(h0, .inr (3, [.ref a0, .ref a1, .ref a2, .int (nI rc), .int (nI ln), .int (nI (zpc ((zct (fun s => (Lo s).isSome) 32) - 1))), .int (nI ds), .int (nI su), .int (nI (zrad Lo 32))])), (a0, .inl (cI, 5, .inl Rf)), (a1, .inl (cI, 32, .inl Lf)), (a2, .inl (cI, 11, .inl (fun j => nI (zct (zhw Lo j) 32))))]) rfl rfl uX3_countLeaders_3 tyX3_ok nmX3 (by decide) fX3_countLeaders_3_5 rfl rfl rfl rfl (Nat.le_of_ble_eq_true rfl) dX3_countLeaders_111 rfl ?_
          exact zg_wvret C E dX3_countLeaders_114 (⟨rfl, rfl⟩)
        · skip
          refine zg_aload_n C 0 dX3_countLeaders_42 rfl ?_
          refine zg_get C 0 (ci := 3) (f := 1) rfl rfl uX3_countLeaders_3 (by decide) fX3_countLeaders_3_1 dX3_countLeaders_43 rfl ?_
          refine zg_iload_n C 2 dX3_countLeaders_46 rfl ?_
          refine zg_iald C 2 rfl (by omega) (by decide) dX3_countLeaders_47 (zo (Lo i)) (hL i (by omega)) ?_
          rcases zopt (Lo i) with hz | ⟨v, hz⟩
          · skip
            refine zg_cv (st' := [.int (-1001)]) rfl (by rw [show zo (Lo i) = -1001 from (by rw [hz]; rfl)]) rfl ?_
            refine zg_sipush (v := (-1001)) C dX3_countLeaders_48 (by decide) ?_
            refine zg_icmp_eq C 98 dX3_countLeaders_51 (by decide) (fun c_51 => ?_) (fun c_51 => by exact absurd rfl c_51)
            refine zg_cell 3 (ws' := [(h0, .inr (3, [.ref a0, .ref a1, .ref a2, .int (nI rc), .int (nI ln), .int (nI rk), .int (nI ds), .int (nI su), .int (nI (zrad Lo i))])), (a0, .inl (cI, 5, .inl Rf)), (a1, .inl (cI, 32, .inl Lf)), (a2, .inl (cI, 11, .inl (fun j => nI (zct (zhw Lo j) (i + 1)))))]) (fun j => nI (zct (zhw Lo j) (i + 1))) rfl (fun j _ => zw_same hz j) rfl ?_
            refine zg_cv (lv' := [(0, .ref h0), (1, .int (nI (zct (fun s => (Lo s).isSome) (i + 1)))), (2, .int (nI i))]) (by rw [zct_f (zsome_f hz)]) rfl rfl ?_
            refine zg_cv (ws' := [(h0, .inr (3, [.ref a0, .ref a1, .ref a2, .int (nI rc), .int (nI ln), .int (nI rk), .int (nI ds), .int (nI su), .int (nI (zrad Lo (i + 1)))])), (a0, .inl (cI, 5, .inl Rf)), (a1, .inl (cI, 32, .inl Lf)), (a2, .inl (cI, 11, .inl (fun j => nI (zct (zhw Lo j) (i + 1)))))]) rfl rfl (by rw [zrad_none hz]) ?_
            refine zg_iinc C 2 [1, 2, 0] (lv' := [(0, .ref h0), (1, .int (nI (zct (fun s => (Lo s).isSome) (i + 1)))), (2, .int (nI (i + 1)))]) (nI (i + 1)) dX3_countLeaders_98 rfl (zi_inc _) (by decide) rfl ?_
            refine zg_goto C 33 dX3_countLeaders_101 (by decide) ?_
            exact zg_cv (lv' := [(0, .ref h0), (1, .int (nI (zct (fun s => (Lo s).isSome) (i + 1)))), (2, .int (nI (i + 1)))]) (rfl) rfl (rfl) (ih_33 (by omega) )
          · have hv := hLo i v hz
            have q3 := zpc_le v
            refine zg_cv (st' := [.int (nI v)]) rfl (by rw [show zo (Lo i) = nI v from (by rw [hz]; rfl)]) rfl ?_
            refine zg_sipush (v := (-1001)) C dX3_countLeaders_48 (by decide) ?_
            refine zg_icmp_eq C 98 dX3_countLeaders_51 (by decide) (fun c_51 => by exact absurd c_51 (zo_ne (by omega))) (fun c_51 => ?_)
            refine zg_aload_n C 0 dX3_countLeaders_54 rfl ?_
            refine zg_get C 0 (ci := 3) (f := 1) rfl rfl uX3_countLeaders_3 (by decide) fX3_countLeaders_3_1 dX3_countLeaders_55 rfl ?_
            refine zg_iload_n C 2 dX3_countLeaders_58 rfl ?_
            refine zg_iald C 2 rfl (by omega) (by decide) dX3_countLeaders_59 (nI v) ((hL i (by omega)).trans (by rw [hz]; rfl)) ?_
            refine zg_calls (As := [.int (nI v)]) (st := []) C [] 1 (c_J6_bitCount_0f7a4 l D cI v (by omega)) gX3_countLeaders_J6_bitCount_0f7a4 (by decide +kernel) rfl ⟨rfl, rfl⟩ ⟨Nat.le_of_ble_eq_true rfl, Nat.le_of_ble_eq_true rfl⟩ rfl rfl rfl (Nat.le_of_ble_eq_true rfl) ⟨Nat.le_of_ble_eq_true rfl, Nat.le_of_ble_eq_true rfl⟩ dX3_countLeaders_60 ?_
            refine zg_istore_n C [1, 2, 3, 0] (lv' := [(0, .ref h0), (1, .int (nI (zct (fun s => (Lo s).isSome) i))), (2, .int (nI i)), (3, .int (nI (zpc v)))]) dX3_countLeaders_63 (by decide) rfl ?_
            refine zg_iinc C 1 [1, 0, 2, 3] (lv' := [(0, .ref h0), (1, .int (nI (zct (fun s => (Lo s).isSome) i + 1))), (2, .int (nI i)), (3, .int (nI (zpc v)))]) (nI (zct (fun s => (Lo s).isSome) i + 1)) dX3_countLeaders_64 rfl (zi_inc _) (by decide) rfl ?_
            refine zg_aload_n C 0 dX3_countLeaders_67 rfl ?_
            refine zg_aload_n C 0 dX3_countLeaders_68 rfl ?_
            refine zg_get C 0 (ci := 3) (f := 8) rfl rfl uX3_countLeaders_3 (by decide) fX3_countLeaders_3_8 dX3_countLeaders_69 rfl ?_
            refine zg_iload_n C 3 dX3_countLeaders_72 rfl ?_
            have q4 := (zrad_spec Lo i).1
            refine zg_mmax C wX3_countLeaders_0 wX3_countLeaders_1 wX3_countLeaders_2 wX3_countLeaders_3 (Nat.le_of_ble_eq_true rfl) (Nat.le_of_ble_eq_true rfl) (Nat.le_of_ble_eq_true rfl) (Nat.le_of_ble_eq_true rfl) dX3_countLeaders_73 (nI (zrad Lo (i + 1))) ((zmx (by omega) (by omega)).trans (congrArg nI (zrad_some hz).symm)) ?_
            refine zg_put C 0 (ci := 3) (f := 8) (ws' := [(h0, .inr (3, [.ref a0, .ref a1, .ref a2, .int (nI rc), .int (nI ln), .int (nI rk), .int (nI ds), .int (nI su), .int (nI (zrad Lo (i + 1)))])), (a0, .inl (cI, 5, .inl Rf)), (a1, .inl (cI, 32, .inl Lf)), (a2, .inl (cI, 11, .inl (fun j => nI (zct (zhw Lo j) i))))]) rfl rfl uX3_countLeaders_3 tyX3_ok nmX3 (by decide) fX3_countLeaders_3_8 rfl rfl rfl rfl (Nat.le_of_ble_eq_true rfl) dX3_countLeaders_76 rfl ?_
            refine zg_iload_n C 3 dX3_countLeaders_79 rfl ?_
            refine zg_aload_n C 0 dX3_countLeaders_80 rfl ?_
            refine zg_get C 0 (ci := 3) (f := 2) rfl rfl uX3_countLeaders_3 (by decide) fX3_countLeaders_3_2 dX3_countLeaders_81 rfl ?_
            refine zg_alen C 3 rfl dX3_countLeaders_84 ?_
            refine zn_icmp_ge C 98 (by omega) (by omega) dX3_countLeaders_85 (by decide) (fun c_85 => by omega) (fun c_85 => ?_)
            refine zg_aload_n C 0 dX3_countLeaders_88 rfl ?_
            refine zg_get C 0 (ci := 3) (f := 2) rfl rfl uX3_countLeaders_3 (by decide) fX3_countLeaders_3_2 dX3_countLeaders_89 rfl ?_
            refine zg_iload_n C 3 dX3_countLeaders_92 rfl ?_
            refine zg_dup2 C dX3_countLeaders_93 rfl rfl ?_
            refine zg_iald C 3 rfl (by omega) (by decide) dX3_countLeaders_94 (nI (zct (zhw Lo (zpc v)) i)) (rfl) ?_
            refine zg_iconst (v := nI 1) C dX3_countLeaders_95 (by decide) ?_
            refine zg_iadd C dX3_countLeaders_96 (nI ((zct (zhw Lo (zpc v)) i) + 1)) (nI_add _ _) ?_
            refine zg_iast C 3 (ws' := [(h0, .inr (3, [.ref a0, .ref a1, .ref a2, .int (nI rc), .int (nI ln), .int (nI rk), .int (nI ds), .int (nI su), .int (nI (zrad Lo (i + 1)))])), (a0, .inl (cI, 5, .inl Rf)), (a1, .inl (cI, 32, .inl Lf)), (a2, .inl (cI, 11, .inl (upd (fun j => nI (zct (zhw Lo j) i)) (zpc v) (nI ((zct (zhw Lo (zpc v)) i) + 1)))))]) rfl (by omega) (by decide) dX3_countLeaders_97 rfl ?_
            refine zg_cell 3 (ws' := [(h0, .inr (3, [.ref a0, .ref a1, .ref a2, .int (nI rc), .int (nI ln), .int (nI rk), .int (nI ds), .int (nI su), .int (nI (zrad Lo (i + 1)))])), (a0, .inl (cI, 5, .inl Rf)), (a1, .inl (cI, 32, .inl Lf)), (a2, .inl (cI, 11, .inl (fun j => nI (zct (zhw Lo j) (i + 1)))))]) (fun j => nI (zct (zhw Lo j) (i + 1))) rfl (fun j _ => zw_add hz j) rfl ?_
            refine zg_cv (lv' := [(0, .ref h0), (1, .int (nI (zct (fun s => (Lo s).isSome) (i + 1)))), (2, .int (nI i)), (3, .int (nI (zpc v)))]) (by rw [zct_t (zsome_t hz)]) rfl rfl ?_
            refine zg_iinc C 2 [1, 2, 0, 3] (lv' := [(0, .ref h0), (1, .int (nI (zct (fun s => (Lo s).isSome) (i + 1)))), (2, .int (nI (i + 1))), (3, .int (nI (zpc v)))]) (nI (i + 1)) dX3_countLeaders_98 rfl (zi_inc _) (by decide) rfl ?_
            refine zg_goto C 33 dX3_countLeaders_101 (by decide) ?_
            refine zg_lv [0, 1, 2] (lv' := [(0, .ref h0), (1, .int (nI (zct (fun s => (Lo s).isSome) (i + 1)))), (2, .int (nI (i + 1)))]) rfl ?_
            exact zg_cv (lv' := [(0, .ref h0), (1, .int (nI (zct (fun s => (Lo s).isSome) (i + 1)))), (2, .int (nI (i + 1)))]) (rfl) rfl (rfl) (ih_33 (by omega) )
      exact zg_cv (lv' := [(0, .ref h0), (1, .int (nI (zct (fun s => (Lo s).isSome) 0))), (2, .int (nI 0))]) (rfl) rfl (rfl) (L_33 0 (by omega) )
    · skip
      refine zg_aload_n C 0 dX3_countLeaders_11 rfl ?_
      refine zg_get C 0 (ci := 3) (f := 2) rfl rfl uX3_countLeaders_3 (by decide) fX3_countLeaders_3_2 dX3_countLeaders_12 rfl ?_
      refine zg_iload_n C 1 dX3_countLeaders_15 rfl ?_
      refine zg_iconst (v := nI 0) C dX3_countLeaders_16 (by decide) ?_
      refine zg_iast C 3 (ws' := [(h0, .inr (3, [.ref a0, .ref a1, .ref a2, .int (nI rc), .int (nI ln), .int (nI rk), .int (nI ds), .int (nI su), .int (nI rd)])), (a0, .inl (cI, 5, .inl Rf)), (a1, .inl (cI, 32, .inl Lf)), (a2, .inl (cI, 11, .inl (upd (fun j => if j < i then nI 0 else Wf j) i (nI 0))))]) rfl (by omega) (by decide) dX3_countLeaders_17 rfl ?_
      refine zg_cell 3 (ws' := [(h0, .inr (3, [.ref a0, .ref a1, .ref a2, .int (nI rc), .int (nI ln), .int (nI rk), .int (nI ds), .int (nI su), .int (nI rd)])), (a0, .inl (cI, 5, .inl Rf)), (a1, .inl (cI, 32, .inl Lf)), (a2, .inl (cI, 11, .inl (fun j => if j < (i + 1) then nI 0 else Wf j)))]) (fun j => if j < (i + 1) then nI 0 else Wf j) rfl (fun j _ => zfill j) rfl ?_
      refine zg_iinc C 1 [1, 0] (lv' := [(0, .ref h0), (1, .int (nI (i + 1)))]) (nI (i + 1)) dX3_countLeaders_18 rfl (zi_inc _) (by decide) rfl ?_
      refine zg_goto C 2 dX3_countLeaders_21 (by decide) ?_
      exact zg_cv (lv' := [(0, .ref h0), (1, .int (nI (i + 1)))]) (rfl) rfl (rfl) (ih_2 (by omega) )
  exact zg_cv (lv' := [(0, .ref h0), (1, .int (nI 0))]) (rfl) rfl (rfl) (L_2 0 (by omega) )
theorem uX3_gainBy_3 : ∀ w ∈ u_ws RX3 TX3 9, w ∈ wsX3_gainBy := fun w h => List.mem_cons_of_mem _ (List.mem_append_right _ h)
theorem fX3_gainBy_3_0 : Cond.fieldLink RX3 9 (TX3 0).1 (TX3 0).2.1 (TX3 0).2.2.1 ∈ wsX3_gainBy := by decide +kernel
theorem fX3_gainBy_3_6 : Cond.fieldLink RX3 31 (TX3 6).1 (TX3 6).2.1 (TX3 6).2.2.1 ∈ wsX3_gainBy := by decide +kernel
set_option maxHeartbeats 1000000 in
set_option maxRecDepth 100000 in
theorem c_X3_gainBy (l : Launch) (D : va_G) (cI : ClassId) (h0 a0 a1 a2 : Nat) (Rf Lf Wf : Nat → Int32) (rc ln rk ds su rd : Nat) (R : Nat → Nat) (i v : Nat) (hrc : rc ≤ 5) (hln : ln ≤ 10) (hR : ∀ i, i < rc → Rf i = nI (R i)) (hRb : ∀ i, i < rc → R i < 1024) (hi : i < rc) (hv : v < 1024) : zMw l D cI yX3_gainBy wsX3_gainBy { frames := 3, cells := 0, slots := 0, locals := 67 } [.ref h0, .int (nI i), .int (nI v)] [(h0, .inr (3, [.ref a0, .ref a1, .ref a2, .int (nI rc), .int (nI ln), .int (nI rk), .int (nI ds), .int (nI su), .int (nI rd)])), (a0, .inl (cI, 5, .inl Rf)), (a1, .inl (cI, 32, .inl Lf)), (a2, .inl (cI, 11, .inl Wf))] (fun v9 w9 => v9 = some (.int (nI (zdm (zset R i v) rc ln (2 ^ ln)) - nI ds)) ∧ w9 = [(h0, .inr (3, [.ref a0, .ref a1, .ref a2, .int (nI rc), .int (nI ln), .int (nI rk), .int (nI ds), .int (nI su), .int (nI rd)])), (a0, .inl (cI, 5, .inl Rf)), (a1, .inl (cI, 32, .inl Lf)), (a2, .inl (cI, 11, .inl Wf))]) 0 0 := by
  refine zw_ent (maxL := 5) (by decide) rfl (Nat.le_of_ble_eq_true rfl) (fun X C E hin9 => ?_)
  have C : zC X l D cI { frames := 3, cells := 0, slots := 0, locals := 67 } 5 true cX3_gainBy RX3 wsX3_gainBy := C
  refine zg_cv (lv' := [(0, .ref h0), (1, .int (nI i)), (2, .int (nI v))]) rfl rfl rfl ?_
  refine zg_aload_n C 0 dX3_gainBy_0 rfl ?_
  refine zg_iload_n C 1 dX3_gainBy_1 rfl ?_
  refine zg_callr (As := [.int (nI i)]) (st := []) C [0, 1, 2, 3] 0 1 (c_X3_isRow l D cI h0 a0 a1 a2 Rf Lf Wf rc ln rk ds su rd (nI i) hrc) gX3_gainBy_X3_isRow (by decide +kernel) rfl ⟨rfl, rfl⟩ ⟨Nat.le_of_ble_eq_true rfl, Nat.le_of_ble_eq_true rfl⟩ rfl (ci := 3) rfl rfl rfl rfl (Nat.le_of_ble_eq_true rfl) ⟨Nat.le_of_ble_eq_true rfl, Nat.le_of_ble_eq_true rfl⟩ dX3_gainBy_2 ?_
  refine zp_if_ne C 10 dX3_gainBy_5 (by decide) (fun c_5 => ?_) (fun c_5 => by exact absurd (zin_nI hi (by omega)) c_5)
  refine zg_aload_n C 0 dX3_gainBy_10 rfl ?_
  refine zg_get C 0 (ci := 3) (f := 0) rfl rfl uX3_gainBy_3 (by decide) fX3_gainBy_3_0 dX3_gainBy_11 rfl ?_
  refine zg_iload_n C 1 dX3_gainBy_14 rfl ?_
  refine zg_iald C 1 rfl (by omega) (by decide) dX3_gainBy_15 (Rf i) (rfl) ?_
  refine zg_istore_n C [1, 2, 3, 0] (lv' := [(0, .ref h0), (1, .int (nI i)), (2, .int (nI v)), (3, .int (Rf i))]) dX3_gainBy_16 (by decide) rfl ?_
  refine zg_aload_n C 0 dX3_gainBy_17 rfl ?_
  refine zg_get C 0 (ci := 3) (f := 0) rfl rfl uX3_gainBy_3 (by decide) fX3_gainBy_3_0 dX3_gainBy_18 rfl ?_
  refine zg_iload_n C 1 dX3_gainBy_21 rfl ?_
  refine zg_iload_n C 2 dX3_gainBy_22 rfl ?_
  refine zg_iast C 1 (ws' := [(h0, .inr (3, [.ref a0, .ref a1, .ref a2, .int (nI rc), .int (nI ln), .int (nI rk), .int (nI ds), .int (nI su), .int (nI rd)])), (a0, .inl (cI, 5, .inl (upd Rf i (nI v)))), (a1, .inl (cI, 32, .inl Lf)), (a2, .inl (cI, 11, .inl Wf))]) rfl (by omega) (by decide) dX3_gainBy_23 rfl ?_
  refine zg_aload_n C 0 dX3_gainBy_24 rfl ?_
  refine zg_callr (As := []) (st := []) C [0, 1, 2, 3] 0 0 (c_X3_leastWeightWithoutSyndrome l D cI h0 a0 a1 a2 (upd Rf i (nI v)) Lf Wf rc ln rk ds su rd (zset R i v) hrc hln (fun j hj => zset_arr hR j hj) (fun j hj => zset_b hRb hv j hj)) gX3_gainBy_X3_leastWeightWithoutSyndrome (by decide +kernel) rfl ⟨rfl, rfl⟩ ⟨Nat.le_of_ble_eq_true rfl, Nat.le_of_ble_eq_true rfl⟩ rfl (ci := 3) rfl rfl rfl rfl (Nat.le_of_ble_eq_true rfl) ⟨Nat.le_of_ble_eq_true rfl, Nat.le_of_ble_eq_true rfl⟩ dX3_gainBy_25 ?_
  refine zg_istore C [1, 2, 3, 4, 0] (lv' := [(0, .ref h0), (1, .int (nI i)), (2, .int (nI v)), (3, .int (Rf i)), (4, .int (nI (zdm (zset R i v) rc ln (2 ^ ln))))]) dX3_gainBy_28 (by decide) rfl ?_
  refine zg_aload_n C 0 dX3_gainBy_30 rfl ?_
  refine zg_get C 0 (ci := 3) (f := 0) rfl rfl uX3_gainBy_3 (by decide) fX3_gainBy_3_0 dX3_gainBy_31 rfl ?_
  refine zg_iload_n C 1 dX3_gainBy_34 rfl ?_
  refine zg_iload_n C 3 dX3_gainBy_35 rfl ?_
  refine zg_iast C 1 (ws' := [(h0, .inr (3, [.ref a0, .ref a1, .ref a2, .int (nI rc), .int (nI ln), .int (nI rk), .int (nI ds), .int (nI su), .int (nI rd)])), (a0, .inl (cI, 5, .inl (upd (upd Rf i (nI v)) i (Rf i)))), (a1, .inl (cI, 32, .inl Lf)), (a2, .inl (cI, 11, .inl Wf))]) rfl (by omega) (by decide) dX3_gainBy_36 rfl ?_
  refine zg_cell 1 (ws' := [(h0, .inr (3, [.ref a0, .ref a1, .ref a2, .int (nI rc), .int (nI ln), .int (nI rk), .int (nI ds), .int (nI su), .int (nI rd)])), (a0, .inl (cI, 5, .inl Rf)), (a1, .inl (cI, 32, .inl Lf)), (a2, .inl (cI, 11, .inl Wf))]) Rf rfl (fun j _ => zback j) rfl ?_
  refine zg_iload C 4 dX3_gainBy_37 rfl ?_
  refine zg_aload_n C 0 dX3_gainBy_39 rfl ?_
  refine zg_get C 0 (ci := 3) (f := 6) rfl rfl uX3_gainBy_3 (by decide) fX3_gainBy_3_6 dX3_gainBy_40 rfl ?_
  refine zg_isub C dX3_gainBy_43 (nI (zdm (zset R i v) rc ln (2 ^ ln)) - nI ds) (rfl) ?_
  exact zg_wiret C E dX3_gainBy_44 (⟨rfl, rfl⟩)
end
section
/-! Page, Reader, Tally, Draws -/
theorem uX1_size_1 : ∀ w ∈ u_ws RX1 TX1 2, w ∈ wsX1_size := fun w h => List.mem_cons_of_mem _ (List.mem_append_right _ h)
theorem fX1_size_1_1 : Cond.fieldLink RX1 15 (TX1 1).1 (TX1 1).2.1 (TX1 1).2.2.1 ∈ wsX1_size := by decide +kernel
set_option maxHeartbeats 1000000 in
set_option maxRecDepth 100000 in
theorem c_X1_size (l : Launch) (D : va_G) (cI : ClassId) (p0 g0 : Nat) (pg : Nat → Int32) (pn : Nat) : zMr l D cI yX1_size wsX1_size { frames := 0, cells := 0, slots := 0, locals := 0 } [.ref p0] [(p0, .inr (1, [.ref g0, .int (nI pn)])), (g0, .inl (cI, 56, .inl pg))] (nI pn) := by
  refine zr_ent (maxL := 1) (by decide) rfl (Nat.le_of_ble_eq_true rfl) (fun X C E => ?_)
  have C : zC X l D cI { frames := 0, cells := 0, slots := 0, locals := 0 } 1 false cX1_size RX1 wsX1_size := C
  refine zg_cv (lv' := [(0, .ref p0)]) rfl rfl rfl ?_
  refine zg_aload_n C 0 dX1_size_0 rfl ?_
  refine zg_get C 0 (ci := 1) (f := 1) rfl rfl uX1_size_1 (by decide) fX1_size_1_1 dX1_size_1 rfl ?_
  exact zg_iret C E dX1_size_4 (rfl)
theorem uX1_append_1 : ∀ w ∈ u_ws RX1 TX1 2, w ∈ wsX1_append := fun w h => List.mem_cons_of_mem _ (List.mem_append_right _ h)
theorem fX1_append_1_1 : Cond.fieldLink RX1 15 (TX1 1).1 (TX1 1).2.1 (TX1 1).2.2.1 ∈ wsX1_append := by decide +kernel
theorem fX1_append_1_0 : Cond.fieldLink RX1 9 (TX1 0).1 (TX1 0).2.1 (TX1 0).2.2.1 ∈ wsX1_append := by decide +kernel
set_option maxHeartbeats 1000000 in
set_option maxRecDepth 100000 in
theorem c_X1_append (l : Launch) (D : va_G) (cI : ClassId) (p0 g0 : Nat) (pg : Nat → Int32) (pn : Nat) (x : Int32) (hpn : pn ≤ 56) : zMw l D cI yX1_append wsX1_append { frames := 0, cells := 0, slots := 0, locals := 0 } [.ref p0, .int x] [(p0, .inr (1, [.ref g0, .int (nI pn)])), (g0, .inl (cI, 56, .inl pg))] (fun v9 w9 => v9 = some (.int (zb (decide (pn < 56)))) ∧ w9 = [(p0, .inr (1, [.ref g0, .int (nI (if pn < 56 then pn + 1 else pn))])), (g0, .inl (cI, 56, .inl (if pn < 56 then upd pg pn x else pg)))]) 0 0 := by
  refine zw_ent (maxL := 2) (by decide) rfl (Nat.le_of_ble_eq_true rfl) (fun X C E hin9 => ?_)
  have C : zC X l D cI { frames := 0, cells := 0, slots := 0, locals := 0 } 2 true cX1_append RX1 wsX1_append := C
  refine zg_cv (lv' := [(0, .ref p0), (1, .int x)]) rfl rfl rfl ?_
  refine zg_aload_n C 0 dX1_append_0 rfl ?_
  refine zg_get C 0 (ci := 1) (f := 1) rfl rfl uX1_append_1 (by decide) fX1_append_1_1 dX1_append_1 rfl ?_
  refine zn_if_lt C 19 (by omega) dX1_append_4 (by decide) ?_
  refine zg_aload_n C 0 dX1_append_7 rfl ?_
  refine zg_get C 0 (ci := 1) (f := 1) rfl rfl uX1_append_1 (by decide) fX1_append_1_1 dX1_append_8 rfl ?_
  refine zg_aload_n C 0 dX1_append_11 rfl ?_
  refine zg_get C 0 (ci := 1) (f := 0) rfl rfl uX1_append_1 (by decide) fX1_append_1_0 dX1_append_12 rfl ?_
  refine zg_alen C 1 rfl dX1_append_15 ?_
  refine zn_icmp_lt C 21 (by omega) (by omega) dX1_append_16 (by decide) (fun c_16 => ?_) (fun c_16 => ?_)
  · skip
    refine zg_aload_n C 0 dX1_append_21 rfl ?_
    refine zg_get C 0 (ci := 1) (f := 0) rfl rfl uX1_append_1 (by decide) fX1_append_1_0 dX1_append_22 rfl ?_
    refine zg_aload_n C 0 dX1_append_25 rfl ?_
    refine zg_get C 0 (ci := 1) (f := 1) rfl rfl uX1_append_1 (by decide) fX1_append_1_1 dX1_append_26 rfl ?_
    refine zg_iload_n C 1 dX1_append_29 rfl ?_
    refine zg_iast C 1 (ws' := [(p0, .inr (1, [.ref g0, .int (nI pn)])), (g0, .inl (cI, 56, .inl (upd pg pn x)))]) rfl (by omega) (by decide) dX1_append_30 rfl ?_
    refine zg_aload_n C 0 dX1_append_31 rfl ?_
    refine zg_dup C dX1_append_32 rfl ?_
    refine zg_get C 0 (ci := 1) (f := 1) rfl rfl uX1_append_1 (by decide) fX1_append_1_1 dX1_append_33 rfl ?_
    refine zg_iconst (v := nI 1) C dX1_append_36 (by decide) ?_
    refine zg_iadd C dX1_append_37 (nI (pn + 1)) (nI_add _ _) ?_
    refine zg_put C 0 (ci := 1) (f := 1) (ws' := [(p0, .inr (1, [.ref g0, .int (nI (pn + 1))])), (g0, .inl (cI, 56, .inl (upd pg pn x)))]) rfl rfl uX1_append_1 tyX1_ok nmX1 (by decide) fX1_append_1_1 rfl rfl rfl rfl (Nat.le_of_ble_eq_true rfl) dX1_append_38 rfl ?_
    refine zg_iconst (v := nI 1) C dX1_append_41 (by decide) ?_
    exact zg_wzret C (decide (pn < 56)) E dX1_append_42 (zbt c_16) (⟨rfl, by rw [if_pos c_16, if_pos c_16]⟩)
  · skip
    refine zg_iconst (v := nI 0) C dX1_append_19 (by decide) ?_
    exact zg_wzret C (decide (pn < 56)) E dX1_append_20 (zbf (by omega)) (⟨rfl, by rw [if_neg (by omega), if_neg (by omega)]⟩)
theorem uX1_clear_1 : ∀ w ∈ u_ws RX1 TX1 2, w ∈ wsX1_clear := fun w h => List.mem_cons_of_mem _ (List.mem_append_right _ h)
theorem fX1_clear_1_1 : Cond.fieldLink RX1 15 (TX1 1).1 (TX1 1).2.1 (TX1 1).2.2.1 ∈ wsX1_clear := by decide +kernel
set_option maxHeartbeats 1000000 in
set_option maxRecDepth 100000 in
theorem c_X1_clear (l : Launch) (D : va_G) (cI : ClassId) (p0 g0 : Nat) (pg : Nat → Int32) (pn : Nat) : zMw l D cI yX1_clear wsX1_clear { frames := 0, cells := 0, slots := 0, locals := 0 } [.ref p0] [(p0, .inr (1, [.ref g0, .int (nI pn)])), (g0, .inl (cI, 56, .inl pg))] (fun v9 w9 => v9 = none ∧ w9 = [(p0, .inr (1, [.ref g0, .int (nI 0)])), (g0, .inl (cI, 56, .inl pg))]) 0 0 := by
  refine zw_ent (maxL := 1) (by decide) rfl (Nat.le_of_ble_eq_true rfl) (fun X C E hin9 => ?_)
  have C : zC X l D cI { frames := 0, cells := 0, slots := 0, locals := 0 } 1 true cX1_clear RX1 wsX1_clear := C
  refine zg_cv (lv' := [(0, .ref p0)]) rfl rfl rfl ?_
  refine zg_aload_n C 0 dX1_clear_0 rfl ?_
  refine zg_iconst (v := nI 0) C dX1_clear_1 (by decide) ?_
  refine zg_put C 0 (ci := 1) (f := 1) (ws' := [(p0, .inr (1, [.ref g0, .int (nI 0)])), (g0, .inl (cI, 56, .inl pg))]) rfl rfl uX1_clear_1 tyX1_ok nmX1 (by decide) fX1_clear_1_1 rfl rfl rfl rfl (Nat.le_of_ble_eq_true rfl) dX1_clear_2 rfl ?_
  exact zg_wvret C E dX1_clear_5 (⟨rfl, rfl⟩)
theorem uX1_letterAt_1 : ∀ w ∈ u_ws RX1 TX1 2, w ∈ wsX1_letterAt := fun w h => List.mem_cons_of_mem _ (List.mem_append_right _ h)
theorem fX1_letterAt_1_0 : Cond.fieldLink RX1 9 (TX1 0).1 (TX1 0).2.1 (TX1 0).2.2.1 ∈ wsX1_letterAt := by decide +kernel
set_option maxHeartbeats 1000000 in
set_option maxRecDepth 100000 in
theorem c_X1_letterAt (l : Launch) (D : va_G) (cI : ClassId) (p0 g0 : Nat) (pg : Nat → Int32) (pn : Nat) (i : Nat) (hi : i < 56) : zMr l D cI yX1_letterAt wsX1_letterAt { frames := 0, cells := 0, slots := 0, locals := 0 } [.ref p0, .int (nI i)] [(p0, .inr (1, [.ref g0, .int (nI pn)])), (g0, .inl (cI, 56, .inl pg))] (pg i) := by
  refine zr_ent (maxL := 2) (by decide) rfl (Nat.le_of_ble_eq_true rfl) (fun X C E => ?_)
  have C : zC X l D cI { frames := 0, cells := 0, slots := 0, locals := 0 } 2 false cX1_letterAt RX1 wsX1_letterAt := C
  refine zg_cv (lv' := [(0, .ref p0), (1, .int (nI i))]) rfl rfl rfl ?_
  refine zg_iload_n C 1 dX1_letterAt_0 rfl ?_
  refine zn_if_lt C 22 (by omega) dX1_letterAt_1 (by decide) ?_
  refine zg_iload_n C 1 dX1_letterAt_4 rfl ?_
  refine zg_aload_n C 0 dX1_letterAt_5 rfl ?_
  refine zg_get C 0 (ci := 1) (f := 0) rfl rfl uX1_letterAt_1 (by decide) fX1_letterAt_1_0 dX1_letterAt_6 rfl ?_
  refine zg_alen C 1 rfl dX1_letterAt_9 ?_
  refine zn_icmp_ge C 22 (by omega) (by omega) dX1_letterAt_10 (by decide) (fun c_10 => by omega) (fun c_10 => ?_)
  refine zg_aload_n C 0 dX1_letterAt_13 rfl ?_
  refine zg_get C 0 (ci := 1) (f := 0) rfl rfl uX1_letterAt_1 (by decide) fX1_letterAt_1_0 dX1_letterAt_14 rfl ?_
  refine zg_iload_n C 1 dX1_letterAt_17 rfl ?_
  refine zg_iald C 1 rfl (by omega) (by decide) dX1_letterAt_18 (pg i) (rfl) ?_
  refine zg_goto C 23 dX1_letterAt_19 (by decide) ?_
  exact zg_iret C E dX1_letterAt_23 (rfl)
theorem uX2_start_2 : ∀ w ∈ u_ws RX2 TX2 4, w ∈ wsX2_start := fun w h => List.mem_cons_of_mem _ (List.mem_append_right _ h)
theorem fX2_start_2_0 : Cond.fieldLink RX2 9 (TX2 0).1 (TX2 0).2.1 (TX2 0).2.2.1 ∈ wsX2_start := by decide +kernel
theorem fX2_start_2_1 : Cond.fieldLink RX2 15 (TX2 1).1 (TX2 1).2.1 (TX2 1).2.2.1 ∈ wsX2_start := by decide +kernel
theorem fX2_start_2_2 : Cond.fieldLink RX2 19 (TX2 2).1 (TX2 2).2.1 (TX2 2).2.2.1 ∈ wsX2_start := by decide +kernel
theorem fX2_start_2_3 : Cond.fieldLink RX2 22 (TX2 3).1 (TX2 3).2.1 (TX2 3).2.2.1 ∈ wsX2_start := by decide +kernel
set_option maxHeartbeats 1000000 in
set_option maxRecDepth 100000 in
theorem c_X2_start (l : Launch) (D : va_G) (cI : ClassId) (r0 b0 : Nat) (x1 x2 x3 : Int32) (Qf : Nat → Int32) : zMw l D cI yX2_start wsX2_start { frames := 0, cells := 0, slots := 0, locals := 0 } [.ref r0] [(r0, .inr (2, [.ref b0, .int x1, .int x2, .int x3])), (b0, .inl (cI, 5, .inl Qf))] (fun v9 w9 => v9 = none ∧ w9 = [(r0, .inr (2, [.ref b0, .int (nI 0), .int (nI 0), .int (nI 0)])), (b0, .inl (cI, 5, .inl (fun _ => nI 0)))]) 0 0 := by
  refine zw_ent (maxL := 2) (by decide) rfl (Nat.le_of_ble_eq_true rfl) (fun X C E hin9 => ?_)
  have C : zC X l D cI { frames := 0, cells := 0, slots := 0, locals := 0 } 2 true cX2_start RX2 wsX2_start := C
  refine zg_cv (lv' := [(0, .ref r0)]) rfl rfl rfl ?_
  refine zg_cell 1 (ws' := [(r0, .inr (2, [.ref b0, .int x1, .int x2, .int x3])), (b0, .inl (cI, 5, .inl (fun j => if j < 0 then nI 0 else Qf j)))]) (fun j => if j < 0 then nI 0 else Qf j) rfl (fun j _ => by rw [if_neg (Nat.not_lt_zero j)]) rfl ?_
  refine zg_iconst (v := nI 0) C dX2_start_0 (by decide) ?_
  refine zg_istore_n C [1, 0] (lv' := [(0, .ref r0), (1, .int (nI 0))]) dX2_start_1 (by decide) rfl ?_
  have L_2 : ∀ i, i ≤ 5 → zG X 0 0 [(0, .ref r0), (1, .int (nI i))] [] [(r0, .inr (2, [.ref b0, .int x1, .int x2, .int x3])), (b0, .inl (cI, 5, .inl (fun j => if j < i then nI 0 else Qf j)))] 2 := by
    refine zg_dn (fun i hi ih_2  => ?_)
    refine zg_iload_n C 1 dX2_start_2 rfl ?_
    refine zg_aload_n C 0 dX2_start_3 rfl ?_
    refine zg_get C 0 (ci := 2) (f := 0) rfl rfl uX2_start_2 (by decide) fX2_start_2_0 dX2_start_4 rfl ?_
    refine zg_alen C 1 rfl dX2_start_7 ?_
    refine zn_icmp_ge C 24 (by omega) (by omega) dX2_start_8 (by decide) (fun c_8 => ?_) (fun c_8 => ?_)
    · skip
      have e9_24 : 5 = i := by omega
      subst e9_24
      refine zg_cell 1 (ws' := [(r0, .inr (2, [.ref b0, .int x1, .int x2, .int x3])), (b0, .inl (cI, 5, .inl (fun _ => nI 0)))]) (fun _ => nI 0) rfl (fun j hj => by show (if j < 5 then nI 0 else Qf j) = nI 0; rw [if_pos hj]) rfl ?_
      refine zg_aload_n C 0 dX2_start_24 rfl ?_
      refine zg_iconst (v := nI 0) C dX2_start_25 (by decide) ?_
      refine zg_put C 0 (ci := 2) (f := 1) (ws' := [(r0, .inr (2, [.ref b0, .int (nI 0), .int x2, .int x3])), (b0, .inl (cI, 5, .inl (fun _ => nI 0)))]) rfl rfl uX2_start_2 tyX2_ok nmX2 (by decide) fX2_start_2_1 rfl rfl rfl rfl (Nat.le_of_ble_eq_true rfl) dX2_start_26 rfl ?_
      refine zg_aload_n C 0 dX2_start_29 rfl ?_
      refine zg_iconst (v := nI 0) C dX2_start_30 (by decide) ?_
      refine zg_put C 0 (ci := 2) (f := 2) (ws' := [(r0, .inr (2, [.ref b0, .int (nI 0), .int (nI 0), .int x3])), (b0, .inl (cI, 5, .inl (fun _ => nI 0)))]) rfl rfl uX2_start_2 tyX2_ok nmX2 (by decide) fX2_start_2_2 rfl rfl rfl rfl (Nat.le_of_ble_eq_true rfl) dX2_start_31 rfl ?_
      refine zg_aload_n C 0 dX2_start_34 rfl ?_
      refine zg_iconst (v := nI 0) C dX2_start_35 (by decide) ?_
      refine zg_put C 0 (ci := 2) (f := 3) (ws' := [(r0, .inr (2, [.ref b0, .int (nI 0), .int (nI 0), .int (nI 0)])), (b0, .inl (cI, 5, .inl (fun _ => nI 0)))]) rfl rfl uX2_start_2 tyX2_ok nmX2 (by decide) fX2_start_2_3 rfl rfl rfl rfl (Nat.le_of_ble_eq_true rfl) dX2_start_36 rfl ?_
      exact zg_wvret C E dX2_start_39 (⟨rfl, rfl⟩)
    · skip
      refine zg_aload_n C 0 dX2_start_11 rfl ?_
      refine zg_get C 0 (ci := 2) (f := 0) rfl rfl uX2_start_2 (by decide) fX2_start_2_0 dX2_start_12 rfl ?_
      refine zg_iload_n C 1 dX2_start_15 rfl ?_
      refine zg_iconst (v := nI 0) C dX2_start_16 (by decide) ?_
      refine zg_iast C 1 (ws' := [(r0, .inr (2, [.ref b0, .int x1, .int x2, .int x3])), (b0, .inl (cI, 5, .inl (upd (fun j => if j < i then nI 0 else Qf j) i (nI 0))))]) rfl (by omega) (by decide) dX2_start_17 rfl ?_
      refine zg_cell 1 (ws' := [(r0, .inr (2, [.ref b0, .int x1, .int x2, .int x3])), (b0, .inl (cI, 5, .inl (fun j => if j < (i + 1) then nI 0 else Qf j)))]) (fun j => if j < (i + 1) then nI 0 else Qf j) rfl (fun j _ => zfill j) rfl ?_
      refine zg_iinc C 1 [1, 0] (lv' := [(0, .ref r0), (1, .int (nI (i + 1)))]) (nI (i + 1)) dX2_start_18 rfl (zi_inc _) (by decide) rfl ?_
      refine zg_goto C 2 dX2_start_21 (by decide) ?_
      exact zg_cv (lv' := [(0, .ref r0), (1, .int (nI (i + 1)))]) (rfl) rfl (rfl) (ih_2 (by omega) )
  exact zg_cv (lv' := [(0, .ref r0), (1, .int (nI 0))]) (rfl) rfl (rfl) (L_2 0 (by omega) )
theorem uX2_rowIsWhole_2 : ∀ w ∈ u_ws RX2 TX2 4, w ∈ wsX2_rowIsWhole := fun w h => List.mem_cons_of_mem _ (List.mem_append_right _ h)
theorem fX2_rowIsWhole_2_1 : Cond.fieldLink RX2 15 (TX2 1).1 (TX2 1).2.1 (TX2 1).2.2.1 ∈ wsX2_rowIsWhole := by decide +kernel
theorem fX2_rowIsWhole_2_2 : Cond.fieldLink RX2 19 (TX2 2).1 (TX2 2).2.1 (TX2 2).2.2.1 ∈ wsX2_rowIsWhole := by decide +kernel
theorem fX2_rowIsWhole_2_3 : Cond.fieldLink RX2 22 (TX2 3).1 (TX2 3).2.1 (TX2 3).2.2.1 ∈ wsX2_rowIsWhole := by decide +kernel
set_option maxHeartbeats 1000000 in
set_option maxRecDepth 100000 in
theorem c_X2_rowIsWhole (l : Launch) (D : va_G) (cI : ClassId) (r0 b0 : Nat) (rw sg lg : Nat) (R : Nat → Nat) (hk : zrok (rw, sg, lg, R)) : zMr l D cI yX2_rowIsWhole wsX2_rowIsWhole { frames := 0, cells := 0, slots := 0, locals := 0 } [.ref r0] [(r0, .inr (2, [.ref b0, .int (nI rw), .int (nI sg), .int (nI lg)])), (b0, .inl (cI, 5, .inl (fun j => nI (R j))))] (zb (zwh rw sg lg)) := by
  refine zr_ent (maxL := 1) (by decide) rfl (Nat.le_of_ble_eq_true rfl) (fun X C E => ?_)
  have C : zC X l D cI { frames := 0, cells := 0, slots := 0, locals := 0 } 1 false cX2_rowIsWhole RX2 wsX2_rowIsWhole := C
  refine zg_cv (lv' := [(0, .ref r0)]) rfl rfl rfl ?_
  obtain ⟨k1, k2, k3, k4, k5, k6, k7, k8⟩ := id hk
  refine zg_aload_n C 0 dX2_rowIsWhole_0 rfl ?_
  refine zg_get C 0 (ci := 2) (f := 1) rfl rfl uX2_rowIsWhole_2 (by decide) fX2_rowIsWhole_2_1 dX2_rowIsWhole_1 rfl ?_
  refine zn_if_ne C 23 (by omega) dX2_rowIsWhole_4 (by decide) (fun c_4 => ?_) (fun c_4 => ?_)
  · skip
    refine zg_aload_n C 0 dX2_rowIsWhole_23 rfl ?_
    refine zg_get C 0 (ci := 2) (f := 2) rfl rfl uX2_rowIsWhole_2 (by decide) fX2_rowIsWhole_2_2 dX2_rowIsWhole_24 rfl ?_
    refine zg_aload_n C 0 dX2_rowIsWhole_27 rfl ?_
    refine zg_get C 0 (ci := 2) (f := 3) rfl rfl uX2_rowIsWhole_2 (by decide) fX2_rowIsWhole_2_3 dX2_rowIsWhole_28 rfl ?_
    refine zn_icmp_ne C 38 (by omega) (by omega) dX2_rowIsWhole_31 (by decide) (fun c_31 => ?_) (fun c_31 => ?_)
    · skip
      refine zg_iconst (v := nI 0) C dX2_rowIsWhole_38 (by decide) ?_
      exact zg_zret C E dX2_rowIsWhole_39 (zbF (by rw [zwh, if_neg (by omega), decide_eq_false c_31]))
    · skip
      refine zg_iconst (v := nI 1) C dX2_rowIsWhole_34 (by decide) ?_
      refine zg_goto C 39 dX2_rowIsWhole_35 (by decide) ?_
      exact zg_zret C E dX2_rowIsWhole_39 (zbT (by rw [zwh, if_neg (by omega), decide_eq_true c_31]))
  · skip
    refine zg_aload_n C 0 dX2_rowIsWhole_7 rfl ?_
    refine zg_get C 0 (ci := 2) (f := 2) rfl rfl uX2_rowIsWhole_2 (by decide) fX2_rowIsWhole_2_2 dX2_rowIsWhole_8 rfl ?_
    refine zg_iconst (v := nI 3) C dX2_rowIsWhole_11 (by decide) ?_
    refine zn_icmp_lt C 19 (by omega) (by omega) dX2_rowIsWhole_12 (by decide) (fun c_12 => ?_) (fun c_12 => ?_)
    · skip
      refine zg_iconst (v := nI 0) C dX2_rowIsWhole_19 (by decide) ?_
      refine zg_goto C 39 dX2_rowIsWhole_20 (by decide) ?_
      exact zg_zret C E dX2_rowIsWhole_39 (zbF (by rw [zwh, if_pos c_4, decide_eq_false (by omega)]))
    · skip
      refine zg_iconst (v := nI 1) C dX2_rowIsWhole_15 (by decide) ?_
      refine zg_goto C 39 dX2_rowIsWhole_16 (by decide) ?_
      exact zg_zret C E dX2_rowIsWhole_39 (zbT (by rw [zwh, if_pos c_4, decide_eq_true c_12]))
theorem uX2_rowsRead_2 : ∀ w ∈ u_ws RX2 TX2 4, w ∈ wsX2_rowsRead := fun w h => List.mem_cons_of_mem _ (List.mem_append_right _ h)
theorem fX2_rowsRead_2_1 : Cond.fieldLink RX2 15 (TX2 1).1 (TX2 1).2.1 (TX2 1).2.2.1 ∈ wsX2_rowsRead := by decide +kernel
set_option maxHeartbeats 1000000 in
set_option maxRecDepth 100000 in
theorem c_X2_rowsRead (l : Launch) (D : va_G) (cI : ClassId) (r0 b0 : Nat) (rw sg lg : Nat) (R : Nat → Nat) : zMr l D cI yX2_rowsRead wsX2_rowsRead { frames := 0, cells := 0, slots := 0, locals := 0 } [.ref r0] [(r0, .inr (2, [.ref b0, .int (nI rw), .int (nI sg), .int (nI lg)])), (b0, .inl (cI, 5, .inl (fun j => nI (R j))))] (nI (rw + 1)) := by
  refine zr_ent (maxL := 1) (by decide) rfl (Nat.le_of_ble_eq_true rfl) (fun X C E => ?_)
  have C : zC X l D cI { frames := 0, cells := 0, slots := 0, locals := 0 } 1 false cX2_rowsRead RX2 wsX2_rowsRead := C
  refine zg_cv (lv' := [(0, .ref r0)]) rfl rfl rfl ?_
  refine zg_aload_n C 0 dX2_rowsRead_0 rfl ?_
  refine zg_get C 0 (ci := 2) (f := 1) rfl rfl uX2_rowsRead_2 (by decide) fX2_rowsRead_2_1 dX2_rowsRead_1 rfl ?_
  refine zg_iconst (v := nI 1) C dX2_rowsRead_4 (by decide) ?_
  refine zg_iadd C dX2_rowsRead_5 (nI (rw + 1)) (nI_add _ _) ?_
  exact zg_iret C E dX2_rowsRead_6 (rfl)
theorem uX2_signsOfRow_2 : ∀ w ∈ u_ws RX2 TX2 4, w ∈ wsX2_signsOfRow := fun w h => List.mem_cons_of_mem _ (List.mem_append_right _ h)
theorem fX2_signsOfRow_2_2 : Cond.fieldLink RX2 19 (TX2 2).1 (TX2 2).2.1 (TX2 2).2.2.1 ∈ wsX2_signsOfRow := by decide +kernel
set_option maxHeartbeats 1000000 in
set_option maxRecDepth 100000 in
theorem c_X2_signsOfRow (l : Launch) (D : va_G) (cI : ClassId) (r0 b0 : Nat) (rw sg lg : Nat) (R : Nat → Nat) : zMr l D cI yX2_signsOfRow wsX2_signsOfRow { frames := 0, cells := 0, slots := 0, locals := 0 } [.ref r0] [(r0, .inr (2, [.ref b0, .int (nI rw), .int (nI sg), .int (nI lg)])), (b0, .inl (cI, 5, .inl (fun j => nI (R j))))] (nI sg) := by
  refine zr_ent (maxL := 1) (by decide) rfl (Nat.le_of_ble_eq_true rfl) (fun X C E => ?_)
  have C : zC X l D cI { frames := 0, cells := 0, slots := 0, locals := 0 } 1 false cX2_signsOfRow RX2 wsX2_signsOfRow := C
  refine zg_cv (lv' := [(0, .ref r0)]) rfl rfl rfl ?_
  refine zg_aload_n C 0 dX2_signsOfRow_0 rfl ?_
  refine zg_get C 0 (ci := 2) (f := 2) rfl rfl uX2_signsOfRow_2 (by decide) fX2_signsOfRow_2_2 dX2_signsOfRow_1 rfl ?_
  exact zg_iret C E dX2_signsOfRow_4 (rfl)
theorem uX2_rowAt_2 : ∀ w ∈ u_ws RX2 TX2 4, w ∈ wsX2_rowAt := fun w h => List.mem_cons_of_mem _ (List.mem_append_right _ h)
theorem fX2_rowAt_2_0 : Cond.fieldLink RX2 9 (TX2 0).1 (TX2 0).2.1 (TX2 0).2.2.1 ∈ wsX2_rowAt := by decide +kernel
set_option maxHeartbeats 1000000 in
set_option maxRecDepth 100000 in
theorem c_X2_rowAt (l : Launch) (D : va_G) (cI : ClassId) (r0 b0 : Nat) (rw sg lg : Nat) (R : Nat → Nat) (i : Nat) (hi : i < 5) : zMr l D cI yX2_rowAt wsX2_rowAt { frames := 0, cells := 0, slots := 0, locals := 0 } [.ref r0, .int (nI i)] [(r0, .inr (2, [.ref b0, .int (nI rw), .int (nI sg), .int (nI lg)])), (b0, .inl (cI, 5, .inl (fun j => nI (R j))))] (nI (R i)) := by
  refine zr_ent (maxL := 2) (by decide) rfl (Nat.le_of_ble_eq_true rfl) (fun X C E => ?_)
  have C : zC X l D cI { frames := 0, cells := 0, slots := 0, locals := 0 } 2 false cX2_rowAt RX2 wsX2_rowAt := C
  refine zg_cv (lv' := [(0, .ref r0), (1, .int (nI i))]) rfl rfl rfl ?_
  refine zg_iload_n C 1 dX2_rowAt_0 rfl ?_
  refine zn_if_lt C 22 (by omega) dX2_rowAt_1 (by decide) ?_
  refine zg_iload_n C 1 dX2_rowAt_4 rfl ?_
  refine zg_aload_n C 0 dX2_rowAt_5 rfl ?_
  refine zg_get C 0 (ci := 2) (f := 0) rfl rfl uX2_rowAt_2 (by decide) fX2_rowAt_2_0 dX2_rowAt_6 rfl ?_
  refine zg_alen C 1 rfl dX2_rowAt_9 ?_
  refine zn_icmp_ge C 22 (by omega) (by omega) dX2_rowAt_10 (by decide) (fun c_10 => by omega) (fun c_10 => ?_)
  refine zg_aload_n C 0 dX2_rowAt_13 rfl ?_
  refine zg_get C 0 (ci := 2) (f := 0) rfl rfl uX2_rowAt_2 (by decide) fX2_rowAt_2_0 dX2_rowAt_14 rfl ?_
  refine zg_iload_n C 1 dX2_rowAt_17 rfl ?_
  refine zg_iald C 1 rfl (by omega) (by decide) dX2_rowAt_18 (nI (R i)) (rfl) ?_
  refine zg_goto C 23 dX2_rowAt_19 (by decide) ?_
  exact zg_iret C E dX2_rowAt_23 (rfl)
theorem uX2_takesEndOfRow_2 : ∀ w ∈ u_ws RX2 TX2 4, w ∈ wsX2_takesEndOfRow := fun w h => List.mem_cons_of_mem _ (List.mem_append_right _ h)
theorem fX2_takesEndOfRow_2_1 : Cond.fieldLink RX2 15 (TX2 1).1 (TX2 1).2.1 (TX2 1).2.2.1 ∈ wsX2_takesEndOfRow := by decide +kernel
theorem fX2_takesEndOfRow_2_2 : Cond.fieldLink RX2 19 (TX2 2).1 (TX2 2).2.1 (TX2 2).2.2.1 ∈ wsX2_takesEndOfRow := by decide +kernel
theorem fX2_takesEndOfRow_2_3 : Cond.fieldLink RX2 22 (TX2 3).1 (TX2 3).2.1 (TX2 3).2.2.1 ∈ wsX2_takesEndOfRow := by decide +kernel
set_option maxHeartbeats 1000000 in
set_option maxRecDepth 100000 in
theorem c_X2_takesEndOfRow (l : Launch) (D : va_G) (cI : ClassId) (r0 b0 : Nat) (rw sg lg : Nat) (R : Nat → Nat) (hk : zrok (rw, sg, lg, R)) : zMw l D cI yX2_takesEndOfRow wsX2_takesEndOfRow { frames := 1, cells := 0, slots := 0, locals := 20 } [.ref r0] [(r0, .inr (2, [.ref b0, .int (nI rw), .int (nI sg), .int (nI lg)])), (b0, .inl (cI, 5, .inl (fun j => nI (R j))))] (fun v9 w9 => v9 = some (.int (zb ((zeor rw sg lg R).isSome))) ∧ w9 = [(r0, .inr (2, [.ref b0, .int (nI (((zeor rw sg lg R).getD (rw, sg, lg, R)).1)), .int (nI (((zeor rw sg lg R).getD (rw, sg, lg, R)).2.1)), .int (nI (((zeor rw sg lg R).getD (rw, sg, lg, R)).2.2.1))])), (b0, .inl (cI, 5, .inl (fun j => nI (((zeor rw sg lg R).getD (rw, sg, lg, R)).2.2.2 j))))]) 0 0 := by
  refine zw_ent (maxL := 1) (by decide) rfl (Nat.le_of_ble_eq_true rfl) (fun X C E hin9 => ?_)
  have C : zC X l D cI { frames := 1, cells := 0, slots := 0, locals := 20 } 1 true cX2_takesEndOfRow RX2 wsX2_takesEndOfRow := C
  refine zg_cv (lv' := [(0, .ref r0)]) rfl rfl rfl ?_
  obtain ⟨k1, k2, k3, k4, k5, k6, k7, k8⟩ := id hk
  refine zg_aload_n C 0 dX2_takesEndOfRow_0 rfl ?_
  refine zg_callr (As := []) (st := []) C [0, 1] 0 0 (c_X2_rowIsWhole l D cI r0 b0 rw sg lg R hk) gX2_takesEndOfRow_X2_rowIsWhole (by decide +kernel) rfl ⟨rfl, rfl⟩ ⟨Nat.le_of_ble_eq_true rfl, Nat.le_of_ble_eq_true rfl⟩ rfl (ci := 2) rfl rfl rfl rfl (Nat.le_of_ble_eq_true rfl) ⟨Nat.le_of_ble_eq_true rfl, Nat.le_of_ble_eq_true rfl⟩ dX2_takesEndOfRow_1 ?_
  refine zb_if_eq C 15 dX2_takesEndOfRow_4 (by decide) (fun c_4 => ?_) (fun c_4 => ?_)
  · skip
    refine zg_iconst (v := nI 0) C dX2_takesEndOfRow_15 (by decide) ?_
    exact zg_wzret C ((zeor rw sg lg R).isSome) E dX2_takesEndOfRow_16 (zbF (by rw [show (zeor rw sg lg R) = none from if_neg (fun q => by rw [c_4] at q; cases q.1)]; rfl)) (⟨rfl, by rw [show (zeor rw sg lg R) = none from if_neg (fun q => by rw [c_4] at q; cases q.1)]; rfl⟩)
  · skip
    refine zg_aload_n C 0 dX2_takesEndOfRow_7 rfl ?_
    refine zg_get C 0 (ci := 2) (f := 1) rfl rfl uX2_takesEndOfRow_2 (by decide) fX2_takesEndOfRow_2_1 dX2_takesEndOfRow_8 rfl ?_
    refine zg_iconst (v := nI 4) C dX2_takesEndOfRow_11 (by decide) ?_
    refine zn_icmp_lt C 17 (by omega) (by omega) dX2_takesEndOfRow_12 (by decide) (fun c_12 => ?_) (fun c_12 => ?_)
    · skip
      refine zg_aload_n C 0 dX2_takesEndOfRow_17 rfl ?_
      refine zg_aload_n C 0 dX2_takesEndOfRow_18 rfl ?_
      refine zg_get C 0 (ci := 2) (f := 2) rfl rfl uX2_takesEndOfRow_2 (by decide) fX2_takesEndOfRow_2_2 dX2_takesEndOfRow_19 rfl ?_
      refine zg_put C 0 (ci := 2) (f := 3) (ws' := [(r0, .inr (2, [.ref b0, .int (nI rw), .int (nI sg), .int (nI sg)])), (b0, .inl (cI, 5, .inl (fun j => nI (R j))))]) rfl rfl uX2_takesEndOfRow_2 tyX2_ok nmX2 (by decide) fX2_takesEndOfRow_2_3 rfl rfl rfl rfl (Nat.le_of_ble_eq_true rfl) dX2_takesEndOfRow_22 rfl ?_
      refine zg_aload_n C 0 dX2_takesEndOfRow_25 rfl ?_
      refine zg_dup C dX2_takesEndOfRow_26 rfl ?_
      refine zg_get C 0 (ci := 2) (f := 1) rfl rfl uX2_takesEndOfRow_2 (by decide) fX2_takesEndOfRow_2_1 dX2_takesEndOfRow_27 rfl ?_
      refine zg_iconst (v := nI 1) C dX2_takesEndOfRow_30 (by decide) ?_
      refine zg_iadd C dX2_takesEndOfRow_31 (nI (rw + 1)) (nI_add _ _) ?_
      refine zg_put C 0 (ci := 2) (f := 1) (ws' := [(r0, .inr (2, [.ref b0, .int (nI (rw + 1)), .int (nI sg), .int (nI sg)])), (b0, .inl (cI, 5, .inl (fun j => nI (R j))))]) rfl rfl uX2_takesEndOfRow_2 tyX2_ok nmX2 (by decide) fX2_takesEndOfRow_2_1 rfl rfl rfl rfl (Nat.le_of_ble_eq_true rfl) dX2_takesEndOfRow_32 rfl ?_
      refine zg_aload_n C 0 dX2_takesEndOfRow_35 rfl ?_
      refine zg_iconst (v := nI 0) C dX2_takesEndOfRow_36 (by decide) ?_
      refine zg_put C 0 (ci := 2) (f := 2) (ws' := [(r0, .inr (2, [.ref b0, .int (nI (rw + 1)), .int (nI 0), .int (nI sg)])), (b0, .inl (cI, 5, .inl (fun j => nI (R j))))]) rfl rfl uX2_takesEndOfRow_2 tyX2_ok nmX2 (by decide) fX2_takesEndOfRow_2_2 rfl rfl rfl rfl (Nat.le_of_ble_eq_true rfl) dX2_takesEndOfRow_37 rfl ?_
      refine zg_iconst (v := nI 1) C dX2_takesEndOfRow_40 (by decide) ?_
      exact zg_wzret C ((zeor rw sg lg R).isSome) E dX2_takesEndOfRow_41 (zbT (by rw [show (zeor rw sg lg R) = some (rw + 1, 0, sg, R) from if_pos ⟨c_4, c_12⟩]; rfl)) (⟨rfl, by rw [show (zeor rw sg lg R) = some (rw + 1, 0, sg, R) from if_pos ⟨c_4, c_12⟩]; rfl⟩)
    · skip
      refine zg_iconst (v := nI 0) C dX2_takesEndOfRow_15 (by decide) ?_
      exact zg_wzret C ((zeor rw sg lg R).isSome) E dX2_takesEndOfRow_16 (zbF (by rw [show (zeor rw sg lg R) = none from if_neg (fun q => by omega)]; rfl)) (⟨rfl, by rw [show (zeor rw sg lg R) = none from if_neg (fun q => by omega)]; rfl⟩)
theorem uX2_takesSign_2 : ∀ w ∈ u_ws RX2 TX2 4, w ∈ wsX2_takesSign := fun w h => List.mem_cons_of_mem _ (List.mem_append_right _ h)
theorem fX2_takesSign_2_1 : Cond.fieldLink RX2 15 (TX2 1).1 (TX2 1).2.1 (TX2 1).2.2.1 ∈ wsX2_takesSign := by decide +kernel
theorem fX2_takesSign_2_3 : Cond.fieldLink RX2 22 (TX2 3).1 (TX2 3).2.1 (TX2 3).2.2.1 ∈ wsX2_takesSign := by decide +kernel
theorem fX2_takesSign_2_2 : Cond.fieldLink RX2 19 (TX2 2).1 (TX2 2).2.1 (TX2 2).2.2.1 ∈ wsX2_takesSign := by decide +kernel
theorem fX2_takesSign_2_0 : Cond.fieldLink RX2 9 (TX2 0).1 (TX2 0).2.1 (TX2 0).2.2.1 ∈ wsX2_takesSign := by decide +kernel
set_option maxHeartbeats 1000000 in
set_option maxRecDepth 100000 in
theorem c_X2_takesSign (l : Launch) (D : va_G) (cI : ClassId) (r0 b0 : Nat) (rw sg lg : Nat) (R : Nat → Nat) (b : Nat) (hk : zrok (rw, sg, lg, R)) (hb : b < 2) : zMw l D cI yX2_takesSign wsX2_takesSign { frames := 0, cells := 0, slots := 0, locals := 0 } [.ref r0, .int (nI b)] [(r0, .inr (2, [.ref b0, .int (nI rw), .int (nI sg), .int (nI lg)])), (b0, .inl (cI, 5, .inl (fun j => nI (R j))))] (fun v9 w9 => v9 = some (.int (zb ((zsgn rw sg lg R b).isSome))) ∧ w9 = [(r0, .inr (2, [.ref b0, .int (nI (((zsgn rw sg lg R b).getD (rw, sg, lg, R)).1)), .int (nI (((zsgn rw sg lg R b).getD (rw, sg, lg, R)).2.1)), .int (nI (((zsgn rw sg lg R b).getD (rw, sg, lg, R)).2.2.1))])), (b0, .inl (cI, 5, .inl (fun j => nI (((zsgn rw sg lg R b).getD (rw, sg, lg, R)).2.2.2 j))))]) 0 0 := by
  refine zw_ent (maxL := 3) (by decide) rfl (Nat.le_of_ble_eq_true rfl) (fun X C E hin9 => ?_)
  have C : zC X l D cI { frames := 0, cells := 0, slots := 0, locals := 0 } 3 true cX2_takesSign RX2 wsX2_takesSign := C
  refine zg_cv (lv' := [(0, .ref r0), (1, .int (nI b))]) rfl rfl rfl ?_
  obtain ⟨k1, k2, k3, k4, k5, k6, k7, k8⟩ := id hk
  refine zg_aload_n C 0 dX2_takesSign_0 rfl ?_
  refine zg_get C 0 (ci := 2) (f := 1) rfl rfl uX2_takesSign_2 (by decide) fX2_takesSign_2_1 dX2_takesSign_1 rfl ?_
  refine zn_if_ne C 12 (by omega) dX2_takesSign_4 (by decide) (fun c_4 => ?_) (fun c_4 => ?_)
  · skip
    refine zg_aload_n C 0 dX2_takesSign_12 rfl ?_
    refine zg_get C 0 (ci := 2) (f := 3) rfl rfl uX2_takesSign_2 (by decide) fX2_takesSign_2_3 dX2_takesSign_13 rfl ?_
    refine zg_istore_n C [1, 2, 0] (lv' := [(0, .ref r0), (1, .int (nI b)), (2, .int (nI lg))]) dX2_takesSign_16 (by decide) rfl ?_
    have hm : zmo rw lg = lg := if_neg (by omega)
    refine zg_aload_n C 0 dX2_takesSign_17 rfl ?_
    refine zg_get C 0 (ci := 2) (f := 2) rfl rfl uX2_takesSign_2 (by decide) fX2_takesSign_2_2 dX2_takesSign_18 rfl ?_
    refine zg_iload_n C 2 dX2_takesSign_21 rfl ?_
    refine zn_icmp_ge C 44 (by omega) (by omega) dX2_takesSign_22 (by decide) (fun c_22 => ?_) (fun c_22 => ?_)
    · skip
      refine zg_iconst (v := nI 0) C dX2_takesSign_44 (by decide) ?_
      exact zg_wzret C ((zsgn rw sg lg R b).isSome) E dX2_takesSign_45 (zbF (by rw [show (zsgn rw sg lg R b) = none from if_neg (by omega)]; rfl)) (⟨rfl, by rw [show (zsgn rw sg lg R b) = none from if_neg (by omega)]; rfl⟩)
    · skip
      refine zg_aload_n C 0 dX2_takesSign_25 rfl ?_
      refine zg_get C 0 (ci := 2) (f := 1) rfl rfl uX2_takesSign_2 (by decide) fX2_takesSign_2_1 dX2_takesSign_26 rfl ?_
      refine zn_if_lt C 44 (by omega) dX2_takesSign_29 (by decide) ?_
      refine zg_aload_n C 0 dX2_takesSign_32 rfl ?_
      refine zg_get C 0 (ci := 2) (f := 1) rfl rfl uX2_takesSign_2 (by decide) fX2_takesSign_2_1 dX2_takesSign_33 rfl ?_
      refine zg_aload_n C 0 dX2_takesSign_36 rfl ?_
      refine zg_get C 0 (ci := 2) (f := 0) rfl rfl uX2_takesSign_2 (by decide) fX2_takesSign_2_0 dX2_takesSign_37 rfl ?_
      refine zg_alen C 1 rfl dX2_takesSign_40 ?_
      refine zn_icmp_lt C 46 (by omega) (by omega) dX2_takesSign_41 (by decide) (fun c_41 => ?_) (fun c_41 => by omega)
      refine zg_aload_n C 0 dX2_takesSign_46 rfl ?_
      refine zg_get C 0 (ci := 2) (f := 0) rfl rfl uX2_takesSign_2 (by decide) fX2_takesSign_2_0 dX2_takesSign_47 rfl ?_
      refine zg_aload_n C 0 dX2_takesSign_50 rfl ?_
      refine zg_get C 0 (ci := 2) (f := 1) rfl rfl uX2_takesSign_2 (by decide) fX2_takesSign_2_1 dX2_takesSign_51 rfl ?_
      refine zg_dup2 C dX2_takesSign_54 rfl rfl ?_
      refine zg_iald C 1 rfl (by omega) (by decide) dX2_takesSign_55 (nI (R rw)) (rfl) ?_
      refine zg_iload_n C 1 dX2_takesSign_56 rfl ?_
      refine zg_aload_n C 0 dX2_takesSign_57 rfl ?_
      refine zg_get C 0 (ci := 2) (f := 2) rfl rfl uX2_takesSign_2 (by decide) fX2_takesSign_2_2 dX2_takesSign_58 rfl ?_
      refine zg_ishl C dX2_takesSign_61 (nI (b * 2 ^ sg)) (zi_bsh hb (by omega)) ?_
      refine zg_ior C dX2_takesSign_62 (nI (R rw + b * 2 ^ sg)) ((zi_or _ _).trans (congrArg nI (zor_add k7))) ?_
      refine zg_iast C 1 (ws' := [(r0, .inr (2, [.ref b0, .int (nI rw), .int (nI sg), .int (nI lg)])), (b0, .inl (cI, 5, .inl (upd (fun j => nI (R j)) rw (nI (R rw + b * 2 ^ sg)))))]) rfl (by omega) (by decide) dX2_takesSign_63 rfl ?_
      refine zg_cell 1 (ws' := [(r0, .inr (2, [.ref b0, .int (nI rw), .int (nI sg), .int (nI lg)])), (b0, .inl (cI, 5, .inl (fun j => nI (zset R rw (R rw + b * 2 ^ sg) j))))]) (fun j => nI (zset R rw (R rw + b * 2 ^ sg) j)) rfl (fun j _ => zset_arr (rc := j + 1) (R := R) (fun _ _ => rfl) j (by omega)) rfl ?_
      refine zg_aload_n C 0 dX2_takesSign_64 rfl ?_
      refine zg_dup C dX2_takesSign_65 rfl ?_
      refine zg_get C 0 (ci := 2) (f := 2) rfl rfl uX2_takesSign_2 (by decide) fX2_takesSign_2_2 dX2_takesSign_66 rfl ?_
      refine zg_iconst (v := nI 1) C dX2_takesSign_69 (by decide) ?_
      refine zg_iadd C dX2_takesSign_70 (nI (sg + 1)) (nI_add _ _) ?_
      refine zg_put C 0 (ci := 2) (f := 2) (ws' := [(r0, .inr (2, [.ref b0, .int (nI rw), .int (nI (sg + 1)), .int (nI lg)])), (b0, .inl (cI, 5, .inl (fun j => nI (zset R rw (R rw + b * 2 ^ sg) j))))]) rfl rfl uX2_takesSign_2 tyX2_ok nmX2 (by decide) fX2_takesSign_2_2 rfl rfl rfl rfl (Nat.le_of_ble_eq_true rfl) dX2_takesSign_71 rfl ?_
      refine zg_iconst (v := nI 1) C dX2_takesSign_74 (by decide) ?_
      exact zg_wzret C ((zsgn rw sg lg R b).isSome) E dX2_takesSign_75 (zbT (by rw [show (zsgn rw sg lg R b) = some (rw, sg + 1, lg, zset R rw (R rw + b * 2 ^ sg)) from if_pos (by omega)]; rfl)) (⟨rfl, by rw [show (zsgn rw sg lg R b) = some (rw, sg + 1, lg, zset R rw (R rw + b * 2 ^ sg)) from if_pos (by omega)]; rfl⟩)
  · skip
    refine zg_bipush (v := nI 10) C dX2_takesSign_7 (by decide) ?_
    refine zg_goto C 16 dX2_takesSign_9 (by decide) ?_
    refine zg_istore_n C [1, 2, 0] (lv' := [(0, .ref r0), (1, .int (nI b)), (2, .int (nI 10))]) dX2_takesSign_16 (by decide) rfl ?_
    have hm : zmo rw lg = 10 := if_pos c_4
    refine zg_aload_n C 0 dX2_takesSign_17 rfl ?_
    refine zg_get C 0 (ci := 2) (f := 2) rfl rfl uX2_takesSign_2 (by decide) fX2_takesSign_2_2 dX2_takesSign_18 rfl ?_
    refine zg_iload_n C 2 dX2_takesSign_21 rfl ?_
    refine zn_icmp_ge C 44 (by omega) (by omega) dX2_takesSign_22 (by decide) (fun c_22 => ?_) (fun c_22 => ?_)
    · skip
      refine zg_iconst (v := nI 0) C dX2_takesSign_44 (by decide) ?_
      exact zg_wzret C ((zsgn rw sg lg R b).isSome) E dX2_takesSign_45 (zbF (by rw [show (zsgn rw sg lg R b) = none from if_neg (by omega)]; rfl)) (⟨rfl, by rw [show (zsgn rw sg lg R b) = none from if_neg (by omega)]; rfl⟩)
    · skip
      refine zg_aload_n C 0 dX2_takesSign_25 rfl ?_
      refine zg_get C 0 (ci := 2) (f := 1) rfl rfl uX2_takesSign_2 (by decide) fX2_takesSign_2_1 dX2_takesSign_26 rfl ?_
      refine zn_if_lt C 44 (by omega) dX2_takesSign_29 (by decide) ?_
      refine zg_aload_n C 0 dX2_takesSign_32 rfl ?_
      refine zg_get C 0 (ci := 2) (f := 1) rfl rfl uX2_takesSign_2 (by decide) fX2_takesSign_2_1 dX2_takesSign_33 rfl ?_
      refine zg_aload_n C 0 dX2_takesSign_36 rfl ?_
      refine zg_get C 0 (ci := 2) (f := 0) rfl rfl uX2_takesSign_2 (by decide) fX2_takesSign_2_0 dX2_takesSign_37 rfl ?_
      refine zg_alen C 1 rfl dX2_takesSign_40 ?_
      refine zn_icmp_lt C 46 (by omega) (by omega) dX2_takesSign_41 (by decide) (fun c_41 => ?_) (fun c_41 => by omega)
      refine zg_aload_n C 0 dX2_takesSign_46 rfl ?_
      refine zg_get C 0 (ci := 2) (f := 0) rfl rfl uX2_takesSign_2 (by decide) fX2_takesSign_2_0 dX2_takesSign_47 rfl ?_
      refine zg_aload_n C 0 dX2_takesSign_50 rfl ?_
      refine zg_get C 0 (ci := 2) (f := 1) rfl rfl uX2_takesSign_2 (by decide) fX2_takesSign_2_1 dX2_takesSign_51 rfl ?_
      refine zg_dup2 C dX2_takesSign_54 rfl rfl ?_
      refine zg_iald C 1 rfl (by omega) (by decide) dX2_takesSign_55 (nI (R rw)) (rfl) ?_
      refine zg_iload_n C 1 dX2_takesSign_56 rfl ?_
      refine zg_aload_n C 0 dX2_takesSign_57 rfl ?_
      refine zg_get C 0 (ci := 2) (f := 2) rfl rfl uX2_takesSign_2 (by decide) fX2_takesSign_2_2 dX2_takesSign_58 rfl ?_
      refine zg_ishl C dX2_takesSign_61 (nI (b * 2 ^ sg)) (zi_bsh hb (by omega)) ?_
      refine zg_ior C dX2_takesSign_62 (nI (R rw + b * 2 ^ sg)) ((zi_or _ _).trans (congrArg nI (zor_add k7))) ?_
      refine zg_iast C 1 (ws' := [(r0, .inr (2, [.ref b0, .int (nI rw), .int (nI sg), .int (nI lg)])), (b0, .inl (cI, 5, .inl (upd (fun j => nI (R j)) rw (nI (R rw + b * 2 ^ sg)))))]) rfl (by omega) (by decide) dX2_takesSign_63 rfl ?_
      refine zg_cell 1 (ws' := [(r0, .inr (2, [.ref b0, .int (nI rw), .int (nI sg), .int (nI lg)])), (b0, .inl (cI, 5, .inl (fun j => nI (zset R rw (R rw + b * 2 ^ sg) j))))]) (fun j => nI (zset R rw (R rw + b * 2 ^ sg) j)) rfl (fun j _ => zset_arr (rc := j + 1) (R := R) (fun _ _ => rfl) j (by omega)) rfl ?_
      refine zg_aload_n C 0 dX2_takesSign_64 rfl ?_
      refine zg_dup C dX2_takesSign_65 rfl ?_
      refine zg_get C 0 (ci := 2) (f := 2) rfl rfl uX2_takesSign_2 (by decide) fX2_takesSign_2_2 dX2_takesSign_66 rfl ?_
      refine zg_iconst (v := nI 1) C dX2_takesSign_69 (by decide) ?_
      refine zg_iadd C dX2_takesSign_70 (nI (sg + 1)) (nI_add _ _) ?_
      refine zg_put C 0 (ci := 2) (f := 2) (ws' := [(r0, .inr (2, [.ref b0, .int (nI rw), .int (nI (sg + 1)), .int (nI lg)])), (b0, .inl (cI, 5, .inl (fun j => nI (zset R rw (R rw + b * 2 ^ sg) j))))]) rfl rfl uX2_takesSign_2 tyX2_ok nmX2 (by decide) fX2_takesSign_2_2 rfl rfl rfl rfl (Nat.le_of_ble_eq_true rfl) dX2_takesSign_71 rfl ?_
      refine zg_iconst (v := nI 1) C dX2_takesSign_74 (by decide) ?_
      exact zg_wzret C ((zsgn rw sg lg R b).isSome) E dX2_takesSign_75 (zbT (by rw [show (zsgn rw sg lg R b) = some (rw, sg + 1, lg, zset R rw (R rw + b * 2 ^ sg)) from if_pos (by omega)]; rfl)) (⟨rfl, by rw [show (zsgn rw sg lg R b) = some (rw, sg + 1, lg, zset R rw (R rw + b * 2 ^ sg)) from if_pos (by omega)]; rfl⟩)
theorem ztab (x : Int32) : x.toInt = 47 ∨ x.toInt = 48 ∨ x.toInt = 49 ∨ (x.toInt < 47 ∨ 49 < x.toInt) := by omega
theorem zst_47 {rw sg lg : Nat} {R : Nat → Nat} {x : Int32} (h : x.toInt = 47) : zstep (rw, sg, lg, R) x = zeor rw sg lg R := if_pos h
theorem zst_48 {rw sg lg : Nat} {R : Nat → Nat} {x : Int32} (h : x.toInt = 48) : zstep (rw, sg, lg, R) x = zsgn rw sg lg R 0 := (if_neg (by omega)).trans (if_pos h)
theorem zst_49 {rw sg lg : Nat} {R : Nat → Nat} {x : Int32} (h : x.toInt = 49) : zstep (rw, sg, lg, R) x = zsgn rw sg lg R 1 := (if_neg (by omega)).trans ((if_neg (by omega)).trans (if_pos h))
theorem zst_no {rw sg lg : Nat} {R : Nat → Nat} {x : Int32} (h : x.toInt < 47 ∨ 49 < x.toInt) : zstep (rw, sg, lg, R) x = none := (if_neg (by omega)).trans ((if_neg (by omega)).trans (if_neg (by omega)))
set_option maxHeartbeats 1000000 in
set_option maxRecDepth 100000 in
theorem c_X2_takes (l : Launch) (D : va_G) (cI : ClassId) (r0 b0 : Nat) (rw sg lg : Nat) (R : Nat → Nat) (x : Int32) (hk : zrok (rw, sg, lg, R)) : zMw l D cI yX2_takes wsX2_takes { frames := 2, cells := 0, slots := 0, locals := 40 } [.ref r0, .int x] [(r0, .inr (2, [.ref b0, .int (nI rw), .int (nI sg), .int (nI lg)])), (b0, .inl (cI, 5, .inl (fun j => nI (R j))))] (fun v9 w9 => v9 = some (.int (zb ((zstep (rw, sg, lg, R) x).isSome))) ∧ w9 = [(r0, .inr (2, [.ref b0, .int (nI (((zstep (rw, sg, lg, R) x).getD (rw, sg, lg, R)).1)), .int (nI (((zstep (rw, sg, lg, R) x).getD (rw, sg, lg, R)).2.1)), .int (nI (((zstep (rw, sg, lg, R) x).getD (rw, sg, lg, R)).2.2.1))])), (b0, .inl (cI, 5, .inl (fun j => nI (((zstep (rw, sg, lg, R) x).getD (rw, sg, lg, R)).2.2.2 j))))]) 0 0 := by
  refine zw_ent (maxL := 2) (by decide) rfl (Nat.le_of_ble_eq_true rfl) (fun X C E hin9 => ?_)
  have C : zC X l D cI { frames := 2, cells := 0, slots := 0, locals := 40 } 2 true cX2_takes RX2 wsX2_takes := C
  refine zg_cv (lv' := [(0, .ref r0), (1, .int x)]) rfl rfl rfl ?_
  refine zg_iload_n C 1 dX2_takes_0 rfl ?_
  rcases ztab x with h | h | h | h
  · skip
    refine zg_tabIn (off := 27) C 28 dX2_takes_1 (by rw [h]; decide) (by rw [h]; decide) (by rw [h]; rfl) (by decide) ?_
    refine zg_aload_n C 0 dX2_takes_28 rfl ?_
    refine zg_callw (As := []) (st := []) (wo := []) C [0, 1] [] 0 0 (c_X2_takesEndOfRow l D cI r0 b0 rw sg lg R hk) gX2_takes_X2_takesEndOfRow (by decide +kernel) rfl ⟨rfl, rfl⟩ ⟨Nat.le_of_ble_eq_true rfl, Nat.le_of_ble_eq_true rfl⟩ rfl rfl rfl rfl (by decide) (ci := 2) rfl rfl rfl rfl (Nat.le_of_ble_eq_true rfl) ⟨Nat.le_of_ble_eq_true rfl, Nat.le_of_ble_eq_true rfl⟩ dX2_takes_29 (fun v9 w9 hw9 => ?_)
    obtain ⟨rfl, rfl⟩ := hw9
    refine zg_cv (k' := 0) (n' := 0) (st' := [.int (zb ((zeor rw sg lg R).isSome))]) (ws' := [(r0, .inr (2, [.ref b0, .int (nI (((zeor rw sg lg R).getD (rw, sg, lg, R)).1)), .int (nI (((zeor rw sg lg R).getD (rw, sg, lg, R)).2.1)), .int (nI (((zeor rw sg lg R).getD (rw, sg, lg, R)).2.2.1))])), (b0, .inl (cI, 5, .inl (fun j => nI (((zeor rw sg lg R).getD (rw, sg, lg, R)).2.2.2 j))))]) rfl rfl rfl ?_
    exact zg_wzret C ((zstep (rw, sg, lg, R) x).isSome) E dX2_takes_32 (by rw [zst_47 h]) (⟨rfl, by rw [zst_47 h]⟩)
  · skip
    refine zg_tabIn (off := 32) C 33 dX2_takes_1 (by rw [h]; decide) (by rw [h]; decide) (by rw [h]; rfl) (by decide) ?_
    refine zg_aload_n C 0 dX2_takes_33 rfl ?_
    refine zg_iconst (v := nI 0) C dX2_takes_34 (by decide) ?_
    refine zg_callw (As := [.int (nI 0)]) (st := []) (wo := []) C [0, 1] [] 0 1 (c_X2_takesSign l D cI r0 b0 rw sg lg R 0 hk (by omega)) gX2_takes_X2_takesSign (by decide +kernel) rfl ⟨rfl, rfl⟩ ⟨Nat.le_of_ble_eq_true rfl, Nat.le_of_ble_eq_true rfl⟩ rfl rfl rfl rfl (by decide) (ci := 2) rfl rfl rfl rfl (Nat.le_of_ble_eq_true rfl) ⟨Nat.le_of_ble_eq_true rfl, Nat.le_of_ble_eq_true rfl⟩ dX2_takes_35 (fun v9 w9 hw9 => ?_)
    obtain ⟨rfl, rfl⟩ := hw9
    refine zg_cv (k' := 0) (n' := 0) (st' := [.int (zb ((zsgn rw sg lg R 0).isSome))]) (ws' := [(r0, .inr (2, [.ref b0, .int (nI (((zsgn rw sg lg R 0).getD (rw, sg, lg, R)).1)), .int (nI (((zsgn rw sg lg R 0).getD (rw, sg, lg, R)).2.1)), .int (nI (((zsgn rw sg lg R 0).getD (rw, sg, lg, R)).2.2.1))])), (b0, .inl (cI, 5, .inl (fun j => nI (((zsgn rw sg lg R 0).getD (rw, sg, lg, R)).2.2.2 j))))]) rfl rfl rfl ?_
    exact zg_wzret C ((zstep (rw, sg, lg, R) x).isSome) E dX2_takes_38 (by rw [zst_48 h]) (⟨rfl, by rw [zst_48 h]⟩)
  · skip
    refine zg_tabIn (off := 38) C 39 dX2_takes_1 (by rw [h]; decide) (by rw [h]; decide) (by rw [h]; rfl) (by decide) ?_
    refine zg_aload_n C 0 dX2_takes_39 rfl ?_
    refine zg_iconst (v := nI 1) C dX2_takes_40 (by decide) ?_
    refine zg_callw (As := [.int (nI 1)]) (st := []) (wo := []) C [0, 1] [] 0 1 (c_X2_takesSign l D cI r0 b0 rw sg lg R 1 hk (by omega)) gX2_takes_X2_takesSign (by decide +kernel) rfl ⟨rfl, rfl⟩ ⟨Nat.le_of_ble_eq_true rfl, Nat.le_of_ble_eq_true rfl⟩ rfl rfl rfl rfl (by decide) (ci := 2) rfl rfl rfl rfl (Nat.le_of_ble_eq_true rfl) ⟨Nat.le_of_ble_eq_true rfl, Nat.le_of_ble_eq_true rfl⟩ dX2_takes_41 (fun v9 w9 hw9 => ?_)
    obtain ⟨rfl, rfl⟩ := hw9
    refine zg_cv (k' := 0) (n' := 0) (st' := [.int (zb ((zsgn rw sg lg R 1).isSome))]) (ws' := [(r0, .inr (2, [.ref b0, .int (nI (((zsgn rw sg lg R 1).getD (rw, sg, lg, R)).1)), .int (nI (((zsgn rw sg lg R 1).getD (rw, sg, lg, R)).2.1)), .int (nI (((zsgn rw sg lg R 1).getD (rw, sg, lg, R)).2.2.1))])), (b0, .inl (cI, 5, .inl (fun j => nI (((zsgn rw sg lg R 1).getD (rw, sg, lg, R)).2.2.2 j))))]) rfl rfl rfl ?_
    exact zg_wzret C ((zstep (rw, sg, lg, R) x).isSome) E dX2_takes_44 (by rw [zst_49 h]) (⟨rfl, by rw [zst_49 h]⟩)
  · skip
    refine zg_tabOut C 45 dX2_takes_1 (h) (by decide) ?_
    refine zg_iconst (v := nI 0) C dX2_takes_45 (by decide) ?_
    exact zg_wzret C ((zstep (rw, sg, lg, R) x).isSome) E dX2_takes_46 (zbF (by rw [show (zstep (rw, sg, lg, R) x) = none from zst_no h]; rfl)) (⟨rfl, by rw [show (zstep (rw, sg, lg, R) x) = none from zst_no h]; rfl⟩)
set_option maxHeartbeats 1000000 in
set_option maxRecDepth 100000 in
theorem c_X2_readAsFarAsItGoes (l : Launch) (D : va_G) (cI : ClassId) (r0 b0 : Nat) (x1 x2 x3 : Int32) (Qf : Nat → Int32) (p0 g0 : Nat) (pg : Nat → Int32) (pn : Nat) (hpn : pn ≤ 56) : zMw l D cI yX2_readAsFarAsItGoes wsX2_readAsFarAsItGoes { frames := 3, cells := 0, slots := 0, locals := 61 } [.ref r0, .ref p0] [(r0, .inr (2, [.ref b0, .int x1, .int x2, .int x3])), (b0, .inl (cI, 5, .inl Qf)), (p0, .inr (1, [.ref g0, .int (nI pn)])), (g0, .inl (cI, 56, .inl pg))] (fun v9 w9 => v9 = some (.int (nI ((zfa pg pn 0 zr0).1))) ∧ w9 = [(r0, .inr (2, [.ref b0, .int (nI ((zfa pg pn 0 zr0).2.1)), .int (nI ((zfa pg pn 0 zr0).2.2.1)), .int (nI ((zfa pg pn 0 zr0).2.2.2.1))])), (b0, .inl (cI, 5, .inl (fun j => nI ((zfa pg pn 0 zr0).2.2.2.2 j)))), (p0, .inr (1, [.ref g0, .int (nI pn)])), (g0, .inl (cI, 56, .inl pg))]) 0 0 := by
  refine zw_ent (maxL := 3) (by decide) rfl (Nat.le_of_ble_eq_true rfl) (fun X C E hin9 => ?_)
  have C : zC X l D cI { frames := 3, cells := 0, slots := 0, locals := 61 } 3 true cX2_readAsFarAsItGoes RX2 wsX2_readAsFarAsItGoes := C
  refine zg_cv (lv' := [(0, .ref r0), (1, .ref p0)]) rfl rfl rfl ?_
  refine zg_aload_n C 0 dX2_readAsFarAsItGoes_0 rfl ?_
  refine zg_callw (As := []) (st := []) (wo := [(p0, .inr (1, [.ref g0, .int (nI pn)])), (g0, .inl (cI, 56, .inl pg))]) C [0, 1] [2, 3] 0 0 (c_X2_start l D cI r0 b0 x1 x2 x3 Qf ) gX2_readAsFarAsItGoes_X2_start (by decide +kernel) rfl ⟨rfl, rfl⟩ ⟨Nat.le_of_ble_eq_true rfl, Nat.le_of_ble_eq_true rfl⟩ rfl rfl rfl rfl (by decide) (ci := 2) rfl rfl rfl rfl (Nat.le_of_ble_eq_true rfl) ⟨Nat.le_of_ble_eq_true rfl, Nat.le_of_ble_eq_true rfl⟩ dX2_readAsFarAsItGoes_1 (fun v9 w9 hw9 => ?_)
  obtain ⟨rfl, rfl⟩ := hw9
  refine zg_cv (k' := 0) (n' := 0) (st' := []) (ws' := [(p0, .inr (1, [.ref g0, .int (nI pn)])), (g0, .inl (cI, 56, .inl pg)), (r0, .inr (2, [.ref b0, .int (nI 0), .int (nI 0), .int (nI 0)])), (b0, .inl (cI, 5, .inl (fun _ => nI 0)))]) rfl rfl rfl ?_
  refine zg_perm [2, 3, 0, 1] (ws' := [(r0, .inr (2, [.ref b0, .int (nI 0), .int (nI 0), .int (nI 0)])), (b0, .inl (cI, 5, .inl (fun _ => nI 0))), (p0, .inr (1, [.ref g0, .int (nI pn)])), (g0, .inl (cI, 56, .inl pg))]) rfl rfl ?_
  refine zg_iconst (v := nI 0) C dX2_readAsFarAsItGoes_4 (by decide) ?_
  refine zg_istore_n C [1, 2, 0] (lv' := [(0, .ref r0), (1, .ref p0), (2, .int (nI 0))]) dX2_readAsFarAsItGoes_5 (by decide) rfl ?_
  have L_6 : ∀ i, i ≤ pn → ∀ (rw sg lg : Nat) (R : Nat → Nat), zrok (rw, sg, lg, R) → zfa pg (pn - i) i (rw, sg, lg, R) = zfa pg pn 0 zr0 → zG X 0 0 [(0, .ref r0), (1, .ref p0), (2, .int (nI i))] [] [(r0, .inr (2, [.ref b0, .int (nI rw), .int (nI sg), .int (nI lg)])), (b0, .inl (cI, 5, .inl (fun j => nI (R j)))), (p0, .inr (1, [.ref g0, .int (nI pn)])), (g0, .inl (cI, 56, .inl pg))] 6 := by
    refine zg_dn (fun i hi ih_6 rw sg lg R hk hz => ?_)
    refine zg_iload_n C 2 dX2_readAsFarAsItGoes_6 rfl ?_
    refine zg_aload_n C 1 dX2_readAsFarAsItGoes_7 rfl ?_
    refine zg_callr (As := []) (st := [.int (nI i)]) C [2, 3] 2 0 (c_X1_size l D cI p0 g0 pg pn ) gX2_readAsFarAsItGoes_X1_size (by decide +kernel) rfl ⟨rfl, rfl⟩ ⟨Nat.le_of_ble_eq_true rfl, Nat.le_of_ble_eq_true rfl⟩ rfl (ci := 1) rfl rfl rfl rfl (Nat.le_of_ble_eq_true rfl) ⟨Nat.le_of_ble_eq_true rfl, Nat.le_of_ble_eq_true rfl⟩ dX2_readAsFarAsItGoes_8 ?_
    refine zn_icmp_ge C 34 (by omega) (by omega) dX2_readAsFarAsItGoes_11 (by decide) (fun c_11 => ?_) (fun c_11 => ?_)
    · skip
      refine zg_aload_n C 1 dX2_readAsFarAsItGoes_34 rfl ?_
      refine zg_callr (As := []) (st := []) C [2, 3] 2 0 (c_X1_size l D cI p0 g0 pg pn ) gX2_readAsFarAsItGoes_X1_size (by decide +kernel) rfl ⟨rfl, rfl⟩ ⟨Nat.le_of_ble_eq_true rfl, Nat.le_of_ble_eq_true rfl⟩ rfl (ci := 1) rfl rfl rfl rfl (Nat.le_of_ble_eq_true rfl) ⟨Nat.le_of_ble_eq_true rfl, Nat.le_of_ble_eq_true rfl⟩ dX2_readAsFarAsItGoes_35 ?_
      exact zg_wiret C E dX2_readAsFarAsItGoes_38 (⟨by rw [← hz, zfa_end (by omega), show i = pn by omega], by rw [← hz, zfa_end (by omega)]⟩)
    · skip
      refine zg_aload_n C 0 dX2_readAsFarAsItGoes_14 rfl ?_
      refine zg_aload_n C 1 dX2_readAsFarAsItGoes_15 rfl ?_
      refine zg_iload_n C 2 dX2_readAsFarAsItGoes_16 rfl ?_
      refine zg_callr (As := [.int (nI i)]) (st := [.ref r0]) C [2, 3] 2 1 (c_X1_letterAt l D cI p0 g0 pg pn i (by omega)) gX2_readAsFarAsItGoes_X1_letterAt (by decide +kernel) rfl ⟨rfl, rfl⟩ ⟨Nat.le_of_ble_eq_true rfl, Nat.le_of_ble_eq_true rfl⟩ rfl (ci := 1) rfl rfl rfl rfl (Nat.le_of_ble_eq_true rfl) ⟨Nat.le_of_ble_eq_true rfl, Nat.le_of_ble_eq_true rfl⟩ dX2_readAsFarAsItGoes_17 ?_
      refine zg_callw (As := [.int (pg i)]) (st := []) (wo := [(p0, .inr (1, [.ref g0, .int (nI pn)])), (g0, .inl (cI, 56, .inl pg))]) C [0, 1] [2, 3] 0 1 (c_X2_takes l D cI r0 b0 rw sg lg R (pg i) (by omega)) gX2_readAsFarAsItGoes_X2_takes (by decide +kernel) rfl ⟨rfl, rfl⟩ ⟨Nat.le_of_ble_eq_true rfl, Nat.le_of_ble_eq_true rfl⟩ rfl rfl rfl rfl (by decide) (ci := 2) rfl rfl rfl rfl (Nat.le_of_ble_eq_true rfl) ⟨Nat.le_of_ble_eq_true rfl, Nat.le_of_ble_eq_true rfl⟩ dX2_readAsFarAsItGoes_20 (fun v9 w9 hw9 => ?_)
      obtain ⟨rfl, rfl⟩ := hw9
      refine zg_cv (k' := 0) (n' := 0) (st' := [.int (zb ((zstep (rw, sg, lg, R) (pg i)).isSome))]) (ws' := [(p0, .inr (1, [.ref g0, .int (nI pn)])), (g0, .inl (cI, 56, .inl pg)), (r0, .inr (2, [.ref b0, .int (nI (((zstep (rw, sg, lg, R) (pg i)).getD (rw, sg, lg, R)).1)), .int (nI (((zstep (rw, sg, lg, R) (pg i)).getD (rw, sg, lg, R)).2.1)), .int (nI (((zstep (rw, sg, lg, R) (pg i)).getD (rw, sg, lg, R)).2.2.1))])), (b0, .inl (cI, 5, .inl (fun j => nI (((zstep (rw, sg, lg, R) (pg i)).getD (rw, sg, lg, R)).2.2.2 j))))]) rfl rfl rfl ?_
      refine zg_perm [2, 3, 0, 1] (ws' := [(r0, .inr (2, [.ref b0, .int (nI (((zstep (rw, sg, lg, R) (pg i)).getD (rw, sg, lg, R)).1)), .int (nI (((zstep (rw, sg, lg, R) (pg i)).getD (rw, sg, lg, R)).2.1)), .int (nI (((zstep (rw, sg, lg, R) (pg i)).getD (rw, sg, lg, R)).2.2.1))])), (b0, .inl (cI, 5, .inl (fun j => nI (((zstep (rw, sg, lg, R) (pg i)).getD (rw, sg, lg, R)).2.2.2 j)))), (p0, .inr (1, [.ref g0, .int (nI pn)])), (g0, .inl (cI, 56, .inl pg))]) rfl rfl ?_
      refine zb_if_ne C 28 dX2_readAsFarAsItGoes_23 (by decide) (fun c_23 => ?_) (fun c_23 => ?_)
      · skip
        obtain ⟨⟨u1, u2, u3, u4⟩, hs⟩ := Option.isSome_iff_exists.mp c_23
        refine zg_cell 1 (ws' := [(r0, .inr (2, [.ref b0, .int (nI (((zstep (rw, sg, lg, R) (pg i)).getD (rw, sg, lg, R)).1)), .int (nI (((zstep (rw, sg, lg, R) (pg i)).getD (rw, sg, lg, R)).2.1)), .int (nI (((zstep (rw, sg, lg, R) (pg i)).getD (rw, sg, lg, R)).2.2.1))])), (b0, .inl (cI, 5, .inl (fun j => nI (u4 j)))), (p0, .inr (1, [.ref g0, .int (nI pn)])), (g0, .inl (cI, 56, .inl pg))]) (fun j => nI (u4 j)) rfl (fun j _ => by rw [show (zstep (rw, sg, lg, R) (pg i)).getD (rw, sg, lg, R) = (u1, u2, u3, u4) from (by rw [hs]; rfl)]) rfl ?_
        refine zg_cv (ws' := [(r0, .inr (2, [.ref b0, .int (nI u1), .int (nI (((zstep (rw, sg, lg, R) (pg i)).getD (rw, sg, lg, R)).2.1)), .int (nI (((zstep (rw, sg, lg, R) (pg i)).getD (rw, sg, lg, R)).2.2.1))])), (b0, .inl (cI, 5, .inl (fun j => nI (u4 j)))), (p0, .inr (1, [.ref g0, .int (nI pn)])), (g0, .inl (cI, 56, .inl pg))]) rfl rfl (by rw [show ((zstep (rw, sg, lg, R) (pg i)).getD (rw, sg, lg, R)).1 = u1 from (by rw [hs]; rfl)]) ?_
        refine zg_cv (ws' := [(r0, .inr (2, [.ref b0, .int (nI u1), .int (nI u2), .int (nI (((zstep (rw, sg, lg, R) (pg i)).getD (rw, sg, lg, R)).2.2.1))])), (b0, .inl (cI, 5, .inl (fun j => nI (u4 j)))), (p0, .inr (1, [.ref g0, .int (nI pn)])), (g0, .inl (cI, 56, .inl pg))]) rfl rfl (by rw [show ((zstep (rw, sg, lg, R) (pg i)).getD (rw, sg, lg, R)).2.1 = u2 from (by rw [hs]; rfl)]) ?_
        refine zg_cv (ws' := [(r0, .inr (2, [.ref b0, .int (nI u1), .int (nI u2), .int (nI u3)])), (b0, .inl (cI, 5, .inl (fun j => nI (u4 j)))), (p0, .inr (1, [.ref g0, .int (nI pn)])), (g0, .inl (cI, 56, .inl pg))]) rfl rfl (by rw [show ((zstep (rw, sg, lg, R) (pg i)).getD (rw, sg, lg, R)).2.2.1 = u3 from (by rw [hs]; rfl)]) ?_
        refine zg_iinc C 2 [1, 2, 0] (lv' := [(0, .ref r0), (1, .ref p0), (2, .int (nI (i + 1)))]) (nI (i + 1)) dX2_readAsFarAsItGoes_28 rfl (zi_inc _) (by decide) rfl ?_
        refine zg_goto C 6 dX2_readAsFarAsItGoes_31 (by decide) ?_
        exact zg_cv (lv' := [(0, .ref r0), (1, .ref p0), (2, .int (nI (i + 1)))]) (rfl) rfl (rfl) (ih_6 (by omega) u1 u2 u3 u4 (zrok_step hk hs) ((zfa_yes (by omega) hs).symm.trans hz))
      · skip
        refine zg_iload_n C 2 dX2_readAsFarAsItGoes_26 rfl ?_
        exact zg_wiret C E dX2_readAsFarAsItGoes_27 (⟨by rw [← hz, zfa_no (by omega) (Option.not_isSome_iff_eq_none.mp (by rw [c_23]; decide))], by rw [← hz, zfa_no (by omega) (Option.not_isSome_iff_eq_none.mp (by rw [c_23]; decide)), Option.not_isSome_iff_eq_none.mp (show ¬ (zstep (rw, sg, lg, R) (pg i)).isSome = true from by rw [c_23]; decide)]; rfl⟩)
  exact zg_cv (lv' := [(0, .ref r0), (1, .ref p0), (2, .int (nI 0))]) (rfl) rfl (rfl) (L_6 0 (by omega) 0 0 0 (fun _ => 0) (zrok_0) (rfl))
theorem uX4_sumsRead_4 : ∀ w ∈ u_ws RX4 TX4 4, w ∈ wsX4_sumsRead := fun w h => List.mem_cons_of_mem _ (List.mem_append_right _ h)
theorem fX4_sumsRead_4_3 : Cond.fieldLink RX4 22 (TX4 3).1 (TX4 3).2.1 (TX4 3).2.2.1 ∈ wsX4_sumsRead := by decide +kernel
set_option maxHeartbeats 1000000 in
set_option maxRecDepth 100000 in
theorem c_X4_sumsRead (l : Launch) (D : va_G) (cI : ClassId) (t0 v0 : Nat) (V : Nat → Int32) (bs bp sr : Int32) : zMw l D cI yX4_sumsRead wsX4_sumsRead { frames := 0, cells := 0, slots := 0, locals := 0 } [.ref t0] [(t0, .inr (4, [.ref v0, .int bs, .int bp, .int sr])), (v0, .inl (cI, 4, .inl V))] (fun v9 w9 => v9 = none ∧ w9 = [(t0, .inr (4, [.ref v0, .int bs, .int bp, .int (sr + nI 1)])), (v0, .inl (cI, 4, .inl V))]) 0 0 := by
  refine zw_ent (maxL := 1) (by decide) rfl (Nat.le_of_ble_eq_true rfl) (fun X C E hin9 => ?_)
  have C : zC X l D cI { frames := 0, cells := 0, slots := 0, locals := 0 } 1 true cX4_sumsRead RX4 wsX4_sumsRead := C
  refine zg_cv (lv' := [(0, .ref t0)]) rfl rfl rfl ?_
  refine zg_aload_n C 0 dX4_sumsRead_0 rfl ?_
  refine zg_dup C dX4_sumsRead_1 rfl ?_
  refine zg_get C 0 (ci := 4) (f := 3) rfl rfl uX4_sumsRead_4 (by decide) fX4_sumsRead_4_3 dX4_sumsRead_2 rfl ?_
  refine zg_iconst (v := nI 1) C dX4_sumsRead_5 (by decide) ?_
  refine zg_iadd C dX4_sumsRead_6 (sr + (nI 1)) (rfl) ?_
  refine zg_put C 0 (ci := 4) (f := 3) (ws' := [(t0, .inr (4, [.ref v0, .int bs, .int bp, .int (sr + (nI 1))])), (v0, .inl (cI, 4, .inl V))]) rfl rfl uX4_sumsRead_4 tyX4_ok nmX4 (by decide) fX4_sumsRead_4_3 rfl rfl rfl rfl (Nat.le_of_ble_eq_true rfl) dX4_sumsRead_7 rfl ?_
  exact zg_wvret C E dX4_sumsRead_10 (⟨rfl, rfl⟩)
theorem uX4_sentPlain_4 : ∀ w ∈ u_ws RX4 TX4 4, w ∈ wsX4_sentPlain := fun w h => List.mem_cons_of_mem _ (List.mem_append_right _ h)
theorem fX4_sentPlain_4_0 : Cond.fieldLink RX4 9 (TX4 0).1 (TX4 0).2.1 (TX4 0).2.2.1 ∈ wsX4_sentPlain := by decide +kernel
theorem fX4_sentPlain_4_1 : Cond.fieldLink RX4 15 (TX4 1).1 (TX4 1).2.1 (TX4 1).2.2.1 ∈ wsX4_sentPlain := by decide +kernel
theorem fX4_sentPlain_4_2 : Cond.fieldLink RX4 19 (TX4 2).1 (TX4 2).2.1 (TX4 2).2.2.1 ∈ wsX4_sentPlain := by decide +kernel
set_option maxHeartbeats 1000000 in
set_option maxRecDepth 100000 in
theorem c_X4_sentPlain (l : Launch) (D : va_G) (cI : ClassId) (t0 v0 : Nat) (V : Nat → Int32) (bs bp sr : Int32) (u ln rk : Nat) (hu : u < 4) : zMw l D cI yX4_sentPlain wsX4_sentPlain { frames := 0, cells := 0, slots := 0, locals := 0 } [.ref t0, .int (nI u), .int (nI ln), .int (nI rk)] [(t0, .inr (4, [.ref v0, .int bs, .int bp, .int sr])), (v0, .inl (cI, 4, .inl V))] (fun v9 w9 => v9 = none ∧ w9 = [(t0, .inr (4, [.ref v0, .int (bs + nI (ln + rk)), .int (bp + nI (2 * ln)), .int sr])), (v0, .inl (cI, 4, .inl (upd V u (V u + nI 1))))]) 0 0 := by
  refine zw_ent (maxL := 4) (by decide) rfl (Nat.le_of_ble_eq_true rfl) (fun X C E hin9 => ?_)
  have C : zC X l D cI { frames := 0, cells := 0, slots := 0, locals := 0 } 4 true cX4_sentPlain RX4 wsX4_sentPlain := C
  refine zg_cv (lv' := [(0, .ref t0), (1, .int (nI u)), (2, .int (nI ln)), (3, .int (nI rk))]) rfl rfl rfl ?_
  refine zg_iload_n C 1 dX4_sentPlain_0 rfl ?_
  refine zn_if_lt C 23 (by omega) dX4_sentPlain_1 (by decide) ?_
  refine zg_iload_n C 1 dX4_sentPlain_4 rfl ?_
  refine zg_aload_n C 0 dX4_sentPlain_5 rfl ?_
  refine zg_get C 0 (ci := 4) (f := 0) rfl rfl uX4_sentPlain_4 (by decide) fX4_sentPlain_4_0 dX4_sentPlain_6 rfl ?_
  refine zg_alen C 1 rfl dX4_sentPlain_9 ?_
  refine zn_icmp_ge C 23 (by omega) (by omega) dX4_sentPlain_10 (by decide) (fun c_10 => by omega) (fun c_10 => ?_)
  refine zg_aload_n C 0 dX4_sentPlain_13 rfl ?_
  refine zg_get C 0 (ci := 4) (f := 0) rfl rfl uX4_sentPlain_4 (by decide) fX4_sentPlain_4_0 dX4_sentPlain_14 rfl ?_
  refine zg_iload_n C 1 dX4_sentPlain_17 rfl ?_
  refine zg_dup2 C dX4_sentPlain_18 rfl rfl ?_
  refine zg_iald C 1 rfl (by omega) (by decide) dX4_sentPlain_19 (V u) (rfl) ?_
  refine zg_iconst (v := nI 1) C dX4_sentPlain_20 (by decide) ?_
  refine zg_iadd C dX4_sentPlain_21 ((V u) + (nI 1)) (rfl) ?_
  refine zg_iast C 1 (ws' := [(t0, .inr (4, [.ref v0, .int bs, .int bp, .int sr])), (v0, .inl (cI, 4, .inl (upd V u ((V u) + (nI 1)))))]) rfl (by omega) (by decide) dX4_sentPlain_22 rfl ?_
  refine zg_aload_n C 0 dX4_sentPlain_23 rfl ?_
  refine zg_dup C dX4_sentPlain_24 rfl ?_
  refine zg_get C 0 (ci := 4) (f := 1) rfl rfl uX4_sentPlain_4 (by decide) fX4_sentPlain_4_1 dX4_sentPlain_25 rfl ?_
  refine zg_iload_n C 2 dX4_sentPlain_28 rfl ?_
  refine zg_iload_n C 3 dX4_sentPlain_29 rfl ?_
  refine zg_iadd C dX4_sentPlain_30 (nI (ln + rk)) (nI_add _ _) ?_
  refine zg_iadd C dX4_sentPlain_31 (bs + (nI (ln + rk))) (rfl) ?_
  refine zg_put C 0 (ci := 4) (f := 1) (ws' := [(t0, .inr (4, [.ref v0, .int (bs + (nI (ln + rk))), .int bp, .int sr])), (v0, .inl (cI, 4, .inl (upd V u ((V u) + (nI 1)))))]) rfl rfl uX4_sentPlain_4 tyX4_ok nmX4 (by decide) fX4_sentPlain_4_1 rfl rfl rfl rfl (Nat.le_of_ble_eq_true rfl) dX4_sentPlain_32 rfl ?_
  refine zg_aload_n C 0 dX4_sentPlain_35 rfl ?_
  refine zg_dup C dX4_sentPlain_36 rfl ?_
  refine zg_get C 0 (ci := 4) (f := 2) rfl rfl uX4_sentPlain_4 (by decide) fX4_sentPlain_4_2 dX4_sentPlain_37 rfl ?_
  refine zg_iconst (v := nI 2) C dX4_sentPlain_40 (by decide) ?_
  refine zg_iload_n C 2 dX4_sentPlain_41 rfl ?_
  refine zg_imul C dX4_sentPlain_42 (nI (2 * ln)) (pk_mul _ _) ?_
  refine zg_iadd C dX4_sentPlain_43 (bp + (nI (2 * ln))) (rfl) ?_
  refine zg_put C 0 (ci := 4) (f := 2) (ws' := [(t0, .inr (4, [.ref v0, .int (bs + (nI (ln + rk))), .int (bp + (nI (2 * ln))), .int sr])), (v0, .inl (cI, 4, .inl (upd V u ((V u) + (nI 1)))))]) rfl rfl uX4_sentPlain_4 tyX4_ok nmX4 (by decide) fX4_sentPlain_4_2 rfl rfl rfl rfl (Nat.le_of_ble_eq_true rfl) dX4_sentPlain_44 rfl ?_
  exact zg_wvret C E dX4_sentPlain_47 (⟨rfl, rfl⟩)
theorem uX4_sentWith_4 : ∀ w ∈ u_ws RX4 TX4 4, w ∈ wsX4_sentWith := fun w h => List.mem_cons_of_mem _ (List.mem_append_right _ h)
theorem fX4_sentWith_4_0 : Cond.fieldLink RX4 9 (TX4 0).1 (TX4 0).2.1 (TX4 0).2.2.1 ∈ wsX4_sentWith := by decide +kernel
set_option maxHeartbeats 1000000 in
set_option maxRecDepth 100000 in
theorem c_X4_sentWith (l : Launch) (D : va_G) (cI : ClassId) (t0 v0 : Nat) (V : Nat → Int32) (bs bp sr : Int32) (u : Nat) (hu : u < 4) : zMr l D cI yX4_sentWith wsX4_sentWith { frames := 0, cells := 0, slots := 0, locals := 0 } [.ref t0, .int (nI u)] [(t0, .inr (4, [.ref v0, .int bs, .int bp, .int sr])), (v0, .inl (cI, 4, .inl V))] (V u) := by
  refine zr_ent (maxL := 2) (by decide) rfl (Nat.le_of_ble_eq_true rfl) (fun X C E => ?_)
  have C : zC X l D cI { frames := 0, cells := 0, slots := 0, locals := 0 } 2 false cX4_sentWith RX4 wsX4_sentWith := C
  refine zg_cv (lv' := [(0, .ref t0), (1, .int (nI u))]) rfl rfl rfl ?_
  refine zg_iload_n C 1 dX4_sentWith_0 rfl ?_
  refine zn_if_lt C 22 (by omega) dX4_sentWith_1 (by decide) ?_
  refine zg_iload_n C 1 dX4_sentWith_4 rfl ?_
  refine zg_aload_n C 0 dX4_sentWith_5 rfl ?_
  refine zg_get C 0 (ci := 4) (f := 0) rfl rfl uX4_sentWith_4 (by decide) fX4_sentWith_4_0 dX4_sentWith_6 rfl ?_
  refine zg_alen C 1 rfl dX4_sentWith_9 ?_
  refine zn_icmp_ge C 22 (by omega) (by omega) dX4_sentWith_10 (by decide) (fun c_10 => by omega) (fun c_10 => ?_)
  refine zg_aload_n C 0 dX4_sentWith_13 rfl ?_
  refine zg_get C 0 (ci := 4) (f := 0) rfl rfl uX4_sentWith_4 (by decide) fX4_sentWith_4_0 dX4_sentWith_14 rfl ?_
  refine zg_iload_n C 1 dX4_sentWith_17 rfl ?_
  refine zg_iald C 1 rfl (by omega) (by decide) dX4_sentWith_18 (V u) (rfl) ?_
  refine zg_goto C 23 dX4_sentWith_19 (by decide) ?_
  exact zg_iret C E dX4_sentWith_23 (rfl)
theorem uX4_bitsSent_4 : ∀ w ∈ u_ws RX4 TX4 4, w ∈ wsX4_bitsSent := fun w h => List.mem_cons_of_mem _ (List.mem_append_right _ h)
theorem fX4_bitsSent_4_1 : Cond.fieldLink RX4 15 (TX4 1).1 (TX4 1).2.1 (TX4 1).2.2.1 ∈ wsX4_bitsSent := by decide +kernel
set_option maxHeartbeats 1000000 in
set_option maxRecDepth 100000 in
theorem c_X4_bitsSent (l : Launch) (D : va_G) (cI : ClassId) (t0 v0 : Nat) (V : Nat → Int32) (bs bp sr : Int32) : zMr l D cI yX4_bitsSent wsX4_bitsSent { frames := 0, cells := 0, slots := 0, locals := 0 } [.ref t0] [(t0, .inr (4, [.ref v0, .int bs, .int bp, .int sr])), (v0, .inl (cI, 4, .inl V))] (bs) := by
  refine zr_ent (maxL := 1) (by decide) rfl (Nat.le_of_ble_eq_true rfl) (fun X C E => ?_)
  have C : zC X l D cI { frames := 0, cells := 0, slots := 0, locals := 0 } 1 false cX4_bitsSent RX4 wsX4_bitsSent := C
  refine zg_cv (lv' := [(0, .ref t0)]) rfl rfl rfl ?_
  refine zg_aload_n C 0 dX4_bitsSent_0 rfl ?_
  refine zg_get C 0 (ci := 4) (f := 1) rfl rfl uX4_bitsSent_4 (by decide) fX4_bitsSent_4_1 dX4_bitsSent_1 rfl ?_
  exact zg_iret C E dX4_bitsSent_4 (rfl)
theorem uX4_bitsSentByBothPlainly_4 : ∀ w ∈ u_ws RX4 TX4 4, w ∈ wsX4_bitsSentByBothPlainly := fun w h => List.mem_cons_of_mem _ (List.mem_append_right _ h)
theorem fX4_bitsSentByBothPlainly_4_2 : Cond.fieldLink RX4 19 (TX4 2).1 (TX4 2).2.1 (TX4 2).2.2.1 ∈ wsX4_bitsSentByBothPlainly := by decide +kernel
set_option maxHeartbeats 1000000 in
set_option maxRecDepth 100000 in
theorem c_X4_bitsSentByBothPlainly (l : Launch) (D : va_G) (cI : ClassId) (t0 v0 : Nat) (V : Nat → Int32) (bs bp sr : Int32) : zMr l D cI yX4_bitsSentByBothPlainly wsX4_bitsSentByBothPlainly { frames := 0, cells := 0, slots := 0, locals := 0 } [.ref t0] [(t0, .inr (4, [.ref v0, .int bs, .int bp, .int sr])), (v0, .inl (cI, 4, .inl V))] (bp) := by
  refine zr_ent (maxL := 1) (by decide) rfl (Nat.le_of_ble_eq_true rfl) (fun X C E => ?_)
  have C : zC X l D cI { frames := 0, cells := 0, slots := 0, locals := 0 } 1 false cX4_bitsSentByBothPlainly RX4 wsX4_bitsSentByBothPlainly := C
  refine zg_cv (lv' := [(0, .ref t0)]) rfl rfl rfl ?_
  refine zg_aload_n C 0 dX4_bitsSentByBothPlainly_0 rfl ?_
  refine zg_get C 0 (ci := 4) (f := 2) rfl rfl uX4_bitsSentByBothPlainly_4 (by decide) fX4_bitsSentByBothPlainly_4_2 dX4_bitsSentByBothPlainly_1 rfl ?_
  exact zg_iret C E dX4_bitsSentByBothPlainly_4 (rfl)
theorem uX4_timesSumsRead_4 : ∀ w ∈ u_ws RX4 TX4 4, w ∈ wsX4_timesSumsRead := fun w h => List.mem_cons_of_mem _ (List.mem_append_right _ h)
theorem fX4_timesSumsRead_4_3 : Cond.fieldLink RX4 22 (TX4 3).1 (TX4 3).2.1 (TX4 3).2.2.1 ∈ wsX4_timesSumsRead := by decide +kernel
set_option maxHeartbeats 1000000 in
set_option maxRecDepth 100000 in
theorem c_X4_timesSumsRead (l : Launch) (D : va_G) (cI : ClassId) (t0 v0 : Nat) (V : Nat → Int32) (bs bp sr : Int32) : zMr l D cI yX4_timesSumsRead wsX4_timesSumsRead { frames := 0, cells := 0, slots := 0, locals := 0 } [.ref t0] [(t0, .inr (4, [.ref v0, .int bs, .int bp, .int sr])), (v0, .inl (cI, 4, .inl V))] (sr) := by
  refine zr_ent (maxL := 1) (by decide) rfl (Nat.le_of_ble_eq_true rfl) (fun X C E => ?_)
  have C : zC X l D cI { frames := 0, cells := 0, slots := 0, locals := 0 } 1 false cX4_timesSumsRead RX4 wsX4_timesSumsRead := C
  refine zg_cv (lv' := [(0, .ref t0)]) rfl rfl rfl ?_
  refine zg_aload_n C 0 dX4_timesSumsRead_0 rfl ?_
  refine zg_get C 0 (ci := 4) (f := 3) rfl rfl uX4_timesSumsRead_4 (by decide) fX4_timesSumsRead_4_3 dX4_timesSumsRead_1 rfl ?_
  exact zg_iret C E dX4_timesSumsRead_4 (rfl)
theorem uX0_last_0 : ∀ w ∈ u_ws RX0 TX0 1, w ∈ wsX0_last := fun w h => List.mem_cons_of_mem _ (List.mem_append_right _ h)
theorem fX0_last_0_0 : Cond.fieldLink RX0 7 (TX0 0).1 (TX0 0).2.1 (TX0 0).2.2.1 ∈ wsX0_last := by decide +kernel
set_option maxHeartbeats 1000000 in
set_option maxRecDepth 100000 in
theorem c_X0_last (l : Launch) (D : va_G) (cI : ClassId) (d0 : Nat) (sd : Int32) : zMr l D cI yX0_last wsX0_last { frames := 0, cells := 0, slots := 0, locals := 0 } [.ref d0] [(d0, .inr (0, [.int sd]))] (sd) := by
  refine zr_ent (maxL := 1) (by decide) rfl (Nat.le_of_ble_eq_true rfl) (fun X C E => ?_)
  have C : zC X l D cI { frames := 0, cells := 0, slots := 0, locals := 0 } 1 false cX0_last RX0 wsX0_last := C
  refine zg_cv (lv' := [(0, .ref d0)]) rfl rfl rfl ?_
  refine zg_aload_n C 0 dX0_last_0 rfl ?_
  refine zg_get C 0 (ci := 0) (f := 0) rfl rfl uX0_last_0 (by decide) fX0_last_0_0 dX0_last_1 rfl ?_
  exact zg_iret C E dX0_last_4 (rfl)
theorem uX0_startFrom_0 : ∀ w ∈ u_ws RX0 TX0 1, w ∈ wsX0_startFrom := fun w h => List.mem_cons_of_mem _ (List.mem_append_right _ h)
theorem fX0_startFrom_0_0 : Cond.fieldLink RX0 7 (TX0 0).1 (TX0 0).2.1 (TX0 0).2.2.1 ∈ wsX0_startFrom := by decide +kernel
set_option maxHeartbeats 1000000 in
set_option maxRecDepth 100000 in
theorem c_X0_startFrom (l : Launch) (D : va_G) (cI : ClassId) (d0 : Nat) (sd : Int32) (x : Int32) : zMw l D cI yX0_startFrom wsX0_startFrom { frames := 0, cells := 0, slots := 0, locals := 0 } [.ref d0, .int x] [(d0, .inr (0, [.int sd]))] (fun v9 w9 => v9 = none ∧ w9 = [(d0, .inr (0, [.int x]))]) 0 0 := by
  refine zw_ent (maxL := 2) (by decide) rfl (Nat.le_of_ble_eq_true rfl) (fun X C E hin9 => ?_)
  have C : zC X l D cI { frames := 0, cells := 0, slots := 0, locals := 0 } 2 true cX0_startFrom RX0 wsX0_startFrom := C
  refine zg_cv (lv' := [(0, .ref d0), (1, .int x)]) rfl rfl rfl ?_
  refine zg_aload_n C 0 dX0_startFrom_0 rfl ?_
  refine zg_iload_n C 1 dX0_startFrom_1 rfl ?_
  refine zg_put C 0 (ci := 0) (f := 0) (ws' := [(d0, .inr (0, [.int x]))]) rfl rfl uX0_startFrom_0 tyX0_ok nmX0 (by decide) fX0_startFrom_0_0 rfl rfl rfl rfl (Nat.le_of_ble_eq_true rfl) dX0_startFrom_2 rfl ?_
  exact zg_wvret C E dX0_startFrom_5 (⟨rfl, rfl⟩)
theorem wX0_next_0 : Cond.constantLong RX0 13 (1103515245) ∈ wsX0_next := by decide +kernel
theorem uX0_next_0 : ∀ w ∈ u_ws RX0 TX0 1, w ∈ wsX0_next := fun w h => List.mem_cons_of_mem _ (List.mem_append_right _ h)
theorem fX0_next_0_0 : Cond.fieldLink RX0 7 (TX0 0).1 (TX0 0).2.1 (TX0 0).2.2.1 ∈ wsX0_next := by decide +kernel
theorem wX0_next_1 : Cond.constantLong RX0 15 (12345) ∈ wsX0_next := by decide +kernel
theorem wX0_next_2 : Cond.constantLong RX0 17 (2147483647) ∈ wsX0_next := by decide +kernel
set_option maxHeartbeats 1000000 in
set_option maxRecDepth 100000 in
theorem c_X0_next (l : Launch) (D : va_G) (cI : ClassId) (d0 s b : Nat) (hs : s < 2 ^ 31) (hb : b ≤ 10) : zMw l D cI yX0_next wsX0_next { frames := 0, cells := 0, slots := 0, locals := 0 } [.ref d0, .int (nI b)] [(d0, .inr (0, [.int (nI s)]))] (fun v9 w9 => v9 = some (.int (nI (zdr s (2 ^ b)))) ∧ w9 = [(d0, .inr (0, [.int (nI (znx s))]))]) 0 0 := by
  refine zw_ent (maxL := 2) (by decide) rfl (Nat.le_of_ble_eq_true rfl) (fun X C E hin9 => ?_)
  have C : zC X l D cI { frames := 0, cells := 0, slots := 0, locals := 0 } 2 true cX0_next RX0 wsX0_next := C
  refine zg_cv (lv' := [(0, .ref d0), (1, .int (nI b))]) rfl rfl rfl ?_
  have q0 := znx_lt s
  have q1 := zpw hb
  have q2 := zpw0 b
  refine zg_aload_n C 0 dX0_next_0 rfl ?_
  refine zg_ldc2 C dX0_next_1 wX0_next_0 ?_
  refine zg_aload_n C 0 dX0_next_4 rfl ?_
  refine zg_get C 0 (ci := 0) (f := 0) rfl rfl uX0_next_0 (by decide) fX0_next_0_0 dX0_next_5 rfl ?_
  refine zg_i2l C dX0_next_8 (lN s) (zi_l hs) ?_
  refine zg_lmul C dX0_next_9 (lN (1103515245 * s)) (by rw [zl_a, lN_mul]) ?_
  refine zg_ldc2 C dX0_next_10 wX0_next_1 ?_
  refine zg_ladd C dX0_next_13 (lN (1103515245 * s + 12345)) (by rw [zl_b, lN_add]) ?_
  refine zg_ldc2 C dX0_next_14 wX0_next_2 ?_
  refine zg_land C dX0_next_17 (lN (znx s)) (zl_and _) ?_
  refine zg_l2i C dX0_next_18 (nI (znx s)) (lN_i _) ?_
  refine zg_put C 0 (ci := 0) (f := 0) (ws' := [(d0, .inr (0, [.int (nI (znx s))]))]) rfl rfl uX0_next_0 tyX0_ok nmX0 (by decide) fX0_next_0_0 rfl rfl rfl rfl (Nat.le_of_ble_eq_true rfl) dX0_next_19 rfl ?_
  refine zg_aload_n C 0 dX0_next_22 rfl ?_
  refine zg_get C 0 (ci := 0) (f := 0) rfl rfl uX0_next_0 (by decide) fX0_next_0_0 dX0_next_23 rfl ?_
  refine zg_bipush (v := nI 16) C dX0_next_26 (by decide) ?_
  refine zg_ishr C dX0_next_28 (nI ((znx s) / 2 ^ 16)) (zi_shr (by omega) (by omega)) ?_
  refine zg_iconst (v := nI 1) C dX0_next_29 (by decide) ?_
  refine zg_iload_n C 1 dX0_next_30 rfl ?_
  refine zg_ishl C dX0_next_31 (nI (2 ^ b)) (zi_shl1 (by omega)) ?_
  refine zg_iconst (v := nI 1) C dX0_next_32 (by decide) ?_
  refine zg_isub C dX0_next_33 (nI ((2 ^ b) - 1)) (pk_sub (by omega)) ?_
  refine zg_iand C dX0_next_34 (nI (zdr s (2 ^ b))) (zi_mask _ _) ?_
  exact zg_wiret C E dX0_next_35 (⟨rfl, rfl⟩)
end
section
/-! WHAT EACH CALL ANSWERS, in the words of 05 and 07: of both classes -/
abbrev zn (x : Int32) : Nat := x.toNatClampNeg
theorem zn_nI {i : Nat} (h : i < 2 ^ 31) : zn (nI i) = i := nI_clamp h
/-- a call that wants SUMS and good arguments -/
def zA (ln : Nat) (ok : Prop) [Decidable ok] (v : Int32) : Int32 := if 0 < ln then (if ok then v else -1002) else -1003
theorem zA_n {ln : Nat} {ok : Prop} [Decidable ok] {v : Int32} (h : ¬ 0 < ln) : zA ln ok v = -1003 := by rw [zA, if_neg h]
theorem zA_o {ln : Nat} {ok : Prop} [Decidable ok] {v : Int32} (h : 0 < ln) (h2 : ¬ ok) : zA ln ok v = -1002 := by rw [zA, if_pos h, if_neg h2]
theorem zA_y {ln : Nat} {ok : Prop} [Decidable ok] {v : Int32} (h : 0 < ln) (h2 : ok) : zA ln ok v = v := by rw [zA, if_pos h, if_pos h2]
/-- the cells of SUMS hold what they must -/
def zSm (R : Nat → Nat) (Rf Lf Wf : Nat → Int32) (rc ln rk ds su rd : Nat) : Prop := 0 < ln → 1 ≤ rc ∧ rc ≤ 5 ∧ 3 ≤ ln ∧ (∀ i, i < rc → Rf i = nI (R i)) ∧ (∀ i, i < rc → R i < 1024) ∧ (∀ y, y < 32 → Lf y = zo (zld R rc (2 ^ ln) y)) ∧ (∀ j, j < 11 → Wf j = nI (zct (zhw (zld R rc (2 ^ ln)) j) 32)) ∧ rk = zrk R rc ln ∧ ds = zdm R rc ln (2 ^ ln) ∧ su = zsu ln ds ∧ rd = zrad (zld R rc (2 ^ ln)) 32
theorem zsu_le {ln d : Nat} (hln : ln ≤ 10) (hd : d ≤ ln + 1) : zsu ln d ≤ 10 := by
  unfold zsu
  split <;> omega
theorem zdm_pos (R : Nat → Nat) (rc : Nat) {ln : Nat} (hln : ln ≤ 10) : 0 < zdm R rc ln (2 ^ ln) := by
  have hp := zpw hln
  obtain ⟨h1, h2, h3⟩ := zdm_spec R rc ln (2 ^ ln)
  apply Nat.pos_of_ne_zero
  intro h
  obtain ⟨w, w0, wn, ws, wp⟩ := h3 (by omega)
  have := zpc0 (w := w) (by omega) (by omega)
  omega
theorem zsu_1 {ln d : Nat} (h : ln < d) : ln = zsu ln d := (if_pos h).symm
theorem zsu_2 {ln d : Nat} (h : d ≤ ln) : (d - 1) / 2 = zsu ln d := (if_neg (show ¬ ln < d by omega)).symm
theorem zrok_whole {rw sg lg : Nat} {R : Nat → Nat} (h : zrok (rw, sg, lg, R)) (hw : zwh rw sg lg = true) : 3 ≤ sg ∧ sg ≤ 10 ∧ rw + 1 ≤ 5 ∧ ∀ i, i < rw + 1 → R i < 2 ^ sg := by
  obtain ⟨h1, h2, h3, h4, h5, h6, h7, h8⟩ := h
  unfold zwh at hw
  by_cases h0 : rw = 0
  · rw [if_pos h0] at hw
    have := of_decide_eq_true hw
    subst h0
    refine ⟨this, h2, by omega, fun i hi => ?_⟩
    rw [show i = 0 by omega]; exact h7
  · rw [if_neg h0] at hw
    have he := of_decide_eq_true hw
    have := h5 (by omega)
    refine ⟨by omega, h2, by omega, fun i hi => ?_⟩
    by_cases hi2 : i = rw
    · rw [hi2]; exact h7
    · rw [he]; exact h6 i (by omega)
def zcode (R : Nat → Nat) (rc ln j : Nat) : Int32 := if j = 0 then nI ln else if j = 1 then nI rc else if j = 2 then nI (zrk R rc ln) else if j = 3 then zdn ln (zdm R rc ln (2 ^ ln)) else if j = 4 then nI (zsu ln (zdm R rc ln (2 ^ ln))) else if j = 5 then nI (zrad (zld R rc (2 ^ ln)) 32) else if zrad (zld R rc (2 ^ ln)) 32 = zsu ln (zdm R rc ln (2 ^ ln)) then nI 1 else nI 0
def zAcode (R : Nat → Nat) (rc ln : Nat) (x : Int32) : Int32 := if zin x 7 then (if 0 < ln then zcode R rc ln (zn x) else -1003) else -1002
def zfl (R : Nat → Nat) (rc ln x y : Nat) : Nat := (zld R rc (2 ^ ln) (zsk R (x ^^^ y) rc)).getD 0
theorem zfl_some (R : Nat → Nat) (rc : Nat) {ln x y : Nat} (hx : x < 2 ^ ln) (hy : y < 2 ^ ln) : zld R rc (2 ^ ln) (zsk R (x ^^^ y) rc) = some (zfl R rc ln x y) := by
  obtain ⟨v, hv, -⟩ := zld_min (R := R) (rc := rc) (Nat.xor_lt_two_pow hx hy)
  unfold zfl
  rw [hv]; rfl
theorem zfl_lt (R : Nat → Nat) (rc : Nat) {ln x y : Nat} (hx : x < 2 ^ ln) (hy : y < 2 ^ ln) : zfl R rc ln x y < 2 ^ ln := (zld_some (zfl_some R rc hx hy)).1
def zvr (R : Nat → Nat) (rc ln x y : Nat) : Nat := zvd x y (zfl R rc ln x y) (zsu ln (zdm R rc ln (2 ^ ln)))
theorem zvr_lt (R : Nat → Nat) (rc ln x y : Nat) : zvr R rc ln x y < 4 := zvd_lt _ _ _ _
def zplain (R : Nat → Nat) (rc ln x y : Nat) (z : Int32) : Int32 := if z = nI 0 then nI (zvr R rc ln x y) else if z = nI 1 then nI (zfl R rc ln x y) else nI (x ^^^ zfl R rc ln x y)
def zshare (R : Nat → Nat) (rc ln a b : Nat) (z : Int32) : Int32 := if z = nI 0 then zb (zen R rc (a ||| b) (2 ^ ln)) else nI (2 * zrk R rc ln + zpc (a ||| b))
def zshrd (R : Nat → Nat) (rc ln a b x y : Nat) (z : Int32) : Int32 := if zsh R rc ln a b x y (zfl R rc ln x y) = -1001 ∨ z = 0 then zsh R rc ln a b x y (zfl R rc ln x y) else zsh R rc ln a b x y (zfl R rc ln x y) ^^^ nI (zfl R rc ln x y)
def zcnt (pn : Nat) (V : Nat → Int32) (bs bp sr : Int32) (j : Nat) : Int32 := if j = 0 then nI pn else if j = 5 then bs else if j = 6 then bp else if j = 7 then sr else V (j - 1)
def zAcnt (pn : Nat) (V : Nat → Int32) (bs bp sr : Int32) (x : Int32) : Int32 := if zin x 8 then zcnt pn V bs bp sr (zn x) else -1002
/-- the text is whole -/
def zokS (pg : Nat → Int32) (pn : Nat) : Prop := (zfa pg pn 0 zr0).1 = pn ∧ zwh (zfa pg pn 0 zr0).2.1 (zfa pg pn 0 zr0).2.2.1 (zfa pg pn 0 zr0).2.2.2.1 = true
def zokL (pn : Nat) (x : Int32) : Prop := 32 ≤ x ∧ x ≤ 126 ∧ pn < 56
def zAlet (pn : Nat) (x : Int32) : Int32 := if 32 ≤ x ∧ x ≤ 126 then (if pn < 56 then nI (pn + 1) else -1004) else -1002
/-- mixing numbers -/
def zmix (f : Nat → Int32) (h : Int64) : Nat → Int64
  | 0 => h
  | n + 1 => 31 * zmix f h n + (f n).toInt64
theorem zmix_congr {f g : Nat → Int32} {h : Int64} {n : Nat} (e : ∀ i, i < n → f i = g i) : zmix f h n = zmix g h n := by
  induction n with
  | zero => rfl
  | succ n ih =>
    show 31 * zmix f h n + (f n).toInt64 = 31 * zmix g h n + (g n).toInt64
    rw [ih (fun i hi => e i (by omega)), e n (by omega)]
def zdgS (R : Nat → Nat) (rc ln : Nat) (h : Int64) : Int64 := zmix (fun j => nI (zct (zhw (zld R rc (2 ^ ln)) j) 32)) (zmix (fun y => zo (zld R rc (2 ^ ln) y)) (zmix (fun i => nI (R i)) (zmix (zcode R rc ln) h 7) rc) (2 ^ rc)) (ln + 1)
def zdig (R : Nat → Nat) (rc ln : Nat) (sd : Int32) (pg : Nat → Int32) (pn : Nat) (V : Nat → Int32) (bs bp sr : Int32) : Int64 := zmix (zcnt pn V bs bp sr) (zmix pg (31 * (if 0 < ln then zdgS R rc ln 1667 else 1667) + sd.toInt64) pn) 8
/-! RUNS -/
/-- the places that are unlike: the seed behind the first k places, and the places -/
def zul (ch : Int32) : Nat → Nat → Nat × Nat
  | s, 0 => (s, 0)
  | s, k + 1 => (znx (zul ch s k).1, (zul ch s k).2 + (if nI (zdr (zul ch s k).1 16) < ch then 2 ^ k else 0))
theorem zul_lt (ch : Int32) (s k : Nat) : (zul ch s k).2 < 2 ^ k := by
  induction k with
  | zero => exact Nat.one_pos
  | succ k ih =>
    show (zul ch s k).2 + (if nI (zdr (zul ch s k).1 16) < ch then 2 ^ k else 0) < 2 ^ (k + 1)
    rw [Nat.pow_succ]
    split <;> omega
theorem zul_s (ch : Int32) {s : Nat} (hs : s < 2 ^ 31) (k : Nat) : (zul ch s k).1 < 2 ^ 31 := by
  cases k with
  | zero => exact hs
  | succ k => exact znx_lt _
/-- a run: behind its first i words: the seed, the verdicts, the bits, those wrong and trusted -/
def zrn (R : Nat → Nat) (rc ln : Nat) (ch : Int32) (s : Nat) (V : Nat → Int32) (bs bp : Int32) : Nat → Nat × (Nat → Int32) × Int32 × Int32 × Nat
  | 0 => (s, V, bs, bp, 0)
  | i + 1 => match zrn R rc ln ch s V bs bp i with
    | (s1, V1, b1, p1, w1) => ((zul ch (znx s1) ln).1, upd V1 (zvr R rc ln (zdr s1 (2 ^ ln)) (zdr s1 (2 ^ ln) ^^^ (zul ch (znx s1) ln).2)) (V1 (zvr R rc ln (zdr s1 (2 ^ ln)) (zdr s1 (2 ^ ln) ^^^ (zul ch (znx s1) ln).2)) + nI 1), b1 + nI (ln + zrk R rc ln), p1 + nI (2 * ln), w1 + (if zvr R rc ln (zdr s1 (2 ^ ln)) (zdr s1 (2 ^ ln) ^^^ (zul ch (znx s1) ln).2) = 3 then 1 else 0))
theorem zrn_s (R : Nat → Nat) (rc ln : Nat) (ch : Int32) {s : Nat} (V : Nat → Int32) (bs bp : Int32) (hs : s < 2 ^ 31) : ∀ i, (zrn R rc ln ch s V bs bp i).1 < 2 ^ 31 ∧ (zrn R rc ln ch s V bs bp i).2.2.2.2 ≤ i := by
  intro i
  induction i with
  | zero => exact ⟨hs, Nat.le_refl 0⟩
  | succ i ih =>
    refine ⟨zul_s ch (znx_lt _) ln, ?_⟩
    show (zrn R rc ln ch s V bs bp i).2.2.2.2 + (if _ then 1 else 0) ≤ i + 1
    have := ih.2
    split <;> omega
end
section
/-! SUMS made new; the constructors -/
theorem uX3_become_3 : ∀ w ∈ u_ws RX3 TX3 9, w ∈ wsX3_become := fun w h => List.mem_cons_of_mem _ (List.mem_append_left _ (List.mem_append_right _ h))
theorem fX3_become_3_3 : Cond.fieldLink RX3 21 (TX3 3).1 (TX3 3).2.1 (TX3 3).2.2.1 ∈ wsX3_become := by decide +kernel
theorem fX3_become_3_4 : Cond.fieldLink RX3 25 (TX3 4).1 (TX3 4).2.1 (TX3 4).2.2.1 ∈ wsX3_become := by decide +kernel
theorem fX3_become_3_0 : Cond.fieldLink RX3 9 (TX3 0).1 (TX3 0).2.1 (TX3 0).2.2.1 ∈ wsX3_become := by decide +kernel
theorem fX3_become_3_6 : Cond.fieldLink RX3 31 (TX3 6).1 (TX3 6).2.1 (TX3 6).2.2.1 ∈ wsX3_become := by decide +kernel
theorem fX3_become_3_7 : Cond.fieldLink RX3 34 (TX3 7).1 (TX3 7).2.1 (TX3 7).2.2.1 ∈ wsX3_become := by decide +kernel
set_option maxHeartbeats 1000000 in
set_option maxRecDepth 100000 in
theorem c_X3_become (l : Launch) (D : va_G) (cI : ClassId) (h0 a0 a1 a2 : Nat) (Rf Lf Wf : Nat → Int32) (rc ln rk ds su rd : Nat) (r0 b0 : Nat) (rw sg lg : Nat) (R : Nat → Nat) (hk : zrok (rw, sg, lg, R)) (hw : zwh rw sg lg = true) : zMw l D cI yX3_become wsX3_become { frames := 4, cells := 0, slots := 0, locals := 85 } [.ref h0, .ref r0] [(h0, .inr (3, [.ref a0, .ref a1, .ref a2, .int (nI rc), .int (nI ln), .int (nI rk), .int (nI ds), .int (nI su), .int (nI rd)])), (a0, .inl (cI, 5, .inl Rf)), (a1, .inl (cI, 32, .inl Lf)), (a2, .inl (cI, 11, .inl Wf)), (r0, .inr (2, [.ref b0, .int (nI rw), .int (nI sg), .int (nI lg)])), (b0, .inl (cI, 5, .inl (fun j => nI (R j))))] (fun v9 w9 => v9 = none ∧ w9 = [(h0, .inr (3, [.ref a0, .ref a1, .ref a2, .int (nI (rw + 1)), .int (nI sg), .int (nI (zrk R (rw + 1) sg)), .int (nI (zdm R (rw + 1) sg (2 ^ sg))), .int (nI (zsu sg (zdm R (rw + 1) sg (2 ^ sg)))), .int (nI (zrad (zld R (rw + 1) (2 ^ sg)) 32))])), (a0, .inl (cI, 5, .inl (fun j => nI (R j)))), (a1, .inl (cI, 32, .inl (fun s => zo (zld R (rw + 1) (2 ^ sg) s)))), (a2, .inl (cI, 11, .inl (fun j => nI (zct (zhw (zld R (rw + 1) (2 ^ sg)) j) 32)))), (r0, .inr (2, [.ref b0, .int (nI rw), .int (nI sg), .int (nI lg)])), (b0, .inl (cI, 5, .inl (fun j => nI (R j))))]) 0 0 := by
  refine zw_ent (maxL := 3) (by decide) rfl (Nat.le_of_ble_eq_true rfl) (fun X C E hin9 => ?_)
  have C : zC X l D cI { frames := 4, cells := 0, slots := 0, locals := 85 } 3 true cX3_become RX3 wsX3_become := C
  refine zg_cv (lv' := [(0, .ref h0), (1, .ref r0)]) rfl rfl rfl ?_
  obtain ⟨g1, hln, hrc, hRw⟩ := zrok_whole hk hw
  have q0 := zpw hln
  have q5 := zpw5 hrc
  have hRb : ∀ i, i < rw + 1 → R i < 1024 := fun i hi => Nat.lt_of_lt_of_le (hRw i hi) q0
  refine zg_aload_n C 0 dX3_become_0 rfl ?_
  refine zg_aload_n C 1 dX3_become_1 rfl ?_
  refine zg_callr (As := []) (st := [.ref h0]) C [4, 5] 4 0 (c_X2_rowsRead l D cI r0 b0 rw sg lg R ) gX3_become_X2_rowsRead (by decide +kernel) rfl ⟨rfl, rfl⟩ ⟨Nat.le_of_ble_eq_true rfl, Nat.le_of_ble_eq_true rfl⟩ rfl (ci := 2) rfl rfl rfl rfl (Nat.le_of_ble_eq_true rfl) ⟨Nat.le_of_ble_eq_true rfl, Nat.le_of_ble_eq_true rfl⟩ dX3_become_2 ?_
  refine zg_put C 0 (ci := 3) (f := 3) (ws' := [(h0, .inr (3, [.ref a0, .ref a1, .ref a2, .int (nI (rw + 1)), .int (nI ln), .int (nI rk), .int (nI ds), .int (nI su), .int (nI rd)])), (a0, .inl (cI, 5, .inl Rf)), (a1, .inl (cI, 32, .inl Lf)), (a2, .inl (cI, 11, .inl Wf)), (r0, .inr (2, [.ref b0, .int (nI rw), .int (nI sg), .int (nI lg)])), (b0, .inl (cI, 5, .inl (fun j => nI (R j))))]) rfl rfl uX3_become_3 tyX3_ok nmX3 (by decide) fX3_become_3_3 rfl rfl rfl rfl (Nat.le_of_ble_eq_true rfl) dX3_become_5 rfl ?_
  refine zg_aload_n C 0 dX3_become_8 rfl ?_
  refine zg_aload_n C 1 dX3_become_9 rfl ?_
  refine zg_callr (As := []) (st := [.ref h0]) C [4, 5] 4 0 (c_X2_signsOfRow l D cI r0 b0 rw sg lg R ) gX3_become_X2_signsOfRow (by decide +kernel) rfl ⟨rfl, rfl⟩ ⟨Nat.le_of_ble_eq_true rfl, Nat.le_of_ble_eq_true rfl⟩ rfl (ci := 2) rfl rfl rfl rfl (Nat.le_of_ble_eq_true rfl) ⟨Nat.le_of_ble_eq_true rfl, Nat.le_of_ble_eq_true rfl⟩ dX3_become_10 ?_
  refine zg_put C 0 (ci := 3) (f := 4) (ws' := [(h0, .inr (3, [.ref a0, .ref a1, .ref a2, .int (nI (rw + 1)), .int (nI sg), .int (nI rk), .int (nI ds), .int (nI su), .int (nI rd)])), (a0, .inl (cI, 5, .inl Rf)), (a1, .inl (cI, 32, .inl Lf)), (a2, .inl (cI, 11, .inl Wf)), (r0, .inr (2, [.ref b0, .int (nI rw), .int (nI sg), .int (nI lg)])), (b0, .inl (cI, 5, .inl (fun j => nI (R j))))]) rfl rfl uX3_become_3 tyX3_ok nmX3 (by decide) fX3_become_3_4 rfl rfl rfl rfl (Nat.le_of_ble_eq_true rfl) dX3_become_13 rfl ?_
  refine zg_cell 1 (ws' := [(h0, .inr (3, [.ref a0, .ref a1, .ref a2, .int (nI (rw + 1)), .int (nI sg), .int (nI rk), .int (nI ds), .int (nI su), .int (nI rd)])), (a0, .inl (cI, 5, .inl (fun j => if j < 0 then nI (R j) else Rf j))), (a1, .inl (cI, 32, .inl Lf)), (a2, .inl (cI, 11, .inl Wf)), (r0, .inr (2, [.ref b0, .int (nI rw), .int (nI sg), .int (nI lg)])), (b0, .inl (cI, 5, .inl (fun j => nI (R j))))]) (fun j => if j < 0 then nI (R j) else Rf j) rfl (fun j _ => by rw [if_neg (Nat.not_lt_zero j)]) rfl ?_
  refine zg_iconst (v := nI 0) C dX3_become_16 (by decide) ?_
  refine zg_istore_n C [1, 2, 0] (lv' := [(0, .ref h0), (1, .ref r0), (2, .int (nI 0))]) dX3_become_17 (by decide) rfl ?_
  have L_18 : ∀ i, i ≤ 5 → zG X 0 0 [(0, .ref h0), (1, .ref r0), (2, .int (nI i))] [] [(h0, .inr (3, [.ref a0, .ref a1, .ref a2, .int (nI (rw + 1)), .int (nI sg), .int (nI rk), .int (nI ds), .int (nI su), .int (nI rd)])), (a0, .inl (cI, 5, .inl (fun j => if j < i then nI (R j) else Rf j))), (a1, .inl (cI, 32, .inl Lf)), (a2, .inl (cI, 11, .inl Wf)), (r0, .inr (2, [.ref b0, .int (nI rw), .int (nI sg), .int (nI lg)])), (b0, .inl (cI, 5, .inl (fun j => nI (R j))))] 18 := by
    refine zg_dn (fun i hi ih_18  => ?_)
    refine zg_iload_n C 2 dX3_become_18 rfl ?_
    refine zg_aload_n C 0 dX3_become_19 rfl ?_
    refine zg_get C 0 (ci := 3) (f := 0) rfl rfl uX3_become_3 (by decide) fX3_become_3_0 dX3_become_20 rfl ?_
    refine zg_alen C 1 rfl dX3_become_23 ?_
    refine zn_icmp_ge C 44 (by omega) (by omega) dX3_become_24 (by decide) (fun c_24 => ?_) (fun c_24 => ?_)
    · skip
      have e9_44 : 5 = i := by omega
      subst e9_44
      refine zg_cell 1 (ws' := [(h0, .inr (3, [.ref a0, .ref a1, .ref a2, .int (nI (rw + 1)), .int (nI sg), .int (nI rk), .int (nI ds), .int (nI su), .int (nI rd)])), (a0, .inl (cI, 5, .inl (fun j => nI (R j)))), (a1, .inl (cI, 32, .inl Lf)), (a2, .inl (cI, 11, .inl Wf)), (r0, .inr (2, [.ref b0, .int (nI rw), .int (nI sg), .int (nI lg)])), (b0, .inl (cI, 5, .inl (fun j => nI (R j))))]) (fun j => nI (R j)) rfl (fun j hj => by show (if j < 5 then nI (R j) else Rf j) = nI (R j); rw [if_pos hj]) rfl ?_
      refine zg_aload_n C 0 dX3_become_44 rfl ?_
      refine zg_callw (As := []) (st := []) (wo := [(r0, .inr (2, [.ref b0, .int (nI rw), .int (nI sg), .int (nI lg)])), (b0, .inl (cI, 5, .inl (fun j => nI (R j))))]) C [0, 1, 2, 3] [4, 5] 0 0 (c_X3_findLeaders l D cI h0 a0 a1 a2 (fun j => nI (R j)) Lf Wf (rw + 1) sg rk ds su rd R (by omega) (by omega) (fun i _ => rfl) (hRb)) gX3_become_X3_findLeaders (by decide +kernel) rfl ⟨rfl, rfl⟩ ⟨Nat.le_of_ble_eq_true rfl, Nat.le_of_ble_eq_true rfl⟩ rfl rfl rfl rfl (by decide) (ci := 3) rfl rfl rfl rfl (Nat.le_of_ble_eq_true rfl) ⟨Nat.le_of_ble_eq_true rfl, Nat.le_of_ble_eq_true rfl⟩ dX3_become_45 (fun v9 w9 hw9 => ?_)
      obtain ⟨rfl, rfl⟩ := hw9
      refine zg_cv (k' := 0) (n' := 0) (st' := []) (ws' := [(r0, .inr (2, [.ref b0, .int (nI rw), .int (nI sg), .int (nI lg)])), (b0, .inl (cI, 5, .inl (fun j => nI (R j)))), (h0, .inr (3, [.ref a0, .ref a1, .ref a2, .int (nI (rw + 1)), .int (nI sg), .int (nI rk), .int (nI ds), .int (nI su), .int (nI rd)])), (a0, .inl (cI, 5, .inl (fun j => nI (R j)))), (a1, .inl (cI, 32, .inl (fun s => zo (zld R (rw + 1) (2 ^ sg) s)))), (a2, .inl (cI, 11, .inl Wf))]) rfl rfl rfl ?_
      refine zg_perm [2, 3, 4, 5, 0, 1] (ws' := [(h0, .inr (3, [.ref a0, .ref a1, .ref a2, .int (nI (rw + 1)), .int (nI sg), .int (nI rk), .int (nI ds), .int (nI su), .int (nI rd)])), (a0, .inl (cI, 5, .inl (fun j => nI (R j)))), (a1, .inl (cI, 32, .inl (fun s => zo (zld R (rw + 1) (2 ^ sg) s)))), (a2, .inl (cI, 11, .inl Wf)), (r0, .inr (2, [.ref b0, .int (nI rw), .int (nI sg), .int (nI lg)])), (b0, .inl (cI, 5, .inl (fun j => nI (R j))))]) rfl rfl ?_
      refine zg_aload_n C 0 dX3_become_48 rfl ?_
      refine zg_callw (As := []) (st := []) (wo := [(r0, .inr (2, [.ref b0, .int (nI rw), .int (nI sg), .int (nI lg)])), (b0, .inl (cI, 5, .inl (fun j => nI (R j))))]) C [0, 1, 2, 3] [4, 5] 0 0 (c_X3_countLeaders l D cI h0 a0 a1 a2 (fun j => nI (R j)) (fun s => zo (zld R (rw + 1) (2 ^ sg) s)) Wf (rw + 1) sg rk ds su rd (zld R (rw + 1) (2 ^ sg)) (fun y _ => rfl) (fun y v h => by have := (zld_some h).1; omega) (show 0 < zct (zim R (rw + 1) (2 ^ sg)) 32 from by rw [(zrk_pow R sg hrc).1]; exact zpw0 _)) gX3_become_X3_countLeaders (by decide +kernel) rfl ⟨rfl, rfl⟩ ⟨Nat.le_of_ble_eq_true rfl, Nat.le_of_ble_eq_true rfl⟩ rfl rfl rfl rfl (by decide) (ci := 3) rfl rfl rfl rfl (Nat.le_of_ble_eq_true rfl) ⟨Nat.le_of_ble_eq_true rfl, Nat.le_of_ble_eq_true rfl⟩ dX3_become_49 (fun v9 w9 hw9 => ?_)
      obtain ⟨rfl, rfl⟩ := hw9
      refine zg_cv (k' := 0) (n' := 0) (st' := []) (ws' := [(r0, .inr (2, [.ref b0, .int (nI rw), .int (nI sg), .int (nI lg)])), (b0, .inl (cI, 5, .inl (fun j => nI (R j)))), (h0, .inr (3, [.ref a0, .ref a1, .ref a2, .int (nI (rw + 1)), .int (nI sg), .int (nI (zpc (zct (fun s => ((zld R (rw + 1) (2 ^ sg)) s).isSome) 32 - 1))), .int (nI ds), .int (nI su), .int (nI (zrad (zld R (rw + 1) (2 ^ sg)) 32))])), (a0, .inl (cI, 5, .inl (fun j => nI (R j)))), (a1, .inl (cI, 32, .inl (fun s => zo (zld R (rw + 1) (2 ^ sg) s)))), (a2, .inl (cI, 11, .inl (fun j => nI (zct (zhw (zld R (rw + 1) (2 ^ sg)) j) 32))))]) rfl rfl rfl ?_
      refine zg_perm [2, 3, 4, 5, 0, 1] (ws' := [(h0, .inr (3, [.ref a0, .ref a1, .ref a2, .int (nI (rw + 1)), .int (nI sg), .int (nI (zpc (zct (fun s => ((zld R (rw + 1) (2 ^ sg)) s).isSome) 32 - 1))), .int (nI ds), .int (nI su), .int (nI (zrad (zld R (rw + 1) (2 ^ sg)) 32))])), (a0, .inl (cI, 5, .inl (fun j => nI (R j)))), (a1, .inl (cI, 32, .inl (fun s => zo (zld R (rw + 1) (2 ^ sg) s)))), (a2, .inl (cI, 11, .inl (fun j => nI (zct (zhw (zld R (rw + 1) (2 ^ sg)) j) 32)))), (r0, .inr (2, [.ref b0, .int (nI rw), .int (nI sg), .int (nI lg)])), (b0, .inl (cI, 5, .inl (fun j => nI (R j))))]) rfl rfl ?_
      refine zg_cv (ws' := [(h0, .inr (3, [.ref a0, .ref a1, .ref a2, .int (nI (rw + 1)), .int (nI sg), .int (nI (zrk R (rw + 1) sg)), .int (nI ds), .int (nI su), .int (nI (zrad (zld R (rw + 1) (2 ^ sg)) 32))])), (a0, .inl (cI, 5, .inl (fun j => nI (R j)))), (a1, .inl (cI, 32, .inl (fun s => zo (zld R (rw + 1) (2 ^ sg) s)))), (a2, .inl (cI, 11, .inl (fun j => nI (zct (zhw (zld R (rw + 1) (2 ^ sg)) j) 32)))), (r0, .inr (2, [.ref b0, .int (nI rw), .int (nI sg), .int (nI lg)])), (b0, .inl (cI, 5, .inl (fun j => nI (R j))))]) rfl rfl (rfl) ?_
      refine zg_aload_n C 0 dX3_become_52 rfl ?_
      refine zg_aload_n C 0 dX3_become_53 rfl ?_
      refine zg_callr (As := []) (st := [.ref h0]) C [0, 1, 2, 3] 0 0 (c_X3_leastWeightWithoutSyndrome l D cI h0 a0 a1 a2 (fun j => nI (R j)) (fun s => zo (zld R (rw + 1) (2 ^ sg) s)) (fun j => nI (zct (zhw (zld R (rw + 1) (2 ^ sg)) j) 32)) (rw + 1) sg (zrk R (rw + 1) sg) ds su (zrad (zld R (rw + 1) (2 ^ sg)) 32) R (by omega) (by omega) (fun i _ => rfl) (hRb)) gX3_become_X3_leastWeightWithoutSyndrome (by decide +kernel) rfl ⟨rfl, rfl⟩ ⟨Nat.le_of_ble_eq_true rfl, Nat.le_of_ble_eq_true rfl⟩ rfl (ci := 3) rfl rfl rfl rfl (Nat.le_of_ble_eq_true rfl) ⟨Nat.le_of_ble_eq_true rfl, Nat.le_of_ble_eq_true rfl⟩ dX3_become_54 ?_
      have q7 := zdm_le R (rw + 1) sg (2 ^ sg)
      have q8 := zdm_pos R (rw + 1) hln
      refine zg_put C 0 (ci := 3) (f := 6) (ws' := [(h0, .inr (3, [.ref a0, .ref a1, .ref a2, .int (nI (rw + 1)), .int (nI sg), .int (nI (zrk R (rw + 1) sg)), .int (nI (zdm R (rw + 1) sg (2 ^ sg))), .int (nI su), .int (nI (zrad (zld R (rw + 1) (2 ^ sg)) 32))])), (a0, .inl (cI, 5, .inl (fun j => nI (R j)))), (a1, .inl (cI, 32, .inl (fun s => zo (zld R (rw + 1) (2 ^ sg) s)))), (a2, .inl (cI, 11, .inl (fun j => nI (zct (zhw (zld R (rw + 1) (2 ^ sg)) j) 32)))), (r0, .inr (2, [.ref b0, .int (nI rw), .int (nI sg), .int (nI lg)])), (b0, .inl (cI, 5, .inl (fun j => nI (R j))))]) rfl rfl uX3_become_3 tyX3_ok nmX3 (by decide) fX3_become_3_6 rfl rfl rfl rfl (Nat.le_of_ble_eq_true rfl) dX3_become_57 rfl ?_
      refine zg_aload_n C 0 dX3_become_60 rfl ?_
      refine zg_aload_n C 0 dX3_become_61 rfl ?_
      refine zg_get C 0 (ci := 3) (f := 6) rfl rfl uX3_become_3 (by decide) fX3_become_3_6 dX3_become_62 rfl ?_
      refine zg_aload_n C 0 dX3_become_65 rfl ?_
      refine zg_get C 0 (ci := 3) (f := 4) rfl rfl uX3_become_3 (by decide) fX3_become_3_4 dX3_become_66 rfl ?_
      refine zn_icmp_le C 79 (by omega) (by omega) dX3_become_69 (by decide) (fun c_69 => ?_) (fun c_69 => ?_)
      · skip
        refine zg_aload_n C 0 dX3_become_79 rfl ?_
        refine zg_get C 0 (ci := 3) (f := 6) rfl rfl uX3_become_3 (by decide) fX3_become_3_6 dX3_become_80 rfl ?_
        refine zg_iconst (v := nI 1) C dX3_become_83 (by decide) ?_
        refine zg_isub C dX3_become_84 (nI ((zdm R (rw + 1) sg (2 ^ sg)) - 1)) (pk_sub (by omega)) ?_
        refine zg_iconst (v := nI 2) C dX3_become_85 (by decide) ?_
        refine zg_idiv C dX3_become_86 (by decide) (nI ((zdm R (rw + 1) sg (2 ^ sg) - 1) / 2)) (zi_div2 (by omega)) ?_
        refine zg_cv (st' := [.int (nI (zsu sg (zdm R (rw + 1) sg (2 ^ sg)))), .ref h0]) rfl (congrArg (fun q9 => ([.int (nI q9), .ref h0] : List Value)) (zsu_2 (by omega))) rfl ?_
        refine zg_put C 0 (ci := 3) (f := 7) (ws' := [(h0, .inr (3, [.ref a0, .ref a1, .ref a2, .int (nI (rw + 1)), .int (nI sg), .int (nI (zrk R (rw + 1) sg)), .int (nI (zdm R (rw + 1) sg (2 ^ sg))), .int (nI (zsu sg (zdm R (rw + 1) sg (2 ^ sg)))), .int (nI (zrad (zld R (rw + 1) (2 ^ sg)) 32))])), (a0, .inl (cI, 5, .inl (fun j => nI (R j)))), (a1, .inl (cI, 32, .inl (fun s => zo (zld R (rw + 1) (2 ^ sg) s)))), (a2, .inl (cI, 11, .inl (fun j => nI (zct (zhw (zld R (rw + 1) (2 ^ sg)) j) 32)))), (r0, .inr (2, [.ref b0, .int (nI rw), .int (nI sg), .int (nI lg)])), (b0, .inl (cI, 5, .inl (fun j => nI (R j))))]) rfl rfl uX3_become_3 tyX3_ok nmX3 (by decide) fX3_become_3_7 rfl rfl rfl rfl (Nat.le_of_ble_eq_true rfl) dX3_become_87 rfl ?_
        exact zg_wvret C E dX3_become_90 (⟨rfl, rfl⟩)
      · skip
        refine zg_aload_n C 0 dX3_become_72 rfl ?_
        refine zg_get C 0 (ci := 3) (f := 4) rfl rfl uX3_become_3 (by decide) fX3_become_3_4 dX3_become_73 rfl ?_
        refine zg_goto C 87 dX3_become_76 (by decide) ?_
        refine zg_cv (st' := [.int (nI (zsu sg (zdm R (rw + 1) sg (2 ^ sg)))), .ref h0]) rfl (congrArg (fun q9 => ([.int (nI q9), .ref h0] : List Value)) (zsu_1 c_69)) rfl ?_
        refine zg_put C 0 (ci := 3) (f := 7) (ws' := [(h0, .inr (3, [.ref a0, .ref a1, .ref a2, .int (nI (rw + 1)), .int (nI sg), .int (nI (zrk R (rw + 1) sg)), .int (nI (zdm R (rw + 1) sg (2 ^ sg))), .int (nI (zsu sg (zdm R (rw + 1) sg (2 ^ sg)))), .int (nI (zrad (zld R (rw + 1) (2 ^ sg)) 32))])), (a0, .inl (cI, 5, .inl (fun j => nI (R j)))), (a1, .inl (cI, 32, .inl (fun s => zo (zld R (rw + 1) (2 ^ sg) s)))), (a2, .inl (cI, 11, .inl (fun j => nI (zct (zhw (zld R (rw + 1) (2 ^ sg)) j) 32)))), (r0, .inr (2, [.ref b0, .int (nI rw), .int (nI sg), .int (nI lg)])), (b0, .inl (cI, 5, .inl (fun j => nI (R j))))]) rfl rfl uX3_become_3 tyX3_ok nmX3 (by decide) fX3_become_3_7 rfl rfl rfl rfl (Nat.le_of_ble_eq_true rfl) dX3_become_87 rfl ?_
        exact zg_wvret C E dX3_become_90 (⟨rfl, rfl⟩)
    · skip
      refine zg_aload_n C 0 dX3_become_27 rfl ?_
      refine zg_get C 0 (ci := 3) (f := 0) rfl rfl uX3_become_3 (by decide) fX3_become_3_0 dX3_become_28 rfl ?_
      refine zg_iload_n C 2 dX3_become_31 rfl ?_
      refine zg_aload_n C 1 dX3_become_32 rfl ?_
      refine zg_iload_n C 2 dX3_become_33 rfl ?_
      refine zg_callr (As := [.int (nI i)]) (st := [.int (nI i), .ref a0]) C [4, 5] 4 1 (c_X2_rowAt l D cI r0 b0 rw sg lg R i (by omega)) gX3_become_X2_rowAt (by decide +kernel) rfl ⟨rfl, rfl⟩ ⟨Nat.le_of_ble_eq_true rfl, Nat.le_of_ble_eq_true rfl⟩ rfl (ci := 2) rfl rfl rfl rfl (Nat.le_of_ble_eq_true rfl) ⟨Nat.le_of_ble_eq_true rfl, Nat.le_of_ble_eq_true rfl⟩ dX3_become_34 ?_
      refine zg_iast C 1 (ws' := [(h0, .inr (3, [.ref a0, .ref a1, .ref a2, .int (nI (rw + 1)), .int (nI sg), .int (nI rk), .int (nI ds), .int (nI su), .int (nI rd)])), (a0, .inl (cI, 5, .inl (upd (fun j => if j < i then nI (R j) else Rf j) i (nI (R i))))), (a1, .inl (cI, 32, .inl Lf)), (a2, .inl (cI, 11, .inl Wf)), (r0, .inr (2, [.ref b0, .int (nI rw), .int (nI sg), .int (nI lg)])), (b0, .inl (cI, 5, .inl (fun j => nI (R j))))]) rfl (by omega) (by decide) dX3_become_37 rfl ?_
      refine zg_cell 1 (ws' := [(h0, .inr (3, [.ref a0, .ref a1, .ref a2, .int (nI (rw + 1)), .int (nI sg), .int (nI rk), .int (nI ds), .int (nI su), .int (nI rd)])), (a0, .inl (cI, 5, .inl (fun j => if j < (i + 1) then nI (R j) else Rf j))), (a1, .inl (cI, 32, .inl Lf)), (a2, .inl (cI, 11, .inl Wf)), (r0, .inr (2, [.ref b0, .int (nI rw), .int (nI sg), .int (nI lg)])), (b0, .inl (cI, 5, .inl (fun j => nI (R j))))]) (fun j => if j < (i + 1) then nI (R j) else Rf j) rfl (fun j _ => zcopy (g := fun j => nI (R j)) j) rfl ?_
      refine zg_iinc C 2 [1, 2, 0] (lv' := [(0, .ref h0), (1, .ref r0), (2, .int (nI (i + 1)))]) (nI (i + 1)) dX3_become_38 rfl (zi_inc _) (by decide) rfl ?_
      refine zg_goto C 18 dX3_become_41 (by decide) ?_
      exact zg_cv (lv' := [(0, .ref h0), (1, .ref r0), (2, .int (nI (i + 1)))]) (rfl) rfl (rfl) (ih_18 (by omega) )
  exact zg_cv (lv' := [(0, .ref h0), (1, .ref r0), (2, .int (nI 0))]) (rfl) rfl (rfl) (L_18 0 (by omega) )
theorem wX0_init_0 : Cond.methodLink RX0 1 objectInit ∈ wsX0_init := by decide +kernel
theorem wX0_init_1 : Cond.instanceMethod objectInit ∈ wsX0_init := by decide +kernel
theorem wX0_init_2 : Cond.code objectInit ⟨#[0xb1]⟩ 1 none ∈ wsX0_init := by decide +kernel
theorem uX0_init_0 : ∀ w ∈ u_ws RX0 TX0 1, w ∈ wsX0_init := fun w h => List.mem_cons_of_mem _ (List.mem_append_right _ h)
theorem fX0_init_0_0 : Cond.fieldLink RX0 7 (TX0 0).1 (TX0 0).2.1 (TX0 0).2.2.1 ∈ wsX0_init := by decide +kernel
set_option maxHeartbeats 1000000 in
set_option maxRecDepth 100000 in
theorem c_X0_init (l : Launch) (D : va_G) (cI : ClassId) (d0 : Nat) (sd : Int32) : zMw l D cI yX0_init wsX0_init { frames := 1, cells := 0, slots := 0, locals := 12 } [.ref d0] [(d0, .inr (0, [.int sd]))] (fun v9 w9 => v9 = none ∧ w9 = [(d0, .inr (0, [.int (-1)]))]) 0 0 := by
  refine zw_ent (maxL := 1) (by decide) rfl (Nat.le_of_ble_eq_true rfl) (fun X C E hin9 => ?_)
  have C : zC X l D cI { frames := 1, cells := 0, slots := 0, locals := 12 } 1 true cX0_init RX0 wsX0_init := C
  refine zg_cv (lv' := [(0, .ref d0)]) rfl rfl rfl ?_
  refine zg_aload_n C 0 dX0_init_0 rfl ?_
  refine zg_objInit C wX0_init_0 wX0_init_1 wX0_init_2 dX0_init_1 (Nat.le_of_ble_eq_true rfl) (Nat.le_of_ble_eq_true rfl) ?_
  refine zg_aload_n C 0 dX0_init_4 rfl ?_
  refine zg_iconst (v := (-1)) C dX0_init_5 (by decide) ?_
  refine zg_put C 0 (ci := 0) (f := 0) (ws' := [(d0, .inr (0, [.int (-1)]))]) rfl rfl uX0_init_0 tyX0_ok nmX0 (by decide) fX0_init_0_0 rfl rfl rfl rfl (Nat.le_of_ble_eq_true rfl) dX0_init_6 rfl ?_
  exact zg_wvret C E dX0_init_9 (⟨rfl, rfl⟩)
theorem wX1_init_0 : Cond.methodLink RX1 3 objectInit ∈ wsX1_init := by decide +kernel
theorem wX1_init_1 : Cond.instanceMethod objectInit ∈ wsX1_init := by decide +kernel
theorem wX1_init_2 : Cond.code objectInit ⟨#[0xb1]⟩ 1 none ∈ wsX1_init := by decide +kernel
theorem wX1_init_3 : Cond.arrayClass .int ∈ wsX1_init := by decide +kernel
theorem uX1_init_1 : ∀ w ∈ u_ws RX1 TX1 2, w ∈ wsX1_init := fun w h => List.mem_cons_of_mem _ (List.mem_append_right _ h)
theorem fX1_init_1_0 : Cond.fieldLink RX1 9 (TX1 0).1 (TX1 0).2.1 (TX1 0).2.2.1 ∈ wsX1_init := by decide +kernel
theorem fX1_init_1_1 : Cond.fieldLink RX1 15 (TX1 1).1 (TX1 1).2.1 (TX1 1).2.2.1 ∈ wsX1_init := by decide +kernel
set_option maxHeartbeats 1000000 in
set_option maxRecDepth 100000 in
theorem c_X1_init (l : Launch) (D : va_G) (cI : ClassId) (p0 : Nat) : zMw l D cI yX1_init wsX1_init { frames := 1, cells := 1, slots := 56, locals := 12 } [.ref p0] [(p0, .inr (1, [.null, .int (nI 0)]))] (fun v9 w9 => ∃ (g0 : Nat), v9 = none ∧ w9 = [(p0, .inr (1, [.ref g0, .int (nI 0)])), (g0, .inl (cI, 56, .inl (fun _ => 0)))]) 1 56 := by
  refine zw_ent (maxL := 1) (by decide) rfl (Nat.le_of_ble_eq_true rfl) (fun X C E hin9 => ?_)
  have C : zC X l D cI { frames := 1, cells := 1, slots := 56, locals := 12 } 1 true cX1_init RX1 wsX1_init := C
  refine zg_cv (lv' := [(0, .ref p0)]) rfl rfl rfl ?_
  refine zg_aload_n C 0 dX1_init_0 rfl ?_
  refine zg_objInit C wX1_init_0 wX1_init_1 wX1_init_2 dX1_init_1 (Nat.le_of_ble_eq_true rfl) (Nat.le_of_ble_eq_true rfl) ?_
  refine zg_aload_n C 0 dX1_init_4 rfl ?_
  refine zg_bipush (v := nI 56) C dX1_init_5 (by decide) ?_
  refine zg_newarr C (by decide) wX1_init_3 (Nat.le_of_ble_eq_true rfl) (Nat.le_of_ble_eq_true rfl) dX1_init_7 (fun q7 => ?_)
  refine zg_cv (k' := 1) (n' := 56) (ws' := [(p0, .inr (1, [.null, .int (nI 0)])), (q7, .inl (cI, 56, .inl (fun _ => 0)))]) rfl rfl rfl ?_
  refine zg_putF C hin9 0 (ci := 1) (f := 0) (ws' := [(p0, .inr (1, [.ref q7, .int (nI 0)])), (q7, .inl (cI, 56, .inl (fun _ => 0)))]) rfl rfl uX1_init_1 tyX1_ok nmX1 (by decide) fX1_init_1_0 rfl rfl rfl rfl rfl (Nat.le_of_ble_eq_true rfl) dX1_init_9 rfl ?_
  refine zg_aload_n C 0 dX1_init_12 rfl ?_
  refine zg_iconst (v := nI 0) C dX1_init_13 (by decide) ?_
  refine zg_put C 0 (ci := 1) (f := 1) (ws' := [(p0, .inr (1, [.ref q7, .int (nI 0)])), (q7, .inl (cI, 56, .inl (fun _ => 0)))]) rfl rfl uX1_init_1 tyX1_ok nmX1 (by decide) fX1_init_1_1 rfl rfl rfl rfl (Nat.le_of_ble_eq_true rfl) dX1_init_14 rfl ?_
  exact zg_wvret C E dX1_init_17 (⟨_, rfl, rfl⟩)
theorem wX2_init_0 : Cond.methodLink RX2 3 objectInit ∈ wsX2_init := by decide +kernel
theorem wX2_init_1 : Cond.instanceMethod objectInit ∈ wsX2_init := by decide +kernel
theorem wX2_init_2 : Cond.code objectInit ⟨#[0xb1]⟩ 1 none ∈ wsX2_init := by decide +kernel
theorem wX2_init_3 : Cond.arrayClass .int ∈ wsX2_init := by decide +kernel
theorem uX2_init_2 : ∀ w ∈ u_ws RX2 TX2 4, w ∈ wsX2_init := fun w h => List.mem_cons_of_mem _ (List.mem_append_right _ h)
theorem fX2_init_2_0 : Cond.fieldLink RX2 9 (TX2 0).1 (TX2 0).2.1 (TX2 0).2.2.1 ∈ wsX2_init := by decide +kernel
theorem fX2_init_2_1 : Cond.fieldLink RX2 15 (TX2 1).1 (TX2 1).2.1 (TX2 1).2.2.1 ∈ wsX2_init := by decide +kernel
theorem fX2_init_2_2 : Cond.fieldLink RX2 19 (TX2 2).1 (TX2 2).2.1 (TX2 2).2.2.1 ∈ wsX2_init := by decide +kernel
theorem fX2_init_2_3 : Cond.fieldLink RX2 22 (TX2 3).1 (TX2 3).2.1 (TX2 3).2.2.1 ∈ wsX2_init := by decide +kernel
set_option maxHeartbeats 1000000 in
set_option maxRecDepth 100000 in
theorem c_X2_init (l : Launch) (D : va_G) (cI : ClassId) (r0 : Nat) : zMw l D cI yX2_init wsX2_init { frames := 1, cells := 1, slots := 5, locals := 12 } [.ref r0] [(r0, .inr (2, [.null, .int (nI 0), .int (nI 0), .int (nI 0)]))] (fun v9 w9 => ∃ (b0 : Nat), v9 = none ∧ w9 = [(r0, .inr (2, [.ref b0, .int (nI 0), .int (nI 0), .int (nI 0)])), (b0, .inl (cI, 5, .inl (fun _ => 0)))]) 1 5 := by
  refine zw_ent (maxL := 1) (by decide) rfl (Nat.le_of_ble_eq_true rfl) (fun X C E hin9 => ?_)
  have C : zC X l D cI { frames := 1, cells := 1, slots := 5, locals := 12 } 1 true cX2_init RX2 wsX2_init := C
  refine zg_cv (lv' := [(0, .ref r0)]) rfl rfl rfl ?_
  refine zg_aload_n C 0 dX2_init_0 rfl ?_
  refine zg_objInit C wX2_init_0 wX2_init_1 wX2_init_2 dX2_init_1 (Nat.le_of_ble_eq_true rfl) (Nat.le_of_ble_eq_true rfl) ?_
  refine zg_aload_n C 0 dX2_init_4 rfl ?_
  refine zg_iconst (v := nI 5) C dX2_init_5 (by decide) ?_
  refine zg_newarr C (by decide) wX2_init_3 (Nat.le_of_ble_eq_true rfl) (Nat.le_of_ble_eq_true rfl) dX2_init_6 (fun q6 => ?_)
  refine zg_cv (k' := 1) (n' := 5) (ws' := [(r0, .inr (2, [.null, .int (nI 0), .int (nI 0), .int (nI 0)])), (q6, .inl (cI, 5, .inl (fun _ => 0)))]) rfl rfl rfl ?_
  refine zg_putF C hin9 0 (ci := 2) (f := 0) (ws' := [(r0, .inr (2, [.ref q6, .int (nI 0), .int (nI 0), .int (nI 0)])), (q6, .inl (cI, 5, .inl (fun _ => 0)))]) rfl rfl uX2_init_2 tyX2_ok nmX2 (by decide) fX2_init_2_0 rfl rfl rfl rfl rfl (Nat.le_of_ble_eq_true rfl) dX2_init_8 rfl ?_
  refine zg_aload_n C 0 dX2_init_11 rfl ?_
  refine zg_iconst (v := nI 0) C dX2_init_12 (by decide) ?_
  refine zg_put C 0 (ci := 2) (f := 1) (ws' := [(r0, .inr (2, [.ref q6, .int (nI 0), .int (nI 0), .int (nI 0)])), (q6, .inl (cI, 5, .inl (fun _ => 0)))]) rfl rfl uX2_init_2 tyX2_ok nmX2 (by decide) fX2_init_2_1 rfl rfl rfl rfl (Nat.le_of_ble_eq_true rfl) dX2_init_13 rfl ?_
  refine zg_aload_n C 0 dX2_init_16 rfl ?_
  refine zg_iconst (v := nI 0) C dX2_init_17 (by decide) ?_
  refine zg_put C 0 (ci := 2) (f := 2) (ws' := [(r0, .inr (2, [.ref q6, .int (nI 0), .int (nI 0), .int (nI 0)])), (q6, .inl (cI, 5, .inl (fun _ => 0)))]) rfl rfl uX2_init_2 tyX2_ok nmX2 (by decide) fX2_init_2_2 rfl rfl rfl rfl (Nat.le_of_ble_eq_true rfl) dX2_init_18 rfl ?_
  refine zg_aload_n C 0 dX2_init_21 rfl ?_
  refine zg_iconst (v := nI 0) C dX2_init_22 (by decide) ?_
  refine zg_put C 0 (ci := 2) (f := 3) (ws' := [(r0, .inr (2, [.ref q6, .int (nI 0), .int (nI 0), .int (nI 0)])), (q6, .inl (cI, 5, .inl (fun _ => 0)))]) rfl rfl uX2_init_2 tyX2_ok nmX2 (by decide) fX2_init_2_3 rfl rfl rfl rfl (Nat.le_of_ble_eq_true rfl) dX2_init_23 rfl ?_
  exact zg_wvret C E dX2_init_26 (⟨_, rfl, rfl⟩)
theorem wX3_init_0 : Cond.methodLink RX3 3 objectInit ∈ wsX3_init := by decide +kernel
theorem wX3_init_1 : Cond.instanceMethod objectInit ∈ wsX3_init := by decide +kernel
theorem wX3_init_2 : Cond.code objectInit ⟨#[0xb1]⟩ 1 none ∈ wsX3_init := by decide +kernel
theorem wX3_init_3 : Cond.arrayClass .int ∈ wsX3_init := by decide +kernel
theorem uX3_init_3 : ∀ w ∈ u_ws RX3 TX3 9, w ∈ wsX3_init := fun w h => List.mem_cons_of_mem _ (List.mem_append_right _ h)
theorem fX3_init_3_0 : Cond.fieldLink RX3 9 (TX3 0).1 (TX3 0).2.1 (TX3 0).2.2.1 ∈ wsX3_init := by decide +kernel
theorem fX3_init_3_1 : Cond.fieldLink RX3 15 (TX3 1).1 (TX3 1).2.1 (TX3 1).2.2.1 ∈ wsX3_init := by decide +kernel
theorem fX3_init_3_2 : Cond.fieldLink RX3 18 (TX3 2).1 (TX3 2).2.1 (TX3 2).2.2.1 ∈ wsX3_init := by decide +kernel
theorem fX3_init_3_3 : Cond.fieldLink RX3 21 (TX3 3).1 (TX3 3).2.1 (TX3 3).2.2.1 ∈ wsX3_init := by decide +kernel
theorem fX3_init_3_4 : Cond.fieldLink RX3 25 (TX3 4).1 (TX3 4).2.1 (TX3 4).2.2.1 ∈ wsX3_init := by decide +kernel
theorem fX3_init_3_5 : Cond.fieldLink RX3 28 (TX3 5).1 (TX3 5).2.1 (TX3 5).2.2.1 ∈ wsX3_init := by decide +kernel
theorem fX3_init_3_6 : Cond.fieldLink RX3 31 (TX3 6).1 (TX3 6).2.1 (TX3 6).2.2.1 ∈ wsX3_init := by decide +kernel
theorem fX3_init_3_7 : Cond.fieldLink RX3 34 (TX3 7).1 (TX3 7).2.1 (TX3 7).2.2.1 ∈ wsX3_init := by decide +kernel
theorem fX3_init_3_8 : Cond.fieldLink RX3 37 (TX3 8).1 (TX3 8).2.1 (TX3 8).2.2.1 ∈ wsX3_init := by decide +kernel
set_option maxHeartbeats 1000000 in
set_option maxRecDepth 100000 in
theorem c_X3_init (l : Launch) (D : va_G) (cI : ClassId) (h0 : Nat) : zMw l D cI yX3_init wsX3_init { frames := 1, cells := 3, slots := 48, locals := 12 } [.ref h0] [(h0, .inr (3, [.null, .null, .null, .int (nI 0), .int (nI 0), .int (nI 0), .int (nI 0), .int (nI 0), .int (nI 0)]))] (fun v9 w9 => ∃ (a0 a1 a2 : Nat), v9 = none ∧ w9 = [(h0, .inr (3, [.ref a0, .ref a1, .ref a2, .int (nI 0), .int (nI 0), .int (nI 0), .int (nI 0), .int (nI 0), .int (nI 0)])), (a0, .inl (cI, 5, .inl (fun _ => 0))), (a1, .inl (cI, 32, .inl (fun _ => 0))), (a2, .inl (cI, 11, .inl (fun _ => 0)))]) 3 48 := by
  refine zw_ent (maxL := 1) (by decide) rfl (Nat.le_of_ble_eq_true rfl) (fun X C E hin9 => ?_)
  have C : zC X l D cI { frames := 1, cells := 3, slots := 48, locals := 12 } 1 true cX3_init RX3 wsX3_init := C
  refine zg_cv (lv' := [(0, .ref h0)]) rfl rfl rfl ?_
  refine zg_aload_n C 0 dX3_init_0 rfl ?_
  refine zg_objInit C wX3_init_0 wX3_init_1 wX3_init_2 dX3_init_1 (Nat.le_of_ble_eq_true rfl) (Nat.le_of_ble_eq_true rfl) ?_
  refine zg_aload_n C 0 dX3_init_4 rfl ?_
  refine zg_iconst (v := nI 5) C dX3_init_5 (by decide) ?_
  refine zg_newarr C (by decide) wX3_init_3 (Nat.le_of_ble_eq_true rfl) (Nat.le_of_ble_eq_true rfl) dX3_init_6 (fun q6 => ?_)
  refine zg_cv (k' := 1) (n' := 5) (ws' := [(h0, .inr (3, [.null, .null, .null, .int (nI 0), .int (nI 0), .int (nI 0), .int (nI 0), .int (nI 0), .int (nI 0)])), (q6, .inl (cI, 5, .inl (fun _ => 0)))]) rfl rfl rfl ?_
  refine zg_putF C hin9 0 (ci := 3) (f := 0) (ws' := [(h0, .inr (3, [.ref q6, .null, .null, .int (nI 0), .int (nI 0), .int (nI 0), .int (nI 0), .int (nI 0), .int (nI 0)])), (q6, .inl (cI, 5, .inl (fun _ => 0)))]) rfl rfl uX3_init_3 tyX3_ok nmX3 (by decide) fX3_init_3_0 rfl rfl rfl rfl rfl (Nat.le_of_ble_eq_true rfl) dX3_init_8 rfl ?_
  refine zg_aload_n C 0 dX3_init_11 rfl ?_
  refine zg_bipush (v := nI 32) C dX3_init_12 (by decide) ?_
  refine zg_newarr C (by decide) wX3_init_3 (Nat.le_of_ble_eq_true rfl) (Nat.le_of_ble_eq_true rfl) dX3_init_14 (fun q14 => ?_)
  refine zg_cv (k' := 2) (n' := 37) (ws' := [(h0, .inr (3, [.ref q6, .null, .null, .int (nI 0), .int (nI 0), .int (nI 0), .int (nI 0), .int (nI 0), .int (nI 0)])), (q6, .inl (cI, 5, .inl (fun _ => 0))), (q14, .inl (cI, 32, .inl (fun _ => 0)))]) rfl rfl rfl ?_
  refine zg_putF C hin9 0 (ci := 3) (f := 1) (ws' := [(h0, .inr (3, [.ref q6, .ref q14, .null, .int (nI 0), .int (nI 0), .int (nI 0), .int (nI 0), .int (nI 0), .int (nI 0)])), (q6, .inl (cI, 5, .inl (fun _ => 0))), (q14, .inl (cI, 32, .inl (fun _ => 0)))]) rfl rfl uX3_init_3 tyX3_ok nmX3 (by decide) fX3_init_3_1 rfl rfl rfl rfl rfl (Nat.le_of_ble_eq_true rfl) dX3_init_16 rfl ?_
  refine zg_aload_n C 0 dX3_init_19 rfl ?_
  refine zg_bipush (v := nI 11) C dX3_init_20 (by decide) ?_
  refine zg_newarr C (by decide) wX3_init_3 (Nat.le_of_ble_eq_true rfl) (Nat.le_of_ble_eq_true rfl) dX3_init_22 (fun q22 => ?_)
  refine zg_cv (k' := 3) (n' := 48) (ws' := [(h0, .inr (3, [.ref q6, .ref q14, .null, .int (nI 0), .int (nI 0), .int (nI 0), .int (nI 0), .int (nI 0), .int (nI 0)])), (q6, .inl (cI, 5, .inl (fun _ => 0))), (q14, .inl (cI, 32, .inl (fun _ => 0))), (q22, .inl (cI, 11, .inl (fun _ => 0)))]) rfl rfl rfl ?_
  refine zg_putF C hin9 0 (ci := 3) (f := 2) (ws' := [(h0, .inr (3, [.ref q6, .ref q14, .ref q22, .int (nI 0), .int (nI 0), .int (nI 0), .int (nI 0), .int (nI 0), .int (nI 0)])), (q6, .inl (cI, 5, .inl (fun _ => 0))), (q14, .inl (cI, 32, .inl (fun _ => 0))), (q22, .inl (cI, 11, .inl (fun _ => 0)))]) rfl rfl uX3_init_3 tyX3_ok nmX3 (by decide) fX3_init_3_2 rfl rfl rfl rfl rfl (Nat.le_of_ble_eq_true rfl) dX3_init_24 rfl ?_
  refine zg_aload_n C 0 dX3_init_27 rfl ?_
  refine zg_iconst (v := nI 0) C dX3_init_28 (by decide) ?_
  refine zg_put C 0 (ci := 3) (f := 3) (ws' := [(h0, .inr (3, [.ref q6, .ref q14, .ref q22, .int (nI 0), .int (nI 0), .int (nI 0), .int (nI 0), .int (nI 0), .int (nI 0)])), (q6, .inl (cI, 5, .inl (fun _ => 0))), (q14, .inl (cI, 32, .inl (fun _ => 0))), (q22, .inl (cI, 11, .inl (fun _ => 0)))]) rfl rfl uX3_init_3 tyX3_ok nmX3 (by decide) fX3_init_3_3 rfl rfl rfl rfl (Nat.le_of_ble_eq_true rfl) dX3_init_29 rfl ?_
  refine zg_aload_n C 0 dX3_init_32 rfl ?_
  refine zg_iconst (v := nI 0) C dX3_init_33 (by decide) ?_
  refine zg_put C 0 (ci := 3) (f := 4) (ws' := [(h0, .inr (3, [.ref q6, .ref q14, .ref q22, .int (nI 0), .int (nI 0), .int (nI 0), .int (nI 0), .int (nI 0), .int (nI 0)])), (q6, .inl (cI, 5, .inl (fun _ => 0))), (q14, .inl (cI, 32, .inl (fun _ => 0))), (q22, .inl (cI, 11, .inl (fun _ => 0)))]) rfl rfl uX3_init_3 tyX3_ok nmX3 (by decide) fX3_init_3_4 rfl rfl rfl rfl (Nat.le_of_ble_eq_true rfl) dX3_init_34 rfl ?_
  refine zg_aload_n C 0 dX3_init_37 rfl ?_
  refine zg_iconst (v := nI 0) C dX3_init_38 (by decide) ?_
  refine zg_put C 0 (ci := 3) (f := 5) (ws' := [(h0, .inr (3, [.ref q6, .ref q14, .ref q22, .int (nI 0), .int (nI 0), .int (nI 0), .int (nI 0), .int (nI 0), .int (nI 0)])), (q6, .inl (cI, 5, .inl (fun _ => 0))), (q14, .inl (cI, 32, .inl (fun _ => 0))), (q22, .inl (cI, 11, .inl (fun _ => 0)))]) rfl rfl uX3_init_3 tyX3_ok nmX3 (by decide) fX3_init_3_5 rfl rfl rfl rfl (Nat.le_of_ble_eq_true rfl) dX3_init_39 rfl ?_
  refine zg_aload_n C 0 dX3_init_42 rfl ?_
  refine zg_iconst (v := nI 0) C dX3_init_43 (by decide) ?_
  refine zg_put C 0 (ci := 3) (f := 6) (ws' := [(h0, .inr (3, [.ref q6, .ref q14, .ref q22, .int (nI 0), .int (nI 0), .int (nI 0), .int (nI 0), .int (nI 0), .int (nI 0)])), (q6, .inl (cI, 5, .inl (fun _ => 0))), (q14, .inl (cI, 32, .inl (fun _ => 0))), (q22, .inl (cI, 11, .inl (fun _ => 0)))]) rfl rfl uX3_init_3 tyX3_ok nmX3 (by decide) fX3_init_3_6 rfl rfl rfl rfl (Nat.le_of_ble_eq_true rfl) dX3_init_44 rfl ?_
  refine zg_aload_n C 0 dX3_init_47 rfl ?_
  refine zg_iconst (v := nI 0) C dX3_init_48 (by decide) ?_
  refine zg_put C 0 (ci := 3) (f := 7) (ws' := [(h0, .inr (3, [.ref q6, .ref q14, .ref q22, .int (nI 0), .int (nI 0), .int (nI 0), .int (nI 0), .int (nI 0), .int (nI 0)])), (q6, .inl (cI, 5, .inl (fun _ => 0))), (q14, .inl (cI, 32, .inl (fun _ => 0))), (q22, .inl (cI, 11, .inl (fun _ => 0)))]) rfl rfl uX3_init_3 tyX3_ok nmX3 (by decide) fX3_init_3_7 rfl rfl rfl rfl (Nat.le_of_ble_eq_true rfl) dX3_init_49 rfl ?_
  refine zg_aload_n C 0 dX3_init_52 rfl ?_
  refine zg_iconst (v := nI 0) C dX3_init_53 (by decide) ?_
  refine zg_put C 0 (ci := 3) (f := 8) (ws' := [(h0, .inr (3, [.ref q6, .ref q14, .ref q22, .int (nI 0), .int (nI 0), .int (nI 0), .int (nI 0), .int (nI 0), .int (nI 0)])), (q6, .inl (cI, 5, .inl (fun _ => 0))), (q14, .inl (cI, 32, .inl (fun _ => 0))), (q22, .inl (cI, 11, .inl (fun _ => 0)))]) rfl rfl uX3_init_3 tyX3_ok nmX3 (by decide) fX3_init_3_8 rfl rfl rfl rfl (Nat.le_of_ble_eq_true rfl) dX3_init_54 rfl ?_
  exact zg_wvret C E dX3_init_57 (⟨_, _, _, rfl, rfl⟩)
theorem wX4_init_0 : Cond.methodLink RX4 3 objectInit ∈ wsX4_init := by decide +kernel
theorem wX4_init_1 : Cond.instanceMethod objectInit ∈ wsX4_init := by decide +kernel
theorem wX4_init_2 : Cond.code objectInit ⟨#[0xb1]⟩ 1 none ∈ wsX4_init := by decide +kernel
theorem wX4_init_3 : Cond.arrayClass .int ∈ wsX4_init := by decide +kernel
theorem uX4_init_4 : ∀ w ∈ u_ws RX4 TX4 4, w ∈ wsX4_init := fun w h => List.mem_cons_of_mem _ (List.mem_append_right _ h)
theorem fX4_init_4_0 : Cond.fieldLink RX4 9 (TX4 0).1 (TX4 0).2.1 (TX4 0).2.2.1 ∈ wsX4_init := by decide +kernel
theorem fX4_init_4_1 : Cond.fieldLink RX4 15 (TX4 1).1 (TX4 1).2.1 (TX4 1).2.2.1 ∈ wsX4_init := by decide +kernel
theorem fX4_init_4_2 : Cond.fieldLink RX4 19 (TX4 2).1 (TX4 2).2.1 (TX4 2).2.2.1 ∈ wsX4_init := by decide +kernel
theorem fX4_init_4_3 : Cond.fieldLink RX4 22 (TX4 3).1 (TX4 3).2.1 (TX4 3).2.2.1 ∈ wsX4_init := by decide +kernel
set_option maxHeartbeats 1000000 in
set_option maxRecDepth 100000 in
theorem c_X4_init (l : Launch) (D : va_G) (cI : ClassId) (t0 : Nat) : zMw l D cI yX4_init wsX4_init { frames := 1, cells := 1, slots := 4, locals := 12 } [.ref t0] [(t0, .inr (4, [.null, .int (nI 0), .int (nI 0), .int (nI 0)]))] (fun v9 w9 => ∃ (v0 : Nat), v9 = none ∧ w9 = [(t0, .inr (4, [.ref v0, .int (nI 0), .int (nI 0), .int (nI 0)])), (v0, .inl (cI, 4, .inl (fun _ => 0)))]) 1 4 := by
  refine zw_ent (maxL := 1) (by decide) rfl (Nat.le_of_ble_eq_true rfl) (fun X C E hin9 => ?_)
  have C : zC X l D cI { frames := 1, cells := 1, slots := 4, locals := 12 } 1 true cX4_init RX4 wsX4_init := C
  refine zg_cv (lv' := [(0, .ref t0)]) rfl rfl rfl ?_
  refine zg_aload_n C 0 dX4_init_0 rfl ?_
  refine zg_objInit C wX4_init_0 wX4_init_1 wX4_init_2 dX4_init_1 (Nat.le_of_ble_eq_true rfl) (Nat.le_of_ble_eq_true rfl) ?_
  refine zg_aload_n C 0 dX4_init_4 rfl ?_
  refine zg_iconst (v := nI 4) C dX4_init_5 (by decide) ?_
  refine zg_newarr C (by decide) wX4_init_3 (Nat.le_of_ble_eq_true rfl) (Nat.le_of_ble_eq_true rfl) dX4_init_6 (fun q6 => ?_)
  refine zg_cv (k' := 1) (n' := 4) (ws' := [(t0, .inr (4, [.null, .int (nI 0), .int (nI 0), .int (nI 0)])), (q6, .inl (cI, 4, .inl (fun _ => 0)))]) rfl rfl rfl ?_
  refine zg_putF C hin9 0 (ci := 4) (f := 0) (ws' := [(t0, .inr (4, [.ref q6, .int (nI 0), .int (nI 0), .int (nI 0)])), (q6, .inl (cI, 4, .inl (fun _ => 0)))]) rfl rfl uX4_init_4 tyX4_ok nmX4 (by decide) fX4_init_4_0 rfl rfl rfl rfl rfl (Nat.le_of_ble_eq_true rfl) dX4_init_8 rfl ?_
  refine zg_aload_n C 0 dX4_init_11 rfl ?_
  refine zg_iconst (v := nI 0) C dX4_init_12 (by decide) ?_
  refine zg_put C 0 (ci := 4) (f := 1) (ws' := [(t0, .inr (4, [.ref q6, .int (nI 0), .int (nI 0), .int (nI 0)])), (q6, .inl (cI, 4, .inl (fun _ => 0)))]) rfl rfl uX4_init_4 tyX4_ok nmX4 (by decide) fX4_init_4_1 rfl rfl rfl rfl (Nat.le_of_ble_eq_true rfl) dX4_init_13 rfl ?_
  refine zg_aload_n C 0 dX4_init_16 rfl ?_
  refine zg_iconst (v := nI 0) C dX4_init_17 (by decide) ?_
  refine zg_put C 0 (ci := 4) (f := 2) (ws' := [(t0, .inr (4, [.ref q6, .int (nI 0), .int (nI 0), .int (nI 0)])), (q6, .inl (cI, 4, .inl (fun _ => 0)))]) rfl rfl uX4_init_4 tyX4_ok nmX4 (by decide) fX4_init_4_2 rfl rfl rfl rfl (Nat.le_of_ble_eq_true rfl) dX4_init_18 rfl ?_
  refine zg_aload_n C 0 dX4_init_21 rfl ?_
  refine zg_iconst (v := nI 0) C dX4_init_22 (by decide) ?_
  refine zg_put C 0 (ci := 4) (f := 3) (ws' := [(t0, .inr (4, [.ref q6, .int (nI 0), .int (nI 0), .int (nI 0)])), (q6, .inl (cI, 4, .inl (fun _ => 0)))]) rfl rfl uX4_init_4 tyX4_ok nmX4 (by decide) fX4_init_4_3 rfl rfl rfl rfl (Nat.le_of_ble_eq_true rfl) dX4_init_23 rfl ?_
  exact zg_wvret C E dX4_init_26 (⟨_, rfl, rfl⟩)
theorem wX5_init_0 : Cond.methodLink RX5 1 objectInit ∈ wsX5_init := by decide +kernel
theorem wX5_init_1 : Cond.instanceMethod objectInit ∈ wsX5_init := by decide +kernel
theorem wX5_init_2 : Cond.code objectInit ⟨#[0xb1]⟩ 1 none ∈ wsX5_init := by decide +kernel
theorem uX5_init_1 : ∀ w ∈ u_ws RX1 TX1 2, w ∈ wsX5_init := fun w h => List.mem_cons_of_mem _ (List.mem_append_left _ (List.mem_append_left _ (List.mem_append_left _ (List.mem_append_left _ (List.mem_append_left _ (List.mem_append_right _ h))))))
theorem wX5_init_3 : Cond.classLink RX5 7 RX1 ∈ wsX5_init := by decide +kernel
theorem wX5_init_4 : Cond.instantiable RX1 2 ∈ wsX5_init := by decide +kernel
theorem wX5_init_5 : Cond.initialized RX1 ∈ wsX5_init := by decide +kernel
theorem wX5_init_6 : Cond.methodLink RX5 9 yX1_init ∈ wsX5_init := by decide +kernel
theorem wX5_init_7 : Cond.instanceMethod yX1_init ∈ wsX5_init := by decide +kernel
theorem uX5_init_5 : ∀ w ∈ u_ws RX5 TX5 5, w ∈ wsX5_init := fun w h => List.mem_cons_of_mem _ (List.mem_append_left _ (List.mem_append_left _ (List.mem_append_left _ (List.mem_append_left _ (List.mem_append_right _ h)))))
theorem fX5_init_5_0 : Cond.fieldLink RX5 10 (TX5 0).1 (TX5 0).2.1 (TX5 0).2.2.1 ∈ wsX5_init := by decide +kernel
theorem uX5_init_2 : ∀ w ∈ u_ws RX2 TX2 4, w ∈ wsX5_init := fun w h => List.mem_cons_of_mem _ (List.mem_append_left _ (List.mem_append_left _ (List.mem_append_left _ (List.mem_append_right _ h))))
theorem wX5_init_8 : Cond.classLink RX5 16 RX2 ∈ wsX5_init := by decide +kernel
theorem wX5_init_9 : Cond.instantiable RX2 4 ∈ wsX5_init := by decide +kernel
theorem wX5_init_10 : Cond.initialized RX2 ∈ wsX5_init := by decide +kernel
theorem wX5_init_11 : Cond.methodLink RX5 18 yX2_init ∈ wsX5_init := by decide +kernel
theorem wX5_init_12 : Cond.instanceMethod yX2_init ∈ wsX5_init := by decide +kernel
theorem fX5_init_5_1 : Cond.fieldLink RX5 19 (TX5 1).1 (TX5 1).2.1 (TX5 1).2.2.1 ∈ wsX5_init := by decide +kernel
theorem uX5_init_3 : ∀ w ∈ u_ws RX3 TX3 9, w ∈ wsX5_init := fun w h => List.mem_cons_of_mem _ (List.mem_append_left _ (List.mem_append_left _ (List.mem_append_right _ h)))
theorem wX5_init_13 : Cond.classLink RX5 23 RX3 ∈ wsX5_init := by decide +kernel
theorem wX5_init_14 : Cond.instantiable RX3 9 ∈ wsX5_init := by decide +kernel
theorem wX5_init_15 : Cond.initialized RX3 ∈ wsX5_init := by decide +kernel
theorem wX5_init_16 : Cond.methodLink RX5 25 yX3_init ∈ wsX5_init := by decide +kernel
theorem wX5_init_17 : Cond.instanceMethod yX3_init ∈ wsX5_init := by decide +kernel
theorem fX5_init_5_2 : Cond.fieldLink RX5 26 (TX5 2).1 (TX5 2).2.1 (TX5 2).2.2.1 ∈ wsX5_init := by decide +kernel
theorem uX5_init_4 : ∀ w ∈ u_ws RX4 TX4 4, w ∈ wsX5_init := fun w h => List.mem_cons_of_mem _ (List.mem_append_left _ (List.mem_append_right _ h))
theorem wX5_init_18 : Cond.classLink RX5 30 RX4 ∈ wsX5_init := by decide +kernel
theorem wX5_init_19 : Cond.instantiable RX4 4 ∈ wsX5_init := by decide +kernel
theorem wX5_init_20 : Cond.initialized RX4 ∈ wsX5_init := by decide +kernel
theorem wX5_init_21 : Cond.methodLink RX5 32 yX4_init ∈ wsX5_init := by decide +kernel
theorem wX5_init_22 : Cond.instanceMethod yX4_init ∈ wsX5_init := by decide +kernel
theorem fX5_init_5_3 : Cond.fieldLink RX5 33 (TX5 3).1 (TX5 3).2.1 (TX5 3).2.2.1 ∈ wsX5_init := by decide +kernel
theorem uX5_init_0 : ∀ w ∈ u_ws RX0 TX0 1, w ∈ wsX5_init := fun w h => List.mem_cons_of_mem _ (List.mem_append_right _ h)
theorem wX5_init_23 : Cond.classLink RX5 37 RX0 ∈ wsX5_init := by decide +kernel
theorem wX5_init_24 : Cond.instantiable RX0 1 ∈ wsX5_init := by decide +kernel
theorem wX5_init_25 : Cond.initialized RX0 ∈ wsX5_init := by decide +kernel
theorem wX5_init_26 : Cond.methodLink RX5 39 yX0_init ∈ wsX5_init := by decide +kernel
theorem wX5_init_27 : Cond.instanceMethod yX0_init ∈ wsX5_init := by decide +kernel
theorem fX5_init_5_4 : Cond.fieldLink RX5 40 (TX5 4).1 (TX5 4).2.1 (TX5 4).2.2.1 ∈ wsX5_init := by decide +kernel
set_option maxHeartbeats 1000000 in
set_option maxRecDepth 100000 in
theorem c_X5_init (l : Launch) (D : va_G) (cI : ClassId) (c0 : Nat) : zMw l D cI yX5_init wsX5_init { frames := 2, cells := 11, slots := 133, locals := 32 } [.ref c0] [(c0, .inr (5, [.null, .null, .null, .null, .null]))] (fun v9 w9 => ∃ (p0 g0 r0 b0 h0 a0 a1 a2 t0 v0 d0 : Nat), v9 = none ∧ w9 = [(c0, .inr (5, [.ref p0, .ref r0, .ref h0, .ref t0, .ref d0])), (p0, .inr (1, [.ref g0, .int (nI 0)])), (g0, .inl (cI, 56, .inl (fun _ => 0))), (r0, .inr (2, [.ref b0, .int (nI 0), .int (nI 0), .int (nI 0)])), (b0, .inl (cI, 5, .inl (fun _ => 0))), (h0, .inr (3, [.ref a0, .ref a1, .ref a2, .int (nI 0), .int (nI 0), .int (nI 0), .int (nI 0), .int (nI 0), .int (nI 0)])), (a0, .inl (cI, 5, .inl (fun _ => 0))), (a1, .inl (cI, 32, .inl (fun _ => 0))), (a2, .inl (cI, 11, .inl (fun _ => 0))), (t0, .inr (4, [.ref v0, .int (nI 0), .int (nI 0), .int (nI 0)])), (v0, .inl (cI, 4, .inl (fun _ => 0))), (d0, .inr (0, [.int (-1)]))]) 11 133 := by
  refine zw_ent (maxL := 1) (by decide) rfl (Nat.le_of_ble_eq_true rfl) (fun X C E hin9 => ?_)
  have C : zC X l D cI { frames := 2, cells := 11, slots := 133, locals := 32 } 1 true cX5_init RX5 wsX5_init := C
  refine zg_cv (lv' := [(0, .ref c0)]) rfl rfl rfl ?_
  refine zg_aload_n C 0 dX5_init_0 rfl ?_
  refine zg_objInit C wX5_init_0 wX5_init_1 wX5_init_2 dX5_init_1 (Nat.le_of_ble_eq_true rfl) (Nat.le_of_ble_eq_true rfl) ?_
  refine zg_aload_n C 0 dX5_init_4 rfl ?_
  refine zg_new C (ci := 1) (fs := [.null, .int (nI 0)]) uX5_init_1 tyX1_ok wX5_init_3 wX5_init_4 wX5_init_5 rfl (fun j hj => by rcases (show j = 0 ∨ j = 1 by omega) with rfl | rfl <;> rfl) (Nat.le_of_ble_eq_true rfl) (Nat.le_of_ble_eq_true rfl) dX5_init_5 (fun q5 => ?_)
  refine zg_cv (k' := 1) (n' := 2) (ws' := [(c0, .inr (5, [.null, .null, .null, .null, .null])), (q5, .inr (1, [.null, .int (nI 0)]))]) rfl rfl rfl ?_
  refine zg_dup C dX5_init_8 rfl ?_
  refine zg_callI (As := []) (st := [.ref q5, .ref c0]) (wo := [(c0, .inr (5, [.null, .null, .null, .null, .null]))]) C [1] [0] 0 (c_X1_init l D cI q5 ) gX5_init_X1_init wX5_init_5 wX5_init_6 wX5_init_7 rfl (by decide +kernel) rfl ⟨rfl, rfl⟩ ⟨Nat.le_of_ble_eq_true rfl, Nat.le_of_ble_eq_true rfl⟩ rfl rfl rfl rfl (by decide) rfl rfl (Nat.le_of_ble_eq_true rfl) ⟨Nat.le_of_ble_eq_true rfl, Nat.le_of_ble_eq_true rfl⟩ dX5_init_9 (fun v9 w9 hw9 => ?_)
  obtain ⟨g0_9, rfl, rfl⟩ := hw9
  refine zg_cv (k' := 2) (n' := 58) (st' := [.ref q5, .ref c0]) (ws' := [(c0, .inr (5, [.null, .null, .null, .null, .null])), (q5, .inr (1, [.ref g0_9, .int (nI 0)])), (g0_9, .inl (cI, 56, .inl (fun _ => 0)))]) rfl rfl rfl ?_
  refine zg_putF C hin9 0 (ci := 5) (f := 0) (ws' := [(c0, .inr (5, [.ref q5, .null, .null, .null, .null])), (q5, .inr (1, [.ref g0_9, .int (nI 0)])), (g0_9, .inl (cI, 56, .inl (fun _ => 0)))]) rfl rfl uX5_init_5 tyX5_ok nmX5 (by decide) fX5_init_5_0 rfl rfl rfl rfl rfl (Nat.le_of_ble_eq_true rfl) dX5_init_12 rfl ?_
  refine zg_aload_n C 0 dX5_init_15 rfl ?_
  refine zg_new C (ci := 2) (fs := [.null, .int (nI 0), .int (nI 0), .int (nI 0)]) uX5_init_2 tyX2_ok wX5_init_8 wX5_init_9 wX5_init_10 rfl (fun j hj => by rcases (show j = 0 ∨ j = 1 ∨ j = 2 ∨ j = 3 by omega) with rfl | rfl | rfl | rfl <;> rfl) (Nat.le_of_ble_eq_true rfl) (Nat.le_of_ble_eq_true rfl) dX5_init_16 (fun q16 => ?_)
  refine zg_cv (k' := 3) (n' := 62) (ws' := [(c0, .inr (5, [.ref q5, .null, .null, .null, .null])), (q5, .inr (1, [.ref g0_9, .int (nI 0)])), (g0_9, .inl (cI, 56, .inl (fun _ => 0))), (q16, .inr (2, [.null, .int (nI 0), .int (nI 0), .int (nI 0)]))]) rfl rfl rfl ?_
  refine zg_dup C dX5_init_19 rfl ?_
  refine zg_callI (As := []) (st := [.ref q16, .ref c0]) (wo := [(c0, .inr (5, [.ref q5, .null, .null, .null, .null])), (q5, .inr (1, [.ref g0_9, .int (nI 0)])), (g0_9, .inl (cI, 56, .inl (fun _ => 0)))]) C [3] [0, 1, 2] 0 (c_X2_init l D cI q16 ) gX5_init_X2_init wX5_init_10 wX5_init_11 wX5_init_12 rfl (by decide +kernel) rfl ⟨rfl, rfl⟩ ⟨Nat.le_of_ble_eq_true rfl, Nat.le_of_ble_eq_true rfl⟩ rfl rfl rfl rfl (by decide) rfl rfl (Nat.le_of_ble_eq_true rfl) ⟨Nat.le_of_ble_eq_true rfl, Nat.le_of_ble_eq_true rfl⟩ dX5_init_20 (fun v9 w9 hw9 => ?_)
  obtain ⟨b0_20, rfl, rfl⟩ := hw9
  refine zg_cv (k' := 4) (n' := 67) (st' := [.ref q16, .ref c0]) (ws' := [(c0, .inr (5, [.ref q5, .null, .null, .null, .null])), (q5, .inr (1, [.ref g0_9, .int (nI 0)])), (g0_9, .inl (cI, 56, .inl (fun _ => 0))), (q16, .inr (2, [.ref b0_20, .int (nI 0), .int (nI 0), .int (nI 0)])), (b0_20, .inl (cI, 5, .inl (fun _ => 0)))]) rfl rfl rfl ?_
  refine zg_putF C hin9 0 (ci := 5) (f := 1) (ws' := [(c0, .inr (5, [.ref q5, .ref q16, .null, .null, .null])), (q5, .inr (1, [.ref g0_9, .int (nI 0)])), (g0_9, .inl (cI, 56, .inl (fun _ => 0))), (q16, .inr (2, [.ref b0_20, .int (nI 0), .int (nI 0), .int (nI 0)])), (b0_20, .inl (cI, 5, .inl (fun _ => 0)))]) rfl rfl uX5_init_5 tyX5_ok nmX5 (by decide) fX5_init_5_1 rfl rfl rfl rfl rfl (Nat.le_of_ble_eq_true rfl) dX5_init_23 rfl ?_
  refine zg_aload_n C 0 dX5_init_26 rfl ?_
  refine zg_new C (ci := 3) (fs := [.null, .null, .null, .int (nI 0), .int (nI 0), .int (nI 0), .int (nI 0), .int (nI 0), .int (nI 0)]) uX5_init_3 tyX3_ok wX5_init_13 wX5_init_14 wX5_init_15 rfl (fun j hj => by rcases (show j = 0 ∨ j = 1 ∨ j = 2 ∨ j = 3 ∨ j = 4 ∨ j = 5 ∨ j = 6 ∨ j = 7 ∨ j = 8 by omega) with rfl | rfl | rfl | rfl | rfl | rfl | rfl | rfl | rfl <;> rfl) (Nat.le_of_ble_eq_true rfl) (Nat.le_of_ble_eq_true rfl) dX5_init_27 (fun q27 => ?_)
  refine zg_cv (k' := 5) (n' := 76) (ws' := [(c0, .inr (5, [.ref q5, .ref q16, .null, .null, .null])), (q5, .inr (1, [.ref g0_9, .int (nI 0)])), (g0_9, .inl (cI, 56, .inl (fun _ => 0))), (q16, .inr (2, [.ref b0_20, .int (nI 0), .int (nI 0), .int (nI 0)])), (b0_20, .inl (cI, 5, .inl (fun _ => 0))), (q27, .inr (3, [.null, .null, .null, .int (nI 0), .int (nI 0), .int (nI 0), .int (nI 0), .int (nI 0), .int (nI 0)]))]) rfl rfl rfl ?_
  refine zg_dup C dX5_init_30 rfl ?_
  refine zg_callI (As := []) (st := [.ref q27, .ref c0]) (wo := [(c0, .inr (5, [.ref q5, .ref q16, .null, .null, .null])), (q5, .inr (1, [.ref g0_9, .int (nI 0)])), (g0_9, .inl (cI, 56, .inl (fun _ => 0))), (q16, .inr (2, [.ref b0_20, .int (nI 0), .int (nI 0), .int (nI 0)])), (b0_20, .inl (cI, 5, .inl (fun _ => 0)))]) C [5] [0, 1, 2, 3, 4] 0 (c_X3_init l D cI q27 ) gX5_init_X3_init wX5_init_15 wX5_init_16 wX5_init_17 rfl (by decide +kernel) rfl ⟨rfl, rfl⟩ ⟨Nat.le_of_ble_eq_true rfl, Nat.le_of_ble_eq_true rfl⟩ rfl rfl rfl rfl (by decide) rfl rfl (Nat.le_of_ble_eq_true rfl) ⟨Nat.le_of_ble_eq_true rfl, Nat.le_of_ble_eq_true rfl⟩ dX5_init_31 (fun v9 w9 hw9 => ?_)
  obtain ⟨a0_31, a1_31, a2_31, rfl, rfl⟩ := hw9
  refine zg_cv (k' := 8) (n' := 124) (st' := [.ref q27, .ref c0]) (ws' := [(c0, .inr (5, [.ref q5, .ref q16, .null, .null, .null])), (q5, .inr (1, [.ref g0_9, .int (nI 0)])), (g0_9, .inl (cI, 56, .inl (fun _ => 0))), (q16, .inr (2, [.ref b0_20, .int (nI 0), .int (nI 0), .int (nI 0)])), (b0_20, .inl (cI, 5, .inl (fun _ => 0))), (q27, .inr (3, [.ref a0_31, .ref a1_31, .ref a2_31, .int (nI 0), .int (nI 0), .int (nI 0), .int (nI 0), .int (nI 0), .int (nI 0)])), (a0_31, .inl (cI, 5, .inl (fun _ => 0))), (a1_31, .inl (cI, 32, .inl (fun _ => 0))), (a2_31, .inl (cI, 11, .inl (fun _ => 0)))]) rfl rfl rfl ?_
  refine zg_putF C hin9 0 (ci := 5) (f := 2) (ws' := [(c0, .inr (5, [.ref q5, .ref q16, .ref q27, .null, .null])), (q5, .inr (1, [.ref g0_9, .int (nI 0)])), (g0_9, .inl (cI, 56, .inl (fun _ => 0))), (q16, .inr (2, [.ref b0_20, .int (nI 0), .int (nI 0), .int (nI 0)])), (b0_20, .inl (cI, 5, .inl (fun _ => 0))), (q27, .inr (3, [.ref a0_31, .ref a1_31, .ref a2_31, .int (nI 0), .int (nI 0), .int (nI 0), .int (nI 0), .int (nI 0), .int (nI 0)])), (a0_31, .inl (cI, 5, .inl (fun _ => 0))), (a1_31, .inl (cI, 32, .inl (fun _ => 0))), (a2_31, .inl (cI, 11, .inl (fun _ => 0)))]) rfl rfl uX5_init_5 tyX5_ok nmX5 (by decide) fX5_init_5_2 rfl rfl rfl rfl rfl (Nat.le_of_ble_eq_true rfl) dX5_init_34 rfl ?_
  refine zg_aload_n C 0 dX5_init_37 rfl ?_
  refine zg_new C (ci := 4) (fs := [.null, .int (nI 0), .int (nI 0), .int (nI 0)]) uX5_init_4 tyX4_ok wX5_init_18 wX5_init_19 wX5_init_20 rfl (fun j hj => by rcases (show j = 0 ∨ j = 1 ∨ j = 2 ∨ j = 3 by omega) with rfl | rfl | rfl | rfl <;> rfl) (Nat.le_of_ble_eq_true rfl) (Nat.le_of_ble_eq_true rfl) dX5_init_38 (fun q38 => ?_)
  refine zg_cv (k' := 9) (n' := 128) (ws' := [(c0, .inr (5, [.ref q5, .ref q16, .ref q27, .null, .null])), (q5, .inr (1, [.ref g0_9, .int (nI 0)])), (g0_9, .inl (cI, 56, .inl (fun _ => 0))), (q16, .inr (2, [.ref b0_20, .int (nI 0), .int (nI 0), .int (nI 0)])), (b0_20, .inl (cI, 5, .inl (fun _ => 0))), (q27, .inr (3, [.ref a0_31, .ref a1_31, .ref a2_31, .int (nI 0), .int (nI 0), .int (nI 0), .int (nI 0), .int (nI 0), .int (nI 0)])), (a0_31, .inl (cI, 5, .inl (fun _ => 0))), (a1_31, .inl (cI, 32, .inl (fun _ => 0))), (a2_31, .inl (cI, 11, .inl (fun _ => 0))), (q38, .inr (4, [.null, .int (nI 0), .int (nI 0), .int (nI 0)]))]) rfl rfl rfl ?_
  refine zg_dup C dX5_init_41 rfl ?_
  refine zg_callI (As := []) (st := [.ref q38, .ref c0]) (wo := [(c0, .inr (5, [.ref q5, .ref q16, .ref q27, .null, .null])), (q5, .inr (1, [.ref g0_9, .int (nI 0)])), (g0_9, .inl (cI, 56, .inl (fun _ => 0))), (q16, .inr (2, [.ref b0_20, .int (nI 0), .int (nI 0), .int (nI 0)])), (b0_20, .inl (cI, 5, .inl (fun _ => 0))), (q27, .inr (3, [.ref a0_31, .ref a1_31, .ref a2_31, .int (nI 0), .int (nI 0), .int (nI 0), .int (nI 0), .int (nI 0), .int (nI 0)])), (a0_31, .inl (cI, 5, .inl (fun _ => 0))), (a1_31, .inl (cI, 32, .inl (fun _ => 0))), (a2_31, .inl (cI, 11, .inl (fun _ => 0)))]) C [9] [0, 1, 2, 3, 4, 5, 6, 7, 8] 0 (c_X4_init l D cI q38 ) gX5_init_X4_init wX5_init_20 wX5_init_21 wX5_init_22 rfl (by decide +kernel) rfl ⟨rfl, rfl⟩ ⟨Nat.le_of_ble_eq_true rfl, Nat.le_of_ble_eq_true rfl⟩ rfl rfl rfl rfl (by decide) rfl rfl (Nat.le_of_ble_eq_true rfl) ⟨Nat.le_of_ble_eq_true rfl, Nat.le_of_ble_eq_true rfl⟩ dX5_init_42 (fun v9 w9 hw9 => ?_)
  obtain ⟨v0_42, rfl, rfl⟩ := hw9
  refine zg_cv (k' := 10) (n' := 132) (st' := [.ref q38, .ref c0]) (ws' := [(c0, .inr (5, [.ref q5, .ref q16, .ref q27, .null, .null])), (q5, .inr (1, [.ref g0_9, .int (nI 0)])), (g0_9, .inl (cI, 56, .inl (fun _ => 0))), (q16, .inr (2, [.ref b0_20, .int (nI 0), .int (nI 0), .int (nI 0)])), (b0_20, .inl (cI, 5, .inl (fun _ => 0))), (q27, .inr (3, [.ref a0_31, .ref a1_31, .ref a2_31, .int (nI 0), .int (nI 0), .int (nI 0), .int (nI 0), .int (nI 0), .int (nI 0)])), (a0_31, .inl (cI, 5, .inl (fun _ => 0))), (a1_31, .inl (cI, 32, .inl (fun _ => 0))), (a2_31, .inl (cI, 11, .inl (fun _ => 0))), (q38, .inr (4, [.ref v0_42, .int (nI 0), .int (nI 0), .int (nI 0)])), (v0_42, .inl (cI, 4, .inl (fun _ => 0)))]) rfl rfl rfl ?_
  refine zg_putF C hin9 0 (ci := 5) (f := 3) (ws' := [(c0, .inr (5, [.ref q5, .ref q16, .ref q27, .ref q38, .null])), (q5, .inr (1, [.ref g0_9, .int (nI 0)])), (g0_9, .inl (cI, 56, .inl (fun _ => 0))), (q16, .inr (2, [.ref b0_20, .int (nI 0), .int (nI 0), .int (nI 0)])), (b0_20, .inl (cI, 5, .inl (fun _ => 0))), (q27, .inr (3, [.ref a0_31, .ref a1_31, .ref a2_31, .int (nI 0), .int (nI 0), .int (nI 0), .int (nI 0), .int (nI 0), .int (nI 0)])), (a0_31, .inl (cI, 5, .inl (fun _ => 0))), (a1_31, .inl (cI, 32, .inl (fun _ => 0))), (a2_31, .inl (cI, 11, .inl (fun _ => 0))), (q38, .inr (4, [.ref v0_42, .int (nI 0), .int (nI 0), .int (nI 0)])), (v0_42, .inl (cI, 4, .inl (fun _ => 0)))]) rfl rfl uX5_init_5 tyX5_ok nmX5 (by decide) fX5_init_5_3 rfl rfl rfl rfl rfl (Nat.le_of_ble_eq_true rfl) dX5_init_45 rfl ?_
  refine zg_aload_n C 0 dX5_init_48 rfl ?_
  refine zg_new C (ci := 0) (fs := [.int (nI 0)]) uX5_init_0 tyX0_ok wX5_init_23 wX5_init_24 wX5_init_25 rfl (fun j hj => by rcases (show j = 0 by omega) with rfl <;> rfl) (Nat.le_of_ble_eq_true rfl) (Nat.le_of_ble_eq_true rfl) dX5_init_49 (fun q49 => ?_)
  refine zg_cv (k' := 11) (n' := 133) (ws' := [(c0, .inr (5, [.ref q5, .ref q16, .ref q27, .ref q38, .null])), (q5, .inr (1, [.ref g0_9, .int (nI 0)])), (g0_9, .inl (cI, 56, .inl (fun _ => 0))), (q16, .inr (2, [.ref b0_20, .int (nI 0), .int (nI 0), .int (nI 0)])), (b0_20, .inl (cI, 5, .inl (fun _ => 0))), (q27, .inr (3, [.ref a0_31, .ref a1_31, .ref a2_31, .int (nI 0), .int (nI 0), .int (nI 0), .int (nI 0), .int (nI 0), .int (nI 0)])), (a0_31, .inl (cI, 5, .inl (fun _ => 0))), (a1_31, .inl (cI, 32, .inl (fun _ => 0))), (a2_31, .inl (cI, 11, .inl (fun _ => 0))), (q38, .inr (4, [.ref v0_42, .int (nI 0), .int (nI 0), .int (nI 0)])), (v0_42, .inl (cI, 4, .inl (fun _ => 0))), (q49, .inr (0, [.int (nI 0)]))]) rfl rfl rfl ?_
  refine zg_dup C dX5_init_52 rfl ?_
  refine zg_callI (As := []) (st := [.ref q49, .ref c0]) (wo := [(c0, .inr (5, [.ref q5, .ref q16, .ref q27, .ref q38, .null])), (q5, .inr (1, [.ref g0_9, .int (nI 0)])), (g0_9, .inl (cI, 56, .inl (fun _ => 0))), (q16, .inr (2, [.ref b0_20, .int (nI 0), .int (nI 0), .int (nI 0)])), (b0_20, .inl (cI, 5, .inl (fun _ => 0))), (q27, .inr (3, [.ref a0_31, .ref a1_31, .ref a2_31, .int (nI 0), .int (nI 0), .int (nI 0), .int (nI 0), .int (nI 0), .int (nI 0)])), (a0_31, .inl (cI, 5, .inl (fun _ => 0))), (a1_31, .inl (cI, 32, .inl (fun _ => 0))), (a2_31, .inl (cI, 11, .inl (fun _ => 0))), (q38, .inr (4, [.ref v0_42, .int (nI 0), .int (nI 0), .int (nI 0)])), (v0_42, .inl (cI, 4, .inl (fun _ => 0)))]) C [11] [0, 1, 2, 3, 4, 5, 6, 7, 8, 9, 10] 0 (c_X0_init l D cI q49 (nI 0) ) gX5_init_X0_init wX5_init_25 wX5_init_26 wX5_init_27 rfl (by decide +kernel) rfl ⟨rfl, rfl⟩ ⟨Nat.le_of_ble_eq_true rfl, Nat.le_of_ble_eq_true rfl⟩ rfl rfl rfl rfl (by decide) rfl rfl (Nat.le_of_ble_eq_true rfl) ⟨Nat.le_of_ble_eq_true rfl, Nat.le_of_ble_eq_true rfl⟩ dX5_init_53 (fun v9 w9 hw9 => ?_)
  obtain ⟨rfl, rfl⟩ := hw9
  refine zg_cv (k' := 11) (n' := 133) (st' := [.ref q49, .ref c0]) (ws' := [(c0, .inr (5, [.ref q5, .ref q16, .ref q27, .ref q38, .null])), (q5, .inr (1, [.ref g0_9, .int (nI 0)])), (g0_9, .inl (cI, 56, .inl (fun _ => 0))), (q16, .inr (2, [.ref b0_20, .int (nI 0), .int (nI 0), .int (nI 0)])), (b0_20, .inl (cI, 5, .inl (fun _ => 0))), (q27, .inr (3, [.ref a0_31, .ref a1_31, .ref a2_31, .int (nI 0), .int (nI 0), .int (nI 0), .int (nI 0), .int (nI 0), .int (nI 0)])), (a0_31, .inl (cI, 5, .inl (fun _ => 0))), (a1_31, .inl (cI, 32, .inl (fun _ => 0))), (a2_31, .inl (cI, 11, .inl (fun _ => 0))), (q38, .inr (4, [.ref v0_42, .int (nI 0), .int (nI 0), .int (nI 0)])), (v0_42, .inl (cI, 4, .inl (fun _ => 0))), (q49, .inr (0, [.int (-1)]))]) rfl rfl rfl ?_
  refine zg_putF C hin9 0 (ci := 5) (f := 4) (ws' := [(c0, .inr (5, [.ref q5, .ref q16, .ref q27, .ref q38, .ref q49])), (q5, .inr (1, [.ref g0_9, .int (nI 0)])), (g0_9, .inl (cI, 56, .inl (fun _ => 0))), (q16, .inr (2, [.ref b0_20, .int (nI 0), .int (nI 0), .int (nI 0)])), (b0_20, .inl (cI, 5, .inl (fun _ => 0))), (q27, .inr (3, [.ref a0_31, .ref a1_31, .ref a2_31, .int (nI 0), .int (nI 0), .int (nI 0), .int (nI 0), .int (nI 0), .int (nI 0)])), (a0_31, .inl (cI, 5, .inl (fun _ => 0))), (a1_31, .inl (cI, 32, .inl (fun _ => 0))), (a2_31, .inl (cI, 11, .inl (fun _ => 0))), (q38, .inr (4, [.ref v0_42, .int (nI 0), .int (nI 0), .int (nI 0)])), (v0_42, .inl (cI, 4, .inl (fun _ => 0))), (q49, .inr (0, [.int (-1)]))]) rfl rfl uX5_init_5 tyX5_ok nmX5 (by decide) fX5_init_5_4 rfl rfl rfl rfl rfl (Nat.le_of_ble_eq_true rfl) dX5_init_56 rfl ?_
  exact zg_wvret C E dX5_init_59 (⟨_, _, _, _, _, _, _, _, _, _, _, rfl, rfl⟩)
end
section
/-! last: kept small -/
theorem zz_last : True := trivial
end
