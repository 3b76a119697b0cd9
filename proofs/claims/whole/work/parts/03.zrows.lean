/-! THE JUDGEMENT zG: one method's run, with all that never changes in it held by one variable X; what changes are the listed locals, the stack, the world (a list of cells) and the place in the code. Its rows stand on the kit's. -/
abbrev zX : Type := (Program × Launch × Env × Room × State × MethodId × Array Value × List Frame) × (Method × Code × (State → Prop) × va_G × (Nat → Prop) × Nat × Bool)
abbrev zx_p (X : zX) : Program := X.1.1
abbrev zx_l (X : zX) : Launch := X.1.2.1
abbrev zx_e (X : zX) : Env := X.1.2.2.1
abbrev zx_R (X : zX) : Room := X.1.2.2.2.1
abbrev zx_s (X : zX) : State := X.1.2.2.2.2.1
abbrev zx_m (X : zX) : MethodId := X.1.2.2.2.2.2.1
abbrev zx_a (X : zX) : Array Value := X.1.2.2.2.2.2.2.1
abbrev zx_b (X : zX) : List Frame := X.1.2.2.2.2.2.2.2
abbrev zx_h (X : zX) : Method := X.2.1
abbrev zx_c (X : zX) : Code := X.2.2.1
abbrev zx_Q (X : zX) : State → Prop := X.2.2.2.1
abbrev zx_D (X : zX) : va_G := X.2.2.2.2.1
abbrev zx_A (X : zX) : Nat → Prop := X.2.2.2.2.2.1
abbrev zx_n (X : zX) : Nat := X.2.2.2.2.2.2.1
abbrev zx_w (X : zX) : Bool := X.2.2.2.2.2.2.2
/-- the heap holds the world; a method that writes: its cells are apart and its own, nothing else has changed; one that reads: nothing has changed -/
def zJ (X : zX) (ws : va_W) (H : Heap) (locs : List Loc) : Prop := va_P (zx_D X) vwCl ws H ∧ (zx_w X = true → va_D (zx_A X) ws ∧ va_S (zx_A X) (zx_s X).heap H locs) ∧ (zx_w X = false → H = (zx_s X).heap ∧ locs = [])
def zG (X : zX) (k n : Nat) (lv : List (Nat × Value)) (st : List Value) (ws : va_W) (pc : Nat) : Prop :=
  ∀ (H : Heap) (locs : List Loc) (ls : Array Slot), zJ X ws H locs → lv_has ls (zx_n X) lv → W (zx_p X) (zx_l X) (zx_e X) (zx_R X) (zx_s X) (zx_m X) (zx_a X) (zx_b X) (zx_h X) (zx_c X) H locs k n (zx_Q X) (F0 (zx_m X) pc ls st)
/-- what a method's run rests on -/
def zC (X : zX) (l : Launch) (D : va_G) (cI : ClassId) (R : Room) (nL : Nat) (wr : Bool) (cc : ByteArray) (own : String) (Ts : List Cond) : Prop :=
  (zx_p X).tables.exec = Jvm.exec ∧ (zx_c X).code = cc ∧ (zx_c X).maxLocals = nL ∧ (zx_s X).vm.findClass own = some (zx_m X).cls ∧ (∀ w ∈ Ts, w.before (zx_a X) (zx_s X) = true) ∧ va_K (zx_D X) vwCl [(cI, .int)] (zx_s X) ∧ (∀ q, (zx_s X).heap.size ≤ q → zx_A X q) ∧ zx_R X = R ∧ zx_n X = nL ∧ zx_w X = wr ∧ zx_l X = l ∧ zx_D X = D
/-- contracts: of a method that only reads (its answer an int, a long); of one that writes (its answer and the world behind it) -/
def zMr (l : Launch) (D : va_G) (cI : ClassId) (y : MethodName) (wy : List Cond) (rm : Room) (av : List Value) (ws : va_W) (v : Int32) : Prop :=
  Met l y wy rm (va_Pc av (fun U => va_P D vwCl ws U.heap ∧ va_K D vwCl [(cI, .int)] U)) (vp_Si (fun r => r = v)) 0 0 (fun _ => False)
def zMl (l : Launch) (D : va_G) (cI : ClassId) (y : MethodName) (wy : List Cond) (rm : Room) (av : List Value) (ws : va_W) (v : Int64) : Prop :=
  Met l y wy rm (va_Pc av (fun U => va_P D vwCl ws U.heap ∧ va_K D vwCl [(cI, .int)] U)) (vp_Sl (fun r => r = v)) 0 0 (fun _ => False)
def zQw (D : va_G) (Post : Option Value → va_W → Prop) (A : Nat → Prop) : Array Value → State → Outcome → State → Prop := fun _ st oc t => (∃ (v : Option Value) (w1 : va_W), oc = .returned v ∧ Post v w1 ∧ va_P D vwCl w1 t.heap ∧ va_D A w1) ∧ va_F A st t
def zMw (l : Launch) (D : va_G) (cI : ClassId) (y : MethodName) (wy : List Cond) (rm : Room) (av : List Value) (ws : va_W) (Post : Option Value → va_W → Prop) (mc ms : Nat) : Prop :=
  ∀ sz : Nat, Met l y wy rm (va_Pc av (fun U => U.heap.size = sz ∧ va_P D vwCl ws U.heap ∧ va_K D vwCl [(cI, .int)] U ∧ va_D (fun _ => True) ws)) (zQw D Post (va_A ws sz)) mc ms (va_A ws sz)
/-- what a method's end owes -/
def zEi (X : zX) (ret : FieldType) (v : Int32) : Prop := (zx_h X).sig.returnType = some ret ∧ (zx_h X).locks = false ∧ zx_w X = false ∧ zx_Q X = MQ (zx_b X) (vp_Si (fun r => r = v)) (zx_a X) (zx_s X) 0 0 (fun _ => False)
def zEl (X : zX) (v : Int64) : Prop := (zx_h X).sig.returnType = some .long ∧ (zx_h X).locks = false ∧ zx_w X = false ∧ zx_Q X = MQ (zx_b X) (vp_Sl (fun r => r = v)) (zx_a X) (zx_s X) 0 0 (fun _ => False)
def zEw (X : zX) (D : va_G) (ret : Option FieldType) (Post : Option Value → va_W → Prop) (mc ms : Nat) : Prop := (zx_h X).sig.returnType = ret ∧ (zx_h X).locks = false ∧ zx_w X = true ∧ zx_D X = D ∧ zx_Q X = MQ (zx_b X) (zQw D Post (zx_A X)) (zx_a X) (zx_s X) mc ms (zx_A X)
/-- entries -/
theorem zr_ent {l : Launch} {D : va_G} {cI : ClassId} {y : MethodName} {wy ws' : List Cond} {rm : Room} {av : List Value} {ws : va_W} {v : Int32} {cc : ByteArray} {maxL : Nat} {ret : FieldType} (hy : plainName y.cls = true) (hw : wy = Cond.code y cc maxL (some ret) :: ws') (hl : (lg_sl av).length ≤ maxL)
    (body : ∀ X : zX, zC X l D cI rm maxL false cc y.cls wy → zEi X ret v → zG X 0 0 (lv_args 0 av) [] ws 0) : zMr l D cI y wy rm av ws v := by
  refine Met.ofW (cc := cc) (maxL := maxL) (ret := some ret) hy hw ?_
  intro p e s m args below meth c s₁ B hml hv
  obtain ⟨rfl, hP, hK⟩ := hv
  have hts := atoms_spec (ws := wy) B.pre
  have hown : s.vm.findClass y.cls = some m.cls := findClass_of_methodNamed B.named
  rw [lg_entry_eq]
  exact body ((p, l, e, rm, s, m, av.toArray, below), (meth, c, MQ below (vp_Si (fun r => r = v)) av.toArray s 0 0 (fun _ => False), D, (fun _ => True), maxL, false)) ⟨B.exec, B.bytes, hml, hown, hts, hK, fun _ _ => trivial, rfl, rfl, rfl, rfl, rfl⟩ ⟨B.returns, B.notSynchronized, rfl, rfl⟩ s.heap [] _ ⟨hP, (fun h => absurd (show false = true from h) (by decide)), fun _ => ⟨rfl, rfl⟩⟩ (lv_entry av (n := maxL) hl)
theorem zl_ent {l : Launch} {D : va_G} {cI : ClassId} {y : MethodName} {wy ws' : List Cond} {rm : Room} {av : List Value} {ws : va_W} {v : Int64} {cc : ByteArray} {maxL : Nat} (hy : plainName y.cls = true) (hw : wy = Cond.code y cc maxL (some .long) :: ws') (hl : (lg_sl av).length ≤ maxL)
    (body : ∀ X : zX, zC X l D cI rm maxL false cc y.cls wy → zEl X v → zG X 0 0 (lv_args 0 av) [] ws 0) : zMl l D cI y wy rm av ws v := by
  refine Met.ofW (cc := cc) (maxL := maxL) (ret := some .long) hy hw ?_
  intro p e s m args below meth c s₁ B hml hv
  obtain ⟨rfl, hP, hK⟩ := hv
  have hts := atoms_spec (ws := wy) B.pre
  have hown : s.vm.findClass y.cls = some m.cls := findClass_of_methodNamed B.named
  rw [lg_entry_eq]
  exact body ((p, l, e, rm, s, m, av.toArray, below), (meth, c, MQ below (vp_Sl (fun r => r = v)) av.toArray s 0 0 (fun _ => False), D, (fun _ => True), maxL, false)) ⟨B.exec, B.bytes, hml, hown, hts, hK, fun _ _ => trivial, rfl, rfl, rfl, rfl, rfl⟩ ⟨B.returns, B.notSynchronized, rfl, rfl⟩ s.heap [] _ ⟨hP, (fun h => absurd (show false = true from h) (by decide)), fun _ => ⟨rfl, rfl⟩⟩ (lv_entry av (n := maxL) hl)
theorem zw_ent {l : Launch} {D : va_G} {cI : ClassId} {y : MethodName} {wy ws' : List Cond} {rm : Room} {av : List Value} {ws : va_W} {Post : Option Value → va_W → Prop} {mc ms : Nat} {cc : ByteArray} {maxL : Nat} {ret : Option FieldType} (hy : plainName y.cls = true) (hw : wy = Cond.code y cc maxL ret :: ws') (hl : (lg_sl av).length ≤ maxL)
    (body : ∀ X : zX, zC X l D cI rm maxL true cc y.cls wy → zEw X D ret Post mc ms → (zx_h X).name = y.name → zG X 0 0 (lv_args 0 av) [] ws 0) : zMw l D cI y wy rm av ws Post mc ms := by
  intro sz
  refine Met.ofW (cc := cc) (maxL := maxL) (ret := ret) hy hw ?_
  intro p e s m args below meth c s₁ B hml hv
  obtain ⟨rfl, hsz, hP, hK, hD0⟩ := hv
  have hts := atoms_spec (ws := wy) B.pre
  have hown : s.vm.findClass y.cls = some m.cls := findClass_of_methodNamed B.named
  have hin : meth.name = y.name := (name_of_methodNamed B.named B.method).1
  subst hsz
  have hD := hD0.self (sz := s.heap.size)
  rw [lg_entry_eq]
  exact body ((p, l, e, rm, s, m, av.toArray, below), (meth, c, MQ below (zQw D Post (va_A ws s.heap.size)) av.toArray s mc ms (va_A ws s.heap.size), D, va_A ws s.heap.size, maxL, true)) ⟨B.exec, B.bytes, hml, hown, hts, hK, fun q h => Or.inr h, rfl, rfl, rfl, rfl, rfl⟩ ⟨B.returns, B.notSynchronized, rfl, rfl, rfl⟩ hin s.heap [] _ ⟨hP, fun _ => ⟨hD, va_S.rf⟩, (fun h => absurd (show true = false from h) (by decide))⟩ (lv_entry av (n := maxL) hl)
section ZG
variable {X : zX} {l : Launch} {D : va_G} {cI : ClassId} {R : Room} {nL : Nat} {wr : Bool} {cc : ByteArray} {own : String} {Ts : List Cond} {k n : Nat} {lv lv' : List (Nat × Value)} {st st' : List Value} {ws ws' : va_W} {pc : Nat}
/-- the same, otherwise written -/
theorem zg_cv {k' n' : Nat} (e1 : lv = lv') (e2 : st = st') (e3 : ws = ws') (h : zG X k' n' lv' st' ws' pc) (e4 : k = k' := by rfl) (e5 : n = n' := by rfl) : zG X k n lv st ws pc := by
  subst e1; subst e2; subst e3; subst e4; subst e5; exact h
/-- fewer locals, by their places -/
theorem zg_lv (ks : List Nat) (e : lv_pick lv ks = lv') (h : zG X k n lv' st ws pc) : zG X k n lv st ws pc := fun H locs ls j hl => h H locs ls j (lv_sub hl ks e)
/-- room rounded up -/
theorem zg_widen {k' n' : Nat} (h1 : k ≤ k') (h2 : n ≤ n') (h : zG X k' n' lv st ws pc) : zG X k n lv st ws pc := fun H locs ls j hl => W.widen h1 h2 (h H locs ls j hl)
/-- a world's cells in another order, or fewer -/
theorem zg_perm (is : List Nat) (hn : va_nd is = true) (hs : is.map (fun i => ws[i]?) = ws'.map some) (h : zG X k n lv st ws' pc) : zG X k n lv st ws pc := fun H locs ls j hl => h H locs ls ⟨j.1.sub is (by
    have h1 : is.filterMap (fun i => ws[i]?) = (is.map (fun i => ws[i]?)).filterMap id := by rw [List.filterMap_map]; rfl
    rw [h1, hs, List.filterMap_map]; simp), fun q => ⟨(j.2.1 q).1.sub is hn hs, (j.2.1 q).2⟩, j.2.2⟩ hl
/-- an array's contents, where they count -/
theorem zj_cell {q0 a cA N : Nat} {f g : Nat → Int32} (he : ws[q0]? = some (a, .inl (cA, N, .inl f))) (hfg : ∀ i, i < N → f i = g i) {H : Heap} {locs : List Loc} (j : zJ X ws H locs) : zJ X (ws.set q0 (a, .inl (cA, N, .inl g))) H locs := by
  have hc : vp_cell cA (N, .inl f) = vp_cell cA (N, .inl g) := by
    rw [vp_cell_i, vp_cell_i]
    simp only [arrV]
    congr 2
    funext i
    rw [hfg i.1 i.2]
  have hl : q0 < ws.length := (List.getElem?_eq_some_iff.mp he).1
  refine ⟨fun i q hi => ?_, fun q => ⟨(j.2.1 q).1.set he, (j.2.1 q).2⟩, j.2.2⟩
  by_cases h : i = q0
  · subst h
    rw [List.getElem?_set_self hl] at hi
    cases hi
    have := j.1 i _ he
    show H[a]? = some (vp_cell cA (N, .inl g))
    rw [← hc]; exact this
  · rw [List.getElem?_set_ne (Ne.symm h)] at hi
    exact j.1 i q hi
theorem zg_cell (q0 : Nat) {a cA N : Nat} {f : Nat → Int32} (g : Nat → Int32) (he : ws[q0]? = some (a, .inl (cA, N, .inl f))) (hfg : ∀ i, i < N → f i = g i) (hs : ws.set q0 (a, .inl (cA, N, .inl g)) = ws') (h : zG X k n lv st ws' pc) : zG X k n lv st ws pc := by
  subst hs
  exact fun H locs ls j hl => h H locs ls (zj_cell he hfg j) hl
theorem zg_iconst (C : zC X l D cI R nL wr cc own Ts) {i : Int} {v : Int32} (d : decode cc pc = .ok (.iconst i, 1)) (hv : Int32.ofInt i = v) (h : zG X k n lv (.int v :: st) ws (pc + 1)) : zG X k n lv (st) ws pc := fun H locs ls j hl => lv_iconst C.1 C.2.1 d hv (h H locs ls j hl)
theorem zg_bipush (C : zC X l D cI R nL wr cc own Ts) {i : Int} {v : Int32} (d : decode cc pc = .ok (.bipush i, 2)) (hv : (Int8.ofInt i).toInt32 = v) (h : zG X k n lv (.int v :: st) ws (pc + 2)) : zG X k n lv (st) ws pc := fun H locs ls j hl => lv_bipush C.1 C.2.1 d hv (h H locs ls j hl)
theorem zg_sipush (C : zC X l D cI R nL wr cc own Ts) {i : Int} {v : Int32} (d : decode cc pc = .ok (.sipush i, 3)) (hv : (Int16.ofInt i).toInt32 = v) (h : zG X k n lv (.int v :: st) ws (pc + 3)) : zG X k n lv (st) ws pc := fun H locs ls j hl => lv_sipush C.1 C.2.1 d hv (h H locs ls j hl)
theorem zg_ldcw (C : zC X l D cI R nL wr cc own Ts) {i : Nat} {v : Int32} (d : decode cc pc = .ok (.ldc_w i, 3)) (hw : Cond.constant own i v ∈ Ts) (h : zG X k n lv (.int v :: st) ws (pc + 3)) : zG X k n lv (st) ws pc := fun H locs ls j hl => lv_ldcw C.1 C.2.1 C.2.2.2.1 (C.2.2.2.2.1 _ hw) d (h H locs ls j hl)
theorem zg_ldc2 (C : zC X l D cI R nL wr cc own Ts) {i : Nat} {v : Int64} (d : decode cc pc = .ok (.ldc2_w i, 3)) (hw : Cond.constantLong own i v ∈ Ts) (h : zG X k n lv (.long v :: st) ws (pc + 3)) : zG X k n lv (st) ws pc := fun H locs ls j hl => lv_ldc2 C.1 C.2.1 C.2.2.2.1 (C.2.2.2.2.1 _ hw) d (h H locs ls j hl)
theorem zg_iload_n (C : zC X l D cI R nL wr cc own Ts) (q : Nat) {i : Fin 4} {x : Int32} (d : decode cc pc = .ok (.iload_n i, 1)) (e : lv[q]? = some ((i : Nat), .int x)) (h : zG X k n lv (.int x :: st) ws (pc + 1)) : zG X k n lv (st) ws pc := fun H locs ls j hl => lv_iload_n C.1 C.2.1 d rfl (lv_at hl q e) (h H locs ls j hl)
theorem zg_iload (C : zC X l D cI R nL wr cc own Ts) (q : Nat) {i : Nat} {x : Int32} (d : decode cc pc = .ok (.iload i, 2)) (e : lv[q]? = some (i, .int x)) (h : zG X k n lv (.int x :: st) ws (pc + 2)) : zG X k n lv (st) ws pc := fun H locs ls j hl => lv_iload C.1 C.2.1 d (lv_at hl q e) (h H locs ls j hl)
theorem zg_aload_n (C : zC X l D cI R nL wr cc own Ts) (q : Nat) {i : Fin 4} {x : Nat} (d : decode cc pc = .ok (.aload_n i, 1)) (e : lv[q]? = some ((i : Nat), .ref x)) (h : zG X k n lv (.ref x :: st) ws (pc + 1)) : zG X k n lv (st) ws pc := fun H locs ls j hl => lv_aload_n C.1 C.2.1 d rfl (lv_at hl q e) (h H locs ls j hl)
theorem zg_aload (C : zC X l D cI R nL wr cc own Ts) (q : Nat) {i : Nat} {x : Nat} (d : decode cc pc = .ok (.aload i, 2)) (e : lv[q]? = some (i, .ref x)) (h : zG X k n lv (.ref x :: st) ws (pc + 2)) : zG X k n lv (st) ws pc := fun H locs ls j hl => lv_aload C.1 C.2.1 d (lv_at hl q e) (h H locs ls j hl)
theorem zg_lload_n (C : zC X l D cI R nL wr cc own Ts) (q : Nat) {i : Fin 4} {x : Int64} (d : decode cc pc = .ok (.lload_n i, 1)) (e : lv[q]? = some ((i : Nat), .long x)) (h : zG X k n lv (.long x :: st) ws (pc + 1)) : zG X k n lv (st) ws pc := fun H locs ls j hl => lv_lload_n C.1 C.2.1 d rfl (lv_at hl q e) (h H locs ls j hl)
theorem zg_lload (C : zC X l D cI R nL wr cc own Ts) (q : Nat) {i : Nat} {x : Int64} (d : decode cc pc = .ok (.lload i, 2)) (e : lv[q]? = some (i, .long x)) (h : zG X k n lv (.long x :: st) ws (pc + 2)) : zG X k n lv (st) ws pc := fun H locs ls j hl => lv_lload C.1 C.2.1 d (lv_at hl q e) (h H locs ls j hl)
theorem zg_istore_n (C : zC X l D cI R nL wr cc own Ts) (ks : List Nat) {i : Fin 4} {x : Int32} (d : decode cc pc = .ok (.istore_n i, 1)) (hn : (i : Nat) < nL) (e : lv_pick (((i : Nat), Value.int x) :: lv.filter (fun q : Nat × Value => !(q.1 == (i : Nat)) && !(q.1 + 1 == (i : Nat) && q.2.category == 2))) ks = lv') (h : zG X k n lv' (st) ws (pc + 1)) : zG X k n lv (.int x :: st) ws pc := fun H locs ls j hl => lv_istore_n (nL := zx_n X) C.1 C.2.1 d rfl hl (by rw [C.2.2.2.2.2.2.2.2.1]; exact hn) rfl (fun ls2 hl2 => h H locs ls2 j (lv_sub hl2 ks e))
theorem zg_istore (C : zC X l D cI R nL wr cc own Ts) (ks : List Nat) {i : Nat} {x : Int32} (d : decode cc pc = .ok (.istore i, 2)) (hn : i < nL) (e : lv_pick ((i, Value.int x) :: lv.filter (fun q : Nat × Value => !(q.1 == i) && !(q.1 + 1 == i && q.2.category == 2))) ks = lv') (h : zG X k n lv' (st) ws (pc + 2)) : zG X k n lv (.int x :: st) ws pc := fun H locs ls j hl => lv_istore (nL := zx_n X) C.1 C.2.1 d hl (by rw [C.2.2.2.2.2.2.2.2.1]; exact hn) rfl (fun ls2 hl2 => h H locs ls2 j (lv_sub hl2 ks e))
theorem zg_astore_n (C : zC X l D cI R nL wr cc own Ts) (ks : List Nat) {i : Fin 4} {x : Nat} (d : decode cc pc = .ok (.astore_n i, 1)) (hn : (i : Nat) < nL) (e : lv_pick (((i : Nat), Value.ref x) :: lv.filter (fun q : Nat × Value => !(q.1 == (i : Nat)) && !(q.1 + 1 == (i : Nat) && q.2.category == 2))) ks = lv') (h : zG X k n lv' (st) ws (pc + 1)) : zG X k n lv (.ref x :: st) ws pc := fun H locs ls j hl => lv_astore_n (nL := zx_n X) C.1 C.2.1 d rfl hl (by rw [C.2.2.2.2.2.2.2.2.1]; exact hn) rfl (fun ls2 hl2 => h H locs ls2 j (lv_sub hl2 ks e))
theorem zg_astore (C : zC X l D cI R nL wr cc own Ts) (ks : List Nat) {i : Nat} {x : Nat} (d : decode cc pc = .ok (.astore i, 2)) (hn : i < nL) (e : lv_pick ((i, Value.ref x) :: lv.filter (fun q : Nat × Value => !(q.1 == i) && !(q.1 + 1 == i && q.2.category == 2))) ks = lv') (h : zG X k n lv' (st) ws (pc + 2)) : zG X k n lv (.ref x :: st) ws pc := fun H locs ls j hl => lv_astore (nL := zx_n X) C.1 C.2.1 d hl (by rw [C.2.2.2.2.2.2.2.2.1]; exact hn) rfl (fun ls2 hl2 => h H locs ls2 j (lv_sub hl2 ks e))
theorem zg_lstore_n (C : zC X l D cI R nL wr cc own Ts) (ks : List Nat) {i : Fin 4} {x : Int64} (d : decode cc pc = .ok (.lstore_n i, 1)) (hn : (i : Nat) + 1 < nL) (e : lv_pick (((i : Nat), Value.long x) :: lv.filter (fun q : Nat × Value => !(q.1 == (i : Nat)) && (!(q.1 == (i : Nat) + 1) && !(q.1 + 1 == (i : Nat) && q.2.category == 2)))) ks = lv') (h : zG X k n lv' (st) ws (pc + 1)) : zG X k n lv (.long x :: st) ws pc := fun H locs ls j hl => lv_lstore_n (nL := zx_n X) C.1 C.2.1 d rfl hl (by rw [C.2.2.2.2.2.2.2.2.1]; exact hn) rfl (fun ls2 hl2 => h H locs ls2 j (lv_sub hl2 ks e))
theorem zg_iinc (C : zC X l D cI R nL wr cc own Ts) (q : Nat) (ks : List Nat) {i : Nat} {c : Int} {x : Int32} (v : Int32) (d : decode cc pc = .ok (.iinc i c, 3)) (hk : lv[q]? = some (i, .int x)) (hv : x + Int32.ofInt c = v) (hn : i < nL) (e : lv_pick ((i, Value.int v) :: lv.filter (fun q : Nat × Value => !(q.1 == i) && !(q.1 + 1 == i && q.2.category == 2))) ks = lv') (h : zG X k n lv' (st) ws (pc + 3)) : zG X k n lv (st) ws pc := fun H locs ls j hl => lv_iinc (nL := zx_n X) C.1 C.2.1 d hl hk hv (by rw [C.2.2.2.2.2.2.2.2.1]; exact hn) rfl (fun ls2 hl2 => h H locs ls2 j (lv_sub hl2 ks e))
theorem zg_iadd (C : zC X l D cI R nL wr cc own Ts) {x y : Int32} (d : decode cc pc = .ok (.iadd, 1)) (z : Int32) (e : x + y = z) (h : zG X k n lv (.int z :: st) ws (pc + 1)) : zG X k n lv (.int y :: .int x :: st) ws pc := by subst e; exact fun H locs ls j hl => lv_iadd C.1 C.2.1 d (h H locs ls j hl)
theorem zg_isub (C : zC X l D cI R nL wr cc own Ts) {x y : Int32} (d : decode cc pc = .ok (.isub, 1)) (z : Int32) (e : x - y = z) (h : zG X k n lv (.int z :: st) ws (pc + 1)) : zG X k n lv (.int y :: .int x :: st) ws pc := by subst e; exact fun H locs ls j hl => lv_isub C.1 C.2.1 d (h H locs ls j hl)
theorem zg_imul (C : zC X l D cI R nL wr cc own Ts) {x y : Int32} (d : decode cc pc = .ok (.imul, 1)) (z : Int32) (e : x * y = z) (h : zG X k n lv (.int z :: st) ws (pc + 1)) : zG X k n lv (.int y :: .int x :: st) ws pc := by subst e; exact fun H locs ls j hl => lv_imul C.1 C.2.1 d (h H locs ls j hl)
theorem zg_iand (C : zC X l D cI R nL wr cc own Ts) {x y : Int32} (d : decode cc pc = .ok (.iand, 1)) (z : Int32) (e : x &&& y = z) (h : zG X k n lv (.int z :: st) ws (pc + 1)) : zG X k n lv (.int y :: .int x :: st) ws pc := by subst e; exact fun H locs ls j hl => lv_iand C.1 C.2.1 d (h H locs ls j hl)
theorem zg_ior (C : zC X l D cI R nL wr cc own Ts) {x y : Int32} (d : decode cc pc = .ok (.ior, 1)) (z : Int32) (e : x ||| y = z) (h : zG X k n lv (.int z :: st) ws (pc + 1)) : zG X k n lv (.int y :: .int x :: st) ws pc := by subst e; exact fun H locs ls j hl => lv_ior C.1 C.2.1 d (h H locs ls j hl)
theorem zg_ixor (C : zC X l D cI R nL wr cc own Ts) {x y : Int32} (d : decode cc pc = .ok (.ixor, 1)) (z : Int32) (e : x ^^^ y = z) (h : zG X k n lv (.int z :: st) ws (pc + 1)) : zG X k n lv (.int y :: .int x :: st) ws pc := by subst e; exact fun H locs ls j hl => lv_ixor C.1 C.2.1 d (h H locs ls j hl)
theorem zg_ishl (C : zC X l D cI R nL wr cc own Ts) {x y : Int32} (d : decode cc pc = .ok (.ishl, 1)) (z : Int32) (e : x <<< (y &&& 31) = z) (h : zG X k n lv (.int z :: st) ws (pc + 1)) : zG X k n lv (.int y :: .int x :: st) ws pc := by subst e; exact fun H locs ls j hl => lv_ishl C.1 C.2.1 d (h H locs ls j hl)
theorem zg_ishr (C : zC X l D cI R nL wr cc own Ts) {x y : Int32} (d : decode cc pc = .ok (.ishr, 1)) (z : Int32) (e : x >>> (y &&& 31) = z) (h : zG X k n lv (.int z :: st) ws (pc + 1)) : zG X k n lv (.int y :: .int x :: st) ws pc := by subst e; exact fun H locs ls j hl => lv_ishr C.1 C.2.1 d (h H locs ls j hl)
theorem zg_idiv (C : zC X l D cI R nL wr cc own Ts) {x y : Int32} (d : decode cc pc = .ok (.idiv, 1)) (hne : ¬ y = 0) (z : Int32) (e : x / y = z) (h : zG X k n lv (.int z :: st) ws (pc + 1)) : zG X k n lv (.int y :: .int x :: st) ws pc := by subst e; exact fun H locs ls j hl => lv_idiv C.1 C.2.1 d hne (h H locs ls j hl)
theorem zg_irem (C : zC X l D cI R nL wr cc own Ts) {x y : Int32} (d : decode cc pc = .ok (.irem, 1)) (hne : ¬ y = 0) (z : Int32) (e : x - x / y * y = z) (h : zG X k n lv (.int z :: st) ws (pc + 1)) : zG X k n lv (.int y :: .int x :: st) ws pc := by subst e; exact fun H locs ls j hl => lv_irem C.1 C.2.1 d hne (h H locs ls j hl)
theorem zg_iushr (C : zC X l D cI R nL wr cc own Ts) {x y : Int32} (d : decode cc pc = .ok (.iushr, 1)) (z : Int32) (e : (x.toUInt32 >>> (y.toUInt32 &&& Int32.toUInt32 31)).toInt32 = z) (h : zG X k n lv (.int z :: st) ws (pc + 1)) : zG X k n lv (.int y :: .int x :: st) ws pc := fun H locs ls j hl => lv_iushr C.1 C.2.1 d e (h H locs ls j hl)
theorem zg_ladd (C : zC X l D cI R nL wr cc own Ts) {x y : Int64} (d : decode cc pc = .ok (.ladd, 1)) (z : Int64) (e : x + y = z) (h : zG X k n lv (.long z :: st) ws (pc + 1)) : zG X k n lv (.long y :: .long x :: st) ws pc := by subst e; exact fun H locs ls j hl => lv_ladd C.1 C.2.1 d (h H locs ls j hl)
theorem zg_lmul (C : zC X l D cI R nL wr cc own Ts) {x y : Int64} (d : decode cc pc = .ok (.lmul, 1)) (z : Int64) (e : x * y = z) (h : zG X k n lv (.long z :: st) ws (pc + 1)) : zG X k n lv (.long y :: .long x :: st) ws pc := by subst e; exact fun H locs ls j hl => lv_lmul C.1 C.2.1 d (h H locs ls j hl)
theorem zg_land (C : zC X l D cI R nL wr cc own Ts) {x y : Int64} (d : decode cc pc = .ok (.land, 1)) (z : Int64) (e : x &&& y = z) (h : zG X k n lv (.long z :: st) ws (pc + 1)) : zG X k n lv (.long y :: .long x :: st) ws pc := by subst e; exact fun H locs ls j hl => lv_land C.1 C.2.1 d (h H locs ls j hl)
theorem zg_ldiv (C : zC X l D cI R nL wr cc own Ts) {x y : Int64} (d : decode cc pc = .ok (.ldiv, 1)) (hne : ¬ y = 0) (z : Int64) (e : x / y = z) (h : zG X k n lv (.long z :: st) ws (pc + 1)) : zG X k n lv (.long y :: .long x :: st) ws pc := by subst e; exact fun H locs ls j hl => lv_ldiv C.1 C.2.1 d hne (h H locs ls j hl)
theorem zg_lrem (C : zC X l D cI R nL wr cc own Ts) {x y : Int64} (d : decode cc pc = .ok (.lrem, 1)) (hne : ¬ y = 0) (z : Int64) (e : x - x / y * y = z) (h : zG X k n lv (.long z :: st) ws (pc + 1)) : zG X k n lv (.long y :: .long x :: st) ws pc := by subst e; exact fun H locs ls j hl => lv_lrem C.1 C.2.1 d hne (h H locs ls j hl)
theorem zg_i2l (C : zC X l D cI R nL wr cc own Ts) {x : Int32} (d : decode cc pc = .ok (.i2l, 1)) (z : Int64) (e : x.toInt64 = z) (h : zG X k n lv (.long z :: st) ws (pc + 1)) : zG X k n lv (.int x :: st) ws pc := fun H locs ls j hl => lv_i2l C.1 C.2.1 d e (h H locs ls j hl)
theorem zg_l2i (C : zC X l D cI R nL wr cc own Ts) {x : Int64} (d : decode cc pc = .ok (.l2i, 1)) (z : Int32) (e : x.toInt32 = z) (h : zG X k n lv (.int z :: st) ws (pc + 1)) : zG X k n lv (.long x :: st) ws pc := fun H locs ls j hl => lv_l2i C.1 C.2.1 d e (h H locs ls j hl)
theorem zg_dup (C : zC X l D cI R nL wr cc own Ts) {a : Value} (d : decode cc pc = .ok (.dup, 1)) (ha : a.category = 1) (h : zG X k n lv (a :: a :: st) ws (pc + 1)) : zG X k n lv (a :: st) ws pc := fun H locs ls j hl => lv_dup C.1 C.2.1 d ha (h H locs ls j hl)
theorem zg_dup2 (C : zC X l D cI R nL wr cc own Ts) {a b : Value} (d : decode cc pc = .ok (.dup2, 1)) (ha : a.category = 1) (hb : b.category = 1) (h : zG X k n lv (a :: b :: a :: b :: st) ws (pc + 1)) : zG X k n lv (a :: b :: st) ws pc := fun H locs ls j hl => lv_dup2_11 C.1 C.2.1 d ha hb (h H locs ls j hl)
theorem zg_goto (C : zC X l D cI R nL wr cc own Ts) {off : Int} (t : Nat) (d : decode cc pc = .ok (.goto off, 3)) (ht : (pc : Int) + off = (t : Int)) (h : zG X k n lv (st) ws (t)) : zG X k n lv (st) ws pc := fun H locs ls j hl => lv_goto C.1 C.2.1 d ht (h H locs ls j hl)
theorem zg_lcmp (C : zC X l D cI R nL wr cc own Ts) {x y : Int64} (d : decode cc pc = .ok (.lcmp, 1)) (h : zG X k n lv (.int (lg_cmp x y) :: st) ws (pc + 1)) : zG X k n lv (.long y :: .long x :: st) ws pc := fun H locs ls j hl => W.lcmp C.1 C.2.1 d (h H locs ls j hl)
theorem zg_icmp_eq (C : zC X l D cI R nL wr cc own Ts) {x y : Int32} {off : Int} (t : Nat) (d : decode cc pc = .ok (.if_icmp .eq off, 3)) (ht : (pc : Int) + off = (t : Int)) (kt : x = y → zG X k n lv st ws t) (kf : ¬ x = y → zG X k n lv st ws (pc + 3)) : zG X k n lv (.int y :: .int x :: st) ws pc := fun H locs ls j hl => lv_icmp_eq C.1 C.2.1 d ht (fun q => kt q H locs ls j hl) (fun q => kf q H locs ls j hl)
theorem zg_if_eq (C : zC X l D cI R nL wr cc own Ts) {x : Int32} {off : Int} (t : Nat) (d : decode cc pc = .ok (.ifCond .eq off, 3)) (ht : (pc : Int) + off = (t : Int)) (kt : x = 0 → zG X k n lv st ws t) (kf : ¬ x = 0 → zG X k n lv st ws (pc + 3)) : zG X k n lv (.int x :: st) ws pc := fun H locs ls j hl => lv_if_eq C.1 C.2.1 d ht (fun q => kt q H locs ls j hl) (fun q => kf q H locs ls j hl)
theorem zg_icmp_ne (C : zC X l D cI R nL wr cc own Ts) {x y : Int32} {off : Int} (t : Nat) (d : decode cc pc = .ok (.if_icmp .ne off, 3)) (ht : (pc : Int) + off = (t : Int)) (kt : ¬ x = y → zG X k n lv st ws t) (kf : x = y → zG X k n lv st ws (pc + 3)) : zG X k n lv (.int y :: .int x :: st) ws pc := fun H locs ls j hl => lv_icmp_ne C.1 C.2.1 d ht (fun q => kt q H locs ls j hl) (fun q => kf q H locs ls j hl)
theorem zg_if_ne (C : zC X l D cI R nL wr cc own Ts) {x : Int32} {off : Int} (t : Nat) (d : decode cc pc = .ok (.ifCond .ne off, 3)) (ht : (pc : Int) + off = (t : Int)) (kt : ¬ x = 0 → zG X k n lv st ws t) (kf : x = 0 → zG X k n lv st ws (pc + 3)) : zG X k n lv (.int x :: st) ws pc := fun H locs ls j hl => lv_if_ne C.1 C.2.1 d ht (fun q => kt q H locs ls j hl) (fun q => kf q H locs ls j hl)
theorem zg_icmp_lt (C : zC X l D cI R nL wr cc own Ts) {x y : Int32} {off : Int} (t : Nat) (d : decode cc pc = .ok (.if_icmp .lt off, 3)) (ht : (pc : Int) + off = (t : Int)) (kt : x < y → zG X k n lv st ws t) (kf : ¬ x < y → zG X k n lv st ws (pc + 3)) : zG X k n lv (.int y :: .int x :: st) ws pc := fun H locs ls j hl => lv_icmp_lt C.1 C.2.1 d ht (fun q => kt q H locs ls j hl) (fun q => kf q H locs ls j hl)
theorem zg_if_lt (C : zC X l D cI R nL wr cc own Ts) {x : Int32} {off : Int} (t : Nat) (d : decode cc pc = .ok (.ifCond .lt off, 3)) (ht : (pc : Int) + off = (t : Int)) (kt : x < 0 → zG X k n lv st ws t) (kf : ¬ x < 0 → zG X k n lv st ws (pc + 3)) : zG X k n lv (.int x :: st) ws pc := fun H locs ls j hl => lv_if_lt C.1 C.2.1 d ht (fun q => kt q H locs ls j hl) (fun q => kf q H locs ls j hl)
theorem zg_icmp_ge (C : zC X l D cI R nL wr cc own Ts) {x y : Int32} {off : Int} (t : Nat) (d : decode cc pc = .ok (.if_icmp .ge off, 3)) (ht : (pc : Int) + off = (t : Int)) (kt : y ≤ x → zG X k n lv st ws t) (kf : ¬ y ≤ x → zG X k n lv st ws (pc + 3)) : zG X k n lv (.int y :: .int x :: st) ws pc := fun H locs ls j hl => lv_icmp_ge C.1 C.2.1 d ht (fun q => kt q H locs ls j hl) (fun q => kf q H locs ls j hl)
theorem zg_if_ge (C : zC X l D cI R nL wr cc own Ts) {x : Int32} {off : Int} (t : Nat) (d : decode cc pc = .ok (.ifCond .ge off, 3)) (ht : (pc : Int) + off = (t : Int)) (kt : 0 ≤ x → zG X k n lv st ws t) (kf : ¬ 0 ≤ x → zG X k n lv st ws (pc + 3)) : zG X k n lv (.int x :: st) ws pc := fun H locs ls j hl => lv_if_ge C.1 C.2.1 d ht (fun q => kt q H locs ls j hl) (fun q => kf q H locs ls j hl)
theorem zg_icmp_gt (C : zC X l D cI R nL wr cc own Ts) {x y : Int32} {off : Int} (t : Nat) (d : decode cc pc = .ok (.if_icmp .gt off, 3)) (ht : (pc : Int) + off = (t : Int)) (kt : y < x → zG X k n lv st ws t) (kf : ¬ y < x → zG X k n lv st ws (pc + 3)) : zG X k n lv (.int y :: .int x :: st) ws pc := fun H locs ls j hl => lv_icmp_gt C.1 C.2.1 d ht (fun q => kt q H locs ls j hl) (fun q => kf q H locs ls j hl)
theorem zg_if_gt (C : zC X l D cI R nL wr cc own Ts) {x : Int32} {off : Int} (t : Nat) (d : decode cc pc = .ok (.ifCond .gt off, 3)) (ht : (pc : Int) + off = (t : Int)) (kt : 0 < x → zG X k n lv st ws t) (kf : ¬ 0 < x → zG X k n lv st ws (pc + 3)) : zG X k n lv (.int x :: st) ws pc := fun H locs ls j hl => lv_if_gt C.1 C.2.1 d ht (fun q => kt q H locs ls j hl) (fun q => kf q H locs ls j hl)
theorem zg_icmp_le (C : zC X l D cI R nL wr cc own Ts) {x y : Int32} {off : Int} (t : Nat) (d : decode cc pc = .ok (.if_icmp .le off, 3)) (ht : (pc : Int) + off = (t : Int)) (kt : x ≤ y → zG X k n lv st ws t) (kf : ¬ x ≤ y → zG X k n lv st ws (pc + 3)) : zG X k n lv (.int y :: .int x :: st) ws pc := fun H locs ls j hl => lv_icmp_le C.1 C.2.1 d ht (fun q => kt q H locs ls j hl) (fun q => kf q H locs ls j hl)
theorem zg_if_le (C : zC X l D cI R nL wr cc own Ts) {x : Int32} {off : Int} (t : Nat) (d : decode cc pc = .ok (.ifCond .le off, 3)) (ht : (pc : Int) + off = (t : Int)) (kt : x ≤ 0 → zG X k n lv st ws t) (kf : ¬ x ≤ 0 → zG X k n lv st ws (pc + 3)) : zG X k n lv (.int x :: st) ws pc := fun H locs ls j hl => lv_if_le C.1 C.2.1 d ht (fun q => kt q H locs ls j hl) (fun q => kf q H locs ls j hl)
theorem zn_icmp_eq (C : zC X l D cI R nL wr cc own Ts) {a b : Nat} {off : Int} (t : Nat) (ha : a < 2 ^ 31) (hb : b < 2 ^ 31) (d : decode cc pc = .ok (.if_icmp .eq off, 3)) (ht : (pc : Int) + off = (t : Int)) (kt : a = b → zG X k n lv st ws t) (kf : ¬ a = b → zG X k n lv st ws (pc + 3)) : zG X k n lv (.int (nI b) :: .int (nI a) :: st) ws pc := zg_icmp_eq C t d ht (fun q => kt ((nI_eq ha hb).mp q)) (fun q => kf (fun z => q ((nI_eq ha hb).mpr z)))
theorem zn_icmp_ne (C : zC X l D cI R nL wr cc own Ts) {a b : Nat} {off : Int} (t : Nat) (ha : a < 2 ^ 31) (hb : b < 2 ^ 31) (d : decode cc pc = .ok (.if_icmp .ne off, 3)) (ht : (pc : Int) + off = (t : Int)) (kt : ¬ a = b → zG X k n lv st ws t) (kf : a = b → zG X k n lv st ws (pc + 3)) : zG X k n lv (.int (nI b) :: .int (nI a) :: st) ws pc := zg_icmp_ne C t d ht (fun q => kt (fun z => q ((nI_eq ha hb).mpr z))) (fun q => kf ((nI_eq ha hb).mp q))
theorem zn_icmp_lt (C : zC X l D cI R nL wr cc own Ts) {a b : Nat} {off : Int} (t : Nat) (ha : a < 2 ^ 31) (hb : b < 2 ^ 31) (d : decode cc pc = .ok (.if_icmp .lt off, 3)) (ht : (pc : Int) + off = (t : Int)) (kt : a < b → zG X k n lv st ws t) (kf : b ≤ a → zG X k n lv st ws (pc + 3)) : zG X k n lv (.int (nI b) :: .int (nI a) :: st) ws pc := zg_icmp_lt C t d ht (fun q => kt ((nI_ltI ha hb).mp q)) (fun q => kf (Nat.not_lt.mp (fun z => q ((nI_ltI ha hb).mpr z))))
theorem zn_icmp_ge (C : zC X l D cI R nL wr cc own Ts) {a b : Nat} {off : Int} (t : Nat) (ha : a < 2 ^ 31) (hb : b < 2 ^ 31) (d : decode cc pc = .ok (.if_icmp .ge off, 3)) (ht : (pc : Int) + off = (t : Int)) (kt : b ≤ a → zG X k n lv st ws t) (kf : a < b → zG X k n lv st ws (pc + 3)) : zG X k n lv (.int (nI b) :: .int (nI a) :: st) ws pc := zg_icmp_ge C t d ht (fun q => kt ((nI_leI hb ha).mp q)) (fun q => kf (Nat.not_le.mp (fun z => q ((nI_leI hb ha).mpr z))))
theorem zn_icmp_gt (C : zC X l D cI R nL wr cc own Ts) {a b : Nat} {off : Int} (t : Nat) (ha : a < 2 ^ 31) (hb : b < 2 ^ 31) (d : decode cc pc = .ok (.if_icmp .gt off, 3)) (ht : (pc : Int) + off = (t : Int)) (kt : b < a → zG X k n lv st ws t) (kf : a ≤ b → zG X k n lv st ws (pc + 3)) : zG X k n lv (.int (nI b) :: .int (nI a) :: st) ws pc := zg_icmp_gt C t d ht (fun q => kt ((nI_ltI hb ha).mp q)) (fun q => kf (Nat.not_lt.mp (fun z => q ((nI_ltI hb ha).mpr z))))
theorem zn_icmp_le (C : zC X l D cI R nL wr cc own Ts) {a b : Nat} {off : Int} (t : Nat) (ha : a < 2 ^ 31) (hb : b < 2 ^ 31) (d : decode cc pc = .ok (.if_icmp .le off, 3)) (ht : (pc : Int) + off = (t : Int)) (kt : a ≤ b → zG X k n lv st ws t) (kf : b < a → zG X k n lv st ws (pc + 3)) : zG X k n lv (.int (nI b) :: .int (nI a) :: st) ws pc := zg_icmp_le C t d ht (fun q => kt ((nI_leI ha hb).mp q)) (fun q => kf (Nat.not_le.mp (fun z => q ((nI_leI ha hb).mpr z))))
theorem zn_if_eq (C : zC X l D cI R nL wr cc own Ts) {a : Nat} {off : Int} (t : Nat) (ha : a < 2 ^ 31) (d : decode cc pc = .ok (.ifCond .eq off, 3)) (ht : (pc : Int) + off = (t : Int)) (kt : a = 0 → zG X k n lv st ws t) (kf : 0 < a → zG X k n lv st ws (pc + 3)) : zG X k n lv (.int (nI a) :: st) ws pc := by
  have hb : 0 < 2 ^ 31 := by decide
  refine zg_if_eq C t d ht (fun q => kt ?_) (fun q => kf ?_) <;> rw [← nI_0] at q
  · exact (nI_eq ha hb).mp q
  · exact Nat.pos_of_ne_zero (fun z => q ((nI_eq ha hb).mpr z))
theorem zn_if_ne (C : zC X l D cI R nL wr cc own Ts) {a : Nat} {off : Int} (t : Nat) (ha : a < 2 ^ 31) (d : decode cc pc = .ok (.ifCond .ne off, 3)) (ht : (pc : Int) + off = (t : Int)) (kt : 0 < a → zG X k n lv st ws t) (kf : a = 0 → zG X k n lv st ws (pc + 3)) : zG X k n lv (.int (nI a) :: st) ws pc := by
  have hb : 0 < 2 ^ 31 := by decide
  refine zg_if_ne C t d ht (fun q => kt ?_) (fun q => kf ?_) <;> rw [← nI_0] at q
  · exact Nat.pos_of_ne_zero (fun z => q ((nI_eq ha hb).mpr z))
  · exact (nI_eq ha hb).mp q
theorem zn_if_gt (C : zC X l D cI R nL wr cc own Ts) {a : Nat} {off : Int} (t : Nat) (ha : a < 2 ^ 31) (d : decode cc pc = .ok (.ifCond .gt off, 3)) (ht : (pc : Int) + off = (t : Int)) (kt : 0 < a → zG X k n lv st ws t) (kf : a = 0 → zG X k n lv st ws (pc + 3)) : zG X k n lv (.int (nI a) :: st) ws pc := by
  have hb : 0 < 2 ^ 31 := by decide
  refine zg_if_gt C t d ht (fun q => kt ?_) (fun q => kf ?_) <;> rw [← nI_0] at q
  · exact (nI_ltI hb ha).mp q
  · exact Nat.le_zero.mp (Nat.not_lt.mp (fun z => q ((nI_ltI hb ha).mpr z)))
theorem zn_if_le (C : zC X l D cI R nL wr cc own Ts) {a : Nat} {off : Int} (t : Nat) (ha : a < 2 ^ 31) (d : decode cc pc = .ok (.ifCond .le off, 3)) (ht : (pc : Int) + off = (t : Int)) (kt : a = 0 → zG X k n lv st ws t) (kf : 0 < a → zG X k n lv st ws (pc + 3)) : zG X k n lv (.int (nI a) :: st) ws pc := by
  have hb : 0 < 2 ^ 31 := by decide
  refine zg_if_le C t d ht (fun q => kt ?_) (fun q => kf ?_) <;> rw [← nI_0] at q
  · exact Nat.le_zero.mp ((nI_leI ha hb).mp q)
  · exact Nat.not_le.mp (fun z => q ((nI_leI ha hb).mpr z))
theorem zn_if_lt (C : zC X l D cI R nL wr cc own Ts) {a : Nat} {off : Int} (t : Nat) (ha : a < 2 ^ 31) (d : decode cc pc = .ok (.ifCond .lt off, 3)) (ht : (pc : Int) + off = (t : Int)) (kf : zG X k n lv st ws (pc + 3)) : zG X k n lv (.int (nI a) :: st) ws pc := zg_if_lt C t d ht (fun q => absurd q (nI_pos ha)) (fun _ => kf)
theorem zn_if_ge (C : zC X l D cI R nL wr cc own Ts) {a : Nat} {off : Int} (t : Nat) (ha : a < 2 ^ 31) (d : decode cc pc = .ok (.ifCond .ge off, 3)) (ht : (pc : Int) + off = (t : Int)) (kt : zG X k n lv st ws t) : zG X k n lv (.int (nI a) :: st) ws pc := zg_if_ge C t d ht (fun _ => kt) (fun q => absurd (nI_pos' ha) q)
def zb : Bool → Int32 := fun b => if b then 1 else 0
theorem zb_0 {b : Bool} : zb b = 0 ↔ b = false := by cases b <;> simp [zb]
theorem zb_nar (b : Bool) : narrow .boolean (.int (zb b)) = .int (zb b) := by cases b <;> rfl
theorem zb_if_eq (C : zC X l D cI R nL wr cc own Ts) {a : Bool} {off : Int} (t : Nat) (d : decode cc pc = .ok (.ifCond .eq off, 3)) (ht : (pc : Int) + off = (t : Int)) (kt : a = false → zG X k n lv st ws t) (kf : a = true → zG X k n lv st ws (pc + 3)) : zG X k n lv (.int (zb a) :: st) ws pc := zg_if_eq C t d ht (fun q => kt (zb_0.mp q)) (fun q => kf (by cases a; exact absurd (zb_0.mpr rfl) q; rfl))
theorem zb_if_ne (C : zC X l D cI R nL wr cc own Ts) {a : Bool} {off : Int} (t : Nat) (d : decode cc pc = .ok (.ifCond .ne off, 3)) (ht : (pc : Int) + off = (t : Int)) (kt : a = true → zG X k n lv st ws t) (kf : a = false → zG X k n lv st ws (pc + 3)) : zG X k n lv (.int (zb a) :: st) ws pc := zg_if_ne C t d ht (fun q => kt (by cases a; exact absurd (zb_0.mpr rfl) q; rfl)) (fun q => kf (zb_0.mp q))
theorem zg_tabIn (C : zC X l D cI R nL wr cc own Ts) {dflt lo hi : Int} {offs : Array Int} {len : Nat} {x : Int32} {off : Int} (t : Nat) (d : decode cc pc = .ok (.tableswitch dflt lo hi offs, len)) (h1 : ¬ x.toInt < lo) (h2 : ¬ hi < x.toInt) (ho : offs[(x.toInt - lo).toNat]? = some off) (ht : (pc : Int) + off = (t : Int)) (h : zG X k n lv st ws t) : zG X k n lv (.int x :: st) ws pc := fun H locs ls j hl => lv_tableIn C.1 C.2.1 d h1 h2 ho ht (h H locs ls j hl)
theorem zg_tabOut (C : zC X l D cI R nL wr cc own Ts) {dflt lo hi : Int} {offs : Array Int} {len : Nat} {x : Int32} (t : Nat) (d : decode cc pc = .ok (.tableswitch dflt lo hi offs, len)) (h1 : x.toInt < lo ∨ hi < x.toInt) (ht : (pc : Int) + dflt = (t : Int)) (h : zG X k n lv st ws t) : zG X k n lv (.int x :: st) ws pc := fun H locs ls j hl => lv_tableOut C.1 C.2.1 d h1 ht (h H locs ls j hl)
theorem zg_lookup (C : zC X l D cI R nL wr cc own Ts) {dflt : Int} {ps : Array (Int × Int)} {len : Nat} {x : Int32} {off : Int} (t : Nat) (d : decode cc pc = .ok (.lookupswitch dflt ps, len)) (hp : (ps.toList.zip (ps.toList.drop 1)).all (fun (a, next) => a.1 < next.1) = true) (ho : Op.lookupswitch.offset ps.toList dflt x.toInt = off) (ht : (pc : Int) + off = (t : Int)) (h : zG X k n lv st ws t) : zG X k n lv (.int x :: st) ws pc := fun H locs ls j hl => lv_lookup C.1 C.2.1 d hp ho ht (h H locs ls j hl)
theorem zg_get (C : zC X l D cI R nL wr cc own Ts) (q0 : Nat) {a ci N f index : Nat} {fs : List Value} {Cn : String} {T : u_T} {v : Value} (he : ws[q0]? = some (a, .inr (ci, fs))) (hc : vwCl[ci]? = some (Cn, T, N)) (hin : ∀ w ∈ u_ws Cn T N, w ∈ Ts) (hk : f < N) (hlink : Cond.fieldLink own index (T f).1 (T f).2.1 (T f).2.2.1 ∈ Ts) (d : decode cc pc = .ok (.getfield index, 3)) (hv : fs[f]? = some v) (h : zG X k n lv (v :: st) ws (pc + 3)) : zG X k n lv (.ref a :: st) ws pc :=
  fun H locs ls j hl => va_get C.1 C.2.1 C.2.2.2.2.1 hin C.2.2.2.1 C.2.2.2.2.2.1 j.1 q0 he hc f hk (C.2.2.2.2.1 _ hlink) (fun _ h9 => h9) hv d (h H locs ls j hl)
theorem zg_put (C : zC X l D cI R nL true cc own Ts) (q0 : Nat) {a ci N f index : Nat} {fs : List Value} {Cn : String} {T : u_T} {ty0 : Nat → FieldType} {v : Value} {ty : FieldType} (he : ws[q0]? = some (a, .inr (ci, fs))) (hc : vwCl[ci]? = some (Cn, T, N)) (hin : ∀ w ∈ u_ws Cn T N, w ∈ Ts) (hty : ∀ k, k < N → parseFieldDescriptor (T k).2.2.1 = some (ty0 k)) (hnm : ∀ a, a < N → ∀ b, b < N → a ≠ b → (T a).2.1 ≠ (T b).2.1) (hk : f < N) (hlink : Cond.fieldLink own index (T f).1 (T f).2.1 (T f).2.2.1 ∈ Ts) (hfin : (T f).2.2.2 = false) (hd : ty0 f = ty) (hn : narrow ty v = v) (hfit : fits ty v = true) (hl9 : f < fs.length) (d : decode cc pc = .ok (.putfield index, 3)) (e : ws.set q0 (a, .inr (ci, fs.set f v)) = ws') (h : zG X k n lv (st) ws' (pc + 3)) : zG X k n lv (v :: .ref a :: st) ws pc := by
  subst e
  exact fun H locs ls j hl => va_put C.1 C.2.1 C.2.2.2.2.1 hin ty0 hty hnm C.2.2.2.1 C.2.2.2.2.2.1 j.1 (j.2.1 C.2.2.2.2.2.2.2.2.2.1).1 (j.2.1 C.2.2.2.2.2.2.2.2.2.1).2 q0 he hc f hk (C.2.2.2.2.1 _ hlink) (fun _ h9 => h9) hfin (hd ▸ hty f hk) hn hfit hl9 d (fun H1 locs1 p1 d1 s1 => h H1 locs1 ls ⟨p1, fun _ => ⟨d1, s1⟩, fun q => by rw [C.2.2.2.2.2.2.2.2.2.1] at q; cases q⟩ hl)
theorem zg_putF (C : zC X l D cI R nL true cc own Ts) (hinit : (zx_h X).name = "<init>") (q0 : Nat) {a ci N f index : Nat} {fs : List Value} {Cn : String} {T : u_T} {ty0 : Nat → FieldType} {v : Value} {ty : FieldType} (he : ws[q0]? = some (a, .inr (ci, fs))) (hc : vwCl[ci]? = some (Cn, T, N)) (hin : ∀ w ∈ u_ws Cn T N, w ∈ Ts) (hty : ∀ k, k < N → parseFieldDescriptor (T k).2.2.1 = some (ty0 k)) (hnm : ∀ a, a < N → ∀ b, b < N → a ≠ b → (T a).2.1 ≠ (T b).2.1) (hk : f < N) (hlink : Cond.fieldLink own index (T f).1 (T f).2.1 (T f).2.2.1 ∈ Ts) (hfin : (T f).2.2.2 = true) (hdecl : (T f).1 = own) (hd : ty0 f = ty) (hn : narrow ty v = v) (hfit : fits ty v = true) (hl9 : f < fs.length) (d : decode cc pc = .ok (.putfield index, 3)) (e : ws.set q0 (a, .inr (ci, fs.set f v)) = ws') (h : zG X k n lv (st) ws' (pc + 3)) : zG X k n lv (v :: .ref a :: st) ws pc := by
  subst e
  exact fun H locs ls j hl => va_putF C.1 C.2.1 C.2.2.2.2.1 hin ty0 hty hnm C.2.2.2.1 C.2.2.2.2.2.1 j.1 (j.2.1 C.2.2.2.2.2.2.2.2.2.1).1 (j.2.1 C.2.2.2.2.2.2.2.2.2.1).2 q0 he hc f hk (C.2.2.2.2.1 _ hlink) (fun _ h9 => h9) hfin hinit hdecl (hd ▸ hty f hk) hn hfit hl9 d (fun H1 locs1 p1 d1 s1 => h H1 locs1 ls ⟨p1, fun _ => ⟨d1, s1⟩, fun q => by rw [C.2.2.2.2.2.2.2.2.2.1] at q; cases q⟩ hl)
theorem zg_iald (C : zC X l D cI R nL wr cc own Ts) (q0 : Nat) {a N i : Nat} {f : Nat → Int32} (he : ws[q0]? = some (a, .inl (cI, N, .inl f))) (hi : i < N) (hN : N < 2 ^ 31) (d : decode cc pc = .ok (.iaload, 1)) (v : Int32) (hv : f i = v) (h : zG X k n lv (.int v :: st) ws (pc + 1)) : zG X k n lv (.int (nI i) :: .ref a :: st) ws pc := by
  subst hv
  have e1 : (nI i).toNatClampNeg = i := nI_clamp (Nat.lt_trans hi hN)
  exact fun H locs ls j hl => va_iald C.1 C.2.1 C.2.2.2.2.2.1 j.1 q0 0 he rfl (vp_in_nI hi hN) d (by rw [e1]; exact h H locs ls j hl)
theorem zg_iast (C : zC X l D cI R nL true cc own Ts) (q0 : Nat) {a N i : Nat} {x : Int32} {f : Nat → Int32} (he : ws[q0]? = some (a, .inl (cI, N, .inl f))) (hi : i < N) (hN : N < 2 ^ 31) (d : decode cc pc = .ok (.iastore, 1)) (e : ws.set q0 (a, .inl (cI, N, .inl (upd f i x))) = ws') (h : zG X k n lv (st) ws' (pc + 1)) : zG X k n lv (.int x :: .int (nI i) :: .ref a :: st) ws pc := by
  subst e
  have e1 : (nI i).toNatClampNeg = i := nI_clamp (Nat.lt_trans hi hN)
  exact fun H locs ls j hl => va_iast C.1 C.2.1 C.2.2.2.2.2.1 j.1 (j.2.1 C.2.2.2.2.2.2.2.2.2.1).1 (j.2.1 C.2.2.2.2.2.2.2.2.2.1).2 q0 0 he rfl (vp_in_nI hi hN) d (fun H1 locs1 p1 d1 s1 => by rw [e1] at p1 d1; exact h H1 locs1 ls ⟨p1, fun _ => ⟨d1, s1⟩, fun q => by rw [C.2.2.2.2.2.2.2.2.2.1] at q; cases q⟩ hl)
theorem zg_alen (C : zC X l D cI R nL wr cc own Ts) (q0 : Nat) {a N : Nat} {f : Nat → Int32} (he : ws[q0]? = some (a, .inl (cI, N, .inl f))) (d : decode cc pc = .ok (.arraylength, 1)) (h : zG X k n lv (.int (nI N) :: st) ws (pc + 1)) : zG X k n lv (.ref a :: st) ws pc := fun H locs ls j hl => va_alen C.1 C.2.1 C.2.2.2.2.2.1 j.1 q0 0 he rfl rfl d (h H locs ls j hl)
theorem zg_newarr (C : zC X l D cI R nL true cc own Ts) {N : Nat} (hN : N < 65536) (harr : Cond.arrayClass .int ∈ Ts) (hcells : k + 1 ≤ R.cells) (hslots : n + N ≤ R.slots) (d : decode cc pc = .ok (.newarray .int, 2)) (h : ∀ q : Nat, zG X (k + 1) (n + N) lv (.ref q :: st) (ws ++ [(q, .inl (cI, N, .inl (fun _ => 0)))]) (pc + 2)) : zG X k n lv (.int (nI N) :: st) ws pc := by
  intro H locs ls j hl
  have hN2 : N < 2 ^ 31 := Nat.lt_trans hN (by decide)
  have e1 : (nI N).toNatClampNeg = N := nI_clamp hN2
  have jt := j.2.1 C.2.2.2.2.2.2.2.2.2.1
  refine va_newa (atype := .int) (ty := .int) (N' := N) (a0 := (N, .inl (fun _ => 0))) C.1 C.2.1 (C.2.2.2.2.1 _ harr) rfl C.2.2.2.2.2.1 j.1 jt.1 jt.2 C.2.2.2.2.2.2.1 (fun cA => by rw [vp_cell_i]; rfl) (nI_pos hN2) e1 (Nat.le_trans (Nat.mul_le_mul_right _ (Nat.le_of_lt hN)) (by decide)) (by rw [C.2.2.2.2.2.2.2.1]; exact hcells) (by rw [C.2.2.2.2.2.2.2.1]; exact hslots) d (fun q cA H1 K1 P1 D1 S1 => ?_)
  have hcA : cA = cI := by
    have h1 := (K1.2 1 (cA, .int) rfl).2
    have h2 := (K1.2 0 (cI, .int) rfl).2
    exact Option.some.inj (h1.symm.trans h2)
  subst hcA
  exact h q H1 locs ls ⟨P1, fun _ => ⟨D1, S1⟩, fun q => by rw [C.2.2.2.2.2.2.2.2.2.1] at q; cases q⟩ hl
theorem zg_new (C : zC X l D cI R nL true cc own Ts) {Cn : String} {T : u_T} {N ci index : Nat} {ty : Nat → FieldType} {fs : List Value} (hin : ∀ w ∈ u_ws Cn T N, w ∈ Ts) (hty : ∀ k, k < N → parseFieldDescriptor (T k).2.2.1 = some (ty k)) (hcl : Cond.classLink own index Cn ∈ Ts) (hinst : Cond.instantiable Cn N ∈ Ts) (hini : Cond.initialized Cn ∈ Ts) (hc : vwCl[ci]? = some (Cn, T, N)) (hfs : ∀ j, j < N → defaultValue (ty j) = vp_V fs j) (hcells : k + 1 ≤ R.cells) (hslots : n + N ≤ R.slots) (d : decode cc pc = .ok (.new index, 3)) (h : ∀ q : Nat, zG X (k + 1) (n + N) lv (.ref q :: st) (ws ++ [(q, .inr (ci, fs))]) (pc + 3)) : zG X k n lv st ws pc := by
  intro H locs ls j hl
  have jt := j.2.1 C.2.2.2.2.2.2.2.2.2.1
  exact va_new C.1 C.2.1 C.2.2.2.2.1 hin ty hty C.2.2.2.1 (C.2.2.2.2.1 _ hcl) (C.2.2.2.2.1 _ hinst) (C.2.2.2.2.1 _ hini) C.2.2.2.2.2.1 j.1 jt.1 jt.2 C.2.2.2.2.2.2.1 hc hfs (by rw [C.2.2.2.2.2.2.2.1]; exact hcells) (by rw [C.2.2.2.2.2.2.2.1]; exact hslots) d (fun q H1 P1 D1 S1 => h q H1 locs ls ⟨P1, fun _ => ⟨D1, S1⟩, fun q => by rw [C.2.2.2.2.2.2.2.2.2.1] at q; cases q⟩ hl)
theorem zg_objInit (C : zC X l D cI R nL wr cc own Ts) {a i : Nat} (w1 : Cond.methodLink own i objectInit ∈ Ts) (w2 : Cond.instanceMethod objectInit ∈ Ts) (w3 : Cond.code objectInit ⟨#[0xb1]⟩ 1 none ∈ Ts) (d : decode cc pc = .ok (.invokespecial i, 3)) (hf : 1 ≤ R.frames) (hr : (st.map fun v => v.category).sum + 12 ≤ R.locals) (h : zG X k n lv (st) ws (pc + 3)) : zG X k n lv (.ref a :: st) ws pc := by
  intro H locs ls j hl
  refine W.objInit C.1 C.2.1 C.2.2.2.1 (C.2.2.2.2.1 _ w1) (C.2.2.2.2.1 _ w2) (C.2.2.2.2.1 _ w3) rfl (by rw [C.2.2.1, ← C.2.2.2.2.2.2.2.2.1]; exact hl.1) rfl d (by rw [C.2.2.2.2.2.2.2.1]; exact hf) (by rw [C.2.2.2.2.2.2.2.1]; show 2 * 0 + _ + 12 ≤ _; omega) ?_
  exact W.eq (g2 := F0 (zx_m X) (pc + 3) ls st) rfl (h H locs ls j hl)
theorem zg_mmax (C : zC X l D cI R nL wr cc own Ts) {i : Nat} {x y : Int32} (w1 : Cond.methodLink own i Lib.Math.max.name ∈ Ts) (w2 : Cond.static Lib.Math.max.name ∈ Ts) (w3 : Cond.initialized "java/lang/Math" ∈ Ts) (w4 : Cond.code Lib.Math.max.name Lib.Math.max.code 2 (some .int) ∈ Ts) (hf : 1 ≤ R.frames) (hr : (st.map fun v => v.category).sum + 13 ≤ R.locals) (hk : k ≤ R.cells) (hn : n ≤ R.slots) (d : decode cc pc = .ok (.invokestatic i, 3)) (z : Int32) (e : (if x < y then y else x) = z) (h : zG X k n lv (.int z :: st) ws (pc + 3)) : zG X k n lv (.int y :: .int x :: st) ws pc := by
  subst e
  exact fun H locs ls j hl => va_mmax C.1 C.2.1 (by rw [C.2.2.1, ← C.2.2.2.2.2.2.2.2.1]; exact hl.1.symm) C.2.2.2.1 (C.2.2.2.2.1 _ w1) (C.2.2.2.2.1 _ w2) (C.2.2.2.2.1 _ w3) (C.2.2.2.2.1 _ w4) (by rw [C.2.2.2.2.2.2.2.1]; exact hf) (by rw [C.2.2.2.2.2.2.2.1]; exact hr) (by rw [C.2.2.2.2.2.2.2.1]; exact hk) (by rw [C.2.2.2.2.2.2.2.1]; exact hn) d (h H locs ls j hl)
theorem zs_cs (C : zC X l D cI R nL wr cc own Ts) {post : Int32 → Prop} {a : Array Value} {st0 : List Value} {H : Heap} {locs : List Loc} {ls : Array Slot} (hr : va_Run (zx_p X) (zx_l X) (zx_e X) (zx_R X) (zx_s X) (zx_m X) (zx_a X) (zx_b X) (zx_h X) (zx_c X) H locs k n 0 0 (F0 (zx_m X) pc ls st0) st (vp_Si post a) (fun _ => False)) (kk : ∀ r : Int32, post r → W (zx_p X) (zx_l X) (zx_e X) (zx_R X) (zx_s X) (zx_m X) (zx_a X) (zx_b X) (zx_h X) (zx_c X) H locs k n (zx_Q X) (F0 (zx_m X) (pc + 3) ls (.int r :: st))) : W (zx_p X) (zx_l X) (zx_e X) (zx_R X) (zx_s X) (zx_m X) (zx_a X) (zx_b X) (zx_h X) (zx_c X) H locs k n (zx_Q X) (F0 (zx_m X) pc ls st0) := by
  intro T hT X'
  obtain ⟨v, st₀, t, T', L, h0, X2, hL, e1, e2, ⟨r, hv, hp, hh⟩, st⟩ := hr T hT X'
  cases hv
  obtain ⟨t2, a1, b1⟩ := kk r hp T' (by rw [e1, hh, h0]) (Stand.forget X2 (fun q h => (hL q h).elim))
  exact ⟨t2, st t2 a1, b1⟩
theorem zg_callr (C : zC X l D cI R nL wr cc own Ts) (is : List Nat) (q0 : Nat) (na : Nat) {Cn : String} {ci N index maxL b : Nat} {T : u_T} {fs : List Value} {y : MethodName} {wy wy' : List Cond} {bytes : ByteArray} {ret : Option FieldType} {rm : Room} {As st0 : List Value} {wc : va_W} {v : Int32} (hM : zMr l D cI y wy rm (.ref b :: As) wc v) (hG : GoodIn Ts (wsV own index Cn y wy)) (hd : y.cls = Cn ∧ y.cls ≠ "java/lang/invoke/MethodHandle" ∧ y.cls ≠ "java/lang/invoke/VarHandle" ∧ (parseMethodDescriptor y.desc).map (fun d => d.parameters.length) = some na) (hw : wy = Cond.code y bytes maxL ret :: wy') (hrm : rm.cells = 0 ∧ rm.slots = 0) (hR : rm.frames + 1 ≤ R.frames ∧ 8 + (maxL + 11) + rm.locals ≤ R.locals) (hws : is.filterMap (fun i => ws[i]?) = wc) (he : ws[q0]? = some (b, .inr (ci, fs))) (hc : vwCl[ci]? = some (Cn, T, N)) (hn : As.length = na) (hst : st0 = As.reverse ++ .ref b :: st) (hroom : (st.map fun v => v.category).sum ≤ 8) (hkn : k ≤ R.cells ∧ n ≤ R.slots) (d : decode cc pc = .ok (.invokevirtual index, 3)) (h : zG X k n lv (.int v :: st) ws (pc + 3)) : zG X k n lv st0 ws pc := by
  intro H locs ls j hl
  obtain ⟨hx, hb, hml, hown, hts, hK, hA, hRR, hnL, hwr, hll, hDD⟩ := id C
  rw [← hll, ← hDD] at hM
  refine zs_cs C (va_runV (nL := nL) (As := As) (rest := st) ⟨hx, hb, hml, hown, hts⟩ hM (cwV na hts hG hw hrm.1 hrm.2 hd (by rw [hRR]; exact hR)) ⟨(fun a U g mk q => ⟨q.1, q.2.1, va_K.moved (u := U) (U := U.calling g mk a) (Vm.Alike.refl U.vm) q.2.2⟩), va_recv hK j.1 hc he, fun U hU hW => ⟨rfl, by rw [hU]; exact j.1.sub is hws, va_K.moved hW.alike hK⟩⟩ rfl hn (by rw [← hnL]; exact hl.1) hst (lv_room hroom) d (by rw [hRR]; exact hkn)) (fun r hr => ?_)
  subst hr
  exact h H locs ls j hl
theorem zs_csl (C : zC X l D cI R nL wr cc own Ts) {post : Int64 → Prop} {a : Array Value} {st0 : List Value} {H : Heap} {locs : List Loc} {ls : Array Slot} (hr : va_Run (zx_p X) (zx_l X) (zx_e X) (zx_R X) (zx_s X) (zx_m X) (zx_a X) (zx_b X) (zx_h X) (zx_c X) H locs k n 0 0 (F0 (zx_m X) pc ls st0) st (vp_Sl post a) (fun _ => False)) (kk : ∀ r : Int64, post r → W (zx_p X) (zx_l X) (zx_e X) (zx_R X) (zx_s X) (zx_m X) (zx_a X) (zx_b X) (zx_h X) (zx_c X) H locs k n (zx_Q X) (F0 (zx_m X) (pc + 3) ls (.long r :: st))) : W (zx_p X) (zx_l X) (zx_e X) (zx_R X) (zx_s X) (zx_m X) (zx_a X) (zx_b X) (zx_h X) (zx_c X) H locs k n (zx_Q X) (F0 (zx_m X) pc ls st0) := by
  intro T hT X'
  obtain ⟨v, st₀, t, T', L, h0, X2, hL, e1, e2, ⟨r, hv, hp, hh⟩, st⟩ := hr T hT X'
  cases hv
  obtain ⟨t2, a1, b1⟩ := kk r hp T' (by rw [e1, hh, h0]) (Stand.forget X2 (fun q h => (hL q h).elim))
  exact ⟨t2, st t2 a1, b1⟩
theorem zg_callrl (C : zC X l D cI R nL wr cc own Ts) (is : List Nat) (q0 : Nat) (na : Nat) {Cn : String} {ci N index maxL b : Nat} {T : u_T} {fs : List Value} {y : MethodName} {wy wy' : List Cond} {bytes : ByteArray} {ret : Option FieldType} {rm : Room} {As st0 : List Value} {wc : va_W} {v : Int64} (hM : zMl l D cI y wy rm (.ref b :: As) wc v) (hG : GoodIn Ts (wsV own index Cn y wy)) (hd : y.cls = Cn ∧ y.cls ≠ "java/lang/invoke/MethodHandle" ∧ y.cls ≠ "java/lang/invoke/VarHandle" ∧ (parseMethodDescriptor y.desc).map (fun d => d.parameters.length) = some na) (hw : wy = Cond.code y bytes maxL ret :: wy') (hrm : rm.cells = 0 ∧ rm.slots = 0) (hR : rm.frames + 1 ≤ R.frames ∧ 8 + (maxL + 11) + rm.locals ≤ R.locals) (hws : is.filterMap (fun i => ws[i]?) = wc) (he : ws[q0]? = some (b, .inr (ci, fs))) (hc : vwCl[ci]? = some (Cn, T, N)) (hn : As.length = na) (hst : st0 = As.reverse ++ .ref b :: st) (hroom : (st.map fun v => v.category).sum ≤ 8) (hkn : k ≤ R.cells ∧ n ≤ R.slots) (d : decode cc pc = .ok (.invokevirtual index, 3)) (h : zG X k n lv (.long v :: st) ws (pc + 3)) : zG X k n lv st0 ws pc := by
  intro H locs ls j hl
  obtain ⟨hx, hb, hml, hown, hts, hK, hA, hRR, hnL, hwr, hll, hDD⟩ := id C
  rw [← hll, ← hDD] at hM
  refine zs_csl C (va_runV (nL := nL) (As := As) (rest := st) ⟨hx, hb, hml, hown, hts⟩ hM (cwV na hts hG hw hrm.1 hrm.2 hd (by rw [hRR]; exact hR)) ⟨(fun a U g mk q => ⟨q.1, q.2.1, va_K.moved (u := U) (U := U.calling g mk a) (Vm.Alike.refl U.vm) q.2.2⟩), va_recv hK j.1 hc he, fun U hU hW => ⟨rfl, by rw [hU]; exact j.1.sub is hws, va_K.moved hW.alike hK⟩⟩ rfl hn (by rw [← hnL]; exact hl.1) hst (lv_room hroom) d (by rw [hRR]; exact hkn)) (fun r hr => ?_)
  subst hr
  exact h H locs ls j hl
theorem zg_calls (C : zC X l D cI R nL wr cc own Ts) (is : List Nat) (na : Nat) {index maxL : Nat} {y : MethodName} {wy wy' : List Cond} {bytes : ByteArray} {ret : Option FieldType} {rm : Room} {As st0 : List Value} {wc : va_W} {v : Int32} (hM : zMr l D cI y wy rm As wc v) (hG : GoodIn Ts (va_wsS own index y wy)) (hd : y.cls ≠ "java/lang/invoke/MethodHandle" ∧ y.cls ≠ "java/lang/invoke/VarHandle" ∧ (parseMethodDescriptor y.desc).map (fun d => d.parameters.length) = some na) (hw : wy = Cond.code y bytes maxL ret :: wy') (hrm : rm.cells = 0 ∧ rm.slots = 0) (hR : rm.frames + 1 ≤ R.frames ∧ 8 + (maxL + 11) + rm.locals ≤ R.locals) (hws : is.filterMap (fun i => ws[i]?) = wc) (hn : As.length = na) (hst : st0 = As.reverse ++ st) (hroom : (st.map fun v => v.category).sum ≤ 8) (hkn : k ≤ R.cells ∧ n ≤ R.slots) (d : decode cc pc = .ok (.invokestatic index, 3)) (h : zG X k n lv (.int v :: st) ws (pc + 3)) : zG X k n lv st0 ws pc := by
  intro H locs ls j hl
  obtain ⟨hx, hb, hml, hown, hts, hK, hA, hRR, hnL, hwr, hll, hDD⟩ := id C
  rw [← hll, ← hDD] at hM
  refine zs_cs C (va_runS (nL := nL) (As := As) (rest := st) ⟨hx, hb, hml, hown, hts⟩ hM (va_cwS na hts hG hw hrm.1 hrm.2 hd (by rw [hRR]; exact hR)) ⟨(fun a U g mk q => ⟨q.1, q.2.1, va_K.moved (u := U) (U := U.calling g mk a) (Vm.Alike.refl U.vm) q.2.2⟩), fun U hU hW => ⟨rfl, by rw [hU]; exact j.1.sub is hws, va_K.moved hW.alike hK⟩⟩ rfl hn (by rw [← hnL]; exact hl.1) hst (lv_room hroom) d (by rw [hRR]; exact hkn)) (fun r hr => ?_)
  subst hr
  exact h H locs ls j hl
/-- behind a call of one that writes: its world beside the rest -/
theorem zs_cw (C : zC X l D cI R nL true cc own Ts) {Post : Option Value → va_W → Prop} {a : Array Value} {st0 : List Value} {mc ms : Nat} {H : Heap} {locs : List Loc} {ls : Array Slot} (is ir : List Nat) {wc wo : va_W} (hws : is.map (fun i => ws[i]?) = wc.map some) (hwo : ir.map (fun i => ws[i]?) = wo.map some) (hnd : va_nd ir = true) (hdis : ∀ i ∈ ir, i ∉ is) (j : zJ X ws H locs) (hl : lv_has ls (zx_n X) lv)
    (hr : va_Run (zx_p X) (zx_l X) (zx_e X) (zx_R X) (zx_s X) (zx_m X) (zx_a X) (zx_b X) (zx_h X) (zx_c X) H locs k n mc ms (F0 (zx_m X) pc ls st0) st (zQw (zx_D X) Post (va_A wc H.size) a) (va_A wc H.size))
    (kk : ∀ (v : Option Value) (w1 : va_W), Post v w1 → zG X (k + mc) (n + ms) lv (v.toList ++ st) (wo ++ w1) (pc + 3)) : W (zx_p X) (zx_l X) (zx_e X) (zx_R X) (zx_s X) (zx_m X) (zx_a X) (zx_b X) (zx_h X) (zx_c X) H locs k n (zx_Q X) (F0 (zx_m X) pc ls st0) := by
  obtain ⟨hx, hb, hml, hown, hts, hK, hA, hRR, hnL, hwr, hll, hDD⟩ := id C
  obtain ⟨hD, hS⟩ := j.2.1 hwr
  have hF := va_free hD hS hA is hws
  intro T hT X'
  obtain ⟨v, st₀, t, T', L, h0, X2, hL, e1, e2, ⟨⟨v1, w1, hv, hp, hP1, hD1⟩, hz, hk⟩, st⟩ := hr T hT X'
  cases hv
  rw [h0] at hz hk
  rw [← e1] at hz hk hP1
  obtain ⟨hP2, hD2⟩ := va_join j.1 hD is ir hws hwo hnd hdis hk hF hP1 hD1
  obtain ⟨t2, a1, b1⟩ := kk v w1 hp T'.heap (locs ++ L) ls ⟨hP2, fun _ => ⟨hD2, Nat.le_trans hS.1 hz, fun q h1 h2 => by rw [hk q (Nat.lt_of_lt_of_le h1 hS.1) (fun z => h2 (hF q z))]; exact hS.2.1 q h1 h2, fun q hq => by
      rcases List.mem_append.mp hq with h | h
      · exact hS.2.2 q h
      · exact hF _ (hL q h)⟩, fun q => by rw [hwr] at q; cases q⟩ hl T' rfl X2
  exact ⟨t2, st t2 a1, b1⟩
theorem zg_callw (C : zC X l D cI R nL true cc own Ts) (is ir : List Nat) (q0 : Nat) (na : Nat) {Cn : String} {ci N index maxL b : Nat} {T : u_T} {fs : List Value} {y : MethodName} {wy wy' : List Cond} {bytes : ByteArray} {ret : Option FieldType} {rm : Room} {As st0 : List Value} {wc wo : va_W} {Post : Option Value → va_W → Prop} {mc ms : Nat} (hM : zMw l D cI y wy rm (.ref b :: As) wc Post mc ms) (hG : GoodIn Ts (wsV own index Cn y wy)) (hd : y.cls = Cn ∧ y.cls ≠ "java/lang/invoke/MethodHandle" ∧ y.cls ≠ "java/lang/invoke/VarHandle" ∧ (parseMethodDescriptor y.desc).map (fun d => d.parameters.length) = some na) (hw : wy = Cond.code y bytes maxL ret :: wy') (hrm : rm.cells = mc ∧ rm.slots = ms) (hR : rm.frames + 1 ≤ R.frames ∧ 8 + (maxL + 11) + rm.locals ≤ R.locals) (hnc : va_nd is = true) (hws : is.map (fun i => ws[i]?) = wc.map some) (hwo : ir.map (fun i => ws[i]?) = wo.map some) (hnd : va_nd ir = true) (hdis : ∀ i ∈ ir, i ∉ is) (he : ws[q0]? = some (b, .inr (ci, fs))) (hc : vwCl[ci]? = some (Cn, T, N)) (hn : As.length = na) (hst : st0 = As.reverse ++ .ref b :: st) (hroom : (st.map fun v => v.category).sum ≤ 8) (hkn : k + mc ≤ R.cells ∧ n + ms ≤ R.slots) (d : decode cc pc = .ok (.invokevirtual index, 3)) (h : ∀ (v : Option Value) (w1 : va_W), Post v w1 → zG X (k + mc) (n + ms) lv (v.toList ++ st) (wo ++ w1) (pc + 3)) : zG X k n lv st0 ws pc := by
  intro H locs ls j hl
  obtain ⟨hx, hb, hml, hown, hts, hK, hA, hRR, hnL, hwr, hll, hDD⟩ := id C
  have hM := hM H.size
  rw [← hll, ← hDD] at hM
  have hf : is.filterMap (fun i => ws[i]?) = wc := by
    have h1 : is.filterMap (fun i => ws[i]?) = (is.map (fun i => ws[i]?)).filterMap id := by rw [List.filterMap_map]; rfl
    rw [h1, hws, List.filterMap_map]; simp
  exact zs_cw C is ir hws hwo hnd hdis j hl (va_runV (nL := nL) (As := As) (rest := st) ⟨hx, hb, hml, hown, hts⟩ hM (cwV na hts hG hw hrm.1 hrm.2 hd (by rw [hRR]; exact hR)) ⟨(fun a U g mk q => ⟨q.1, q.2.1, q.2.2.1, va_K.moved (u := U) (U := U.calling g mk a) (Vm.Alike.refl U.vm) q.2.2.2.1, q.2.2.2.2⟩), va_recv hK j.1 hc he, fun U hU hW => ⟨rfl, by rw [hU], by rw [hU]; exact j.1.sub is hf, va_K.moved hW.alike hK, ((j.2.1 hwr).1.sub is hnc hws).weaken (fun _ _ _ _ => trivial)⟩⟩ rfl hn (by rw [← hnL]; exact hl.1) hst (lv_room hroom) d (by rw [hRR]; exact hkn)) h
theorem zg_callI (C : zC X l D cI R nL true cc own Ts) (is ir : List Nat) (na : Nat) {index maxL b : Nat} {y : MethodName} {wy wy' : List Cond} {bytes : ByteArray} {rm : Room} {As st0 : List Value} {wc wo : va_W} {Post : Option Value → va_W → Prop} {mc ms : Nat} (hM : zMw l D cI y wy rm (.ref b :: As) wc Post mc ms) (hG : GoodIn Ts wy) (hini : Cond.initialized y.cls ∈ Ts) (hlk : Cond.methodLink own index y ∈ Ts) (him : Cond.instanceMethod y ∈ Ts) (hy1 : y.name = "<init>") (hd : y.cls ≠ "java/lang/invoke/MethodHandle" ∧ y.cls ≠ "java/lang/invoke/VarHandle" ∧ (parseMethodDescriptor y.desc).map (fun d => d.parameters.length) = some na) (hw : wy = Cond.code y bytes maxL none :: wy') (hrm : rm.cells = mc ∧ rm.slots = ms) (hR : rm.frames + 1 ≤ R.frames ∧ 8 + (maxL + 11) + rm.locals ≤ R.locals) (hnc : va_nd is = true) (hws : is.map (fun i => ws[i]?) = wc.map some) (hwo : ir.map (fun i => ws[i]?) = wo.map some) (hnd : va_nd ir = true) (hdis : ∀ i ∈ ir, i ∉ is) (hn : As.length = na) (hst : st0 = As.reverse ++ .ref b :: st) (hroom : (st.map fun v => v.category).sum ≤ 8) (hkn : k + mc ≤ R.cells ∧ n + ms ≤ R.slots) (d : decode cc pc = .ok (.invokespecial index, 3)) (h : ∀ (v : Option Value) (w1 : va_W), Post v w1 → zG X (k + mc) (n + ms) lv (v.toList ++ st) (wo ++ w1) (pc + 3)) : zG X k n lv st0 ws pc := by
  intro H locs ls j hl
  obtain ⟨hx, hb, hml, hown, hts, hK, hA, hRR, hnL, hwr, hll, hDD⟩ := id C
  have hM := hM H.size
  rw [← hll, ← hDD] at hM
  have hf : is.filterMap (fun i => ws[i]?) = wc := by
    have h1 : is.filterMap (fun i => ws[i]?) = (is.map (fun i => ws[i]?)).filterMap id := by rw [List.filterMap_map]; rfl
    rw [h1, hws, List.filterMap_map]; simp
  exact zs_cw C is ir hws hwo hnd hdis j hl (va_runI (nL := nL) (As := As) (rest := st) ⟨hx, hb, hml, hown, hts⟩ hM (cwI na hts hG hw hrm.1 hrm.2 (hts _ hini) (hts _ hlk) (hts _ him) hy1 hd (by rw [hRR]; exact hR)) ⟨(fun a U g mk q => ⟨q.1, q.2.1, q.2.2.1, va_K.moved (u := U) (U := U.calling g mk a) (Vm.Alike.refl U.vm) q.2.2.2.1, q.2.2.2.2⟩), fun U hU hW => ⟨rfl, by rw [hU], by rw [hU]; exact j.1.sub is hf, va_K.moved hW.alike hK, ((j.2.1 hwr).1.sub is hnc hws).weaken (fun _ _ _ _ => trivial)⟩⟩ rfl hn (by rw [← hnL]; exact hl.1) hst (lv_room hroom) d (by rw [hRR]; exact hkn)) h
theorem zg_iret (C : zC X l D cI R nL wr cc own Ts) {v v0 : Int32} (E : zEi X .int v0) (d : decode cc pc = .ok (.ireturn, 1)) (e : v = v0) : zG X 0 0 lv [.int v] ws pc := by
  intro H locs ls j hl
  obtain ⟨rfl, rfl⟩ := j.2.2 E.2.2.1
  subst e
  rw [E.2.2.2]
  exact W.iret C.1 C.2.1 E.1 (fun t ht hW => ⟨v, rfl, rfl, ht⟩) (fun q h => by cases h) d E.2.1
theorem zg_zret (C : zC X l D cI R nL wr cc own Ts) {v : Int32} {v0 : Bool} (E : zEi X .boolean (zb v0)) (d : decode cc pc = .ok (.ireturn, 1)) (e : v = zb v0) : zG X 0 0 lv [.int v] ws pc := by
  intro H locs ls j hl
  obtain ⟨rfl, rfl⟩ := j.2.2 E.2.2.1
  subst e
  rw [E.2.2.2]
  exact W.zret C.1 C.2.1 E.1 (zb_nar v0) (fun t ht hW => ⟨zb v0, rfl, rfl, ht⟩) (fun q h => by cases h) d E.2.1
theorem zg_lret (C : zC X l D cI R nL wr cc own Ts) {v v0 : Int64} (E : zEl X v0) (d : decode cc pc = .ok (.lreturn, 1)) (e : v = v0) : zG X 0 0 lv [.long v] ws pc := by
  intro H locs ls j hl
  obtain ⟨rfl, rfl⟩ := j.2.2 E.2.2.1
  subst e
  rw [E.2.2.2]
  exact W.lret C.1 C.2.1 E.1 (fun t ht hW => ⟨v, rfl, rfl, ht⟩) (fun q h => by cases h) d E.2.1
theorem zg_wiret (C : zC X l D cI R nL wr cc own Ts) {v : Int32} {Post : Option Value → va_W → Prop} (E : zEw X D (some .int) Post k n) (d : decode cc pc = .ok (.ireturn, 1)) (e : Post (some (.int v)) ws) : zG X k n lv [.int v] ws pc := by
  intro H locs ls j hl
  obtain ⟨hD, hS⟩ := j.2.1 E.2.2.1
  have hP := j.1
  rw [E.2.2.2.1] at hP
  rw [E.2.2.2.2]
  exact W.iret C.1 C.2.1 E.1 (fun t ht hW => ⟨⟨_, ws, rfl, e, by rw [ht]; exact hP, hD⟩, hS.F ht⟩) hS.2.2 d E.2.1
theorem zg_wzret (C : zC X l D cI R nL wr cc own Ts) {v : Int32} (v0 : Bool) {Post : Option Value → va_W → Prop} (E : zEw X D (some .boolean) Post k n) (d : decode cc pc = .ok (.ireturn, 1)) (hv : v = zb v0) (e : Post (some (.int (zb v0))) ws) : zG X k n lv [.int v] ws pc := by
  intro H locs ls j hl
  obtain ⟨hD, hS⟩ := j.2.1 E.2.2.1
  have hP := j.1
  rw [E.2.2.2.1] at hP
  subst hv
  rw [E.2.2.2.2]
  exact W.zret C.1 C.2.1 E.1 (zb_nar v0) (fun t ht hW => ⟨⟨_, ws, rfl, e, by rw [ht]; exact hP, hD⟩, hS.F ht⟩) hS.2.2 d E.2.1
theorem zg_wlret (C : zC X l D cI R nL wr cc own Ts) {v : Int64} {Post : Option Value → va_W → Prop} (E : zEw X D (some .long) Post k n) (d : decode cc pc = .ok (.lreturn, 1)) (e : Post (some (.long v)) ws) : zG X k n lv [.long v] ws pc := by
  intro H locs ls j hl
  obtain ⟨hD, hS⟩ := j.2.1 E.2.2.1
  have hP := j.1
  rw [E.2.2.2.1] at hP
  rw [E.2.2.2.2]
  exact W.lret C.1 C.2.1 E.1 (fun t ht hW => ⟨⟨_, ws, rfl, e, by rw [ht]; exact hP, hD⟩, hS.F ht⟩) hS.2.2 d E.2.1
theorem zg_wvret (C : zC X l D cI R nL wr cc own Ts) {Post : Option Value → va_W → Prop} (E : zEw X D none Post k n) (d : decode cc pc = .ok (.return_, 1)) (e : Post none ws) : zG X k n lv [] ws pc := by
  intro H locs ls j hl
  obtain ⟨hD, hS⟩ := j.2.1 E.2.2.1
  have hP := j.1
  rw [E.2.2.2.1] at hP
  rw [E.2.2.2.2]
  exact W.vret C.1 C.2.1 E.1 (fun t ht hW => ⟨⟨_, ws, rfl, e, by rw [ht]; exact hP, hD⟩, hS.F ht⟩) hS.2.2 d E.2.1
/-- loops: 'h' holds at every i from 0 to N if it holds at i whenever it holds at i + 1 -/
theorem zg_dn {N : Nat} {P : Nat → Prop} (h : ∀ i, i ≤ N → (i < N → P (i + 1)) → P i) : ∀ i, i ≤ N → P i := by
  have key : ∀ m i, i + m = N → P i := by
    intro m
    induction m with
    | zero => exact fun i hi => h i (by omega) (fun q => by omega)
    | succ m ih => exact fun i hi => h i (by omega) (fun _ => ih (i + 1) (by omega))
  exact fun i hi => key (N - i) i (by omega)
end ZG
