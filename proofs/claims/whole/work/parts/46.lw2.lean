/-! a thrown object caught in the caller; static calls of methods with handlers -/
def xIAE : String := "java/lang/IllegalArgumentException"
def xISE : String := "java/lang/IllegalStateException"
def xIOB : String := "java/lang/IndexOutOfBoundsException"
def xNp (E F : String) (U : State) : Prop := ∃ a b : ClassId, U.vm.findClass E = some a ∧ U.vm.findClass F = some b ∧ U.vm.assignable a b = false
def xNoL : List (String × String) := [("java/lang/IllegalStateException", "java/lang/IllegalArgumentException"), ("java/lang/IndexOutOfBoundsException", "java/lang/IllegalArgumentException"), ("java/lang/IllegalArgumentException", "java/lang/IllegalStateException"), ("java/lang/IndexOutOfBoundsException", "java/lang/IllegalStateException"), ("java/lang/IllegalArgumentException", "java/lang/IndexOutOfBoundsException"), ("java/lang/IllegalStateException", "java/lang/IndexOutOfBoundsException")]
def xNo (U : State) : Prop := ∀ q ∈ xNoL, xNp q.1 q.2 U
theorem xNp.moved {E F : String} {s U : State} (hvm : s.vm.Alike U.vm) (h : xNp E F s) : xNp E F U := by
  obtain ⟨a, b, h1, h2, h3⟩ := h
  exact ⟨a, b, by rw [hvm.findClass]; exact h1, by rw [hvm.findClass]; exact h2, by rw [hvm.assignable]; exact h3⟩
theorem xNo.moved {s U : State} (hvm : s.vm.Alike U.vm) (h : xNo s) : xNo U := fun q hq => (h q hq).moved hvm
theorem xNp.of {E F : String} {args : Array Value} {s : State} (hno : (Cond.not (.castable E F)).before args s = true) : xNp E F s := by
  have hv := Cond.holds_not_iff.mp hno
  simp only [Cond.value] at hv
  cases h1 : s.vm.findClass E with
  | none => simp [h1] at hv
  | some a =>
    cases h2 : s.vm.findClass F with
    | none => simp [h1, h2] at hv
    | some b =>
      simp only [h1, h2] at hv
      exact ⟨a, b, h1, h2, Option.some.inj hv⟩
theorem xSt.sub {n d : String} {A A' : Nat → Prop} {U : State} {H : Heap} (ha : ∀ q, A' q → A q) (h : xSt n d A U H) : xSt n d A' U H := by
  obtain ⟨c, k, i, f, b, cell, v, h1, h2, h3, h4, h5, h6, h7, h8, h9, r1, r2, r3⟩ := h
  exact ⟨c, k, i, f, b, cell, v, h1, h2, h3, h4, h5, h6, h7, h8, h9, r1, r2, fun z => r3 (ha _ z)⟩
theorem xOK.sub {A A' : Nat → Prop} {U : State} {H : Heap} (ha : ∀ q, A' q → A q) (h : xOK A U H) : xOK A' U H := ⟨h.1, h.2.1, h.2.2.1.sub ha, h.2.2.2.sub ha⟩
theorem gSwapP {D : va_G} {w1 w2 : va_W} {H : Heap} (h : va_P D gCl (w1 ++ w2) H) : va_P D gCl (w2 ++ w1) H := (gSplit h).2.app (gSplit h).1
theorem gSwapD {A : Nat → Prop} {w1 w2 : va_W} (h : va_D A (w1 ++ w2)) : va_D A (w2 ++ w1) := by
  obtain ⟨h1, h2, h3, h4⟩ := gSplitD h
  refine va_D.app h3 (h1.weaken (fun k q _ z => h2 _ z)) ?_
  intro i j x y hi hj e
  exact h4 i x hi (e ▸ h1.2 j y hj)
def hPre (D : va_G) (t : Nat → ClassId) (A : Nat → Prop) (w : va_W) (U : State) : Prop := gPre D t A w U ∧ xOK A U U.heap ∧ xNo U
theorem hBlind {av : List Value} {D : va_G} {t : Nat → ClassId} {A : Nat → Prop} {w : va_W} : FrameBlind (va_Pc av (hPre D t A w)) := fun a U g mk h => ⟨h.1, ⟨h.2.1.1.call g mk a, h.2.1.2.1, h.2.1.2.2⟩, xOK.same (s := U) (U := U.calling g mk a) rfl h.2.2.1, xNo.moved (s := U) (U := U.calling g mk a) (Vm.Alike.refl U.vm) h.2.2.2⟩
/-- a helper's contract: whether the class returns or throws, the helper returns; at most one new cell -/
def gMq {S : Type} (l : Launch) (D : va_G) (t : Nat → ClassId) (y : MethodName) (cc : ByteArray) (maxL : Nat) (hh : List (Nat × Nat × Nat × Nat)) (n : Nat) (av : List Value) (w : va_W) (wd : S → va_W) (post : Int32 → S → Prop) : Prop :=
  ∀ A : Nat → Prop, Met l y (.codeWith y cc maxL (some .int) hh :: gBig) (xRm n) (va_Pc av (hPre D t A w)) (va_Qi post (fun u U => va_P D gCl (wd u) U.heap ∧ va_D A (wd u)) A) 1 6 A
def hEnt (q : Nat × Nat × Nat × Nat) : ExceptionTableEntry := ⟨q.1, q.2.1, q.2.2.1, q.2.2.2⟩
theorem h_tab {p : Program} {l : Launch} {x : MethodName} {S : Spec} {code : ByteArray} {maxL : Nat} {ret : Option FieldType} {e : Env} {s : State} {m : MethodId} {args : Array Value} {below : List Frame} {meth : Method} {c : Code} {s₁ : State} {hh : List (Nat × Nat × Nat × Nat)} (B : BodyLoose p l x S code maxL ret e s m args below meth c s₁) (h : (Cond.codeWith x code maxL ret hh).before args s = true) : c.exceptionTable.toList = hh.map hEnt := by
  obtain ⟨m9, meth', c', hn9, hm', hc', -, -, he', -⟩ := Cond.codeWith_spec h
  cases B.named.symm.trans hn9
  cases B.method.symm.trans hm'
  cases (Stand.of_body B).code.symm.trans hc'
  rw [← he', List.map_map]
  conv => lhs; rw [← List.map_id c.exceptionTable.toList]
  rfl
/-- one row of a table that covers the place, the class that it names linked: it takes the object, or the search goes on; the link is noted -/
theorem h_row {Q : Handler → Pre} {O : CtlPost} {e : Env} {d : Bool} {acts : List Action} {S : State} {f : JFrame} {a : Addr} {x : ExceptionTableEntry} {tl : List ExceptionTableEntry} {k : ClassId} {cell : Cell} (hx : covers x f.pc = true) (h0 : x.catchType ≠ 0) (hl : S.vm.ClassLinks e.platform f.method.cls x.catchType k)
    (hcell : S.heap[a]? = some cell) (hobj : cell.vm.isStatics = false) (h1 : ∃ z, S.vm.classes[cell.cls]? = some z) (h2 : ∃ z, S.vm.classes[k]? = some z) :
    wp (findHandler.go f a (x :: tl)) Q O e d acts S ↔ bif S.vm.assignable cell.cls k then Q (.found x.handlerPc) d acts (S.setVm (S.vm.noted f.method.cls x.catchType (.cls k))) else wp (findHandler.go f a tl) Q O e d acts (S.setVm (S.vm.noted f.method.cls x.catchType (.cls k))) := by
  have hA : S.vm.Alike (S.vm.noted f.method.cls x.catchType (.cls k)) := (Vm.Alike.refl _).noted _ _ _
  have hne := VmData.ne_statics_of hobj
  obtain ⟨q1, q2⟩ := (resolveClass_links e.toSetting hl).op (op := VmOp.resolveClass f.method.cls x.catchType) rfl
  obtain ⟨z1, h1⟩ := h1
  obtain ⟨z2, h2⟩ := h2
  obtain ⟨y1, g1, -⟩ := hA.2.2 _ _ h1
  obtain ⟨y2, g2, -⟩ := hA.2.2 _ _ h2
  have g3 := hA.assignable cell.cls k
  have hx2 : (decide (x.startPc ≤ f.pc) && decide (f.pc < x.endPc)) = true := hx
  cases hb : S.vm.assignable cell.cls k <;> rw [hb] at g3 <;> simp [findHandler.go, hx2, h0, q1, q2, hcell, hne, g1, g2, g3, VmOp.dirties, VmOp.acts]
/-- rows that name classes which the object is not of, then one that names a class which it is of and covers the place: that one is found -/
theorem h_find {e : Env} {s : State} {f : JFrame} {a : Addr} {cell : Cell} (hobj : cell.vm.isStatics = false) {k : ClassId} {x : ExceptionTableEntry} {tl : List ExceptionTableEntry} (hx : covers x f.pc = true) (h0 : x.catchType ≠ 0) (hl : s.vm.ClassLinks e.platform f.method.cls x.catchType k) (hfit : s.vm.assignable cell.cls k = true) :
    ∀ (pre : List ExceptionTableEntry) (S : State), s.WarmedH S.vm → S.heap[a]? = some cell → (∀ y ∈ pre, y.catchType ≠ 0 ∧ ∃ k', s.vm.ClassLinks e.platform f.method.cls y.catchType k' ∧ s.vm.assignable cell.cls k' = false) →
      ∃ vm', s.WarmedH vm' ∧ ∀ (Q : Handler → Pre) (O : CtlPost) (d : Bool) (acts : List Action), wp (findHandler.go f a (pre ++ x :: tl)) Q O e d acts S ↔ Q (.found x.handlerPc) d acts (S.setVm vm') := by
  have tab : ∀ {j k' : Nat}, s.vm.ClassLinks e.platform f.method.cls j k' → (∃ z, s.vm.classes[k']? = some z) ∧ ∀ S : State, s.WarmedH S.vm → s.WarmedH (S.vm.noted f.method.cls j (.cls k')) := by
    intro j k' h
    obtain ⟨dk, _, _, kt, hd, _, _, _, _, hkt, _, hopen⟩ := h.here
    exact ⟨⟨kt, hkt⟩, fun S hS => hS.noted hd hopen (State.rightAt_cls h)⟩
  have up : ∀ {S : State} {j : Nat}, s.WarmedH S.vm → (∃ z, s.vm.classes[j]? = some z) → ∃ z, S.vm.classes[j]? = some z := fun hS h => by
    obtain ⟨z, h⟩ := h
    obtain ⟨z', h', -⟩ := hS.alike.2.2 _ _ h
    exact ⟨z', h'⟩
  have hk := Vm.classAt_of_assignable hfit (tab hl).1
  intro pre
  induction pre with
  | nil =>
    intro S hS hc _
    refine ⟨_, (tab hl).2 S hS, fun Q O d acts => ?_⟩
    rw [List.nil_append, h_row hx h0 (hS.classLinks hl) hc hobj (up hS hk) (up hS (tab hl).1), hS.alike.assignable, hfit]
    rfl
  | cons y ys ih =>
    intro S hS hc hp
    obtain ⟨y0, k', yl, yn⟩ := hp y List.mem_cons_self
    cases hy : covers y f.pc with
    | false =>
      obtain ⟨vm', r1, r2⟩ := ih S hS hc (fun z hz => hp z (List.mem_cons_of_mem _ hz))
      exact ⟨vm', r1, fun Q O d acts => by rw [List.cons_append, W.findHandler_go_skip hy]; exact r2 Q O d acts⟩
    | true =>
      obtain ⟨vm', r1, r2⟩ := ih (S.setVm (S.vm.noted f.method.cls y.catchType (.cls k'))) ((tab yl).2 S hS) hc (fun z hz => hp z (List.mem_cons_of_mem _ hz))
      refine ⟨vm', r1, fun Q O d acts => ?_⟩
      rw [List.cons_append, h_row hy y0 (hS.classLinks yl) hc hobj (up hS hk) (up hS (tab yl).1), hS.alike.assignable, yn]
      exact r2 Q O d acts
/-- a thrown object goes to the row that takes it -/
theorem h_hand {p : Program} {l : Launch} {e : Env} {R : Room} {s : State} {m : MethodId} {args : Array Value} {below : List Frame} {meth : Method} {c : Code} {T : State} {locs : List Loc} {cells slots : Nat} (X : Stand p l e R s m args below meth c T locs cells slots) {v : Addr} {pc : Nat} {ls : Array Slot} {st : List Value} {cell : Cell} (hcell : T.heap[v]? = some cell) (hobj : cell.vm.isStatics = false)
    {pre tl : List ExceptionTableEntry} {x : ExceptionTableEntry} (hsplit : c.exceptionTable.toList = pre ++ x :: tl) (hpass : ∀ y ∈ pre, y.catchType ≠ 0 ∧ ∃ k', s.vm.ClassLinks e.platform m.cls y.catchType k' ∧ s.vm.assignable cell.cls k' = false) (hx : covers x pc = true) (h0 : x.catchType ≠ 0) {k : ClassId} (hl : s.vm.ClassLinks e.platform m.cls x.catchType k) (hfit : s.vm.assignable cell.cls k = true) :
    ∃ vm', Stand p l e R s m args below meth c (T.setVm vm') locs cells slots ∧ Steps p.tables e below ((T.setTop (F0 m pc ls st)).pushFrame (.throwing v)) ((T.setVm vm').setTop (F0 m x.handlerPc ls [.ref v])) := by
  obtain ⟨vm', hW, hq⟩ := h_find (f := F0 m pc ls st) (a := v) hobj (tl := tl) hx h0 hl hfit pre ((T.setTop (F0 m pc ls st)).pushFrame (.throwing v)) X.warmed hcell hpass
  refine ⟨vm', X.noted hW, ?_⟩
  obtain ⟨g1, hg1⟩ := X.frames_eq
  obtain ⟨hgo, hin⟩ := At.throwing (g := F0 m pc ls st) X.here v
  have hstep : (stepThread p.tables e ((T.setTop (F0 m pc ls st)).pushFrame (.throwing v))).1 = (T.setVm vm').setTop (F0 m x.handlerPc ls [.ref v]) := by
    rw [stepThread_throwing (frames_entered X.here.top _)]
    simp only [stepThrowing, searchFrame, vmDo]
    generalize hr : Sem.go _ e false [] ((T.setTop (F0 m pc ls st)).pushFrame (.throwing v)) = res
    obtain ⟨as, rfl, -⟩ := Sem.eq_ok_of hr (a := Handler.found x.handlerPc) (s' := ((T.setTop (F0 m pc ls st)).pushFrame (.throwing v)).setVm vm') (acts' := []) (by
      simp [W.findHandler_eq (meth := meth) (code := c) (f := F0 m pc ls st) (s := (T.setTop (F0 m pc ls st)).pushFrame (.throwing v)) X.method' X.code, hsplit, hq])
    have hv : (T.setVm vm').frames = .java g1 :: below := hg1
    rw [State.setTop_of_frames _ hv, State.pushFrame, State.setTop_of_frames _ hg1, hg1]
    have e1 : ∀ F1 F2 F3 : List Frame, (((T.setFrames F1).setFrames F2).setVm vm').setFrames F3 = (T.setVm vm').setFrames F3 := fun F1 F2 F3 => by
      have e2 : ((T.setFrames F1).setFrames F2).setVm vm' = (T.setVm vm').setFrames F2 := by rw [State.setFrames_setFrames]; rfl
      rw [e2, State.setFrames_setFrames]
    exact e1 _ _ _
  refine Steps.head hgo hin ?_
  rw [hstep]
  exact Steps.refl _
section HC
variable {p : Program} {l : Launch} {e : Env} {R : Room} {s : State} {m : MethodId} {args : Array Value} {below : List Frame} {meth : Method} {c : Code} {cc bytes : ByteArray} {pc : Nat} {ls : Array Slot} {As rest : List Value} {D : va_G} {t : Nat → ClassId} {A : Nat → Prop} {w1 w2 : va_W} {nL maxL n k index b : Nat} {ret : Option FieldType} {y : MethodName} {own C E : String} {w0 : Cond} {locs : List Loc} {cells slots : Nat} {H H0 : Heap} {Q : State → Prop}
theorem x_caught (F : CallFix p m c cc nL s args (w0 :: gBig) own) (hM : gMx l D t y bytes maxL ret n (.ref b :: As) w1 E) (hG : GoodIn (w0 :: gBig) (wsV own index C y (.code y bytes maxL ret :: gBig)))
    (hd : y.cls = C ∧ y.cls ≠ "java/lang/invoke/MethodHandle" ∧ y.cls ≠ "java/lang/invoke/VarHandle" ∧ (parseMethodDescriptor y.desc).map (fun d => d.parameters.length) = some k) (hR : n + 1 ≤ R.frames ∧ 8 + (maxL + 11) + 40 * n ≤ R.locals) (hkl : As.length = k)
    (hrecv : ∃ cellB : Cell, H[b]? = some cellB ∧ cellB.vm.isStatics = false ∧ s.vm.findClass C = some cellB.cls)
    (hK : gK D t s) (hP : va_P D gCl (w1 ++ w2) H) (hD : va_D A (w1 ++ w2)) (hS : va_S A H0 H locs) (hxo : xOK A s H) (hno : xNo s) (hsz : ls.size = nL) {st0 : List Value} (hst : st0 = As.reverse ++ .ref b :: rest) (hrest : (rest.map fun v => v.category).sum ≤ 8) (hc : cells + 1 ≤ R.cells ∧ slots + 6 ≤ R.slots) (hdg : decode cc pc = .ok (.invokevirtual index, 3))
    {pre rest9 : List ExceptionTableEntry} {x9 : ExceptionTableEntry} (hsplit : c.exceptionTable.toList = pre ++ x9 :: rest9) (hpass : ∀ y9 ∈ pre, ∃ name, y9.catchType ≠ 0 ∧ Cond.classLink own y9.catchType name ∈ gBig ∧ (E, name) ∈ xNoL) (hcov : covers x9 pc = true) (h0 : x9.catchType ≠ 0) (hlink : Cond.classLink own x9.catchType E ∈ gBig) (hcast : Cond.castable E E ∈ xNw) {hp9 : Nat} (hpc : x9.handlerPc = hp9)
    (kk : ∀ (v : Nat) (H1 : Heap), va_P D gCl (w1 ++ w2) H1 → va_S A H0 H1 (locs ++ []) → W p l e R s m args below meth c H1 (locs ++ []) (cells + 1) (slots + 6) Q (F0 m hp9 ls [.ref v])) :
    W p l e R s m args below meth c H locs cells slots Q (F0 m pc ls st0) := by
  subst hst
  subst hpc
  intro T hT X
  obtain ⟨hPa, hPb⟩ := gSplit hP
  obtain ⟨hDa, hsub, -, -⟩ := gSplitD hD
  obtain ⟨v, ce, T', X', c1, c2, c3, c4, c5, st⟩ := x_callS (A := gAd w1) X F hM hG hd hR hkl (by rw [hT]; exact hrecv) hK (by rw [hT]; exact hPa) hDa (by rw [hT]; exact hxo.sub hsub) hsz hrest hc hdg
  rw [hT] at c4 c5
  have hts := F.2.2.2.2
  have hown := F.2.2.2.1
  obtain ⟨cE, cT, e1, e2, e3⟩ := Cond.castable_spec (args := args) (va_Nw.use (A := args) rfl (hxo.1 _ hcast))
  cases e1.symm.trans c3
  have hlk := hts _ (List.mem_cons_of_mem _ hlink)
  have hpl : e.platform.magicAccessors = ({} : Platform).magicAccessors := by rw [X.admits.platform]
  obtain ⟨cT', hcT', hcl9⟩ := Cond.classLink_spec hown hlk e.platform hpl
  cases e2.symm.trans hcT'
  obtain ⟨vm', XV, st2⟩ := h_hand X' (pc := pc) (ls := ls) (st := rest) c1 (by rw [c2]; rfl) hsplit (fun y9 hy9 => by
    obtain ⟨name, g0, g1, g2⟩ := hpass y9 hy9
    obtain ⟨ca, cb, q1, q2, q3⟩ := hno _ g2
    obtain ⟨c', hc', hcl⟩ := Cond.classLink_spec hown (hts _ (List.mem_cons_of_mem _ g1)) e.platform hpl
    cases q2.symm.trans hc'
    cases q1.symm.trans c3
    exact ⟨g0, _, hcl, q3⟩) hcov h0 hcl9 e3
  have hk1 : ∀ q : Nat, q < H.size → T'.heap[q]? = H[q]? := c5
  obtain ⟨t2, a1, b1⟩ := kk v T'.heap (hP.kept (fun k q hq => hk1 q.1 ((hP k q hq).lt))) ⟨Nat.le_trans hS.1 c4, fun q h1 h2 => by rw [hk1 q (Nat.lt_of_lt_of_le h1 hS.1)]; exact hS.2.1 q h1 h2, fun q hq => hS.2.2 q (by simpa using hq)⟩ (T'.setVm vm') rfl XV
  exact ⟨t2, (st.trans st2).trans a1, b1⟩
theorem h_sw {S : Type} {wd : S → va_W} {post : Int32 → S → Prop} {hh : List (Nat × Nat × Nat × Nat)} (F : CallFix p m c cc nL s args (w0 :: gBig) own) (hM : gMq l D t y bytes maxL hh n As w1 wd post) (hm1 : Cond.methodLink own index y ∈ gBig) (hm2 : Cond.static y ∈ gBig) (hm3 : Cond.initialized y.cls ∈ gBig) (hm4 : Cond.codeWith y bytes maxL (some .int) hh ∈ gBig)
    (hd : y.cls ≠ "java/lang/invoke/MethodHandle" ∧ y.cls ≠ "java/lang/invoke/VarHandle" ∧ (parseMethodDescriptor y.desc).map (fun d => d.parameters.length) = some k) (hR : n + 1 ≤ R.frames ∧ 8 + (maxL + 11) + 40 * n ≤ R.locals) (hkl : As.length = k)
    (hK : gK D t s) (hP : va_P D gCl (w1 ++ w2) H) (hD : va_D A (w1 ++ w2)) (hS : va_S A H0 H locs) (hxo : xOK A s H) (hno : xNo s) (hsz : ls.size = nL) {st0 : List Value} (hst : st0 = As.reverse ++ rest) (hrest : (rest.map fun v => v.category).sum ≤ 8) (hc : cells + 1 ≤ R.cells ∧ slots + 6 ≤ R.slots) (hdg : decode cc pc = .ok (.invokestatic index, 3))
    (kk : ∀ (r : Int32) (u : S) (H1 : Heap) (locs1 : List Loc), post r u → va_P D gCl (wd u ++ w2) H1 → va_D A (wd u ++ w2) → va_S A H0 H1 locs1 → (∀ q : Nat, q < H.size → ¬ A q → H1[q]? = H[q]?) → W p l e R s m args below meth c H1 locs1 (cells + 1) (slots + 6) Q (F0 m (pc + 3) ls (.int r :: rest))) :
    W p l e R s m args below meth c H locs cells slots Q (F0 m pc ls st0) := by
  subst hst
  obtain ⟨hPa, -⟩ := gSplit hP
  obtain ⟨hDa, hsub, -, -⟩ := gSplitD hD
  obtain ⟨hx, hb, hml, ho, hts⟩ := F
  have hG : GoodIn (w0 :: gBig) (.codeWith y bytes maxL (some .int) hh :: gBig) := gGood (fun w hw => by
    rcases List.mem_cons.mp hw with rfl | hw <;> assumption)
  have hBk : Back l R p e below s args y 3 8 (PreOf R 1 6 (va_Pc As (hPre D t (gAd w1) w1))) (PostOf (va_Qi post (fun u U => va_P D gCl (wd u) U.heap ∧ va_D (gAd w1) (wd u)) (gAd w1)) 1 6 (gAd w1)) := va_backW (hh := hh) (bytes := bytes) (maxL := maxL) (ret := some .int) (hM (gAd w1)) hBlind rfl rfl hR.1 hR.2 (pay_in hts hG) List.mem_cons_self (fun a' U hW => word_at hW (Or.inl (by first | rfl | simp [Cond.onTables, Cond.keeps, Cond.steady])) (hts _ (List.mem_cons_of_mem _ hm3)))
  have hrun : va_Run p l e R s m args below meth c H locs cells slots 1 6 (F0 m pc ls (As.reverse ++ rest)) rest (va_Qi post (fun u U => va_P D gCl (wd u) U.heap ∧ va_D (gAd w1) (wd u)) (gAd w1) As.toArray) (gAd w1) := by
    intro T hT X
    obtain ⟨mk, methM, cM, hnamed, hmethM, -, -, -, -, -, -, hsigM⟩ := Cond.codeWith_spec (hts _ (List.mem_cons_of_mem _ hm4))
    have hstatic : methM.isStatic = true := Cond.static_spec hnamed hmethM (hts _ (List.mem_cons_of_mem _ hm2))
    obtain ⟨kP, hkP, -⟩ := className_of_methodNamed hnamed
    have hinitP : kP.init = .initialized := Cond.initialized_spec (findClass_of_methodNamed hnamed) hkP (hts _ (List.mem_cons_of_mem _ hm3))
    have hlen : As.length = methM.sig.parameters.length := by
      have h2 := hd.2.2
      rw [hsigM] at h2
      exact hkl.trans (Option.some.inj h2).symm
    obtain ⟨vm₁, X₁, hstep₁⟩ := X.invokestatic hx ho (hts _ (List.mem_cons_of_mem _ hm1)) hnamed hmethM hstatic hkP hinitP ⟨hd.1, hd.2.1⟩ (g := F0 m pc ls (As.reverse ++ rest)) rfl (argsL := As) (rest := rest) hlen rfl (by rw [hb]; exact hdg)
    obtain ⟨v, ⟨U', l2, c2, s2⟩, X', ⟨g', mk', t9, L, e1, e2, hq, h1, hL, h2, h3⟩, hsteps⟩ := hBk m meth c ⟨T.setVm vm₁, locs, cells, slots⟩ (F0 m pc ls rest) (.invokestatic index) mk As.toArray X₁ rfl (hsz.trans hml.symm) (by rw [hb]; exact hdg) (lv_room hrest) (X₁.named hnamed) ⟨hc.1, hc.2, rfl, ⟨gK.moved X₁.warmed hK, by show va_P D gCl w1 T.heap; rw [hT]; exact hPa, hDa⟩, by show xOK _ _ T.heap; rw [hT]; exact xOK.moved X₁.warmed (hxo.sub hsub), hno.moved X₁.warmed.alike⟩
    dsimp only [Pt.U, Pt.locs, Pt.cells, Pt.slots] at X' e1 e2 h1 h2 h3 hsteps
    subst h1; subst h2; subst h3
    exact ⟨v, (T.setVm vm₁).calling g' mk' As.toArray, t9, U', L, hT, X', hL, e1, e2, hq, fun target h => hstep₁ _ fun acts => by rw [doInvoke_state]; exact hsteps.trans h⟩
  refine va_calli (A1 := gAd w1) hrun hS (fun q _ h => hsub q h) (fun q h => hsub q h) (fun r u T1 H1 locs1 ht hvm hp hB hz hk hS1 => ?_)
  have hB1 : va_P D gCl (wd u) H1 := by rw [← ht]; exact hB.1
  obtain ⟨z1, z2⟩ := gJoinW hP hD hB1 hB.2 hk
  exact kk r u H1 locs1 hp z1 z2 hS1 (fun q h1 h2 => hk q h1 (fun z => h2 (hsub q z)))
end HC
