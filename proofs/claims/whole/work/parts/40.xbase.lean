/-! exceptions that leave a method: own rows over the library's laws of a throw (no traces kept) -/
def xNw : List Cond := [(Cond.castable "java/lang/IllegalArgumentException" "java/lang/IllegalArgumentException"), (Cond.declares ({ cls := "java/lang/RuntimeException", name := "<init>", desc := "()V" } : MethodName)), (Cond.declares ({ cls := "java/lang/RuntimeException", name := "<init>", desc := "(Ljava/lang/String;)V" } : MethodName)), (Cond.declares ({ cls := "java/lang/Exception", name := "<init>", desc := "()V" } : MethodName)), (Cond.declares ({ cls := "java/lang/Exception", name := "<init>", desc := "(Ljava/lang/String;)V" } : MethodName)), (Cond.declares ({ cls := "java/lang/Throwable", name := "<init>", desc := "()V" } : MethodName)), (Cond.declares ({ cls := "java/lang/Throwable", name := "<init>", desc := "(Ljava/lang/String;)V" } : MethodName)), (Cond.castable "java/lang/IllegalStateException" "java/lang/IllegalStateException"), (Cond.castable "java/lang/IndexOutOfBoundsException" "java/lang/IndexOutOfBoundsException")]
def xStr : List (Nat × String) := [(68, "a side is not 1 .. 100"), (77, "cents or grams are not 1 .. 100000"), (85, "there are 4 cartons"), (96, "grams are not 1 .. 50000, or step is not 0 .. 50"), (99, "there are 8 parts"), (108, "no such part"), (115, "no such carton"), (121, "no parts, or one that is not there"), (207, "no shares since something was told"), (145, "no such part or what"), (151, "no such box or what"), (159, "no such place"), (166, "there are 4 bags"), (170, "no such bag"), (172, "many is not 0 .. 1000, or each is not 1 .. 1000"), (174, "spread is not 0 .. each"), (179, "there are 6 kinds"), (185, "grams are below 0"), (190, "no such box"), (192, "room is not 1 .. 1000"), (201, "limit is not 1 .. 1000000")]
def xUS : String := "[Ljava/lang/StackTraceElement;"
def xLS : String := "Ljava/util/List;"
def xTN : String := "java/lang/Throwable"
/-- a static of Throwable's that holds a reference or null, in a cell that A does not hold -/
def xSt (n d : String) (A : Nat → Prop) (U : State) (H : Heap) : Prop := ∃ (c : ClassId) (k : Class) (i : Nat) (f : Field) (b : Nat) (cell : Cell) (v : Value), U.vm.findClass xTN = some c ∧ U.fieldFound? xTN n d = some (c, k, i, f) ∧ f.isStatic = true ∧ k.statics = some b ∧ H[b]? = some cell ∧ cell.vm.isStatics = true ∧ cell.cls = c ∧ f.slot < cell.slots.size ∧ k.staticTypes[f.slot]? = some f.type ∧ cell.slots[f.slot]? = some v ∧ v.isRef = true ∧ ¬ A b
theorem xSt.moved {n d : String} {A : Nat → Prop} {u U : State} {H : Heap} (hvm : u.vm.Alike U.vm) (h : xSt n d A u H) : xSt n d A U H := by
  obtain ⟨c, k, i, f, b, cell, v, h1, h2, h3, h4, h5, h6, h7, h8, h9, r⟩ := h
  obtain ⟨k', hi', he⟩ := State.fieldFound?_setVm hvm h2
  exact ⟨c, k', i, f, b, cell, v, by rw [hvm.findClass]; exact h1, hi', h3, by rw [he]; exact h4, h5, h6, h7, h8, by rw [he]; exact h9, r⟩
theorem xSt.kept {n d : String} {A : Nat → Prop} {U : State} {H H1 : Heap} (h : xSt n d A U H) (hq : ∀ b : Nat, b < H.size → ¬ A b → H1[b]? = H[b]?) : xSt n d A U H1 := by
  obtain ⟨c, k, i, f, b, cell, v, h1, h2, h3, h4, h5, h6, h7, h8, h9, r1, r2, r3⟩ := h
  exact ⟨c, k, i, f, b, cell, v, h1, h2, h3, h4, by rw [hq b (Array.getElem?_eq_some_iff.mp h5).1 r3]; exact h5, h6, h7, h8, h9, r1, r2, r3⟩
theorem xSt.lays {n d : String} {A : Nat → Prop} {s : State} {args : Array Value} (h : xSt n d A s s.heap) : (Cond.laysStatic xTN n d).before args s = true := by
  obtain ⟨c, k, i, f, b, cell, v, h1, h2, h3, h4, h5, h6, h7, h8, h9, -⟩ := h
  show (Cond.laysStatic xTN n d).holds args s none s [] = true
  exact Cond.laysStatic_of h1 h2 h3 h4 h5 h6 h7 h8 h9
theorem xSt.ref {n d : String} {A : Nat → Prop} {s : State} {args : Array Value} (h : xSt n d A s s.heap) : (Cond.isRef (.static xTN n d)).before args s = true := by
  obtain ⟨c, k, i, f, b, cell, v, h1, h2, h3, h4, h5, h6, h7, h8, h9, r1, r2, -⟩ := h
  have he : (Term.static xTN n d).eval args s none [] s = some v := by
    simp [Term.eval, State.fieldNamed?, h2, h3, h4, h5, h6, r1]
  simp only [Cond.before, Cond.holds, Cond.value, he]
  cases v <;> simp_all [Value.isRef]
/-- what a throw needs of a state beside the tables' good words -/
def xOK (A : Nat → Prop) (U : State) (H : Heap) : Prop := (∀ w ∈ xNw, va_Nw w U) ∧ (∀ q ∈ xStr, ∃ sa, vk_R "FlatBoxes" q.1 q.2 sa U) ∧ xSt "UNASSIGNED_STACK" xUS A U H ∧ xSt "SUPPRESSED_SENTINEL" xLS A U H
theorem xNw_warm : ∀ w ∈ xNw, ∀ s U : State, s.WarmedH U.vm → va_Nw w s → va_Nw w U := by
  intro w hw s U hW h
  simp only [xNw, List.mem_cons, List.not_mem_nil, or_false] at hw
  rcases hw with rfl | rfl | rfl | rfl | rfl | rfl | rfl | rfl | rfl <;> first | exact va_Nw.warmC hW h | exact va_Nw.warmD hW h
theorem xNw_tab : ∀ w ∈ xNw, w.onTables = true := by decide +kernel
theorem xOK.moved {A : Nat → Prop} {s U : State} {H : Heap} (hW : s.WarmedH U.vm) (h : xOK A s H) : xOK A U H := ⟨fun w hw => xNw_warm w hw s U hW (h.1 w hw), fun q hq => (h.2.1 q hq).imp (fun _ z => vk_R.warm hW z), h.2.2.1.moved hW.alike, h.2.2.2.moved hW.alike⟩
theorem xOK.same {A : Nat → Prop} {s U : State} {H : Heap} (hv : U.vm = s.vm) (h : xOK A s H) : xOK A U H := ⟨fun w hw => va_Nw.same (xNw_tab w hw) hv.symm (h.1 w hw), fun q hq => (h.2.1 q hq).imp (fun _ z => vk_R.same hv z), h.2.2.1.moved (by rw [hv]; exact Vm.Alike.refl _), h.2.2.2.moved (by rw [hv]; exact Vm.Alike.refl _)⟩
theorem xOK.kept {A : Nat → Prop} {U : State} {H H1 : Heap} (h : xOK A U H) (hq : ∀ b : Nat, b < H.size → ¬ A b → H1[b]? = H[b]?) : xOK A U H1 := ⟨h.1, h.2.1, h.2.2.1.kept hq, h.2.2.2.kept hq⟩
def xHeapW : List Cond := [.isRef (.static xTN "UNASSIGNED_STACK" xUS), .isRef (.static xTN "SUPPRESSED_SENTINEL" xLS), .laysStatic xTN "UNASSIGNED_STACK" xUS, .laysStatic xTN "SUPPRESSED_SENTINEL" xLS]
def xUp : List String := ["java/lang/RuntimeException", "java/lang/Exception"]
theorem xIn_70 : ∀ w ∈ Jvm.Bundle.ownAtoms "FlatBoxes" 70 "java/lang/IllegalArgumentException" xUp, w ∈ xHeapW ∨ w ∈ xNw ∨ w ∈ gBig := by decide +kernel
theorem xIn_87 : ∀ w ∈ Jvm.Bundle.ownAtoms "FlatBoxes" 87 "java/lang/IllegalStateException" xUp, w ∈ xHeapW ∨ w ∈ xNw ∨ w ∈ gBig := by decide +kernel
theorem xIn_110 : ∀ w ∈ Jvm.Bundle.ownAtoms "FlatBoxes" 110 "java/lang/IndexOutOfBoundsException" xUp, w ∈ xHeapW ∨ w ∈ xNw ∨ w ∈ gBig := by decide +kernel
theorem xHat {L : List Cond} {A : Nat → Prop} {s : State} {args : Array Value} {w0 : Cond} (hL : ∀ w ∈ L, w ∈ xHeapW ∨ w ∈ xNw ∨ w ∈ gBig) (hts : ∀ w ∈ w0 :: gBig, w.before args s = true) (hx : xOK A s s.heap) : ∀ w ∈ L, w.before args s = true := by
  intro w hw
  rcases hL w hw with h | h | h
  · simp only [xHeapW, List.mem_cons, List.not_mem_nil, or_false] at h
    rcases h with rfl | rfl | rfl | rfl
    · exact hx.2.2.1.ref
    · exact hx.2.2.2.ref
    · exact hx.2.2.1.lays
    · exact hx.2.2.2.lays
  · exact va_Nw.use (xNw_tab w h) (hx.1 w h)
  · exact hts w (List.mem_cons_of_mem _ h)
/-- how a method that throws ends: an object of class E, nothing that was there has changed, one new cell of six slots -/
def xQ (E : String) : Array Value → State → Outcome → State → Prop := fun _ st o u => ∃ (q : Addr) (ce : Cell), o = .threw q ∧ (st.WarmedH u.vm ∧ st.sameButNew ({ u with vm := st.vm } : State) [] 1 6) ∧ u.heap[q]? = some ce ∧ ce.vm = .none ∧ st.vm.findClass E = some ce.cls
def xZ (below : List Frame) (E : String) (a : Array Value) (s : State) : State → Prop := fun t => ∃ o, t.status = .running ∧ Ended t below o ∧ xQ E a s o t
def xRm (n : Nat) : Room := { frames := n, cells := 1, slots := 6, locals := 40 * n }
section XT
variable {p : Program} {l : Launch} {e : Env} {R : Room} {s : State} {m : MethodId} {args : Array Value} {below : List Frame} {meth : Method} {c : Code} {cc : ByteArray} {pc : Nat} {ls : Array Slot}
/-- throw new E("text"), nothing written before -/
theorem x_throw (hexec : p.tables.exec = Jvm.exec) (hb : c.code = cc) (hl : l.stackTraces = false) {own cls text : String} {names : List String} {ik is ic sa : Nat} (hown : s.vm.findClass own = some m.cls) (hcls : Jvm.Bundle.fit cls = true) (hnames : ∀ n ∈ names, Jvm.Bundle.fit n = true)
    (hk : (Cond.classLink own ik cls).before args s = true) (hini : (Cond.initialized cls).before args s = true) (hins : (Cond.instantiable cls 6).before args s = true) (hstr : vk_R own is text sa s) (hat : ∀ w ∈ Jvm.Bundle.ownAtoms own ic cls names, w.before args s = true) (hsize : ls.size = c.maxLocals)
    (d0 : decode cc pc = .ok (.new ik, 3)) (d3 : decode cc (pc + 3) = .ok (.dup, 1)) (d4 : decode cc (pc + 4) = .ok (.ldc is, 2)) (d6 : decode cc (pc + 6) = .ok (.invokespecial ic, 3)) (d9 : decode cc (pc + 9) = .ok (.athrow, 1)) (hout : c.exceptionTable.isEmpty = true)
    (hRframes : names.length + 3 < R.frames) (hRlocals : 13 * (names.length + 1) + 43 ≤ R.locals) (hRcells : 1 ≤ R.cells) (hRslots : 6 ≤ R.slots) (hlocks : meth.locks = false) :
    W p l e R s m args below meth c s.heap [] 0 0 (xZ below cls args s) (F0 m pc ls []) := by
  refine W.newc hexec hb hown hk hins hini rfl d0 (by omega) (by omega) (fun cX kX hfX hkX hord hsz => ?_)
  refine W.eq (g2 := F0 m (pc + 3) ls [.ref s.heap.size]) rfl ?_
  refine lv_dup hexec hb d3 rfl ?_
  refine va_ldcS hexec hb hown hstr d4 ?_
  intro T hT X
  have htr : e.platform.stackTraces = false := (show e.platform.stackTraces = l.stackTraces by rw [X.admits.platform]).trans hl
  obtain ⟨U, hsteps, hrun, hend, hW, hsame, ce, hce, hO⟩ := X.ctorThrowS hexec htr (own := own) (cls := cls) (names := names) (ic := ic) hown hcls hnames hat (fun x hx => nomatch hx) hfX hkX (a := s.heap.size) (by rw [hT]; exact Array.getElem?_push_size) (Nat.le_refl _) (msg := .ref sa) rfl
    (g := F0 m (pc + 6) ls [.ref sa, .ref s.heap.size, .ref s.heap.size]) rfl hsize rfl rfl (rest := []) rfl (by rw [hb]; exact d6) (by rw [hb]; exact d9) (fun x hx => by rw [Array.isEmpty_iff.mp hout] at hx; cases hx) hRframes (by show 2 * 0 + (1 + 0) + _ ≤ _; omega) hlocks
  exact ⟨U, hsteps, .threw s.heap.size, hrun, hend, s.heap.size, ce, rfl, ⟨hW, hsame⟩, hce, hO.vm, hO.cls⟩
end XT
theorem x_ofW {l : Launch} {y : MethodName} {ws ws' : List Cond} {rm : Room} {Pc : Array Value → State → Prop} {E : String} {cc : ByteArray} {maxL : Nat} {ret : Option FieldType} (hy : plainName y.cls = true) (hw : ws = Cond.code y cc maxL ret :: ws')
    (body : ∀ p e s m args below meth c s₁, BodyLoose p l y (headSpec ws rm) cc maxL ret e s m args below meth c s₁ → c.maxLocals = maxL → Pc args s → W p l e (headSpec ws rm).room s m args below meth c s.heap [] 0 0 (xZ below E args s) (entryFrame m args maxL)) : MetFree l y (headSpec ws rm) Pc (fun _ _ _ _ _ => True) (xQ E) := by
  refine MetFree.of_bodyS (code := cc) (maxLocals := maxL) (ret := ret) hy ?_ ?_
  · intro args s m h hn
    obtain ⟨meth, c, h1, h2, h3, h4, h5, h6, -, -⟩ := Cond.code_spec hn (atoms_spec (ws := ws) h _ (by rw [hw]; exact List.mem_cons_self))
    exact ⟨meth, c, h1, h2, h3, h4, h5, h6⟩
  · intro p e s m args below meth c s₁ B hml hP _
    have hh0 : s₁.heap = s.heap := by rw [B.state]; rfl
    obtain ⟨t, a1, o, b1, b2, b3⟩ := body p e s m args below meth c s₁ B hml hP s₁ hh0 (Stand.of_body B)
    exact ⟨t, o, a1, b1, b2, b3⟩
/-- a contract of a method that throws an E here -/
def gMx (l : Launch) (D : va_G) (t : Nat → ClassId) (y : MethodName) (cc : ByteArray) (maxL : Nat) (ret : Option FieldType) (n : Nat) (av : List Value) (w : va_W) (E : String) : Prop :=
  ∀ A : Nat → Prop, MetFree l y (headSpec (.code y cc maxL ret :: gBig) (xRm n)) (va_Pc av (fun U => gPre D t A w U ∧ xOK A U U.heap)) (fun _ _ _ _ _ => True) (xQ E)
