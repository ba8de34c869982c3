/-! a thrown object caught in the caller; static calls of methods with handlers -/
def xIAE : String := "java/lang/IllegalArgumentException"
def xISE : String := "java/lang/IllegalStateException"
def xIOB : String := "java/lang/IndexOutOfBoundsException"
def xNp (E F : String) (U : State) : Prop := ∃ a b : ClassId, U.vm.findClass E = some a ∧ U.vm.findClass F = some b ∧ U.vm.assignable a b = false
def xNoL : List (String × String) := [("java/lang/IllegalStateException", "java/lang/IllegalArgumentException"), ("java/lang/IndexOutOfBoundsException", "java/lang/IllegalArgumentException"), ("java/lang/IllegalArgumentException", "java/lang/IllegalStateException"), ("java/lang/IndexOutOfBoundsException", "java/lang/IllegalStateException"), ("java/lang/IllegalArgumentException", "java/lang/IndexOutOfBoundsException"), ("java/lang/IllegalStateException", "java/lang/IndexOutOfBoundsException")]
def xNo (U : State) : Prop := ∀ q ∈ xNoL, xNp q.1 q.2 U
theorem xNp.moved {E F : String} {s U : State} (hvm : s.vm.Alike U.vm) (h : xNp E F s) : xNp E F U := by
  obtain ⟨a, b, h1, h2, h3⟩ := h
  exact ⟨a, b, by rw [hvm.findClass]; exact h1, by rw [hvm.findClass]; exact h2, by rw [hvm.assignable]; exact h3⟩
theorem xNo.moved {s U : State} (hvm : s.vm.Alike U.vm) (h : xNo s) : xNo U := fun q hq => (h q hq).moved hvm
theorem xNp.of {E F : String} {args : Array Value} {s : State} (hno : (Cond.not (.castable E F)).before args s = true) : xNp E F s := by
  have hv := Cond.holds_not_iff.mp hno
  simp only [Cond.value] at hv
  cases h1 : s.vm.findClass E with
  | none => simp [h1] at hv
  | some a =>
    cases h2 : s.vm.findClass F with
    | none => simp [h1, h2] at hv
    | some b =>
      simp only [h1, h2] at hv
      exact ⟨a, b, h1, h2, Option.some.inj hv⟩
theorem xSt.sub {n d : String} {A A' : Nat → Prop} {U : State} {H : Heap} (ha : ∀ q, A' q → A q) (h : xSt n d A U H) : xSt n d A' U H := by
  obtain ⟨c, k, i, f, b, cell, v, h1, h2, h3, h4, h5, h6, h7, h8, h9, r1, r2, r3⟩ := h
  exact ⟨c, k, i, f, b, cell, v, h1, h2, h3, h4, h5, h6, h7, h8, h9, r1, r2, fun z => r3 (ha _ z)⟩
theorem xOK.sub {A A' : Nat → Prop} {U : State} {H : Heap} (ha : ∀ q, A' q → A q) (h : xOK A U H) : xOK A' U H := ⟨h.1, h.2.1, h.2.2.1.sub ha, h.2.2.2.sub ha⟩
theorem gSwapP {D : va_G} {w1 w2 : va_W} {H : Heap} (h : va_P D gCl (w1 ++ w2) H) : va_P D gCl (w2 ++ w1) H := (gSplit h).2.app (gSplit h).1
theorem gSwapD {A : Nat → Prop} {w1 w2 : va_W} (h : va_D A (w1 ++ w2)) : va_D A (w2 ++ w1) := by
  obtain ⟨h1, h2, h3, h4⟩ := gSplitD h
  refine va_D.app h3 (h1.weaken (fun k q _ z => h2 _ z)) ?_
  intro i j x y hi hj e
  exact h4 i x hi (e ▸ h1.2 j y hj)
def hPre (D : va_G) (t : Nat → ClassId) (A : Nat → Prop) (w : va_W) (U : State) : Prop := gPre D t A w U ∧ xOK A U U.heap ∧ xNo U
theorem hBlind {av : List Value} {D : va_G} {t : Nat → ClassId} {A : Nat → Prop} {w : va_W} : FrameBlind (va_Pc av (hPre D t A w)) := fun a U g mk h => ⟨h.1, ⟨h.2.1.1.call g mk a, h.2.1.2.1, h.2.1.2.2⟩, xOK.same (s := U) (U := U.calling g mk a) rfl h.2.2.1, xNo.moved (s := U) (U := U.calling g mk a) (Vm.Alike.refl U.vm) h.2.2.2⟩
/-- a helper's contract: whether the class returns or throws, the helper returns; at most one new cell -/
def gMq {S : Type} (l : Launch) (D : va_G) (t : Nat → ClassId) (y : MethodName) (cc : ByteArray) (maxL : Nat) (hh : List (Nat × Nat × Nat × Nat)) (n : Nat) (av : List Value) (w : va_W) (wd : S → va_W) (post : Int32 → S → Prop) : Prop :=
  ∀ A : Nat → Prop, Met l y (.codeWith y cc maxL (some .int) hh :: gBig) (xRm n) (va_Pc av (hPre D t A w)) (va_Qi post (fun u U => va_P D gCl (wd u) U.heap ∧ va_D A (wd u)) A) 1 6 A
def hEnt (q : Nat × Nat × Nat × Nat) : ExceptionTableEntry := ⟨q.1, q.2.1, q.2.2.1, q.2.2.2⟩
theorem h_tab {p : Program} {l : Launch} {x : MethodName} {S : Spec} {code : ByteArray} {maxL : Nat} {ret : Option FieldType} {e : Env} {s : State} {m : MethodId} {args : Array Value} {below : List Frame} {meth : Method} {c : Code} {s₁ : State} {hh : List (Nat × Nat × Nat × Nat)} (B : BodyLoose p l x S code maxL ret e s m args below meth c s₁) (h : (Cond.codeWith x code maxL ret hh).before args s = true) : c.exceptionTable.toList = hh.map hEnt := by
  obtain ⟨m9, meth', c', hn9, hm', hc', -, -, he', -⟩ := Cond.codeWith_spec h
  cases B.named.symm.trans hn9
  cases B.method.symm.trans hm'
  cases (Stand.of_body B).code.symm.trans hc'
  rw [← he', List.map_map]
  conv => lhs; rw [← List.map_id c.exceptionTable.toList]
  rfl
section HC
variable {p : Program} {l : Launch} {e : Env} {R : Room} {s : State} {m : MethodId} {args : Array Value} {below : List Frame} {meth : Method} {c : Code} {cc bytes : ByteArray} {pc : Nat} {ls : Array Slot} {As rest : List Value} {D : va_G} {t : Nat → ClassId} {A : Nat → Prop} {w1 w2 : va_W} {nL maxL n k index b : Nat} {ret : Option FieldType} {y : MethodName} {own C E : String} {w0 : Cond} {locs : List Loc} {cells slots : Nat} {H H0 : Heap} {Q : State → Prop}
theorem x_caught (F : CallFix p m c cc nL s args (w0 :: gBig) own) (hM : gMx l D t y bytes maxL ret n (.ref b :: As) w1 E) (hG : GoodIn (w0 :: gBig) (wsV own index C y (.code y bytes maxL ret :: gBig)))
    (hd : y.cls = C ∧ y.cls ≠ "java/lang/invoke/MethodHandle" ∧ y.cls ≠ "java/lang/invoke/VarHandle" ∧ (parseMethodDescriptor y.desc).map (fun d => d.parameters.length) = some k) (hR : n + 1 ≤ R.frames ∧ 8 + (maxL + 11) + 40 * n ≤ R.locals) (hkl : As.length = k)
    (hrecv : ∃ cellB : Cell, H[b]? = some cellB ∧ cellB.vm.isStatics = false ∧ s.vm.findClass C = some cellB.cls)
    (hK : gK D t s) (hP : va_P D gCl (w1 ++ w2) H) (hD : va_D A (w1 ++ w2)) (hS : va_S A H0 H locs) (hxo : xOK A s H) (hno : xNo s) (hsz : ls.size = nL) {st0 : List Value} (hst : st0 = As.reverse ++ .ref b :: rest) (hrest : (rest.map fun v => v.category).sum ≤ 8) (hc : cells + 1 ≤ R.cells ∧ slots + 6 ≤ R.slots) (hdg : decode cc pc = .ok (.invokevirtual index, 3))
    {pre rest9 : List ExceptionTableEntry} {x9 : ExceptionTableEntry} (hsplit : c.exceptionTable.toList = pre ++ x9 :: rest9) (hpass : ∀ y9 ∈ pre, ∃ name, y9.catchType ≠ 0 ∧ Cond.classLink own y9.catchType name ∈ gBig ∧ (E, name) ∈ xNoL) (hcov : covers x9 pc = true) (h0 : x9.catchType ≠ 0) (hlink : Cond.classLink own x9.catchType E ∈ gBig) (hcast : Cond.castable E E ∈ xNw) {hp9 : Nat} (hpc : x9.handlerPc = hp9)
    (kk : ∀ (v : Nat) (H1 : Heap), va_P D gCl (w1 ++ w2) H1 → va_S A H0 H1 (locs ++ []) → W p l e R s m args below meth c H1 (locs ++ []) (cells + 1) (slots + 6) Q (F0 m hp9 ls [.ref v])) :
    W p l e R s m args below meth c H locs cells slots Q (F0 m pc ls st0) := by
  subst hst
  subst hpc
  intro T hT X
  obtain ⟨hPa, hPb⟩ := gSplit hP
  obtain ⟨hDa, hsub, -, -⟩ := gSplitD hD
  obtain ⟨v, ce, T', X', c1, c2, c3, c4, c5, st⟩ := x_callS (A := gAd w1) X F hM hG hd hR hkl (by rw [hT]; exact hrecv) hK (by rw [hT]; exact hPa) hDa (by rw [hT]; exact hxo.sub hsub) hsz hrest hc hdg
  rw [hT] at c4 c5
  have hts := F.2.2.2.2
  have hown := F.2.2.2.1
  obtain ⟨cE, cT, e1, e2, e3⟩ := Cond.castable_spec (args := args) (va_Nw.use (A := args) rfl (hxo.1 _ hcast))
  cases e1.symm.trans c3
  have hlk := hts _ (List.mem_cons_of_mem _ hlink)
  obtain ⟨hend, hk0⟩ := X'.catches_of_link hown h0 hlk e2 e3
  have hpl : e.platform.magicAccessors = ({} : Platform).magicAccessors := by rw [X.admits.platform]
  obtain ⟨vm', XV, st2⟩ := X'.thenCaughtThrough v (g := F0 m pc ls rest) rfl st c1 (by rw [c2]; rfl) hk0 pre x9 rest9 hsplit (fun y9 hy9 => by
    obtain ⟨name, g0, g1, g2⟩ := hpass y9 hy9
    obtain ⟨ca, cb, q1, q2, q3⟩ := hno _ g2
    obtain ⟨c', hc', hcl⟩ := Cond.classLink_spec hown (hts _ (List.mem_cons_of_mem _ g1)) e.platform hpl
    cases q2.symm.trans hc'
    cases q1.symm.trans c3
    exact Or.inr ⟨g0, _, hcl, q3⟩) hcov hend
  have hk1 : ∀ q : Nat, q < H.size → T'.heap[q]? = H[q]? := c5
  obtain ⟨t2, a1, b1⟩ := kk v T'.heap (hP.kept (fun k q hq => hk1 q.1 ((hP k q hq).lt))) ⟨Nat.le_trans hS.1 c4, fun q h1 h2 => by rw [hk1 q (Nat.lt_of_lt_of_le h1 hS.1)]; exact hS.2.1 q h1 h2, fun q hq => hS.2.2 q (by simpa using hq)⟩ (T'.setVm vm') rfl XV
  exact ⟨t2, st2.trans a1, b1⟩
theorem h_sw {S : Type} {wd : S → va_W} {post : Int32 → S → Prop} {hh : List (Nat × Nat × Nat × Nat)} (F : CallFix p m c cc nL s args (w0 :: gBig) own) (hM : gMq l D t y bytes maxL hh n As w1 wd post) (hm1 : Cond.methodLink own index y ∈ gBig) (hm2 : Cond.static y ∈ gBig) (hm3 : Cond.initialized y.cls ∈ gBig) (hm4 : Cond.codeWith y bytes maxL (some .int) hh ∈ gBig)
    (hd : y.cls ≠ "java/lang/invoke/MethodHandle" ∧ y.cls ≠ "java/lang/invoke/VarHandle" ∧ (parseMethodDescriptor y.desc).map (fun d => d.parameters.length) = some k) (hR : n + 1 ≤ R.frames ∧ 8 + (maxL + 11) + 40 * n ≤ R.locals) (hkl : As.length = k)
    (hK : gK D t s) (hP : va_P D gCl (w1 ++ w2) H) (hD : va_D A (w1 ++ w2)) (hS : va_S A H0 H locs) (hxo : xOK A s H) (hno : xNo s) (hsz : ls.size = nL) {st0 : List Value} (hst : st0 = As.reverse ++ rest) (hrest : (rest.map fun v => v.category).sum ≤ 8) (hc : cells + 1 ≤ R.cells ∧ slots + 6 ≤ R.slots) (hdg : decode cc pc = .ok (.invokestatic index, 3))
    (kk : ∀ (r : Int32) (u : S) (H1 : Heap) (locs1 : List Loc), post r u → va_P D gCl (wd u ++ w2) H1 → va_D A (wd u ++ w2) → va_S A H0 H1 locs1 → (∀ q : Nat, q < H.size → ¬ A q → H1[q]? = H[q]?) → W p l e R s m args below meth c H1 locs1 (cells + 1) (slots + 6) Q (F0 m (pc + 3) ls (.int r :: rest))) :
    W p l e R s m args below meth c H locs cells slots Q (F0 m pc ls st0) := by
  subst hst
  obtain ⟨hPa, -⟩ := gSplit hP
  obtain ⟨hDa, hsub, -, -⟩ := gSplitD hD
  obtain ⟨hx, hb, hml, ho, hts⟩ := F
  have hG : GoodIn (w0 :: gBig) (.codeWith y bytes maxL (some .int) hh :: gBig) := gGood (fun w hw => by
    rcases List.mem_cons.mp hw with rfl | hw <;> assumption)
  have hBk : Back l R p e below s args y 3 8 (PreOf R 1 6 (va_Pc As (hPre D t (gAd w1) w1))) (PostOf (va_Qi post (fun u U => va_P D gCl (wd u) U.heap ∧ va_D (gAd w1) (wd u)) (gAd w1)) 1 6 (gAd w1)) := va_backW (hh := hh) (bytes := bytes) (maxL := maxL) (ret := some .int) (hM (gAd w1)) hBlind rfl rfl hR.1 hR.2 (pay_in hts hG) List.mem_cons_self (fun a' U hW => word_at hW (Or.inl (by first | rfl | simp [Cond.onTables, Cond.keeps, Cond.steady])) (hts _ (List.mem_cons_of_mem _ hm3)))
  have hrun : va_Run p l e R s m args below meth c H locs cells slots 1 6 (F0 m pc ls (As.reverse ++ rest)) rest (va_Qi post (fun u U => va_P D gCl (wd u) U.heap ∧ va_D (gAd w1) (wd u)) (gAd w1) As.toArray) (gAd w1) := by
    intro T hT X
    obtain ⟨mk, methM, cM, hnamed, hmethM, -, -, -, -, -, -, hsigM⟩ := Cond.codeWith_spec (hts _ (List.mem_cons_of_mem _ hm4))
    have hstatic : methM.isStatic = true := Cond.static_spec hnamed hmethM (hts _ (List.mem_cons_of_mem _ hm2))
    obtain ⟨kP, hkP, -⟩ := className_of_methodNamed hnamed
    have hinitP : kP.init = .initialized := Cond.initialized_spec (findClass_of_methodNamed hnamed) hkP (hts _ (List.mem_cons_of_mem _ hm3))
    have hlen : As.length = methM.sig.parameters.length := by
      have h2 := hd.2.2
      rw [hsigM] at h2
      exact hkl.trans (Option.some.inj h2).symm
    obtain ⟨vm₁, X₁, hstep₁⟩ := X.invokestatic hx ho (hts _ (List.mem_cons_of_mem _ hm1)) hnamed hmethM hstatic hkP hinitP ⟨hd.1, hd.2.1⟩ (g := F0 m pc ls (As.reverse ++ rest)) rfl (argsL := As) (rest := rest) hlen rfl (by rw [hb]; exact hdg)
    obtain ⟨v, ⟨U', l2, c2, s2⟩, X', ⟨g', mk', t9, L, e1, e2, hq, h1, hL, h2, h3⟩, hsteps⟩ := hBk m meth c ⟨T.setVm vm₁, locs, cells, slots⟩ (F0 m pc ls rest) (.invokestatic index) mk As.toArray X₁ rfl (hsz.trans hml.symm) (by rw [hb]; exact hdg) (lv_room hrest) (X₁.named hnamed) ⟨hc.1, hc.2, rfl, ⟨gK.moved X₁.warmed hK, by show va_P D gCl w1 T.heap; rw [hT]; exact hPa, hDa⟩, by show xOK _ _ T.heap; rw [hT]; exact xOK.moved X₁.warmed (hxo.sub hsub), hno.moved X₁.warmed.alike⟩
    dsimp only [Pt.U, Pt.locs, Pt.cells, Pt.slots] at X' e1 e2 h1 h2 h3 hsteps
    subst h1; subst h2; subst h3
    exact ⟨v, (T.setVm vm₁).calling g' mk' As.toArray, t9, U', L, hT, X', hL, e1, e2, hq, fun target h => hstep₁ _ fun acts => by rw [doInvoke_state]; exact hsteps.trans h⟩
  refine va_calli (A1 := gAd w1) hrun hS (fun q _ h => hsub q h) (fun q h => hsub q h) (fun r u T1 H1 locs1 ht hvm hp hB hz hk hS1 => ?_)
  have hB1 : va_P D gCl (wd u) H1 := by rw [← ht]; exact hB.1
  obtain ⟨z1, z2⟩ := gJoinW hP hD hB1 hB.2 hk
  exact kk r u H1 locs1 hp z1 z2 hS1 (fun q h1 h2 => hk q h1 (fun z => h2 (hsub q z)))
end HC
