section XC
variable {p : Program} {l : Launch} {e : Env} {R : Room} {s : State} {m : MethodId} {args : Array Value} {below : List Frame} {meth : Method} {c : Code} {cc bytes : ByteArray} {pc : Nat} {ls : Array Slot} {As rest : List Value} {D : va_G} {t : Nat → ClassId} {A : Nat → Prop} {w : va_W} {nL maxL n k index b : Nat} {ret : Option FieldType} {y : MethodName} {own C E : String} {w0 : Cond} {T : State} {locs : List Loc} {cells slots : Nat} {H : Heap}
theorem xSame {s U : State} {k n : Nat} (h : s.sameButNew ({ U with vm := s.vm } : State) [] k n) : s.heap.size ≤ U.heap.size ∧ ∀ q : Nat, q < s.heap.size → U.heap[q]? = s.heap[q]? := by
  obtain ⟨-, h2, -, -, -, h6⟩ := h
  refine ⟨h2, fun q hq => ?_⟩
  obtain ⟨c9, e1, e2, e3, e4⟩ := h6 q _ (Array.getElem?_eq_getElem hq)
  have hs : c9.slots = (s.heap[q]).slots := Array.ext_getElem? fun i => e4 i (fun hm => nomatch hm)
  have h9 : c9 = s.heap[q] := by
    rw [hs] at e2
    exact e2
  have e5 : U.heap[q]? = some c9 := e1
  rw [e5, h9, Array.getElem?_eq_getElem hq]
theorem xBlind {av : List Value} {D : va_G} {t : Nat → ClassId} {A : Nat → Prop} {w : va_W} : FrameBlind (va_Pc av (fun U => gPre D t A w U ∧ xOK A U U.heap)) := fun a U g mk h => ⟨h.1, ⟨h.2.1.1.call g mk a, h.2.1.2.1, h.2.1.2.2⟩, xOK.same (s := U) (U := U.calling g mk a) rfl h.2.2⟩
/-- a method that throws, from the state in which its caller has popped the arguments: one new object of class E, the note of the throw over the caller's frame -/
theorem xGo (X : Stand p l e R s m args below meth c T locs cells slots) (hM : gMx l D t y bytes maxL ret n As w E) (hR : n + 1 ≤ R.frames ∧ 8 + (maxL + 11) + 40 * n ≤ R.locals)
    (hws : ∀ w' ∈ (Cond.code y bytes maxL ret :: gBig), w'.before As.toArray T = true) (hini : (Cond.initialized y.cls).before As.toArray T = true) (hpre : gPre D t A w T ∧ xOK A T T.heap) {mk : MethodId} (hn : T.methodNamed? y = some mk) {ig : Instr} (hdg : decode c.code pc = .ok (ig, 3)) (hsz : ls.size = c.maxLocals) (hrest : (rest.map fun v => v.category).sum ≤ 8) (hc : cells + 1 ≤ R.cells ∧ slots + 6 ≤ R.slots) :
    ∃ (v : Addr) (ce : Cell) (V : State), Stand p l e R s m args below meth c V (locs ++ []) (cells + 1) (slots + 6) ∧ V.heap[v]? = some ce ∧ ce.vm = .none ∧ T.vm.findClass E = some ce.cls ∧ T.heap.size ≤ V.heap.size ∧ (∀ q : Nat, q < T.heap.size → V.heap[q]? = T.heap[q]?) ∧
      Steps p.tables e below (doInvoke e (T.setTop (F0 m pc ls rest)) [] mk As.toArray).1 ((V.setTop (F0 m pc ls rest)).pushFrame (.throwing v)) := by
  have hroom : 2 * (F0 m pc ls rest).monitorRoom + ((F0 m pc ls rest).stack.map fun v => v.category).sum ≤ 8 := lv_room hrest
  obtain ⟨methY, cY, hmY, hcY, -, hlY, -⟩ := Cond.code_spec hn (hws _ List.mem_cons_self)
  obtain ⟨kY, hkY, -⟩ := className_of_methodNamed hn
  have hiY := Cond.initialized_spec (findClass_of_methodNamed hn) hkY hini
  have happ : (headSpec (.code y bytes maxL ret :: gBig) (xRm n)).appliesLoose y e.platform (T.calling (F0 m pc ls rest) mk As.toArray) = true :=
    Spec.appliesLoose_calling (g := F0 m pc ls rest) X.here hdg hn hkY hiY (X.room_calling (g := F0 m pc ls rest) (R' := xRm n) hsz hmY hcY hR.1 (by rw [hlY]; have := hR.2; show _ + 40 * n ≤ _; omega) hc.1 hc.2) (atoms_intro hws)
  obtain ⟨mid, hmid⟩ := X.here.above
  have hfr : (T.setTop (F0 m pc ls rest)).frames = .java (F0 m pc ls rest) :: T.frames.tail := State.frames_setTop' _ X.here.top
  obtain ⟨o, u, hst, -, hend, hq⟩ := Steps.callFree (hM A) p X.admits X.cas X.clock (acts := []) (mid := .java (F0 m pc ls rest) :: mid) (by rw [hfr, hmid]; rfl) happ (xBlind As.toArray T (F0 m pc ls rest) mk ⟨rfl, hpre⟩) trivial
  obtain ⟨v, ce, rfl, ⟨hW, hsm⟩, h1, h2, h3⟩ := hq
  have hfu : u.frames = .throwing v :: .java (F0 m pc ls rest) :: T.frames.tail := by rw [← hfr]; exact hend
  obtain ⟨g1, hg1⟩ := X.frames_eq
  have hself : T.setFrames T.frames = T := by
    obtain ⟨th, hth, -⟩ := State.frames_cons hg1
    exact State.setFrames_self hth
  generalize hV : ({ T with heap := u.heap, slotsUsed := u.slotsUsed } : State).setVm u.vm = V
  have hu : u = V.setFrames u.frames := by
    have h9 := hsm.1
    rw [show (T.setTop (F0 m pc ls rest)).pushFrame (.invoking mk As.toArray) = T.setFrames _ from State.calling_eq X.here.top (F0 m pc ls rest) mk As.toArray] at h9
    have h8 := congrArg (fun z : State => z.setVm u.vm) h9
    subst hV
    exact h8.trans (by rw [State.setFrames_setFrames]; rfl)
  have hVf : V.frames = .java g1 :: below := by subst hV; exact hg1
  have hW9 : T.WarmedH u.vm := hW
  have hgo : (V.setTop (F0 m pc ls rest)).pushFrame (.throwing v) = u := by
    rw [State.pushFrame, State.frames_setTop _ hVf, State.setTop_of_frames _ hVf, State.setFrames_setFrames]
    refine Eq.trans ?_ hu.symm
    rw [hfu, hg1]
    rfl
  obtain ⟨k1, k2⟩ := xSame hsm
  refine ⟨v, ce, V, ?_, by subst hV; exact h1, h2, h3, by subst hV; exact k1, by subst hV; exact k2, by rw [hgo]; exact hst⟩
  subst hV
  exact { admits := X.admits, cas := X.cas, clock := X.clock, frames := X.frames, room := X.room, hears := X.hears, method := X.method, code := X.code, here := (X.here.setHeapUsed u.heap u.slotsUsed).setVm hW9.alike, tail := X.tail, warmed := X.warmed.trans hW9, limits := X.limits, bytes := X.bytes, same := X.same.trans ⟨by
    have h7 := congrArg (fun z : State => ({ z with heap := u.heap, slotsUsed := u.slotsUsed } : State).setVm s.vm) hself
    exact h7.symm, hsm.2⟩ }
/-- a call of a method of the same class that throws -/
theorem x_callS (X : Stand p l e R s m args below meth c T locs cells slots) (F : CallFix p m c cc nL s args (w0 :: gBig) own) (hM : gMx l D t y bytes maxL ret n (.ref b :: As) w E) (hG : GoodIn (w0 :: gBig) (wsV own index C y (.code y bytes maxL ret :: gBig)))
    (hd : y.cls = C ∧ y.cls ≠ "java/lang/invoke/MethodHandle" ∧ y.cls ≠ "java/lang/invoke/VarHandle" ∧ (parseMethodDescriptor y.desc).map (fun d => d.parameters.length) = some k) (hR : n + 1 ≤ R.frames ∧ 8 + (maxL + 11) + 40 * n ≤ R.locals) (hkl : As.length = k)
    (hrecv : ∃ cellB : Cell, T.heap[b]? = some cellB ∧ cellB.vm.isStatics = false ∧ s.vm.findClass C = some cellB.cls)
    (hK : gK D t s) (hP : va_P D gCl w T.heap) (hD : va_D A w) (hxo : xOK A s T.heap) (hsz : ls.size = nL) (hrest : (rest.map fun v => v.category).sum ≤ 8) (hc : cells + 1 ≤ R.cells ∧ slots + 6 ≤ R.slots) (hdg : decode cc pc = .ok (.invokevirtual index, 3)) :
    ∃ (v : Addr) (ce : Cell) (T' : State), Stand p l e R s m args below meth c T' (locs ++ []) (cells + 1) (slots + 6) ∧ T'.heap[v]? = some ce ∧ ce.vm = .none ∧ s.vm.findClass E = some ce.cls ∧ T.heap.size ≤ T'.heap.size ∧ (∀ q : Nat, q < T.heap.size → T'.heap[q]? = T.heap[q]?) ∧
      Steps p.tables e below (T.setTop (F0 m pc ls (As.reverse ++ .ref b :: rest))) ((T'.setTop (F0 m pc ls rest)).pushFrame (.throwing v)) := by
  obtain ⟨hx, hb, hml, hown, hts⟩ := F
  obtain ⟨⟨hrc, hrs, hfr, hlo, hws, hcw, hcode, hini, hy, hlen, hl⟩, hinst, hsel⟩ := cwV (R := R) (rm := gRm n) k hts hG rfl rfl rfl hd hR
  obtain ⟨mk, methM, hnamed, hmethM, hstM, habM⟩ := Cond.instanceMethod_spec hinst
  obtain ⟨methM', cM, hmethM', -, -, -, -, -, -, hsigM⟩ := Cond.code_spec hnamed hcode
  cases hmethM.symm.trans hmethM'
  obtain ⟨cellB, hcell, hobj, hcls⟩ := hrecv
  obtain ⟨c2, r2, m2, q1, q2, q3, q4, kP, hkP, hkPi⟩ := Cond.selects_spec hsel
  cases hcls.symm.trans q1
  cases (State.methodFound?_of_named hnamed hy).symm.trans q2
  cases hnamed.symm.trans q3
  have hselP : selectMethod e.platform s.vm cellB.cls mk = .method mk := by rw [Launch.admits_selectMethod X.admits]; exact q4
  obtain ⟨vm₁, X₁, hstep₁⟩ := X.invokevirtual hx hown hl hnamed hmethM hstM hkP hkPi hy (a := b) (cell := cellB) hcell (fun z h => by rw [h] at hobj; cases hobj) hselP hmethM habM hkP hkPi (g := F0 m pc ls (As.reverse ++ .ref b :: rest)) rfl (argsL := As) (rest := rest) (hkl.trans (hlen _ hsigM)) rfl (by rw [hb]; exact hdg)
  obtain ⟨v, ce, V, X', f1, f2, f3, f7, f8, hsteps⟩ := xGo (A := A) (As := .ref b :: As) (pc := pc) (ls := ls) (rest := rest) X₁ hM hR (fun w' hw' => hws w' hw' _ _ X₁.warmed) (word_at X₁.warmed (Or.inl (by first | rfl | simp [Cond.onTables, Cond.keeps, Cond.steady])) hini) ⟨⟨gK.moved X₁.warmed hK, hP, hD⟩, xOK.moved X₁.warmed hxo⟩ (X₁.named hnamed) (by rw [hb]; exact hdg) (hsz.trans hml.symm) hrest hc
  refine ⟨v, ce, V, X', f1, f2, ?_, f7, f8, hstep₁ _ fun acts => by rw [doInvoke_state]; exact hsteps⟩
  · have h9 : (T.setVm vm₁).vm.findClass E = some ce.cls := f3
    rw [X₁.warmed.alike.findClass] at h9
    exact h9
/-- .. and nobody catches it here -/
theorem x_callL (F : CallFix p m c cc nL s args (w0 :: gBig) own) (hM : gMx l D t y bytes maxL ret n [.ref b] w E) (hG : GoodIn (w0 :: gBig) (wsV own index C y (.code y bytes maxL ret :: gBig)))
    (hd : y.cls = C ∧ y.cls ≠ "java/lang/invoke/MethodHandle" ∧ y.cls ≠ "java/lang/invoke/VarHandle" ∧ (parseMethodDescriptor y.desc).map (fun d => d.parameters.length) = some 0) (hR : n + 1 ≤ R.frames ∧ 8 + (maxL + 11) + 40 * n ≤ R.locals)
    (hrecv : ∃ cellB : Cell, s.heap[b]? = some cellB ∧ cellB.vm.isStatics = false ∧ s.vm.findClass C = some cellB.cls)
    (hK : gK D t s) (hP : va_P D gCl w s.heap) (hD : va_D A w) (hxo : xOK A s s.heap) (hsz : ls.size = nL) (hc : 1 ≤ R.cells ∧ 6 ≤ R.slots) (hdg : decode cc pc = .ok (.invokevirtual index, 3)) (hout : c.exceptionTable.isEmpty = true) (hlocks : meth.locks = false) :
    W p l e R s m args below meth c s.heap [] 0 0 (xZ below E args s) (F0 m pc ls [.ref b]) := by
  intro T hT X
  obtain ⟨v, ce, T', X', c1, c2, c3, -, -, st⟩ := x_callS (As := []) (rest := []) X F hM hG hd hR rfl (by rw [hT]; exact hrecv) hK (by rw [hT]; exact hP) hD (by rw [hT]; exact hxo) hsz (Nat.zero_le _) ⟨by omega, by omega⟩ hdg
  obtain ⟨s1, r1, e1, w1, sm⟩ := X'.leaveThrown v (g := F0 m pc ls []) rfl rfl rfl (fun x hx => by rw [Array.isEmpty_iff.mp hout] at hx; cases hx) hlocks
  exact ⟨T'.setFrames (.throwing v :: below), st.trans s1, .threw v, r1, e1, v, ce, rfl, ⟨w1, sm⟩, c1, c2, c3⟩
end XC


set_option maxHeartbeats 4000000 in
set_option maxRecDepth 100000 in
theorem x_Fb_at_ise (l : Launch) (D : va_G) (t : Nat → ClassId) (a : Nat → Nat) (σ : Nat → Nat → Int32) (pt wh : Int32) (hsh : σ 503 0 = -1) (hl0 : l.stackTraces = false) : gMx l D t y_Fb_at b_Fb_at 3 (some .int) 14 [.ref (a 699), .int pt, .int wh] (wFb t a σ) "java/lang/IllegalStateException" := by
  intro A
  refine x_ofW (cc := b_Fb_at) (maxL := 3) (ret := (some .int)) (by decide) rfl ?_
  intro p e s m args below meth c s₁ B hml hv
  obtain ⟨rfl, ⟨hK, hP, hD⟩, hxo⟩ := hv
  have hx := B.exec
  have hb := B.bytes
  have hr := B.returns
  have hts := atoms_spec (ws := .code y_Fb_at b_Fb_at 3 (some .int) :: gBig) B.pre
  have hown : s.vm.findClass R_Fb = some m.cls := findClass_of_methodNamed B.named
  have hlocks := B.notSynchronized
  have hout : c.exceptionTable.isEmpty = true := BodyLoose.noHandlers B (hts _ List.mem_cons_self)
  have hl := lv_entry ([.ref (a 699), .int pt, .int wh]) (n := 3) (Nat.le_of_ble_eq_true rfl)
  rw [lg_entry_eq]
  generalize (lg_sl ([.ref (a 699), .int pt, .int wh]) ++ List.replicate (3 - (lg_sl ([.ref (a 699), .int pt, .int wh])).length) Slot.unset).toArray = ls at hl ⊢
  have hl : lv_has ls 3 [(0, .ref (a 699)), (1, .int pt), (2, .int wh)] := hl
  refine lv_aload_n hx hb d_Fb_at_0 rfl (lv_at hl 0 rfl) ?_
  exact x_callL (own := R_Fb) (C := R_Fb) (index := 142) ⟨hx, hb, hml, hown, hts⟩ (x_Fb_needShares_ise l D t a σ hsh hl0) (gg_Fb_142 _) (by decide +kernel) ⟨Nat.le_of_ble_eq_true rfl, Nat.le_of_ble_eq_true rfl⟩ (va_recv hK.1 hP (ci := 6) (q0 := 0) rfl (wFb_o6 t a σ)) hK hP hD hxo hl.1 ⟨Nat.le_refl _, Nat.le_refl _⟩ d_Fb_at_1 hout hlocks
set_option maxHeartbeats 4000000 in
set_option maxRecDepth 100000 in
theorem x_Fb_box_ise (l : Launch) (D : va_G) (t : Nat → ClassId) (a : Nat → Nat) (σ : Nat → Nat → Int32) (bv wh : Int32) (hsh : σ 503 0 = -1) (hl0 : l.stackTraces = false) : gMx l D t y_Fb_box b_Fb_box 3 (some .int) 14 [.ref (a 699), .int bv, .int wh] (wFb t a σ) "java/lang/IllegalStateException" := by
  intro A
  refine x_ofW (cc := b_Fb_box) (maxL := 3) (ret := (some .int)) (by decide) rfl ?_
  intro p e s m args below meth c s₁ B hml hv
  obtain ⟨rfl, ⟨hK, hP, hD⟩, hxo⟩ := hv
  have hx := B.exec
  have hb := B.bytes
  have hr := B.returns
  have hts := atoms_spec (ws := .code y_Fb_box b_Fb_box 3 (some .int) :: gBig) B.pre
  have hown : s.vm.findClass R_Fb = some m.cls := findClass_of_methodNamed B.named
  have hlocks := B.notSynchronized
  have hout : c.exceptionTable.isEmpty = true := BodyLoose.noHandlers B (hts _ List.mem_cons_self)
  have hl := lv_entry ([.ref (a 699), .int bv, .int wh]) (n := 3) (Nat.le_of_ble_eq_true rfl)
  rw [lg_entry_eq]
  generalize (lg_sl ([.ref (a 699), .int bv, .int wh]) ++ List.replicate (3 - (lg_sl ([.ref (a 699), .int bv, .int wh])).length) Slot.unset).toArray = ls at hl ⊢
  have hl : lv_has ls 3 [(0, .ref (a 699)), (1, .int bv), (2, .int wh)] := hl
  refine lv_aload_n hx hb d_Fb_box_0 rfl (lv_at hl 0 rfl) ?_
  exact x_callL (own := R_Fb) (C := R_Fb) (index := 142) ⟨hx, hb, hml, hown, hts⟩ (x_Fb_needShares_ise l D t a σ hsh hl0) (gg_Fb_142 _) (by decide +kernel) ⟨Nat.le_of_ble_eq_true rfl, Nat.le_of_ble_eq_true rfl⟩ (va_recv hK.1 hP (ci := 6) (q0 := 0) rfl (wFb_o6 t a σ)) hK hP hD hxo hl.1 ⟨Nat.le_refl _, Nat.le_refl _⟩ d_Fb_box_1 hout hlocks
set_option maxHeartbeats 4000000 in
set_option maxRecDepth 100000 in
theorem x_Fb_cost_ise (l : Launch) (D : va_G) (t : Nat → ClassId) (a : Nat → Nat) (σ : Nat → Nat → Int32) (hsh : σ 503 0 = -1) (hl0 : l.stackTraces = false) : gMx l D t y_Fb_cost b_Fb_cost 1 (some .int) 14 [.ref (a 699)] (wFb t a σ) "java/lang/IllegalStateException" := by
  intro A
  refine x_ofW (cc := b_Fb_cost) (maxL := 1) (ret := (some .int)) (by decide) rfl ?_
  intro p e s m args below meth c s₁ B hml hv
  obtain ⟨rfl, ⟨hK, hP, hD⟩, hxo⟩ := hv
  have hx := B.exec
  have hb := B.bytes
  have hr := B.returns
  have hts := atoms_spec (ws := .code y_Fb_cost b_Fb_cost 1 (some .int) :: gBig) B.pre
  have hown : s.vm.findClass R_Fb = some m.cls := findClass_of_methodNamed B.named
  have hlocks := B.notSynchronized
  have hout : c.exceptionTable.isEmpty = true := BodyLoose.noHandlers B (hts _ List.mem_cons_self)
  have hl := lv_entry ([.ref (a 699)]) (n := 1) (Nat.le_of_ble_eq_true rfl)
  rw [lg_entry_eq]
  generalize (lg_sl ([.ref (a 699)]) ++ List.replicate (1 - (lg_sl ([.ref (a 699)])).length) Slot.unset).toArray = ls at hl ⊢
  have hl : lv_has ls 1 [(0, .ref (a 699))] := hl
  refine lv_aload_n hx hb d_Fb_cost_0 rfl (lv_at hl 0 rfl) ?_
  exact x_callL (own := R_Fb) (C := R_Fb) (index := 142) ⟨hx, hb, hml, hown, hts⟩ (x_Fb_needShares_ise l D t a σ hsh hl0) (gg_Fb_142 _) (by decide +kernel) ⟨Nat.le_of_ble_eq_true rfl, Nat.le_of_ble_eq_true rfl⟩ (va_recv hK.1 hP (ci := 6) (q0 := 0) rfl (wFb_o6 t a σ)) hK hP hD hxo hl.1 ⟨Nat.le_refl _, Nat.le_refl _⟩ d_Fb_cost_1 hout hlocks
set_option maxHeartbeats 4000000 in
set_option maxRecDepth 100000 in
theorem x_Fb_raised_ise (l : Launch) (D : va_G) (t : Nat → ClassId) (a : Nat → Nat) (σ : Nat → Nat → Int32) (bv rm : Int32) (hsh : σ 503 0 = -1) (hl0 : l.stackTraces = false) : gMx l D t y_Fb_raised b_Fb_raised 6 (some .boolean) 14 [.ref (a 699), .int bv, .int rm] (wFb t a σ) "java/lang/IllegalStateException" := by
  intro A
  refine x_ofW (cc := b_Fb_raised) (maxL := 6) (ret := (some .boolean)) (by decide) rfl ?_
  intro p e s m args below meth c s₁ B hml hv
  obtain ⟨rfl, ⟨hK, hP, hD⟩, hxo⟩ := hv
  have hx := B.exec
  have hb := B.bytes
  have hr := B.returns
  have hts := atoms_spec (ws := .code y_Fb_raised b_Fb_raised 6 (some .boolean) :: gBig) B.pre
  have hown : s.vm.findClass R_Fb = some m.cls := findClass_of_methodNamed B.named
  have hlocks := B.notSynchronized
  have hout : c.exceptionTable.isEmpty = true := BodyLoose.noHandlers B (hts _ List.mem_cons_self)
  have hl := lv_entry ([.ref (a 699), .int bv, .int rm]) (n := 6) (Nat.le_of_ble_eq_true rfl)
  rw [lg_entry_eq]
  generalize (lg_sl ([.ref (a 699), .int bv, .int rm]) ++ List.replicate (6 - (lg_sl ([.ref (a 699), .int bv, .int rm])).length) Slot.unset).toArray = ls at hl ⊢
  have hl : lv_has ls 6 [(0, .ref (a 699)), (1, .int bv), (2, .int rm)] := hl
  refine lv_aload_n hx hb d_Fb_raised_0 rfl (lv_at hl 0 rfl) ?_
  exact x_callL (own := R_Fb) (C := R_Fb) (index := 142) ⟨hx, hb, hml, hown, hts⟩ (x_Fb_needShares_ise l D t a σ hsh hl0) (gg_Fb_142 _) (by decide +kernel) ⟨Nat.le_of_ble_eq_true rfl, Nat.le_of_ble_eq_true rfl⟩ (va_recv hK.1 hP (ci := 6) (q0 := 0) rfl (wFb_o6 t a σ)) hK hP hD hxo hl.1 ⟨Nat.le_refl _, Nat.le_refl _⟩ d_Fb_raised_1 hout hlocks
set_option maxHeartbeats 4000000 in
set_option maxRecDepth 100000 in
theorem x_Fb_pallets_ise (l : Launch) (D : va_G) (t : Nat → ClassId) (a : Nat → Nat) (σ : Nat → Nat → Int32) (lm : Int32) (hsh : σ 503 0 = -1) (hl0 : l.stackTraces = false) : gMx l D t y_Fb_pallets b_Fb_pallets 2 (some .int) 14 [.ref (a 699), .int lm] (wFb t a σ) "java/lang/IllegalStateException" := by
  intro A
  refine x_ofW (cc := b_Fb_pallets) (maxL := 2) (ret := (some .int)) (by decide) rfl ?_
  intro p e s m args below meth c s₁ B hml hv
  obtain ⟨rfl, ⟨hK, hP, hD⟩, hxo⟩ := hv
  have hx := B.exec
  have hb := B.bytes
  have hr := B.returns
  have hts := atoms_spec (ws := .code y_Fb_pallets b_Fb_pallets 2 (some .int) :: gBig) B.pre
  have hown : s.vm.findClass R_Fb = some m.cls := findClass_of_methodNamed B.named
  have hlocks := B.notSynchronized
  have hout : c.exceptionTable.isEmpty = true := BodyLoose.noHandlers B (hts _ List.mem_cons_self)
  have hl := lv_entry ([.ref (a 699), .int lm]) (n := 2) (Nat.le_of_ble_eq_true rfl)
  rw [lg_entry_eq]
  generalize (lg_sl ([.ref (a 699), .int lm]) ++ List.replicate (2 - (lg_sl ([.ref (a 699), .int lm])).length) Slot.unset).toArray = ls at hl ⊢
  have hl : lv_has ls 2 [(0, .ref (a 699)), (1, .int lm)] := hl
  refine lv_aload_n hx hb d_Fb_pallets_0 rfl (lv_at hl 0 rfl) ?_
  exact x_callL (own := R_Fb) (C := R_Fb) (index := 142) ⟨hx, hb, hml, hown, hts⟩ (x_Fb_needShares_ise l D t a σ hsh hl0) (gg_Fb_142 _) (by decide +kernel) ⟨Nat.le_of_ble_eq_true rfl, Nat.le_of_ble_eq_true rfl⟩ (va_recv hK.1 hP (ci := 6) (q0 := 0) rfl (wFb_o6 t a σ)) hK hP hD hxo hl.1 ⟨Nat.le_refl _, Nat.le_refl _⟩ d_Fb_pallets_1 hout hlocks
