/-! base: pictures, worlds, contracts, call rows -/
def gUp (σ : Nat → Nat → Int32) (k : Nat) (g : Nat → Int32) : Nat → Nat → Int32 := fun j => if j = k then g else σ j
def gSt (σ : Nat → Nat → Int32) (k i : Nat) (x : Int32) : Nat → Nat → Int32 := gUp σ k (upd (σ k) i x)
def gNest : List (String × Nat × MethodName × String) := [("FlatBoxes", 11, ⟨"FlatBoxes$Cartons", "<init>", "()V"⟩, "FlatBoxes"), ("FlatBoxes", 18, ⟨"FlatBoxes$Parts", "<init>", "()V"⟩, "FlatBoxes"), ("FlatBoxes", 43, ⟨"FlatBoxes$Search", "<init>", "()V"⟩, "FlatBoxes"), ("FlatBoxes", 50, ⟨"FlatBoxes$Shares", "<init>", "()V"⟩, "FlatBoxes"), ("FlatBoxes", 57, ⟨"FlatBoxes$Bags", "<init>", "()V"⟩, "FlatBoxes"), ("FlatBoxes$Parts", 48, ⟨"FlatBoxes", "isIn", "(II)Z"⟩, "FlatBoxes"), ("FlatBoxes$Packing", 79, ⟨"FlatBoxes", "isIn", "(II)Z"⟩, "FlatBoxes"), ("FlatBoxes$Shares", 82, ⟨"FlatBoxes", "isIn", "(II)Z"⟩, "FlatBoxes")]
def gK (D : va_G) (t : Nat → ClassId) (U : State) : Prop := va_K D gCl [(t 0, .int), (t 1, .boolean), (t 2, .array .int), (t 3, .long)] U ∧ ∀ q ∈ gNest, va_Nw (.methodLinkNest q.1 q.2.1 q.2.2.1 q.2.2.2) U
theorem gK.moved {D : va_G} {t : Nat → ClassId} {s U : State} (hW : s.WarmedH U.vm) (h : gK D t s) : gK D t U := ⟨va_K.moved hW.alike h.1, fun q hq => va_Nw.warmM hW (h.2 q hq)⟩
theorem gK.call {D : va_G} {t : Nat → ClassId} {U : State} (h : gK D t U) (g : JFrame) (mk : MethodId) (a : Array Value) : gK D t (U.calling g mk a) := ⟨va_K.moved (u := U) (U := U.calling g mk a) (Vm.Alike.refl U.vm) h.1, fun q hq => va_Nw.same rfl rfl (h.2 q hq)⟩
/-- what a method of ours finds: the tables, its world, the addresses apart and in A -/
def gPre (D : va_G) (t : Nat → ClassId) (A : Nat → Prop) (w : va_W) (U : State) : Prop := gK D t U ∧ va_P D gCl w U.heap ∧ va_D A w
def gRm (n : Nat) : Room := { frames := n, cells := 0, slots := 0, locals := 40 * n }
/-- a contract: from the world w with these arguments the method answers r and leaves the world wd u with post r u; it makes no cell, and writes in A alone -/
def gMi {S : Type} (l : Launch) (D : va_G) (t : Nat → ClassId) (y : MethodName) (cc : ByteArray) (maxL : Nat) (ret : Option FieldType) (n : Nat) (av : List Value) (w : va_W) (wd : S → va_W) (post : Int32 → S → Prop) : Prop :=
  ∀ A : Nat → Prop, Met l y (.code y cc maxL ret :: gBig) (gRm n) (va_Pc av (gPre D t A w)) (va_Qi post (fun u U => va_P D gCl (wd u) U.heap ∧ va_D A (wd u)) A) 0 0 A
def gMv {S : Type} (l : Launch) (D : va_G) (t : Nat → ClassId) (y : MethodName) (cc : ByteArray) (maxL : Nat) (n : Nat) (av : List Value) (w : va_W) (wd : S → va_W) (post : S → Prop) : Prop :=
  ∀ A : Nat → Prop, Met l y (.code y cc maxL none :: gBig) (gRm n) (va_Pc av (gPre D t A w)) (va_Qv post (fun u U => va_P D gCl (wd u) U.heap ∧ va_D A (wd u)) A) 0 0 A
theorem gBlind {av : List Value} {D : va_G} {t : Nat → ClassId} {A : Nat → Prop} {w : va_W} : FrameBlind (va_Pc av (gPre D t A w)) := fun a U g mk h => ⟨h.1, h.2.1.call g mk a, h.2.2.1, h.2.2.2⟩
theorem gGoodB : ∀ w ∈ gBig, (w.onTables && w.keeps) = true ∨ ∃ ty, w = .arrayClass ty := fun w h => good_of_word (List.mem_filter.mp h).2
theorem gGood {w0 : Cond} {ws : List Cond} (h : ∀ w ∈ ws, w ∈ gBig) : GoodIn (w0 :: gBig) ws := fun w hw => ⟨List.mem_cons_of_mem _ (h w hw), gGoodB w (h w hw)⟩
theorem gGoodV {w0 : Cond} {own C : String} {idx maxL : Nat} {y : MethodName} {bytes : ByteArray} {ret : Option FieldType} (h1 : Cond.methodLink own idx y ∈ gBig) (h2 : Cond.instanceMethod y ∈ gBig) (h3 : Cond.selects C y y ∈ gBig) (h4 : Cond.initialized C ∈ gBig) (h5 : Cond.code y bytes maxL ret ∈ gBig) : GoodIn (w0 :: gBig) (wsV own idx C y (.code y bytes maxL ret :: gBig)) := gGood (fun w hw => by
  unfold wsV at hw
  simp only [List.cons_append, List.nil_append, List.mem_cons] at hw
  rcases hw with rfl | rfl | rfl | rfl | rfl | hw <;> assumption)
theorem gGoodS {w0 : Cond} {own : String} {idx maxL : Nat} {y : MethodName} {bytes : ByteArray} {ret : Option FieldType} (h1 : Cond.methodLink own idx y ∈ gBig) (h2 : Cond.static y ∈ gBig) (h4 : Cond.initialized own ∈ gBig) (h5 : Cond.code y bytes maxL ret ∈ gBig) : GoodIn (w0 :: gBig) (wsS own idx y (.code y bytes maxL ret :: gBig)) := gGood (fun w hw => by
  unfold wsS at hw
  simp only [List.cons_append, List.nil_append, List.mem_cons] at hw
  rcases hw with rfl | rfl | rfl | rfl | hw <;> assumption)
section GW
variable {p : Program} {l : Launch} {e : Env} {R : Room} {s : State} {m : MethodId} {args : Array Value} {below : List Frame} {meth : Method} {c : Code} {H : Heap} {locs : List Loc} {cells slots : Nat} {Q : State → Prop}
variable {cc : ByteArray} {pc : Nat} {ls : Array Slot} {rest : List Value} {D : va_G} {cl : List vw_C} {A : Nat → Prop} {a : Nat} {tys : List (ClassId × FieldType)} {ws : va_W} {H0 : Heap}
theorem g_iald (hexec : p.tables.exec = Jvm.exec) (hb : c.code = cc) (hK : va_K D cl tys s) (hP : va_P D cl ws H) (q0 t0 : Nat) {cA : ClassId} {n : Nat} {f : Nat → Int32} (ha : ws[q0]? = some (a, .inl (cA, n, .inl f))) (ht : tys[t0]? = some (cA, .int)) {i : Int32} (k : Nat) (hi : i = nI k) (hk : k < n) (hn : n ≤ 1024) (hdg : decode cc pc = .ok (.iaload, 1))
    (kk : W p l e R s m args below meth c H locs cells slots Q (F0 m (pc + 1) ls (.int (f k) :: rest))) : W p l e R s m args below meth c H locs cells slots Q (F0 m pc ls (.int i :: .ref a :: rest)) := by
  subst hi
  refine va_iald hexec hb hK hP q0 t0 ha ht (vp_in_nI hk (by omega)) hdg ?_
  rw [nI_clamp (by omega)]
  exact kk
theorem g_zald (hexec : p.tables.exec = Jvm.exec) (hb : c.code = cc) (hK : va_K D cl tys s) (hP : va_P D cl ws H) (q0 t0 : Nat) {cA : ClassId} {n : Nat} {f : Nat → Int32} (ha : ws[q0]? = some (a, .inl (cA, n, .inl f))) (ht : tys[t0]? = some (cA, .boolean)) {i : Int32} (k : Nat) (hi : i = nI k) (hk : k < n) (hn : n ≤ 1024) (hdg : decode cc pc = .ok (.baload, 1))
    (kk : W p l e R s m args below meth c H locs cells slots Q (F0 m (pc + 1) ls (.int (f k) :: rest))) : W p l e R s m args below meth c H locs cells slots Q (F0 m pc ls (.int i :: .ref a :: rest)) := by
  subst hi
  refine va_zald hexec hb hK hP q0 t0 ha ht (vp_in_nI hk (by omega)) hdg ?_
  rw [nI_clamp (by omega)]
  exact kk
theorem g_iast (hexec : p.tables.exec = Jvm.exec) (hb : c.code = cc) (hK : va_K D cl tys s) (hP : va_P D cl ws H) (hD : va_D A ws) (hS : va_S A H0 H locs) (q0 t0 : Nat) {cA : ClassId} {n : Nat} {f : Nat → Int32} (ha : ws[q0]? = some (a, .inl (cA, n, .inl f))) (ht : tys[t0]? = some (cA, .int)) {i x : Int32} (k : Nat) (hi : i = nI k) (hk : k < n) (hn : n ≤ 1024) {w' : va_W} (hw : ws.set q0 (a, .inl (cA, n, .inl (upd f k x))) = w') (hdg : decode cc pc = .ok (.iastore, 1))
    (kk : ∀ (H1 : Heap) (locs1 : List Loc), va_P D cl w' H1 → va_D A w' → va_S A H0 H1 locs1 → W p l e R s m args below meth c H1 locs1 cells slots Q (F0 m (pc + 1) ls rest)) : W p l e R s m args below meth c H locs cells slots Q (F0 m pc ls (.int x :: .int i :: .ref a :: rest)) := by
  subst hi
  subst hw
  refine va_iast hexec hb hK hP hD hS q0 t0 ha ht (vp_in_nI hk (by omega)) hdg ?_
  rw [nI_clamp (by omega)]
  exact kk
theorem g_zast (hexec : p.tables.exec = Jvm.exec) (hb : c.code = cc) (hK : va_K D cl tys s) (hP : va_P D cl ws H) (hD : va_D A ws) (hS : va_S A H0 H locs) (q0 t0 : Nat) {cA : ClassId} {n : Nat} {f : Nat → Int32} (ha : ws[q0]? = some (a, .inl (cA, n, .inl f))) (ht : tys[t0]? = some (cA, .boolean)) {i x : Int32} (hx : x = 0 ∨ x = 1) (k : Nat) (hi : i = nI k) (hk : k < n) (hn : n ≤ 1024) {w' : va_W} (hw : ws.set q0 (a, .inl (cA, n, .inl (upd f k x))) = w') (hdg : decode cc pc = .ok (.bastore, 1))
    (kk : ∀ (H1 : Heap) (locs1 : List Loc), va_P D cl w' H1 → va_D A w' → va_S A H0 H1 locs1 → W p l e R s m args below meth c H1 locs1 cells slots Q (F0 m (pc + 1) ls rest)) : W p l e R s m args below meth c H locs cells slots Q (F0 m pc ls (.int x :: .int i :: .ref a :: rest)) := by
  subst hi
  subst hw
  refine va_zast hexec hb hK hP hD hS q0 t0 ha ht (vp_in_nI hk (by omega)) hdg ?_
  have hz : vp_nar .boolean x = x := by rcases hx with rfl | rfl <;> decide
  rw [nI_clamp (by omega), hz]
  exact kk
theorem gb_n {v : Int32} (h : v = 0 ∨ v = 1) : narrow .boolean (.int v) = .int v := by rcases h with rfl | rfl <;> decide
theorem gb_f {v : Int32} (h : v = 0 ∨ v = 1) : fits .boolean (.int v) = true := by rcases h with rfl | rfl <;> decide
end GW
section GC
variable {p : Program} {l : Launch} {e : Env} {R : Room} {s : State} {m : MethodId} {args : Array Value} {below : List Frame} {meth : Method} {c : Code} {H : Heap} {locs : List Loc} {cells slots : Nat} {Q : State → Prop}
variable {cc bytes : ByteArray} {pc : Nat} {ls : Array Slot} {rest As : List Value} {D : va_G} {t : Nat → ClassId} {A : Nat → Prop} {w : va_W} {H0 : Heap} {S : Type} {wd : S → va_W}
variable {nL maxL n k index b : Nat} {ret : Option FieldType} {y : MethodName} {own C : String} {w0 : Cond}
/-- a call of a method of the same world, on an object of it -/
theorem g_vi {post : Int32 → S → Prop} (F : CallFix p m c cc nL s args (w0 :: gBig) own) (hM : gMi l D t y bytes maxL ret n (.ref b :: As) w wd post) (hG : GoodIn (w0 :: gBig) (wsV own index C y (.code y bytes maxL ret :: gBig)))
    (hd : y.cls = C ∧ y.cls ≠ "java/lang/invoke/MethodHandle" ∧ y.cls ≠ "java/lang/invoke/VarHandle" ∧ (parseMethodDescriptor y.desc).map (fun d => d.parameters.length) = some k) (hR : n + 1 ≤ R.frames ∧ 8 + (maxL + 11) + 40 * n ≤ R.locals) (hkl : As.length = k)
    (hrecv : ∃ cellB : Cell, H[b]? = some cellB ∧ cellB.vm.isStatics = false ∧ s.vm.findClass C = some cellB.cls)
    (hK : gK D t s) (hP : va_P D gCl w H) (hD : va_D A w) (hS : va_S A H0 H locs) (hsz : ls.size = nL) {st0 : List Value} (hst : st0 = As.reverse ++ .ref b :: rest) (hrest : (rest.map fun v => v.category).sum ≤ 8) (hc : cells ≤ R.cells ∧ slots ≤ R.slots) (hdg : decode cc pc = .ok (.invokevirtual index, 3))
    (kk : ∀ (r : Int32) (u : S) (H1 : Heap) (locs1 : List Loc), post r u → va_P D gCl (wd u) H1 → va_D A (wd u) → va_S A H0 H1 locs1 → W p l e R s m args below meth c H1 locs1 cells slots Q (F0 m (pc + 3) ls (.int r :: rest))) :
    W p l e R s m args below meth c H locs cells slots Q (F0 m pc ls st0) := by
  subst hst
  refine va_calli (A1 := A) (va_runV (As := As) (rest := rest) F (hM A) (cwV k F.2.2.2.2 hG rfl rfl rfl hd hR) ⟨gBlind, hrecv, fun U hU hW => ⟨rfl, gK.moved hW hK, by rw [hU]; exact hP, hD⟩⟩ rfl hkl hsz rfl (lv_room hrest) hdg hc) hS (fun q _ h => h) (fun q h => h) (fun r u T1 H1 locs1 ht hvm hp hB hz hk hS1 => ?_)
  exact kk r u H1 locs1 hp (by rw [← ht]; exact hB.1) hB.2 hS1
theorem g_vv {post : S → Prop} (F : CallFix p m c cc nL s args (w0 :: gBig) own) (hM : gMv l D t y bytes maxL n (.ref b :: As) w wd post) (hG : GoodIn (w0 :: gBig) (wsV own index C y (.code y bytes maxL none :: gBig)))
    (hd : y.cls = C ∧ y.cls ≠ "java/lang/invoke/MethodHandle" ∧ y.cls ≠ "java/lang/invoke/VarHandle" ∧ (parseMethodDescriptor y.desc).map (fun d => d.parameters.length) = some k) (hR : n + 1 ≤ R.frames ∧ 8 + (maxL + 11) + 40 * n ≤ R.locals) (hkl : As.length = k)
    (hrecv : ∃ cellB : Cell, H[b]? = some cellB ∧ cellB.vm.isStatics = false ∧ s.vm.findClass C = some cellB.cls)
    (hK : gK D t s) (hP : va_P D gCl w H) (hD : va_D A w) (hS : va_S A H0 H locs) (hsz : ls.size = nL) {st0 : List Value} (hst : st0 = As.reverse ++ .ref b :: rest) (hrest : (rest.map fun v => v.category).sum ≤ 8) (hc : cells ≤ R.cells ∧ slots ≤ R.slots) (hdg : decode cc pc = .ok (.invokevirtual index, 3))
    (kk : ∀ (u : S) (H1 : Heap) (locs1 : List Loc), post u → va_P D gCl (wd u) H1 → va_D A (wd u) → va_S A H0 H1 locs1 → W p l e R s m args below meth c H1 locs1 cells slots Q (F0 m (pc + 3) ls rest)) :
    W p l e R s m args below meth c H locs cells slots Q (F0 m pc ls st0) := by
  subst hst
  refine va_callv (A1 := A) (va_runV (As := As) (rest := rest) F (hM A) (cwV k F.2.2.2.2 hG rfl rfl rfl hd hR) ⟨gBlind, hrecv, fun U hU hW => ⟨rfl, gK.moved hW hK, by rw [hU]; exact hP, hD⟩⟩ rfl hkl hsz rfl (lv_room hrest) hdg hc) hS (fun q _ h => h) (fun q h => h) (fun u T1 H1 locs1 ht hvm hp hB hz hk hS1 => ?_)
  exact kk u H1 locs1 hp (by rw [← ht]; exact hB.1) hB.2 hS1
/-- a call of a static method of the same class -/
theorem g_si {post : Int32 → S → Prop} (F : CallFix p m c cc nL s args (w0 :: gBig) own) (hM : gMi l D t y bytes maxL ret n As w wd post) (hG : GoodIn (w0 :: gBig) (wsS own index y (.code y bytes maxL ret :: gBig)))
    (hd : y.cls = own ∧ y.cls ≠ "java/lang/invoke/MethodHandle" ∧ y.cls ≠ "java/lang/invoke/VarHandle" ∧ (parseMethodDescriptor y.desc).map (fun d => d.parameters.length) = some k) (hR : n + 1 ≤ R.frames ∧ 8 + (maxL + 11) + 40 * n ≤ R.locals) (hkl : As.length = k)
    (hK : gK D t s) (hP : va_P D gCl w H) (hD : va_D A w) (hS : va_S A H0 H locs) (hsz : ls.size = nL) {st0 : List Value} (hst : st0 = As.reverse ++ rest) (hrest : (rest.map fun v => v.category).sum ≤ 8) (hc : cells ≤ R.cells ∧ slots ≤ R.slots) (hdg : decode cc pc = .ok (.invokestatic index, 3))
    (kk : ∀ (r : Int32) (u : S) (H1 : Heap) (locs1 : List Loc), post r u → va_P D gCl (wd u) H1 → va_D A (wd u) → va_S A H0 H1 locs1 → W p l e R s m args below meth c H1 locs1 cells slots Q (F0 m (pc + 3) ls (.int r :: rest))) :
    W p l e R s m args below meth c H locs cells slots Q (F0 m pc ls st0) := by
  subst hst
  refine va_calli (A1 := A) (va_runS (As := As) (rest := rest) F (hM A) (cwS k F.2.2.2.2 hG rfl rfl rfl hd hR) ⟨gBlind, fun U hU hW => ⟨rfl, gK.moved hW hK, by rw [hU]; exact hP, hD⟩⟩ rfl hkl hsz rfl (lv_room hrest) hdg hc) hS (fun q _ h => h) (fun q h => h) (fun r u T1 H1 locs1 ht hvm hp hB hz hk hS1 => ?_)
  exact kk r u H1 locs1 hp (by rw [← ht]; exact hB.1) hB.2 hS1
end GC
/-- the reference's world: the object at a 0, the array of field k at a k; σ k is what field k holds -/
def wMd (t : Nat → ClassId) (a : Nat → Nat) (σ : Nat → Nat → Int32) : va_W := [(a 0, .inr (7, [.int (σ 0 0), .int (σ 1 0), .int (σ 2 0), .ref (a 3), .ref (a 4), .ref (a 5), .ref (a 6), .ref (a 7), .int (σ 8 0), .ref (a 9), .ref (a 10), .ref (a 11), .ref (a 12), .ref (a 13), .ref (a 14), .ref (a 15), .ref (a 16), .int (σ 17 0), .ref (a 18), .ref (a 19), .ref (a 20), .ref (a 21), .ref (a 22), .ref (a 23), .int (σ 24 0), .int (σ 25 0), .ref (a 26), .ref (a 27), .ref (a 28), .int (σ 29 0), .ref (a 30), .ref (a 31), .ref (a 32), .ref (a 33)])), (a 3, .inl (t 0, 4, .inl (σ 3))), (a 4, .inl (t 0, 4, .inl (σ 4))), (a 5, .inl (t 0, 4, .inl (σ 5))), (a 6, .inl (t 0, 4, .inl (σ 6))), (a 7, .inl (t 0, 4, .inl (σ 7))), (a 9, .inl (t 0, 8, .inl (σ 9))), (a 10, .inl (t 0, 8, .inl (σ 10))), (a 11, .inl (t 0, 8, .inl (σ 11))), (a 12, .inl (t 0, 8, .inl (σ 12))), (a 13, .inl (t 0, 8, .inl (σ 13))), (a 14, .inl (t 1, 8, .inl (σ 14))), (a 15, .inl (t 0, 8, .inl (σ 15))), (a 16, .inl (t 0, 8, .inl (σ 16))), (a 18, .inl (t 0, 8, .inl (σ 18))), (a 19, .inl (t 0, 8, .inl (σ 19))), (a 20, .inl (t 0, 8, .inl (σ 20))), (a 21, .inl (t 0, 8, .inl (σ 21))), (a 22, .inl (t 1, 8, .inl (σ 22))), (a 23, .inl (t 0, 256, .inl (σ 23))), (a 26, .inl (t 0, 8, .inl (σ 26))), (a 27, .inl (t 0, 8, .inl (σ 27))), (a 28, .inl (t 0, 8, .inl (σ 28))), (a 30, .inl (t 0, 4, .inl (σ 30))), (a 31, .inl (t 0, 24, .inl (σ 31))), (a 32, .inl (t 0, 24, .inl (σ 32))), (a 33, .inl (t 0, 24, .inl (σ 33)))]
theorem wMd_0 (t : Nat → ClassId) (a : Nat → Nat) (σ : Nat → Nat → Int32) : (wMd t a σ)[0]? = some (a 0, .inr (7, [.int (σ 0 0), .int (σ 1 0), .int (σ 2 0), .ref (a 3), .ref (a 4), .ref (a 5), .ref (a 6), .ref (a 7), .int (σ 8 0), .ref (a 9), .ref (a 10), .ref (a 11), .ref (a 12), .ref (a 13), .ref (a 14), .ref (a 15), .ref (a 16), .int (σ 17 0), .ref (a 18), .ref (a 19), .ref (a 20), .ref (a 21), .ref (a 22), .ref (a 23), .int (σ 24 0), .int (σ 25 0), .ref (a 26), .ref (a 27), .ref (a 28), .int (σ 29 0), .ref (a 30), .ref (a 31), .ref (a 32), .ref (a 33)])) := rfl
theorem sMd_0 (t : Nat → ClassId) (a : Nat → Nat) (σ : Nat → Nat → Int32) (x : Int32) : (wMd t a σ).set 0 (a 0, .inr (7, ([.int (σ 0 0), .int (σ 1 0), .int (σ 2 0), .ref (a 3), .ref (a 4), .ref (a 5), .ref (a 6), .ref (a 7), .int (σ 8 0), .ref (a 9), .ref (a 10), .ref (a 11), .ref (a 12), .ref (a 13), .ref (a 14), .ref (a 15), .ref (a 16), .int (σ 17 0), .ref (a 18), .ref (a 19), .ref (a 20), .ref (a 21), .ref (a 22), .ref (a 23), .int (σ 24 0), .int (σ 25 0), .ref (a 26), .ref (a 27), .ref (a 28), .int (σ 29 0), .ref (a 30), .ref (a 31), .ref (a 32), .ref (a 33)] : List Value).set 0 (.int x))) = wMd t a (gSt σ 0 0 x) := rfl
theorem sMd_1 (t : Nat → ClassId) (a : Nat → Nat) (σ : Nat → Nat → Int32) (x : Int32) : (wMd t a σ).set 0 (a 0, .inr (7, ([.int (σ 0 0), .int (σ 1 0), .int (σ 2 0), .ref (a 3), .ref (a 4), .ref (a 5), .ref (a 6), .ref (a 7), .int (σ 8 0), .ref (a 9), .ref (a 10), .ref (a 11), .ref (a 12), .ref (a 13), .ref (a 14), .ref (a 15), .ref (a 16), .int (σ 17 0), .ref (a 18), .ref (a 19), .ref (a 20), .ref (a 21), .ref (a 22), .ref (a 23), .int (σ 24 0), .int (σ 25 0), .ref (a 26), .ref (a 27), .ref (a 28), .int (σ 29 0), .ref (a 30), .ref (a 31), .ref (a 32), .ref (a 33)] : List Value).set 1 (.int x))) = wMd t a (gSt σ 1 0 x) := rfl
theorem sMd_2 (t : Nat → ClassId) (a : Nat → Nat) (σ : Nat → Nat → Int32) (x : Int32) : (wMd t a σ).set 0 (a 0, .inr (7, ([.int (σ 0 0), .int (σ 1 0), .int (σ 2 0), .ref (a 3), .ref (a 4), .ref (a 5), .ref (a 6), .ref (a 7), .int (σ 8 0), .ref (a 9), .ref (a 10), .ref (a 11), .ref (a 12), .ref (a 13), .ref (a 14), .ref (a 15), .ref (a 16), .int (σ 17 0), .ref (a 18), .ref (a 19), .ref (a 20), .ref (a 21), .ref (a 22), .ref (a 23), .int (σ 24 0), .int (σ 25 0), .ref (a 26), .ref (a 27), .ref (a 28), .int (σ 29 0), .ref (a 30), .ref (a 31), .ref (a 32), .ref (a 33)] : List Value).set 2 (.int x))) = wMd t a (gSt σ 2 0 x) := rfl
theorem wMd_3 (t : Nat → ClassId) (a : Nat → Nat) (σ : Nat → Nat → Int32) : (wMd t a σ)[1]? = some (a 3, .inl (t 0, 4, .inl (σ 3))) := rfl
theorem sMd_3 (t : Nat → ClassId) (a : Nat → Nat) (σ : Nat → Nat → Int32) (k : Nat) (x : Int32) : (wMd t a σ).set 1 (a 3, .inl (t 0, 4, .inl (upd (σ 3) k x))) = wMd t a (gSt σ 3 k x) := rfl
theorem wMd_4 (t : Nat → ClassId) (a : Nat → Nat) (σ : Nat → Nat → Int32) : (wMd t a σ)[2]? = some (a 4, .inl (t 0, 4, .inl (σ 4))) := rfl
theorem sMd_4 (t : Nat → ClassId) (a : Nat → Nat) (σ : Nat → Nat → Int32) (k : Nat) (x : Int32) : (wMd t a σ).set 2 (a 4, .inl (t 0, 4, .inl (upd (σ 4) k x))) = wMd t a (gSt σ 4 k x) := rfl
theorem wMd_5 (t : Nat → ClassId) (a : Nat → Nat) (σ : Nat → Nat → Int32) : (wMd t a σ)[3]? = some (a 5, .inl (t 0, 4, .inl (σ 5))) := rfl
theorem sMd_5 (t : Nat → ClassId) (a : Nat → Nat) (σ : Nat → Nat → Int32) (k : Nat) (x : Int32) : (wMd t a σ).set 3 (a 5, .inl (t 0, 4, .inl (upd (σ 5) k x))) = wMd t a (gSt σ 5 k x) := rfl
theorem wMd_6 (t : Nat → ClassId) (a : Nat → Nat) (σ : Nat → Nat → Int32) : (wMd t a σ)[4]? = some (a 6, .inl (t 0, 4, .inl (σ 6))) := rfl
theorem sMd_6 (t : Nat → ClassId) (a : Nat → Nat) (σ : Nat → Nat → Int32) (k : Nat) (x : Int32) : (wMd t a σ).set 4 (a 6, .inl (t 0, 4, .inl (upd (σ 6) k x))) = wMd t a (gSt σ 6 k x) := rfl
theorem wMd_7 (t : Nat → ClassId) (a : Nat → Nat) (σ : Nat → Nat → Int32) : (wMd t a σ)[5]? = some (a 7, .inl (t 0, 4, .inl (σ 7))) := rfl
theorem sMd_7 (t : Nat → ClassId) (a : Nat → Nat) (σ : Nat → Nat → Int32) (k : Nat) (x : Int32) : (wMd t a σ).set 5 (a 7, .inl (t 0, 4, .inl (upd (σ 7) k x))) = wMd t a (gSt σ 7 k x) := rfl
theorem sMd_8 (t : Nat → ClassId) (a : Nat → Nat) (σ : Nat → Nat → Int32) (x : Int32) : (wMd t a σ).set 0 (a 0, .inr (7, ([.int (σ 0 0), .int (σ 1 0), .int (σ 2 0), .ref (a 3), .ref (a 4), .ref (a 5), .ref (a 6), .ref (a 7), .int (σ 8 0), .ref (a 9), .ref (a 10), .ref (a 11), .ref (a 12), .ref (a 13), .ref (a 14), .ref (a 15), .ref (a 16), .int (σ 17 0), .ref (a 18), .ref (a 19), .ref (a 20), .ref (a 21), .ref (a 22), .ref (a 23), .int (σ 24 0), .int (σ 25 0), .ref (a 26), .ref (a 27), .ref (a 28), .int (σ 29 0), .ref (a 30), .ref (a 31), .ref (a 32), .ref (a 33)] : List Value).set 8 (.int x))) = wMd t a (gSt σ 8 0 x) := rfl
theorem wMd_9 (t : Nat → ClassId) (a : Nat → Nat) (σ : Nat → Nat → Int32) : (wMd t a σ)[6]? = some (a 9, .inl (t 0, 8, .inl (σ 9))) := rfl
theorem sMd_9 (t : Nat → ClassId) (a : Nat → Nat) (σ : Nat → Nat → Int32) (k : Nat) (x : Int32) : (wMd t a σ).set 6 (a 9, .inl (t 0, 8, .inl (upd (σ 9) k x))) = wMd t a (gSt σ 9 k x) := rfl
theorem wMd_10 (t : Nat → ClassId) (a : Nat → Nat) (σ : Nat → Nat → Int32) : (wMd t a σ)[7]? = some (a 10, .inl (t 0, 8, .inl (σ 10))) := rfl
theorem sMd_10 (t : Nat → ClassId) (a : Nat → Nat) (σ : Nat → Nat → Int32) (k : Nat) (x : Int32) : (wMd t a σ).set 7 (a 10, .inl (t 0, 8, .inl (upd (σ 10) k x))) = wMd t a (gSt σ 10 k x) := rfl
theorem wMd_11 (t : Nat → ClassId) (a : Nat → Nat) (σ : Nat → Nat → Int32) : (wMd t a σ)[8]? = some (a 11, .inl (t 0, 8, .inl (σ 11))) := rfl
theorem sMd_11 (t : Nat → ClassId) (a : Nat → Nat) (σ : Nat → Nat → Int32) (k : Nat) (x : Int32) : (wMd t a σ).set 8 (a 11, .inl (t 0, 8, .inl (upd (σ 11) k x))) = wMd t a (gSt σ 11 k x) := rfl
theorem wMd_12 (t : Nat → ClassId) (a : Nat → Nat) (σ : Nat → Nat → Int32) : (wMd t a σ)[9]? = some (a 12, .inl (t 0, 8, .inl (σ 12))) := rfl
theorem sMd_12 (t : Nat → ClassId) (a : Nat → Nat) (σ : Nat → Nat → Int32) (k : Nat) (x : Int32) : (wMd t a σ).set 9 (a 12, .inl (t 0, 8, .inl (upd (σ 12) k x))) = wMd t a (gSt σ 12 k x) := rfl
theorem wMd_13 (t : Nat → ClassId) (a : Nat → Nat) (σ : Nat → Nat → Int32) : (wMd t a σ)[10]? = some (a 13, .inl (t 0, 8, .inl (σ 13))) := rfl
theorem sMd_13 (t : Nat → ClassId) (a : Nat → Nat) (σ : Nat → Nat → Int32) (k : Nat) (x : Int32) : (wMd t a σ).set 10 (a 13, .inl (t 0, 8, .inl (upd (σ 13) k x))) = wMd t a (gSt σ 13 k x) := rfl
theorem wMd_14 (t : Nat → ClassId) (a : Nat → Nat) (σ : Nat → Nat → Int32) : (wMd t a σ)[11]? = some (a 14, .inl (t 1, 8, .inl (σ 14))) := rfl
theorem sMd_14 (t : Nat → ClassId) (a : Nat → Nat) (σ : Nat → Nat → Int32) (k : Nat) (x : Int32) : (wMd t a σ).set 11 (a 14, .inl (t 1, 8, .inl (upd (σ 14) k x))) = wMd t a (gSt σ 14 k x) := rfl
theorem wMd_15 (t : Nat → ClassId) (a : Nat → Nat) (σ : Nat → Nat → Int32) : (wMd t a σ)[12]? = some (a 15, .inl (t 0, 8, .inl (σ 15))) := rfl
theorem sMd_15 (t : Nat → ClassId) (a : Nat → Nat) (σ : Nat → Nat → Int32) (k : Nat) (x : Int32) : (wMd t a σ).set 12 (a 15, .inl (t 0, 8, .inl (upd (σ 15) k x))) = wMd t a (gSt σ 15 k x) := rfl
theorem wMd_16 (t : Nat → ClassId) (a : Nat → Nat) (σ : Nat → Nat → Int32) : (wMd t a σ)[13]? = some (a 16, .inl (t 0, 8, .inl (σ 16))) := rfl
theorem sMd_16 (t : Nat → ClassId) (a : Nat → Nat) (σ : Nat → Nat → Int32) (k : Nat) (x : Int32) : (wMd t a σ).set 13 (a 16, .inl (t 0, 8, .inl (upd (σ 16) k x))) = wMd t a (gSt σ 16 k x) := rfl
theorem sMd_17 (t : Nat → ClassId) (a : Nat → Nat) (σ : Nat → Nat → Int32) (x : Int32) : (wMd t a σ).set 0 (a 0, .inr (7, ([.int (σ 0 0), .int (σ 1 0), .int (σ 2 0), .ref (a 3), .ref (a 4), .ref (a 5), .ref (a 6), .ref (a 7), .int (σ 8 0), .ref (a 9), .ref (a 10), .ref (a 11), .ref (a 12), .ref (a 13), .ref (a 14), .ref (a 15), .ref (a 16), .int (σ 17 0), .ref (a 18), .ref (a 19), .ref (a 20), .ref (a 21), .ref (a 22), .ref (a 23), .int (σ 24 0), .int (σ 25 0), .ref (a 26), .ref (a 27), .ref (a 28), .int (σ 29 0), .ref (a 30), .ref (a 31), .ref (a 32), .ref (a 33)] : List Value).set 17 (.int x))) = wMd t a (gSt σ 17 0 x) := rfl
theorem wMd_18 (t : Nat → ClassId) (a : Nat → Nat) (σ : Nat → Nat → Int32) : (wMd t a σ)[14]? = some (a 18, .inl (t 0, 8, .inl (σ 18))) := rfl
theorem sMd_18 (t : Nat → ClassId) (a : Nat → Nat) (σ : Nat → Nat → Int32) (k : Nat) (x : Int32) : (wMd t a σ).set 14 (a 18, .inl (t 0, 8, .inl (upd (σ 18) k x))) = wMd t a (gSt σ 18 k x) := rfl
theorem wMd_19 (t : Nat → ClassId) (a : Nat → Nat) (σ : Nat → Nat → Int32) : (wMd t a σ)[15]? = some (a 19, .inl (t 0, 8, .inl (σ 19))) := rfl
theorem sMd_19 (t : Nat → ClassId) (a : Nat → Nat) (σ : Nat → Nat → Int32) (k : Nat) (x : Int32) : (wMd t a σ).set 15 (a 19, .inl (t 0, 8, .inl (upd (σ 19) k x))) = wMd t a (gSt σ 19 k x) := rfl
theorem wMd_20 (t : Nat → ClassId) (a : Nat → Nat) (σ : Nat → Nat → Int32) : (wMd t a σ)[16]? = some (a 20, .inl (t 0, 8, .inl (σ 20))) := rfl
theorem sMd_20 (t : Nat → ClassId) (a : Nat → Nat) (σ : Nat → Nat → Int32) (k : Nat) (x : Int32) : (wMd t a σ).set 16 (a 20, .inl (t 0, 8, .inl (upd (σ 20) k x))) = wMd t a (gSt σ 20 k x) := rfl
theorem wMd_21 (t : Nat → ClassId) (a : Nat → Nat) (σ : Nat → Nat → Int32) : (wMd t a σ)[17]? = some (a 21, .inl (t 0, 8, .inl (σ 21))) := rfl
theorem sMd_21 (t : Nat → ClassId) (a : Nat → Nat) (σ : Nat → Nat → Int32) (k : Nat) (x : Int32) : (wMd t a σ).set 17 (a 21, .inl (t 0, 8, .inl (upd (σ 21) k x))) = wMd t a (gSt σ 21 k x) := rfl
theorem wMd_22 (t : Nat → ClassId) (a : Nat → Nat) (σ : Nat → Nat → Int32) : (wMd t a σ)[18]? = some (a 22, .inl (t 1, 8, .inl (σ 22))) := rfl
theorem sMd_22 (t : Nat → ClassId) (a : Nat → Nat) (σ : Nat → Nat → Int32) (k : Nat) (x : Int32) : (wMd t a σ).set 18 (a 22, .inl (t 1, 8, .inl (upd (σ 22) k x))) = wMd t a (gSt σ 22 k x) := rfl
theorem wMd_23 (t : Nat → ClassId) (a : Nat → Nat) (σ : Nat → Nat → Int32) : (wMd t a σ)[19]? = some (a 23, .inl (t 0, 256, .inl (σ 23))) := rfl
theorem sMd_23 (t : Nat → ClassId) (a : Nat → Nat) (σ : Nat → Nat → Int32) (k : Nat) (x : Int32) : (wMd t a σ).set 19 (a 23, .inl (t 0, 256, .inl (upd (σ 23) k x))) = wMd t a (gSt σ 23 k x) := rfl
theorem sMd_24 (t : Nat → ClassId) (a : Nat → Nat) (σ : Nat → Nat → Int32) (x : Int32) : (wMd t a σ).set 0 (a 0, .inr (7, ([.int (σ 0 0), .int (σ 1 0), .int (σ 2 0), .ref (a 3), .ref (a 4), .ref (a 5), .ref (a 6), .ref (a 7), .int (σ 8 0), .ref (a 9), .ref (a 10), .ref (a 11), .ref (a 12), .ref (a 13), .ref (a 14), .ref (a 15), .ref (a 16), .int (σ 17 0), .ref (a 18), .ref (a 19), .ref (a 20), .ref (a 21), .ref (a 22), .ref (a 23), .int (σ 24 0), .int (σ 25 0), .ref (a 26), .ref (a 27), .ref (a 28), .int (σ 29 0), .ref (a 30), .ref (a 31), .ref (a 32), .ref (a 33)] : List Value).set 24 (.int x))) = wMd t a (gSt σ 24 0 x) := rfl
theorem sMd_25 (t : Nat → ClassId) (a : Nat → Nat) (σ : Nat → Nat → Int32) (x : Int32) : (wMd t a σ).set 0 (a 0, .inr (7, ([.int (σ 0 0), .int (σ 1 0), .int (σ 2 0), .ref (a 3), .ref (a 4), .ref (a 5), .ref (a 6), .ref (a 7), .int (σ 8 0), .ref (a 9), .ref (a 10), .ref (a 11), .ref (a 12), .ref (a 13), .ref (a 14), .ref (a 15), .ref (a 16), .int (σ 17 0), .ref (a 18), .ref (a 19), .ref (a 20), .ref (a 21), .ref (a 22), .ref (a 23), .int (σ 24 0), .int (σ 25 0), .ref (a 26), .ref (a 27), .ref (a 28), .int (σ 29 0), .ref (a 30), .ref (a 31), .ref (a 32), .ref (a 33)] : List Value).set 25 (.int x))) = wMd t a (gSt σ 25 0 x) := rfl
theorem wMd_26 (t : Nat → ClassId) (a : Nat → Nat) (σ : Nat → Nat → Int32) : (wMd t a σ)[20]? = some (a 26, .inl (t 0, 8, .inl (σ 26))) := rfl
theorem sMd_26 (t : Nat → ClassId) (a : Nat → Nat) (σ : Nat → Nat → Int32) (k : Nat) (x : Int32) : (wMd t a σ).set 20 (a 26, .inl (t 0, 8, .inl (upd (σ 26) k x))) = wMd t a (gSt σ 26 k x) := rfl
theorem wMd_27 (t : Nat → ClassId) (a : Nat → Nat) (σ : Nat → Nat → Int32) : (wMd t a σ)[21]? = some (a 27, .inl (t 0, 8, .inl (σ 27))) := rfl
theorem sMd_27 (t : Nat → ClassId) (a : Nat → Nat) (σ : Nat → Nat → Int32) (k : Nat) (x : Int32) : (wMd t a σ).set 21 (a 27, .inl (t 0, 8, .inl (upd (σ 27) k x))) = wMd t a (gSt σ 27 k x) := rfl
theorem wMd_28 (t : Nat → ClassId) (a : Nat → Nat) (σ : Nat → Nat → Int32) : (wMd t a σ)[22]? = some (a 28, .inl (t 0, 8, .inl (σ 28))) := rfl
theorem sMd_28 (t : Nat → ClassId) (a : Nat → Nat) (σ : Nat → Nat → Int32) (k : Nat) (x : Int32) : (wMd t a σ).set 22 (a 28, .inl (t 0, 8, .inl (upd (σ 28) k x))) = wMd t a (gSt σ 28 k x) := rfl
theorem sMd_29 (t : Nat → ClassId) (a : Nat → Nat) (σ : Nat → Nat → Int32) (x : Int32) : (wMd t a σ).set 0 (a 0, .inr (7, ([.int (σ 0 0), .int (σ 1 0), .int (σ 2 0), .ref (a 3), .ref (a 4), .ref (a 5), .ref (a 6), .ref (a 7), .int (σ 8 0), .ref (a 9), .ref (a 10), .ref (a 11), .ref (a 12), .ref (a 13), .ref (a 14), .ref (a 15), .ref (a 16), .int (σ 17 0), .ref (a 18), .ref (a 19), .ref (a 20), .ref (a 21), .ref (a 22), .ref (a 23), .int (σ 24 0), .int (σ 25 0), .ref (a 26), .ref (a 27), .ref (a 28), .int (σ 29 0), .ref (a 30), .ref (a 31), .ref (a 32), .ref (a 33)] : List Value).set 29 (.int x))) = wMd t a (gSt σ 29 0 x) := rfl
theorem wMd_30 (t : Nat → ClassId) (a : Nat → Nat) (σ : Nat → Nat → Int32) : (wMd t a σ)[23]? = some (a 30, .inl (t 0, 4, .inl (σ 30))) := rfl
theorem sMd_30 (t : Nat → ClassId) (a : Nat → Nat) (σ : Nat → Nat → Int32) (k : Nat) (x : Int32) : (wMd t a σ).set 23 (a 30, .inl (t 0, 4, .inl (upd (σ 30) k x))) = wMd t a (gSt σ 30 k x) := rfl
theorem wMd_31 (t : Nat → ClassId) (a : Nat → Nat) (σ : Nat → Nat → Int32) : (wMd t a σ)[24]? = some (a 31, .inl (t 0, 24, .inl (σ 31))) := rfl
theorem sMd_31 (t : Nat → ClassId) (a : Nat → Nat) (σ : Nat → Nat → Int32) (k : Nat) (x : Int32) : (wMd t a σ).set 24 (a 31, .inl (t 0, 24, .inl (upd (σ 31) k x))) = wMd t a (gSt σ 31 k x) := rfl
theorem wMd_32 (t : Nat → ClassId) (a : Nat → Nat) (σ : Nat → Nat → Int32) : (wMd t a σ)[25]? = some (a 32, .inl (t 0, 24, .inl (σ 32))) := rfl
theorem sMd_32 (t : Nat → ClassId) (a : Nat → Nat) (σ : Nat → Nat → Int32) (k : Nat) (x : Int32) : (wMd t a σ).set 25 (a 32, .inl (t 0, 24, .inl (upd (σ 32) k x))) = wMd t a (gSt σ 32 k x) := rfl
theorem wMd_33 (t : Nat → ClassId) (a : Nat → Nat) (σ : Nat → Nat → Int32) : (wMd t a σ)[26]? = some (a 33, .inl (t 0, 24, .inl (σ 33))) := rfl
theorem sMd_33 (t : Nat → ClassId) (a : Nat → Nat) (σ : Nat → Nat → Int32) (k : Nat) (x : Int32) : (wMd t a σ).set 26 (a 33, .inl (t 0, 24, .inl (upd (σ 33) k x))) = wMd t a (gSt σ 33 k x) := rfl
