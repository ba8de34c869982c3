/-! constructors: contract, calls, new arrays of known classes, int[N][K] -/
/-- the table has the arrays over int[] -/
def gOv (U : State) : Prop := ∀ args : Array Value, (Cond.arrayOver (.array .int)).before args U = true
theorem gOv.moved {s U : State} (hW : s.vm.Alike U.vm) (h : gOv s) : gOv U := fun args => by
  have e : (Cond.arrayOver (.array .int)).before args U = (Cond.arrayOver (.array .int)).before args (s.setVm U.vm) := by
    simp only [Cond.before, Cond.holds, Cond.value, State.vm_setVm]
    rfl
  rw [e, Cond.arrayOver_setVmC hW]
  exact h args
def gPreC (D : va_G) (t : Nat → ClassId) (A : Nat → Prop) (w : va_W) (U : State) : Prop := gPre D t A w U ∧ (∀ q : Nat, U.heap.size ≤ q → A q) ∧ gOv U
def gRC (n mc ms : Nat) : Room := { frames := n, cells := mc, slots := ms, locals := 40 * n }
def gMc {S : Type} (l : Launch) (D : va_G) (t : Nat → ClassId) (y : MethodName) (cc : ByteArray) (maxL : Nat) (n mc ms : Nat) (av : List Value) (w : va_W) (wd : S → va_W) (post : S → Prop) : Prop :=
  ∀ A : Nat → Prop, Met l y (.code y cc maxL none :: gBig) (gRC n mc ms) (va_Pc av (gPreC D t A w)) (va_Qv post (fun u U => va_P D gCl (wd u) U.heap ∧ va_D A (wd u)) A) mc ms A
theorem cBlind {av : List Value} {D : va_G} {t : Nat → ClassId} {A : Nat → Prop} {w : va_W} : FrameBlind (va_Pc av (gPreC D t A w)) := fun a U g mk h => ⟨h.1, ⟨h.2.1.1.call g mk a, h.2.1.2.1, h.2.1.2.2⟩, h.2.2.1, gOv.moved (s := U) (U := U.calling g mk a) (Vm.Alike.refl U.vm) h.2.2.2⟩
theorem gJoinC {D : va_G} {A : Nat → Prop} {w1 w2 w1' : va_W} {H H1 : Heap} (hP : va_P D gCl (w1 ++ w2) H) (hD : va_D A (w1 ++ w2)) (hP1 : va_P D gCl w1' H1) (hD1 : va_D (fun q => gAd w1 q ∨ H.size ≤ q) w1') (hA : ∀ q : Nat, H.size ≤ q → A q) (hk : ∀ q : Nat, q < H.size → ¬ (gAd w1 q ∨ H.size ≤ q) → H1[q]? = H[q]?) : va_P D gCl (w1' ++ w2) H1 ∧ va_D A (w1' ++ w2) := by
  obtain ⟨-, hP2⟩ := gSplit hP
  obtain ⟨-, h2, h3, h4⟩ := gSplitD hD
  refine ⟨hP1.app (hP2.kept (fun k q hq => hk q.1 ((hP2 k q hq).lt) (fun z => z.elim (h4 k q hq) (fun z => absurd ((hP2 k q hq).lt) (by omega))))), va_D.app (hD1.weaken (fun k q _ z => z.elim (h2 _) (hA _))) h3 ?_⟩
  intro i j x y hi hj e
  rcases hD1.2 i x hi with z | z
  · exact h4 j y hj (e ▸ z)
  · have := (hP2 j y hj).lt
    omega
/-- the classes of int[] and of the arrays over it, out of the word -/
theorem gOvS {args : Array Value} {U : State} (h : (Cond.arrayOver (.array .int)).before args U = true) : ∃ (xo co : ClassId) (ko : Class), U.vm.findClass "[I" = some xo ∧ U.vm.classes[co]? = some ko ∧ ko.kind = .array xo (.array .int) ∧ U.vm.findClass "[[I" = some co := by
  have h1 : (Cond.arrayOver (.array .int)).value args U none U [] = some true := by
    simpa [Cond.before, Cond.holds] using h
  simp only [Cond.value] at h1
  obtain ⟨xo, hx, h2⟩ := Option.bind_eq_some_iff.mp h1
  obtain ⟨co, hi, h3⟩ := Option.bind_eq_some_iff.mp h2
  obtain ⟨ko, h4, h5⟩ := Option.map_eq_some_iff.mp h3
  obtain ⟨hlt, hp, -⟩ := Array.findIdx?_eq_some_iff_getElem.mp hi
  rw [(Array.getElem?_eq_some_iff.mp h4).2] at hp
  cases hk : ko.kind with
  | array z ty =>
    rw [hk] at h5 hp
    simp only [Bool.and_eq_true, decide_eq_true_eq] at h5
    exact ⟨xo, co, ko, hx, h4, by rw [hk, h5.1, eq_of_beq hp], h5.2⟩
  | _ => rw [hk] at h5; cases h5
/-- T with i more cells like row -/
def gPR (T : State) (row : Cell) : Nat → State
  | 0 => T
  | i + 1 => (gPR T row i).pushCell row
theorem gPR_heap (T : State) (row : Cell) : ∀ i, (gPR T row i).heap = T.heap ++ Array.replicate i row
  | 0 => by simp [gPR]
  | i + 1 => by
    show (gPR T row i).heap.push row = _
    rw [gPR_heap T row i, Array.replicate_succ, Array.append_push]
theorem gPR_used (T : State) (row : Cell) : ∀ i, (gPR T row i).slotsUsed = T.slotsUsed + i * row.slots.size
  | 0 => by simp [gPR]
  | i + 1 => by
    show (gPR T row i).slotsUsed + row.slots.size = _
    rw [gPR_used T row i, Nat.succ_mul, Nat.add_assoc]
theorem gPR_vm (T : State) (row : Cell) : ∀ i, (gPR T row i).vm = T.vm
  | 0 => rfl
  | i + 1 => gPR_vm T row i
theorem gPR_top (T : State) (f : JFrame) (row : Cell) : ∀ i, gPR (T.setTop f) row i = (gPR T row i).setTop f
  | 0 => rfl
  | i + 1 => by
    show (gPR (T.setTop f) row i).pushCell row = _
    rw [gPR_top T f row i]
    rfl
theorem gSetPush {S : State} {a : Nat} {o row : Cell} (h : a < S.heap.size) : (S.pushCell row).setCell a o = (S.setCell a o).pushCell row := by
  have e : (S.heap.push row).setIfInBounds a o = (S.heap.setIfInBounds a o).push row := by
    apply Array.ext_getElem?
    intro j
    rw [Array.getElem?_setIfInBounds, Array.getElem?_push, Array.getElem?_push, Array.getElem?_setIfInBounds, Array.size_push, Array.size_setIfInBounds]
    by_cases h1 : a = j
    · subst h1
      rw [if_pos rfl, if_pos (by omega), if_neg (by omega), if_pos rfl, if_pos h]
    · rw [if_neg h1, if_neg h1]
  simp only [State.pushCell, State.setCell, e]
theorem gPR_set (S : State) (row : Cell) {o o' : Cell} (h : o'.slots.size = o.slots.size) : ∀ i, (gPR (S.pushCell o) row i).setCell S.heap.size o' = gPR (S.pushCell o') row i
  | 0 => State.setCell_pushCell _ _ _ h
  | i + 1 => by
    show ((gPR (S.pushCell o) row i).pushCell row).setCell S.heap.size o' = (gPR (S.pushCell o') row i).pushCell row
    rw [gSetPush (by rw [gPR_heap]; simp; omega), gPR_set S row h i]
theorem gPR_stand {p : Program} {l : Launch} {e : Env} {R : Room} {s : State} {m : MethodId} {args : Array Value} {below : List Frame} {meth : Method} {c : Code} {T : State} {locs : List Loc} {cells slots : Nat} (X : Stand p l e R s m args below meth c T locs cells slots) (row : Cell) : ∀ i, Stand p l e R s m args below meth c (gPR T row i) locs (cells + i) (slots + i * row.slots.size)
  | 0 => by simpa [gPR] using X
  | i + 1 => by
    have h := (gPR_stand X row i).pushed row
    rw [show slots + (i + 1) * row.slots.size = slots + i * row.slots.size + row.slots.size by rw [Nat.succ_mul, Nat.add_assoc]]
    exact h
/-- the model's new array, all its elements the default -/
theorem g_na {O : CtlPost} {e : Env} {d : Bool} {acts : List Action} {S : State} {c0 z : ClassId} {k0 : Class} {ty : FieldType} {N : Nat} {v : Value} (hk : S.vm.classes[c0]? = some k0) (hkind : k0.kind = .array z ty) (h1 : N ≤ e.platform.arrayLengthLimit) (h2 : N * componentBytes ty ≤ e.platform.maxHeapBytes) (hfit : fits ty v = true) (hdef : v.isDefault = true)
    (h3 : S.heap.size < e.platform.maxCells) (h4 : S.slotsUsed + N ≤ e.platform.maxSlots) {Q : Addr → Pre} (hq : Q S.heap.size d acts (S.pushCell (arrV c0 N (fun _ => v)))) : wp (Jvm.newArray c0 N v) Q O e d acts S := by
  rw [← arrV_new] at hq
  have ha : allocActs (Array.replicate N v) S.heap.size acts = acts := by
    unfold allocActs
    rw [if_pos (Array.all_eq_true_iff_forall_mem.mpr (fun x hx => by rw [Array.eq_of_mem_replicate hx]; exact hdef))]
  have hf : ∀ i x, (Array.replicate N v)[i]? = some x → S.fitsSlot c0 .none i x = true := fun i x hx => by
    have e1 := Array.eq_of_mem_replicate (Array.mem_of_getElem? hx)
    subst e1
    simp [State.fitsSlot, State.slotType?, hk, hkind, hfit]
  have g1 : ¬ N > e.platform.arrayLengthLimit := by omega
  have g2 : ¬ N * componentBytes ty > e.platform.maxHeapBytes := by omega
  have g3 : ¬ N > e.platform.maxSlots := by omega
  simp [Jvm.newArray, Jvm.arrayFits, hk, hkind, g1, g2, g3]
  exact ⟨h3, h4, hf, by rw [ha]; exact hq⟩
/-- the outer array when i of its rows are there -/
def gOut (cA : ClassId) (N h0 i : Nat) : Cell := arrV cA N (fun j => va_rf (if j < i then some (h0 + 1 + j) else none))
theorem gOut_size (cA : ClassId) (N h0 i : Nat) : (gOut cA N h0 i).slots.size = N := by simp [gOut, arrV]
theorem gOut_next (cA : ClassId) (N h0 i : Nat) : (gOut cA N h0 i).setSlot i (.ref (h0 + 1 + i)) = gOut cA N h0 (i + 1) := by
  unfold gOut
  rw [arrV_store]
  refine congrArg (arrV cA N) (funext fun j => ?_)
  by_cases h : j = i
  · subst h
    simp [updV, va_rf]
  · simp only [updV, if_neg h]
    by_cases h1 : j < i
    · rw [if_pos h1, if_pos (by omega)]
    · rw [if_neg h1, if_neg (by omega)]
/-- the model's new int[N][K]: the outer array, then its rows one behind another -/
theorem g_mk {O : CtlPost} {e : Env} {d : Bool} {acts : List Action} {S : State} {cA cy z : ClassId} {kA kC : Class} {n k : Int32} {N K : Nat} (hA : S.vm.classes[cA]? = some kA) (hkA : kA.kind = .array cy (.array .int)) (hC : S.vm.classes[cy]? = some kC) (hkC : kC.kind = .array z .int) (hn : ¬ n < 0) (hk : ¬ k < 0) (hN : n.toNatClampNeg = N) (hK : k.toNatClampNeg = K) (hN1 : N ≤ 100) (hK1 : K ≤ 100)
    (hl : 100 ≤ e.platform.arrayLengthLimit) (hm : 400 ≤ e.platform.maxHeapBytes) (h3 : S.heap.size + 1 + N ≤ e.platform.maxCells) (h4 : S.slotsUsed + N + N * K ≤ e.platform.maxSlots)
    {Q : Addr → Pre} (hq : ∀ d' acts', Q S.heap.size d' acts' (gPR (S.pushCell (gOut cA N S.heap.size N)) (arrV cy K (fun _ => .int 0)) N)) : wp (multianewarray.make cA [n, k]) Q O e d acts S := by
  have inner : ∀ (Q' : Addr → Pre) (d' : Bool) (acts' : List Action) (S' : State), S'.vm = S.vm → S'.heap.size < e.platform.maxCells → S'.slotsUsed + K ≤ e.platform.maxSlots → Q' S'.heap.size d' acts' (S'.pushCell (arrV cy K (fun _ => .int 0))) → wp (multianewarray.make cy [k]) Q' O e d' acts' S' := by
    intro Q' d' acts' S' hv g1 g2 g3
    rw [multianewarray.make]
    simp only [wp_bind', W.ite, hk, if_false, wp_pure', W.theClass, hv, hC, hkC, Option.some.injEq, exists_eq_left', hK]
    exact g_na (hv ▸ hC) hkC (by omega) (by show K * 4 ≤ _; omega) rfl rfl g1 g2 g3
  rw [multianewarray.make]
  simp only [wp_bind', W.ite, hn, if_false, wp_pure', W.theClass, hA, hkA, Option.some.injEq, exists_eq_left', hN]
  have hNK : 0 ≤ N * K := Nat.zero_le _
  refine g_na hA hkA (by omega) (by show N * 4 ≤ _; omega) rfl rfl (by omega) (by omega) ?_
  have hf : List.find? (fun x : Int32 => decide (x < 0)) [k] = none := by simp [hk]
  simp only [hf]
  have hsz : ([:N] : Std.Legacy.Range).size = N := by simp [Std.Legacy.Range.size]
  rw [ite_self, wp_bind', Std.Legacy.Range.forIn_eq_forIn_range', hsz]
  refine wp_forIn_inv (fun l S' => ∃ i, i + l.length = N ∧ l = List.range' i l.length ∧ S' = gPR (S.pushCell (gOut cA N S.heap.size i)) (arrV cy K (fun _ => .int 0)) i) _ _ ⟨0, by simp, by simp, ?_⟩ ?_ ?_
  · show _ = S.pushCell _
    refine congrArg S.pushCell (congrArg (arrV cA N) (funext fun j => ?_))
    simp [va_rf]
  · rintro x l S' d' acts' Q' ⟨i, hi, hr, rfl⟩ hnext
    rw [List.length_cons] at hi hr
    rw [List.range'_succ] at hr
    obtain ⟨rfl, hr⟩ := List.cons.inj hr
    have hrow : (arrV cy K (fun _ => Value.int 0)).slots.size = K := by simp [arrV]
    have hmul : x * K + K ≤ N * K := by
      rw [← Nat.succ_mul]
      exact Nat.mul_le_mul_right K (by omega)
    have hhs : (gPR (S.pushCell (gOut cA N S.heap.size x)) (arrV cy K (fun _ => .int 0)) x).heap.size = S.heap.size + 1 + x := by
      rw [gPR_heap]; simp
    simp only [wp_bind']
    refine inner _ _ _ _ (gPR_vm _ _ _) (by rw [hhs]; omega) (by rw [gPR_used, hrow]; show S.slotsUsed + (gOut cA N S.heap.size x).slots.size + _ + _ ≤ _; rw [gOut_size]; omega) ?_
    simp only [wp_bind', W.writeLoc, wp_pure']
    refine ⟨gOut cA N S.heap.size x, ?_, fun h => (by cases h), by rw [gOut_size]; omega, ?_, hnext _ _ _ ⟨x + 1, by omega, ?_, ?_⟩⟩
    · show (gPR (S.pushCell (gOut cA N S.heap.size x)) (arrV cy K (fun _ => .int 0)) (x + 1)).heap[S.heap.size]? = _
      rw [gPR_heap, Array.getElem?_append_left (by simp)]
      exact State.heap_pushCell_size _ _
    · simp [State.fitsSlot, State.slotType?, gPR_vm, gOut, arrV, hA, hkA, fits]
    · exact hr
    · rw [hhs, gOut_next]
      exact gPR_set S _ (by rw [gOut_size, gOut_size]) (x + 1)
  · rintro S' d' acts' ⟨i, hi, hr, rfl⟩
    have e1 : i = N := by simpa using hi
    subst e1
    rw [wp_pure']
    exact hq _ _
section CB
variable {p : Program} {l : Launch} {e : Env} {R : Room} {s : State} {m : MethodId} {args : Array Value} {below : List Frame} {meth : Method} {c : Code} {H : Heap} {locs : List Loc} {cells slots : Nat} {Q : State → Prop}
variable {cc bytes : ByteArray} {pc : Nat} {ls : Array Slot} {rest As : List Value} {D : va_G} {t : Nat → ClassId} {A : Nat → Prop} {w1 w2 : va_W} {H0 : Heap} {S : Type} {wd : S → va_W}
variable {nL maxL n mc ms k index b : Nat} {y : MethodName} {own C host : String} {w0 : Cond}
theorem c_in {post : S → Prop} (F : CallFix p m c cc nL s args (w0 :: gBig) own) (hM : gMc l D t y bytes maxL n mc ms (.ref b :: As) w1 wd post) (hnw : (own, index, y, host) ∈ gNest) (h2 : Cond.instanceMethod y ∈ gBig) (h4 : Cond.initialized y.cls ∈ gBig) (h5 : Cond.code y bytes maxL none ∈ gBig) (hy1 : y.name = "<init>")
    (hd : y.cls ≠ "java/lang/invoke/MethodHandle" ∧ y.cls ≠ "java/lang/invoke/VarHandle" ∧ (parseMethodDescriptor y.desc).map (fun d => d.parameters.length) = some k) (hR : n + 1 ≤ R.frames ∧ 8 + (maxL + 11) + 40 * n ≤ R.locals) (hkl : As.length = k)
    (hO : gOv s) (hK : gK D t s) (hP : va_P D gCl (w1 ++ w2) H) (hD : va_D A (w1 ++ w2)) (hS : va_S A H0 H locs) (hA : ∀ q : Nat, H0.size ≤ q → A q) (hsz : ls.size = nL) {st0 : List Value} (hst : st0 = As.reverse ++ .ref b :: rest) (hrest : (rest.map fun v => v.category).sum ≤ 8) (hc : cells + mc ≤ R.cells ∧ slots + ms ≤ R.slots) (hdg : decode cc pc = .ok (.invokespecial index, 3))
    (kk : ∀ (u : S) (H1 : Heap) (locs1 : List Loc), post u → va_P D gCl (wd u ++ w2) H1 → va_D A (wd u ++ w2) → va_S A H0 H1 locs1 → W p l e R s m args below meth c H1 locs1 (cells + mc) (slots + ms) Q (F0 m (pc + 3) ls rest)) :
    W p l e R s m args below meth c H locs cells slots Q (F0 m pc ls st0) := by
  subst hst
  obtain ⟨hPa, -⟩ := gSplit hP
  obtain ⟨hDa, hsub, -, -⟩ := gSplitD hD
  have hG : GoodIn (w0 :: gBig) (.code y bytes maxL none :: gBig) := gGood (fun w hw => by
    rcases List.mem_cons.mp hw with rfl | hw <;> assumption)
  have hts := F.2.2.2.2
  have hA1 : ∀ q : Nat, H.size ≤ q → A q := fun q h => hA q (Nat.le_trans hS.1 h)
  have hF1 : ∀ q : Nat, (gAd w1 q ∨ H.size ≤ q) → A q := fun q h => h.elim (hsub q) (hA1 q)
  refine va_callv (A1 := fun q => gAd w1 q ∨ H.size ≤ q) (va_runIN (As := As) (rest := rest) (host := host) F (hM (fun q => gAd w1 q ∨ H.size ≤ q)) ⟨va_cnB k hts hG rfl rfl rfl (hK.2 _ hnw) (hts _ (List.mem_cons_of_mem _ h4)) hd hR, hy1, hts _ (List.mem_cons_of_mem _ h2)⟩ ⟨cBlind, fun U hU hW => ⟨rfl, ⟨gK.moved hW hK, by rw [hU]; exact hPa, hDa.weaken (fun _ _ _ z => Or.inl z)⟩, fun q h => Or.inr (by rw [hU] at h; exact h), gOv.moved hW.alike hO⟩⟩ rfl hkl hsz rfl (lv_room hrest) hdg hc) hS (fun q _ h => hF1 q h) (fun q h => hF1 q h) (fun u T1 H1 locs1 ht hvm hp hB hz hk hS1 => ?_)
  have hB1 : va_P D gCl (wd u) H1 := by rw [← ht]; exact hB.1
  obtain ⟨z1, z2⟩ := gJoinC hP hD hB1 hB.2 hA1 hk
  exact kk u H1 locs1 hp z1 z2 hS1
theorem c_im {post : S → Prop} (F : CallFix p m c cc nL s args (w0 :: gBig) own) (hM : gMc l D t y bytes maxL n mc ms (.ref b :: As) w1 wd post) (h1 : Cond.methodLink own index y ∈ gBig) (h2 : Cond.instanceMethod y ∈ gBig) (h4 : Cond.initialized y.cls ∈ gBig) (h5 : Cond.code y bytes maxL none ∈ gBig) (hy1 : y.name = "<init>")
    (hd : y.cls ≠ "java/lang/invoke/MethodHandle" ∧ y.cls ≠ "java/lang/invoke/VarHandle" ∧ (parseMethodDescriptor y.desc).map (fun d => d.parameters.length) = some k) (hR : n + 1 ≤ R.frames ∧ 8 + (maxL + 11) + 40 * n ≤ R.locals) (hkl : As.length = k)
    (hO : gOv s) (hK : gK D t s) (hP : va_P D gCl (w1 ++ w2) H) (hD : va_D A (w1 ++ w2)) (hS : va_S A H0 H locs) (hA : ∀ q : Nat, H0.size ≤ q → A q) (hsz : ls.size = nL) {st0 : List Value} (hst : st0 = As.reverse ++ .ref b :: rest) (hrest : (rest.map fun v => v.category).sum ≤ 8) (hc : cells + mc ≤ R.cells ∧ slots + ms ≤ R.slots) (hdg : decode cc pc = .ok (.invokespecial index, 3))
    (kk : ∀ (u : S) (H1 : Heap) (locs1 : List Loc), post u → va_P D gCl (wd u ++ w2) H1 → va_D A (wd u ++ w2) → va_S A H0 H1 locs1 → (∀ q : Nat, q < H.size → ¬ A q → H1[q]? = H[q]?) → W p l e R s m args below meth c H1 locs1 (cells + mc) (slots + ms) Q (F0 m (pc + 3) ls rest)) :
    W p l e R s m args below meth c H locs cells slots Q (F0 m pc ls st0) := by
  subst hst
  obtain ⟨hPa, -⟩ := gSplit hP
  obtain ⟨hDa, hsub, -, -⟩ := gSplitD hD
  have hG : GoodIn (w0 :: gBig) (.code y bytes maxL none :: gBig) := gGood (fun w hw => by
    rcases List.mem_cons.mp hw with rfl | hw <;> assumption)
  have hts := F.2.2.2.2
  have hA1 : ∀ q : Nat, H.size ≤ q → A q := fun q h => hA q (Nat.le_trans hS.1 h)
  have hF1 : ∀ q : Nat, (gAd w1 q ∨ H.size ≤ q) → A q := fun q h => h.elim (hsub q) (hA1 q)
  refine va_callv (A1 := fun q => gAd w1 q ∨ H.size ≤ q) (va_runI (As := As) (rest := rest) F (hM (fun q => gAd w1 q ∨ H.size ≤ q)) (cwI k hts hG rfl rfl rfl (hts _ (List.mem_cons_of_mem _ h4)) (hts _ (List.mem_cons_of_mem _ h1)) (hts _ (List.mem_cons_of_mem _ h2)) hy1 hd hR) ⟨cBlind, fun U hU hW => ⟨rfl, ⟨gK.moved hW hK, by rw [hU]; exact hPa, hDa.weaken (fun _ _ _ z => Or.inl z)⟩, fun q h => Or.inr (by rw [hU] at h; exact h), gOv.moved hW.alike hO⟩⟩ rfl hkl hsz rfl (lv_room hrest) hdg hc) hS (fun q _ h => hF1 q h) (fun q h => hF1 q h) (fun u T1 H1 locs1 ht hvm hp hB hz hk hS1 => ?_)
  have hB1 : va_P D gCl (wd u) H1 := by rw [← ht]; exact hB.1
  obtain ⟨z1, z2⟩ := gJoinC hP hD hB1 hB.2 hA1 hk
  exact kk u H1 locs1 hp z1 z2 hS1 (fun q h1 h2 => hk q h1 (fun z => h2 (hF1 q z)))
variable {cl : List vw_C} {tys : List (ClassId × FieldType)} {ws : va_W}
theorem g_newa (hexec : p.tables.exec = Jvm.exec) (hb : c.code = cc) {atype : ArrayType} (harr : (Cond.arrayClass (newarray.typeOf atype)).before args s = true) {ty : FieldType} (hty : newarray.typeOf atype = ty) (hK : va_K D cl tys s) (hP : va_P D cl ws H) (hD : va_D A ws) (hS : va_S A H0 H locs) (hA : ∀ q, H0.size ≤ q → A q)
    (k0 : Nat) {cA : ClassId} (hk0 : tys[k0]? = some (cA, ty)) {nm : String} (hnm : ∀ c9 : ClassId, va_RA s c9 ty → s.vm.findClass nm = some c9)
    {n : Int32} {N' : Nat} {a0 : vp_A} (ha : ∀ cA : ClassId, vp_cell cA a0 = arrV cA N' (fun _ => defaultValue ty)) (hn : ¬ n < 0) (hN : n.toNatClampNeg = N') (hbytes : N' * componentBytes ty ≤ 536870912) (hcells : cells + 1 ≤ R.cells) (hslots : slots + N' ≤ R.slots) (hdg : decode cc pc = .ok (.newarray atype, 2))
    (kk : ∀ (q : Nat) (H1 : Heap), va_P D cl (ws ++ [(q, .inl (cA, a0))]) H1 → va_D A (ws ++ [(q, .inl (cA, a0))]) → va_S A H0 H1 locs →
      W p l e R s m args below meth c H1 locs (cells + 1) (slots + N') Q (F0 m (pc + 2) ls (.ref q :: rest))) : W p l e R s m args below meth c H locs cells slots Q (F0 m pc ls (.int n :: rest)) := by
  refine va_newa hexec hb harr hty hK hP hD hS hA ha hn hN hbytes hcells hslots hdg (fun q cB H1 hK1 hP1 hD1 hS1 => ?_)
  have e1 := hnm _ (hK1.2 tys.length (cB, ty) (by simp)).2
  have e2 := hnm _ (hK.2 k0 _ hk0).2
  have e3 : cB = cA := Option.some.inj (e1.symm.trans e2)
  subst e3
  exact kk q H1 hP1 hD1 hS1
theorem gArrC {c : ClassId} {N : Nat} {f g : Nat → Value} (h : ∀ j, j < N → f j = g j) : arrV c N f = arrV c N g := by
  unfold arrV
  congr 2
  funext j
  exact h j.val j.isLt
theorem gRowE {c : ClassId} {N : Nat} {f g : Nat → Option Nat} (h : ∀ j, j < N → f j = g j) : vp_cell c (N, .inr (.inr (.inr (.inr f)))) = vp_cell c (N, .inr (.inr (.inr (.inr g)))) := by
  rw [vp_cell_q, vp_cell_q]
  exact gArrC (fun j hj => by rw [h j hj])
def gRows (q : Nat) (cy : ClassId) (K : Nat) (N : Nat) : va_W := (List.range N).map (fun i => (q + 1 + i, .inl (cy, K, .inl (fun _ => 0))))
theorem g_mna (hexec : p.tables.exec = Jvm.exec) (hb : c.code = cc) {own : String} {index : Nat} (hown : s.vm.findClass own = some m.cls) (hclink : (Cond.classLink own index "[[I").before args s = true) (hover : (Cond.arrayOver (.array .int)).before args s = true) (harr : (Cond.arrayClass .int).before args s = true)
    (hK : va_K D cl tys s) (k0 k2 : Nat) {cy cA : ClassId} (hk0 : tys[k0]? = some (cy, .int)) (hk2 : tys[k2]? = some (cA, .array .int)) (hP : va_P D cl ws H) (hD : va_D A ws) (hS : va_S A H0 H locs) (hA : ∀ q, H0.size ≤ q → A q) {n k : Int32} {N K : Nat} (hn : ¬ n < 0) (hk : ¬ k < 0) (hN : n.toNatClampNeg = N) (hM : k.toNatClampNeg = K) (hN1 : N ≤ 100) (hK1 : K ≤ 100)
    (hcells : cells + (1 + N) ≤ R.cells) (hslots : slots + (N + N * K) ≤ R.slots) (hdg : decode cc pc = .ok (.multianewarray index 2, 4))
    (kk : ∀ (q : Nat) (H1 : Heap), va_P D cl (ws ++ ((q, .inl (cA, N, .inr (.inr (.inr (.inr (fun i => some (q + 1 + i))))))) :: gRows q cy K N)) H1 → va_D A (ws ++ ((q, .inl (cA, N, .inr (.inr (.inr (.inr (fun i => some (q + 1 + i))))))) :: gRows q cy K N)) → va_S A H0 H1 locs →
      W p l e R s m args below meth c H1 locs (cells + 1 + N) (slots + N + N * K) Q (F0 m (pc + 4) ls (.ref q :: rest))) : W p l e R s m args below meth c H locs cells slots Q (F0 m pc ls (.int k :: .int n :: rest)) := by
  subst hN
  subst hM
  intro T hT Xs
  have e1 : s.vm.findClass "[I" = some cy := (hK.2 k0 _ hk0).2
  have e2 : s.vm.findClass "[[I" = some cA := (hK.2 k2 _ hk2).2
  obtain ⟨xo, co, ko, o1, o2, o3, o4⟩ := gOvS hover
  cases e1.symm.trans o1
  cases e2.symm.trans o4
  obtain ⟨ci, ki, zi, i1, i2, i3⟩ := Cond.arrayClass_spec harr
  have i4 : some cy = some ci := e1.symm.trans i1
  cases i4
  obtain ⟨cl9, hc9, hcl⟩ := Cond.classLink_spec hown hclink e.platform (by rw [Xs.admits.platform])
  cases e2.symm.trans hc9
  obtain ⟨hg1, hW1, -⟩ := State.classEntry (e := e) Xs.warmed hcl
  generalize T.vm.noted m.cls index (.cls cA) = vm₁ at hg1 hW1
  obtain ⟨kA, a1, a2⟩ := hW1.alike.2.2 _ _ o2
  obtain ⟨kC, c1, c2⟩ := hW1.alike.2.2 _ _ i2
  have hTh : (T.setVm vm₁).heap = H := hT
  obtain ⟨r1, r2⟩ := Xs.roomAbove hcells hslots
  have X' := gPR_stand ((Xs.noted hW1).pushed (gOut cA n.toNatClampNeg H.size n.toNatClampNeg)) (arrV cy k.toNatClampNeg (fun _ => .int 0)) n.toNatClampNeg
  rw [gOut_size, show (arrV cy k.toNatClampNeg (fun _ => Value.int 0)).slots.size = k.toNatClampNeg by simp [arrV]] at X'
  have step : ∀ target, Steps p.tables e below ((gPR ((T.setVm vm₁).pushCell (gOut cA n.toNatClampNeg H.size n.toNatClampNeg)) (arrV cy k.toNatClampNeg (fun _ => .int 0)) n.toNatClampNeg).setTop (F0 m (pc + 4) ls (.ref H.size :: rest))) target → Steps p.tables e below (T.setTop (F0 m pc ls (.int k :: .int n :: rest))) target := by
    intro target hrest
    subst hb
    jvm_step (show At T (F0 m pc ls (.int k :: .int n :: rest)).method c below from Xs.here) [hexec, hdg]
    simp only [multianewarray.sem, wp_bind', W.resolveClassAt_links (State.method?_setTop (F0 m pc ls (.int k :: .int n :: rest)) Xs.here.top) hg1]
    rw [W.popN, if_neg (by decide)]
    refine ⟨F0 m pc ls (.int k :: .int n :: rest), State.topJava?_setTop' (s := T.setVm vm₁) _ Xs.here.top, [.int n, .int k], rest, rfl, rfl, ?_⟩
    simp only [List.mapM_cons, List.mapM_nil, wp_bind', wp_pure']
    refine g_mk (kA := kA) (kC := kC) (cy := cy) (z := zi) a1 (by rw [a2]; exact o3) c1 (by rw [c2]; exact i3) hn hk rfl rfl hN1 hK1 (by have := Launch.admits_arrayLengthLimit Xs.admits; omega) (by have := Launch.admits_maxHeapBytes Xs.admits; omega) (by show T.heap.size + 1 + _ ≤ _; omega) (by show T.slotsUsed + _ + _ ≤ _; omega) (fun d' acts' => ?_)
    rw [show ((T.setTop (F0 m pc ls (.int k :: .int n :: rest))).setVm vm₁).setTop (F0 m pc ls rest) = (T.setVm vm₁).setTop (F0 m pc ls rest) from State.setTop_setTop (s := T.setVm vm₁) .., State.pushCell_setTop, gPR_top, State.heap_setTop, hTh]
    simp only [wp_bind', W.mark, W.pushRef, State.topJava?_setTop' _ X'.here.top, Option.some.injEq, exists_eq_left', State.setTop_setTop]
    intro acts
    simp [jvm, X'.here.top]
    exact hrest
  generalize hF : gPR ((T.setVm vm₁).pushCell (gOut cA n.toNatClampNeg H.size n.toNatClampNeg)) (arrV cy k.toNatClampNeg (fun _ => .int 0)) n.toNatClampNeg = F at X' step
  have hFh : F.heap = (H.push (gOut cA n.toNatClampNeg H.size n.toNatClampNeg)) ++ Array.replicate n.toNatClampNeg (arrV cy k.toNatClampNeg (fun _ => .int 0)) := by
    rw [← hF, gPR_heap, ← hTh]
    rfl
  have f1 : F.heap.size = H.size + 1 + n.toNatClampNeg := by rw [hFh]; simp
  have f2 : F.heap[H.size]? = some (gOut cA n.toNatClampNeg H.size n.toNatClampNeg) := by
    rw [hFh, Array.getElem?_append_left (by simp)]
    simp
  have hold : ∀ x : Nat, x < H.size → F.heap[x]? = H[x]? := fun x hx => by
    rw [hFh, Array.getElem?_append_left (by simp; omega), Array.getElem?_push_lt hx, Array.getElem?_eq_getElem hx]
  have hrow : ∀ j : Nat, j < n.toNatClampNeg → F.heap[H.size + 1 + j]? = some (vp_cell cy (k.toNatClampNeg, .inl (fun _ => 0))) := fun j hj => by
    rw [hFh, Array.getElem?_append_right (by simp), Array.size_push, Nat.add_sub_cancel_left, Array.getElem?_replicate, if_pos hj]
    rfl
  unfold gOut at f2
  rw [gArrC (g := fun j => va_rf (some (H.size + 1 + j))) (fun j hj => by rw [if_pos hj])] at f2
  have hlen : ∀ (k9 : Nat) (x : Nat × va_E), (((H.size, .inl (cA, n.toNatClampNeg, .inr (.inr (.inr (.inr (fun i => some (H.size + 1 + i))))))) :: gRows H.size cy k.toNatClampNeg n.toNatClampNeg) : va_W)[k9]? = some x → x.1 = H.size + k9 ∧ va_at D cl x F.heap := by
    intro k9 x hx
    cases k9 with
    | zero =>
      simp only [List.getElem?_cons_zero, Option.some.injEq] at hx
      subst hx
      exact ⟨rfl, f2⟩
    | succ k8 =>
      simp only [List.getElem?_cons_succ, gRows, List.getElem?_map] at hx
      by_cases h9 : k8 < n.toNatClampNeg
      · rw [List.getElem?_range h9] at hx
        simp only [Option.map_some, Option.some.injEq] at hx
        subst hx
        exact ⟨by show H.size + 1 + k8 = _; omega, hrow k8 h9⟩
      · have hn0 : (List.range n.toNatClampNeg)[k8]? = none := List.getElem?_eq_none (by rw [List.length_range]; omega)
        rw [hn0] at hx
        cases hx
  have hP1 := (hP.kept (H1 := F.heap) (fun k9 x hx => hold x.1 ((hP k9 x hx).lt))).app (fun k9 x hx => (hlen k9 x hx).2)
  have hD1 : va_D A (ws ++ ((H.size, .inl (cA, n.toNatClampNeg, .inr (.inr (.inr (.inr (fun i => some (H.size + 1 + i))))))) :: gRows H.size cy k.toNatClampNeg n.toNatClampNeg)) := by
    refine va_D.app hD ⟨fun i j x y hi hj exy => ?_, fun k9 x hx => ?_⟩ (fun i j x y hi hj exy => ?_)
    · have h1 := (hlen i x hi).1
      have h2 := (hlen j y hj).1
      omega
    · have h1 := (hlen k9 x hx).1
      exact hA _ (by have := hS.1; omega)
    · have h1 := (hlen j y hj).1
      have h2 := (hP i x hi).lt
      omega
  obtain ⟨t2, a1, b1⟩ := kk H.size F.heap hP1 hD1 ⟨Nat.le_trans hS.1 (by rw [f1]; omega), fun x h1 h2 => (hold x (Nat.lt_of_lt_of_le h1 hS.1)).trans (hS.2.1 x h1 h2), hS.2.2⟩ F rfl X'
  exact ⟨t2, step t2 a1, b1⟩
end CB
