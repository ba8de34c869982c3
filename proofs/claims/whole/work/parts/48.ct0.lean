/-! constructors: contract, calls, new arrays of known classes, int[N][K] -/
/-- the table has the arrays over int[] -/
def gOv (U : State) : Prop := ∀ args : Array Value, (Cond.arrayOver (.array .int)).before args U = true
theorem gOv.moved {s U : State} (hW : s.vm.Alike U.vm) (h : gOv s) : gOv U := fun args => by
  have e : (Cond.arrayOver (.array .int)).before args U = (Cond.arrayOver (.array .int)).before args (s.setVm U.vm) := by
    simp only [Cond.before, Cond.holds, Cond.value, State.vm_setVm]
    rfl
  rw [e, Cond.arrayOver_setVmC hW]
  exact h args
def gPreC (D : va_G) (t : Nat → ClassId) (A : Nat → Prop) (w : va_W) (U : State) : Prop := gPre D t A w U ∧ (∀ q : Nat, U.heap.size ≤ q → A q) ∧ gOv U
def gRC (n mc ms : Nat) : Room := { frames := n, cells := mc, slots := ms, locals := 40 * n }
def gMc {S : Type} (l : Launch) (D : va_G) (t : Nat → ClassId) (y : MethodName) (cc : ByteArray) (maxL : Nat) (n mc ms : Nat) (av : List Value) (w : va_W) (wd : S → va_W) (post : S → Prop) : Prop :=
  ∀ A : Nat → Prop, Met l y (.code y cc maxL none :: gBig) (gRC n mc ms) (va_Pc av (gPreC D t A w)) (va_Qv post (fun u U => va_P D gCl (wd u) U.heap ∧ va_D A (wd u)) A) mc ms A
theorem cBlind {av : List Value} {D : va_G} {t : Nat → ClassId} {A : Nat → Prop} {w : va_W} : FrameBlind (va_Pc av (gPreC D t A w)) := fun a U g mk h => ⟨h.1, ⟨h.2.1.1.call g mk a, h.2.1.2.1, h.2.1.2.2⟩, h.2.2.1, gOv.moved (s := U) (U := U.calling g mk a) (Vm.Alike.refl U.vm) h.2.2.2⟩
theorem gJoinC {D : va_G} {A : Nat → Prop} {w1 w2 w1' : va_W} {H H1 : Heap} (hP : va_P D gCl (w1 ++ w2) H) (hD : va_D A (w1 ++ w2)) (hP1 : va_P D gCl w1' H1) (hD1 : va_D (fun q => gAd w1 q ∨ H.size ≤ q) w1') (hA : ∀ q : Nat, H.size ≤ q → A q) (hk : ∀ q : Nat, q < H.size → ¬ (gAd w1 q ∨ H.size ≤ q) → H1[q]? = H[q]?) : va_P D gCl (w1' ++ w2) H1 ∧ va_D A (w1' ++ w2) := by
  obtain ⟨-, hP2⟩ := gSplit hP
  obtain ⟨-, h2, h3, h4⟩ := gSplitD hD
  refine ⟨hP1.app (hP2.kept (fun k q hq => hk q.1 ((hP2 k q hq).lt) (fun z => z.elim (h4 k q hq) (fun z => absurd ((hP2 k q hq).lt) (by omega))))), va_D.app (hD1.weaken (fun k q _ z => z.elim (h2 _) (hA _))) h3 ?_⟩
  intro i j x y hi hj e
  rcases hD1.2 i x hi with z | z
  · exact h4 j y hj (e ▸ z)
  · have := (hP2 j y hj).lt
    omega
section CB
variable {p : Program} {l : Launch} {e : Env} {R : Room} {s : State} {m : MethodId} {args : Array Value} {below : List Frame} {meth : Method} {c : Code} {H : Heap} {locs : List Loc} {cells slots : Nat} {Q : State → Prop}
variable {cc bytes : ByteArray} {pc : Nat} {ls : Array Slot} {rest As : List Value} {D : va_G} {t : Nat → ClassId} {A : Nat → Prop} {w1 w2 : va_W} {H0 : Heap} {S : Type} {wd : S → va_W}
variable {nL maxL n mc ms k index b : Nat} {y : MethodName} {own C host : String} {w0 : Cond}
theorem c_in {post : S → Prop} (F : CallFix p m c cc nL s args (w0 :: gBig) own) (hM : gMc l D t y bytes maxL n mc ms (.ref b :: As) w1 wd post) (hnw : (own, index, y, host) ∈ gNest) (h2 : Cond.instanceMethod y ∈ gBig) (h4 : Cond.initialized y.cls ∈ gBig) (h5 : Cond.code y bytes maxL none ∈ gBig) (hy1 : y.name = "<init>")
    (hd : y.cls ≠ "java/lang/invoke/MethodHandle" ∧ y.cls ≠ "java/lang/invoke/VarHandle" ∧ (parseMethodDescriptor y.desc).map (fun d => d.parameters.length) = some k) (hR : n + 1 ≤ R.frames ∧ 8 + (maxL + 11) + 40 * n ≤ R.locals) (hkl : As.length = k)
    (hO : gOv s) (hK : gK D t s) (hP : va_P D gCl (w1 ++ w2) H) (hD : va_D A (w1 ++ w2)) (hS : va_S A H0 H locs) (hA : ∀ q : Nat, H0.size ≤ q → A q) (hsz : ls.size = nL) {st0 : List Value} (hst : st0 = As.reverse ++ .ref b :: rest) (hrest : (rest.map fun v => v.category).sum ≤ 8) (hc : cells + mc ≤ R.cells ∧ slots + ms ≤ R.slots) (hdg : decode cc pc = .ok (.invokespecial index, 3))
    (kk : ∀ (u : S) (H1 : Heap) (locs1 : List Loc), post u → va_P D gCl (wd u ++ w2) H1 → va_D A (wd u ++ w2) → va_S A H0 H1 locs1 → W p l e R s m args below meth c H1 locs1 (cells + mc) (slots + ms) Q (F0 m (pc + 3) ls rest)) :
    W p l e R s m args below meth c H locs cells slots Q (F0 m pc ls st0) := by
  subst hst
  obtain ⟨hPa, -⟩ := gSplit hP
  obtain ⟨hDa, hsub, -, -⟩ := gSplitD hD
  have hG : GoodIn (w0 :: gBig) (.code y bytes maxL none :: gBig) := gGood (fun w hw => by
    rcases List.mem_cons.mp hw with rfl | hw <;> assumption)
  have hts := F.2.2.2.2
  have hA1 : ∀ q : Nat, H.size ≤ q → A q := fun q h => hA q (Nat.le_trans hS.1 h)
  have hF1 : ∀ q : Nat, (gAd w1 q ∨ H.size ≤ q) → A q := fun q h => h.elim (hsub q) (hA1 q)
  refine va_callv (A1 := fun q => gAd w1 q ∨ H.size ≤ q) (va_runIN (As := As) (rest := rest) (host := host) F (hM (fun q => gAd w1 q ∨ H.size ≤ q)) ⟨va_cnB k hts hG rfl rfl rfl (hK.2 _ hnw) (hts _ (List.mem_cons_of_mem _ h4)) hd hR, hy1, hts _ (List.mem_cons_of_mem _ h2)⟩ ⟨cBlind, fun U hU hW => ⟨rfl, ⟨gK.moved hW hK, by rw [hU]; exact hPa, hDa.weaken (fun _ _ _ z => Or.inl z)⟩, fun q h => Or.inr (by rw [hU] at h; exact h), gOv.moved hW.alike hO⟩⟩ rfl hkl hsz rfl (lv_room hrest) hdg hc) hS (fun q _ h => hF1 q h) (fun q h => hF1 q h) (fun u T1 H1 locs1 ht hvm hp hB hz hk hS1 => ?_)
  have hB1 : va_P D gCl (wd u) H1 := by rw [← ht]; exact hB.1
  obtain ⟨z1, z2⟩ := gJoinC hP hD hB1 hB.2 hA1 hk
  exact kk u H1 locs1 hp z1 z2 hS1
theorem c_im {post : S → Prop} (F : CallFix p m c cc nL s args (w0 :: gBig) own) (hM : gMc l D t y bytes maxL n mc ms (.ref b :: As) w1 wd post) (h1 : Cond.methodLink own index y ∈ gBig) (h2 : Cond.instanceMethod y ∈ gBig) (h4 : Cond.initialized y.cls ∈ gBig) (h5 : Cond.code y bytes maxL none ∈ gBig) (hy1 : y.name = "<init>")
    (hd : y.cls ≠ "java/lang/invoke/MethodHandle" ∧ y.cls ≠ "java/lang/invoke/VarHandle" ∧ (parseMethodDescriptor y.desc).map (fun d => d.parameters.length) = some k) (hR : n + 1 ≤ R.frames ∧ 8 + (maxL + 11) + 40 * n ≤ R.locals) (hkl : As.length = k)
    (hO : gOv s) (hK : gK D t s) (hP : va_P D gCl (w1 ++ w2) H) (hD : va_D A (w1 ++ w2)) (hS : va_S A H0 H locs) (hA : ∀ q : Nat, H0.size ≤ q → A q) (hsz : ls.size = nL) {st0 : List Value} (hst : st0 = As.reverse ++ .ref b :: rest) (hrest : (rest.map fun v => v.category).sum ≤ 8) (hc : cells + mc ≤ R.cells ∧ slots + ms ≤ R.slots) (hdg : decode cc pc = .ok (.invokespecial index, 3))
    (kk : ∀ (u : S) (H1 : Heap) (locs1 : List Loc), post u → va_P D gCl (wd u ++ w2) H1 → va_D A (wd u ++ w2) → va_S A H0 H1 locs1 → (∀ q : Nat, q < H.size → ¬ A q → H1[q]? = H[q]?) → W p l e R s m args below meth c H1 locs1 (cells + mc) (slots + ms) Q (F0 m (pc + 3) ls rest)) :
    W p l e R s m args below meth c H locs cells slots Q (F0 m pc ls st0) := by
  subst hst
  obtain ⟨hPa, -⟩ := gSplit hP
  obtain ⟨hDa, hsub, -, -⟩ := gSplitD hD
  have hG : GoodIn (w0 :: gBig) (.code y bytes maxL none :: gBig) := gGood (fun w hw => by
    rcases List.mem_cons.mp hw with rfl | hw <;> assumption)
  have hts := F.2.2.2.2
  have hA1 : ∀ q : Nat, H.size ≤ q → A q := fun q h => hA q (Nat.le_trans hS.1 h)
  have hF1 : ∀ q : Nat, (gAd w1 q ∨ H.size ≤ q) → A q := fun q h => h.elim (hsub q) (hA1 q)
  refine va_callv (A1 := fun q => gAd w1 q ∨ H.size ≤ q) (va_runI (As := As) (rest := rest) F (hM (fun q => gAd w1 q ∨ H.size ≤ q)) (cwI k hts hG rfl rfl rfl (hts _ (List.mem_cons_of_mem _ h4)) (hts _ (List.mem_cons_of_mem _ h1)) (hts _ (List.mem_cons_of_mem _ h2)) hy1 hd hR) ⟨cBlind, fun U hU hW => ⟨rfl, ⟨gK.moved hW hK, by rw [hU]; exact hPa, hDa.weaken (fun _ _ _ z => Or.inl z)⟩, fun q h => Or.inr (by rw [hU] at h; exact h), gOv.moved hW.alike hO⟩⟩ rfl hkl hsz rfl (lv_room hrest) hdg hc) hS (fun q _ h => hF1 q h) (fun q h => hF1 q h) (fun u T1 H1 locs1 ht hvm hp hB hz hk hS1 => ?_)
  have hB1 : va_P D gCl (wd u) H1 := by rw [← ht]; exact hB.1
  obtain ⟨z1, z2⟩ := gJoinC hP hD hB1 hB.2 hA1 hk
  exact kk u H1 locs1 hp z1 z2 hS1 (fun q h1 h2 => hk q h1 (fun z => h2 (hF1 q z)))
variable {cl : List vw_C} {tys : List (ClassId × FieldType)} {ws : va_W}
theorem g_newa (hexec : p.tables.exec = Jvm.exec) (hb : c.code = cc) {atype : ArrayType} (harr : (Cond.arrayClass (newarray.typeOf atype)).before args s = true) {ty : FieldType} (hty : newarray.typeOf atype = ty) (hK : va_K D cl tys s) (hP : va_P D cl ws H) (hD : va_D A ws) (hS : va_S A H0 H locs) (hA : ∀ q, H0.size ≤ q → A q)
    (k0 : Nat) {cA : ClassId} (hk0 : tys[k0]? = some (cA, ty)) {nm : String} (hnm : ∀ c9 : ClassId, va_RA s c9 ty → s.vm.findClass nm = some c9)
    {n : Int32} {N' : Nat} {a0 : vp_A} (ha : ∀ cA : ClassId, vp_cell cA a0 = arrV cA N' (fun _ => defaultValue ty)) (hn : ¬ n < 0) (hN : n.toNatClampNeg = N') (hbytes : N' * componentBytes ty ≤ 536870912) (hcells : cells + 1 ≤ R.cells) (hslots : slots + N' ≤ R.slots) (hdg : decode cc pc = .ok (.newarray atype, 2))
    (kk : ∀ (q : Nat) (H1 : Heap), va_P D cl (ws ++ [(q, .inl (cA, a0))]) H1 → va_D A (ws ++ [(q, .inl (cA, a0))]) → va_S A H0 H1 locs →
      W p l e R s m args below meth c H1 locs (cells + 1) (slots + N') Q (F0 m (pc + 2) ls (.ref q :: rest))) : W p l e R s m args below meth c H locs cells slots Q (F0 m pc ls (.int n :: rest)) := by
  refine va_newa hexec hb harr hty hK hP hD hS hA ha hn hN hbytes hcells hslots hdg (fun q cB H1 hK1 hP1 hD1 hS1 => ?_)
  have e1 := hnm _ (hK1.2 tys.length (cB, ty) (by simp)).2
  have e2 := hnm _ (hK.2 k0 _ hk0).2
  have e3 : cB = cA := Option.some.inj (e1.symm.trans e2)
  subst e3
  exact kk q H1 hP1 hD1 hS1
theorem gOuter (c : ClassId) (N h0 : Nat) : ∀ i : Nat, Jvm.Free.Multi.outerC c N h0 i = arrV c N (fun j => va_rf (if j < i then some (h0 + 1 + j) else none))
  | 0 => by
    show ({ cls := c, slots := Array.replicate N .null, vm := .none } : Cell) = _
    rw [arrV_new]
    refine congrArg (arrV c N) (funext fun j => ?_)
    simp [va_rf]
  | i + 1 => by
    show (Jvm.Free.Multi.outerC c N h0 i).setSlot i (.ref (h0 + 1 + i)) = _
    rw [gOuter c N h0 i, arrV_store]
    refine congrArg (arrV c N) (funext fun j => ?_)
    by_cases e : j = i
    · subst e
      simp [updV, va_rf]
    · by_cases h : j < i
      · simp [updV, e, h, Nat.lt_succ_of_lt h]
      · simp [updV, e, h, show ¬ j < i + 1 by omega]
theorem gArrC {c : ClassId} {N : Nat} {f g : Nat → Value} (h : ∀ j, j < N → f j = g j) : arrV c N f = arrV c N g := by
  unfold arrV
  congr 2
  funext j
  exact h j.val j.isLt
theorem gRowE {c : ClassId} {N : Nat} {f g : Nat → Option Nat} (h : ∀ j, j < N → f j = g j) : vp_cell c (N, .inr (.inr (.inr (.inr f)))) = vp_cell c (N, .inr (.inr (.inr (.inr g)))) := by
  rw [vp_cell_q, vp_cell_q]
  exact gArrC (fun j hj => by rw [h j hj])
def gRows (q : Nat) (cy : ClassId) (K : Nat) (N : Nat) : va_W := (List.range N).map (fun i => (q + 1 + i, .inl (cy, K, .inl (fun _ => 0))))
theorem g_mna (hexec : p.tables.exec = Jvm.exec) (hb : c.code = cc) {own : String} {index : Nat} (hown : s.vm.findClass own = some m.cls) (hclink : (Cond.classLink own index "[[I").before args s = true) (hover : (Cond.arrayOver (.array .int)).before args s = true) (harr : (Cond.arrayClass .int).before args s = true)
    (hK : va_K D cl tys s) (k0 k2 : Nat) {cy cA : ClassId} (hk0 : tys[k0]? = some (cy, .int)) (hk2 : tys[k2]? = some (cA, .array .int)) (hP : va_P D cl ws H) (hD : va_D A ws) (hS : va_S A H0 H locs) (hA : ∀ q, H0.size ≤ q → A q) {n k : Int32} {N K : Nat} (hn : ¬ n < 0) (hk : ¬ k < 0) (hN : n.toNatClampNeg = N) (hM : k.toNatClampNeg = K) (hN1 : N ≤ 100) (hK1 : K ≤ 100)
    (hcells : cells + (1 + N) ≤ R.cells) (hslots : slots + (N + N * K) ≤ R.slots) (hdg : decode cc pc = .ok (.multianewarray index 2, 4))
    (kk : ∀ (q : Nat) (H1 : Heap), va_P D cl (ws ++ ((q, .inl (cA, N, .inr (.inr (.inr (.inr (fun i => some (q + 1 + i))))))) :: gRows q cy K N)) H1 → va_D A (ws ++ ((q, .inl (cA, N, .inr (.inr (.inr (.inr (fun i => some (q + 1 + i))))))) :: gRows q cy K N)) → va_S A H0 H1 locs →
      W p l e R s m args below meth c H1 locs (cells + 1 + N) (slots + N + N * K) Q (F0 m (pc + 4) ls (.ref q :: rest))) : W p l e R s m args below meth c H locs cells slots Q (F0 m pc ls (.int k :: .int n :: rest)) := by
  subst hN
  subst hM
  intro T hT Xs
  obtain ⟨vm₁, cB, comp, -, fA, fC, hO, -, X', step⟩ := Xs.multianewarray2F (ty := .int) hexec hown hclink hover harr (g := F0 m pc ls (.int k :: .int n :: rest)) rfl (by rw [hb]; exact hdg) rfl hn hk (by omega) (by show k.toNatClampNeg * 4 ≤ _; omega) (by omega) rfl rfl hcells hslots
  have e1 : s.vm.findClass "[I" = some cy := (hK.2 k0 _ hk0).2
  have e2 : s.vm.findClass "[[I" = some cA := (hK.2 k2 _ hk2).2
  have ec : some cy = some comp := e1.symm.trans fC
  cases ec
  have ec : some cA = some cB := e2.symm.trans fA
  cases ec
  generalize hF : Jvm.Free.Multi.fill (T.setVm vm₁) cA cy n.toNatClampNeg k.toNatClampNeg (defaultValue .int) n.toNatClampNeg = F at X' step
  have hTh : (T.setVm vm₁).heap = H := hT
  obtain ⟨f1, f2, -, -⟩ := Jvm.Free.Multi.fill_facts (T.setVm vm₁) cA cy n.toNatClampNeg k.toNatClampNeg (defaultValue .int) n.toNatClampNeg
  rw [hF, hTh] at f1 f2
  have hold : ∀ x : Nat, x < H.size → F.heap[x]? = H[x]? := fun x hx => by
    have := Jvm.Free.Multi.fill_old (T.setVm vm₁) cA cy n.toNatClampNeg k.toNatClampNeg (defaultValue .int) (a := x) (by rw [hTh]; exact hx) n.toNatClampNeg
    rw [hF, hTh] at this
    exact this
  have hrow : ∀ j : Nat, j < n.toNatClampNeg → F.heap[H.size + 1 + j]? = some (vp_cell cy (k.toNatClampNeg, .inl (fun _ => 0))) := fun j hj => by
    have := Jvm.Free.Multi.fill_inner (T.setVm vm₁) cA cy n.toNatClampNeg k.toNatClampNeg (defaultValue .int) n.toNatClampNeg j hj
    rw [hF, hTh] at this
    rw [this]
    show some ({ cls := cy, slots := Array.replicate k.toNatClampNeg (defaultValue .int), vm := .none } : Cell) = _
    rw [arrV_new]
    rfl
  rw [gOuter cA n.toNatClampNeg H.size n.toNatClampNeg, gArrC (g := fun j => va_rf (some (H.size + 1 + j))) (fun j hj => by rw [if_pos hj])] at f2
  have hlen : ∀ (k9 : Nat) (x : Nat × va_E), (((H.size, .inl (cA, n.toNatClampNeg, .inr (.inr (.inr (.inr (fun i => some (H.size + 1 + i))))))) :: gRows H.size cy k.toNatClampNeg n.toNatClampNeg) : va_W)[k9]? = some x → x.1 = H.size + k9 ∧ va_at D cl x F.heap := by
    intro k9 x hx
    cases k9 with
    | zero =>
      simp only [List.getElem?_cons_zero, Option.some.injEq] at hx
      subst hx
      exact ⟨rfl, f2⟩
    | succ k8 =>
      simp only [List.getElem?_cons_succ, gRows, List.getElem?_map] at hx
      by_cases h9 : k8 < n.toNatClampNeg
      · rw [List.getElem?_range h9] at hx
        simp only [Option.map_some, Option.some.injEq] at hx
        subst hx
        exact ⟨by show H.size + 1 + k8 = _; omega, hrow k8 h9⟩
      · have hn0 : (List.range n.toNatClampNeg)[k8]? = none := List.getElem?_eq_none (by rw [List.length_range]; omega)
        rw [hn0] at hx
        cases hx
  have hP1 := (hP.kept (H1 := F.heap) (fun k9 x hx => hold x.1 ((hP k9 x hx).lt))).app (fun k9 x hx => (hlen k9 x hx).2)
  have hD1 : va_D A (ws ++ ((H.size, .inl (cA, n.toNatClampNeg, .inr (.inr (.inr (.inr (fun i => some (H.size + 1 + i))))))) :: gRows H.size cy k.toNatClampNeg n.toNatClampNeg)) := by
    refine va_D.app hD ⟨fun i j x y hi hj exy => ?_, fun k9 x hx => ?_⟩ (fun i j x y hi hj exy => ?_)
    · have h1 := (hlen i x hi).1
      have h2 := (hlen j y hj).1
      omega
    · have h1 := (hlen k9 x hx).1
      exact hA _ (by have := hS.1; omega)
    · have h1 := (hlen j y hj).1
      have h2 := (hP i x hi).lt
      omega
  obtain ⟨t2, a1, b1⟩ := kk H.size F.heap hP1 hD1 ⟨Nat.le_trans hS.1 (by rw [f1]; omega), fun x h1 h2 => (hold x (Nat.lt_of_lt_of_le h1 hS.1)).trans (hS.2.1 x h1 h2), hS.2.2⟩ F rfl X'
  refine ⟨t2, step t2 ?_, b1⟩
  rw [hT]
  exact a1
end CB
