/-! the law's helpers: the class's world and the long[] out -/
def wLw (t : Nat → ClassId) (a : Nat → Nat) (ao : Nat) (σ : Nat → Nat → Int32) (f : Nat → Int64) : va_W := wFb t a σ ++ [(ao, .inl (t 3, 1, .inr (.inl f)))]
def gMh {S : Type} (l : Launch) (D : va_G) (t : Nat → ClassId) (y : MethodName) (cc : ByteArray) (maxL : Nat) (hh : List (Nat × Nat × Nat × Nat)) (n : Nat) (av : List Value) (w : va_W) (wd : S → va_W) (post : Int32 → S → Prop) : Prop :=
  ∀ A : Nat → Prop, Met l y (.codeWith y cc maxL (some .int) hh :: gBig) (gRm n) (va_Pc av (gPre D t A w)) (va_Qi post (fun u U => va_P D gCl (wd u) U.heap ∧ va_D A (wd u)) A) 0 0 A
def gAd (w : va_W) : Nat → Prop := fun q => ∃ (k : Nat) (e : va_E), w[k]? = some (q, e)
theorem gSplit {D : va_G} {w1 w2 : va_W} {H : Heap} (h : va_P D gCl (w1 ++ w2) H) : va_P D gCl w1 H ∧ va_P D gCl w2 H := ⟨fun k q hk => h k q (by rw [List.getElem?_append_left (List.getElem?_eq_some_iff.mp hk).1]; exact hk), fun k q hk => h (w1.length + k) q (by rw [List.getElem?_append_right (by omega), Nat.add_sub_cancel_left]; exact hk)⟩
theorem gSplitD {A : Nat → Prop} {w1 w2 : va_W} (h : va_D A (w1 ++ w2)) : va_D (gAd w1) w1 ∧ (∀ q, gAd w1 q → A q) ∧ va_D A w2 ∧ ∀ (k : Nat) (q : Nat × va_E), w2[k]? = some q → ¬ gAd w1 q.1 := by
  have hl : ∀ (k : Nat) (q : Nat × va_E), w1[k]? = some q → (w1 ++ w2)[k]? = some q := fun k q hk => by rw [List.getElem?_append_left (List.getElem?_eq_some_iff.mp hk).1]; exact hk
  have hr : ∀ (k : Nat) (q : Nat × va_E), w2[k]? = some q → (w1 ++ w2)[w1.length + k]? = some q := fun k q hk => by rw [List.getElem?_append_right (by omega), Nat.add_sub_cancel_left]; exact hk
  refine ⟨⟨fun i j x y hi hj e => h.1 i j x y (hl i x hi) (hl j y hj) e, fun k q hk => ⟨k, q.2, hk⟩⟩, ?_, ⟨?_, fun k q hk => h.2 _ q (hr k q hk)⟩, ?_⟩
  · rintro q ⟨k, e, hk⟩
    exact h.2 k _ (hl k _ hk)
  · intro i j x y hi hj e
    have := h.1 _ _ x y (hr i x hi) (hr j y hj) e
    omega
  · rintro k q hk ⟨j, e, hj⟩
    have h1 := h.1 _ _ _ _ (hl j _ hj) (hr k q hk) rfl
    have h2 := (List.getElem?_eq_some_iff.mp hj).1
    omega
theorem gJoinW {D : va_G} {A : Nat → Prop} {w1 w2 w1' : va_W} {H H1 : Heap} (hP : va_P D gCl (w1 ++ w2) H) (hD : va_D A (w1 ++ w2)) (hP1 : va_P D gCl w1' H1) (hD1 : va_D (gAd w1) w1') (hk : ∀ q : Nat, q < H.size → ¬ gAd w1 q → H1[q]? = H[q]?) : va_P D gCl (w1' ++ w2) H1 ∧ va_D A (w1' ++ w2) := by
  obtain ⟨-, hP2⟩ := gSplit hP
  obtain ⟨-, h2, h3, h4⟩ := gSplitD hD
  refine ⟨hP1.app (hP2.kept (fun k q hq => hk q.1 ((hP2 k q hq).lt) (h4 k q hq))), va_D.app (hD1.weaken (fun k q _ z => h2 _ z)) h3 ?_⟩
  intro i j x y hi hj e
  exact h4 j y hj (e ▸ hD1.2 i x hi)
section GS
variable {p : Program} {l : Launch} {e : Env} {R : Room} {s : State} {m : MethodId} {args : Array Value} {below : List Frame} {meth : Method} {c : Code} {H : Heap} {locs : List Loc} {cells slots : Nat} {Q : State → Prop}
variable {cc bytes : ByteArray} {pc : Nat} {ls : Array Slot} {rest As : List Value} {D : va_G} {t : Nat → ClassId} {A : Nat → Prop} {w1 w2 : va_W} {H0 : Heap} {S : Type} {wd : S → va_W}
variable {nL maxL n k index b : Nat} {ret : Option FieldType} {y : MethodName} {own C : String} {w0 : Cond}
theorem g_viS {post : Int32 → S → Prop} (F : CallFix p m c cc nL s args (w0 :: gBig) own) (hM : gMi l D t y bytes maxL ret n (.ref b :: As) w1 wd post) (hG : GoodIn (w0 :: gBig) (wsV own index C y (.code y bytes maxL ret :: gBig)))
    (hd : y.cls = C ∧ y.cls ≠ "java/lang/invoke/MethodHandle" ∧ y.cls ≠ "java/lang/invoke/VarHandle" ∧ (parseMethodDescriptor y.desc).map (fun d => d.parameters.length) = some k) (hR : n + 1 ≤ R.frames ∧ 8 + (maxL + 11) + 40 * n ≤ R.locals) (hkl : As.length = k)
    (hrecv : ∃ cellB : Cell, H[b]? = some cellB ∧ cellB.vm.isStatics = false ∧ s.vm.findClass C = some cellB.cls)
    (hK : gK D t s) (hP : va_P D gCl (w1 ++ w2) H) (hD : va_D A (w1 ++ w2)) (hS : va_S A H0 H locs) (hsz : ls.size = nL) {st0 : List Value} (hst : st0 = As.reverse ++ .ref b :: rest) (hrest : (rest.map fun v => v.category).sum ≤ 8) (hc : cells ≤ R.cells ∧ slots ≤ R.slots) (hdg : decode cc pc = .ok (.invokevirtual index, 3))
    (kk : ∀ (r : Int32) (u : S) (H1 : Heap) (locs1 : List Loc), post r u → va_P D gCl (wd u ++ w2) H1 → va_D A (wd u ++ w2) → va_S A H0 H1 locs1 → W p l e R s m args below meth c H1 locs1 cells slots Q (F0 m (pc + 3) ls (.int r :: rest))) :
    W p l e R s m args below meth c H locs cells slots Q (F0 m pc ls st0) := by
  subst hst
  obtain ⟨hPa, -⟩ := gSplit hP
  obtain ⟨hDa, hsub, -, -⟩ := gSplitD hD
  refine va_calli (A1 := gAd w1) (va_runV (As := As) (rest := rest) F (hM (gAd w1)) (cwV k F.2.2.2.2 hG rfl rfl rfl hd hR) ⟨gBlind, hrecv, fun U hU hW => ⟨rfl, gK.moved hW hK, by rw [hU]; exact hPa, hDa⟩⟩ rfl hkl hsz rfl (lv_room hrest) hdg hc) hS (fun q _ h => hsub q h) (fun q h => hsub q h) (fun r u T1 H1 locs1 ht hvm hp hB hz hk hS1 => ?_)
  have hB1 : va_P D gCl (wd u) H1 := by rw [← ht]; exact hB.1
  obtain ⟨z1, z2⟩ := gJoinW hP hD hB1 hB.2 hk
  exact kk r u H1 locs1 hp z1 z2 hS1
end GS

