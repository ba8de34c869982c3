def R_In : String := "java/lang/Integer"
abbrev b_In_bitCount : ByteArray := prog_14_method_49_code
def y_In_bitCount : MethodName := ⟨R_In, "bitCount", "(I)I"⟩
theorem d_In_bitCount_0 : decode b_In_bitCount 0 = .ok (.iload_n 0, 1) := by decide +kernel
theorem d_In_bitCount_1 : decode b_In_bitCount 1 = .ok (.iload_n 0, 1) := by decide +kernel
theorem d_In_bitCount_2 : decode b_In_bitCount 2 = .ok (.iconst 1, 1) := by decide +kernel
theorem d_In_bitCount_3 : decode b_In_bitCount 3 = .ok (.iushr, 1) := by decide +kernel
theorem d_In_bitCount_4 : decode b_In_bitCount 4 = .ok (.ldc_w 265, 3) := by decide +kernel
theorem d_In_bitCount_7 : decode b_In_bitCount 7 = .ok (.iand, 1) := by decide +kernel
theorem d_In_bitCount_8 : decode b_In_bitCount 8 = .ok (.isub, 1) := by decide +kernel
theorem d_In_bitCount_9 : decode b_In_bitCount 9 = .ok (.istore_n 0, 1) := by decide +kernel
theorem d_In_bitCount_10 : decode b_In_bitCount 10 = .ok (.iload_n 0, 1) := by decide +kernel
theorem d_In_bitCount_11 : decode b_In_bitCount 11 = .ok (.ldc_w 266, 3) := by decide +kernel
theorem d_In_bitCount_14 : decode b_In_bitCount 14 = .ok (.iand, 1) := by decide +kernel
theorem d_In_bitCount_15 : decode b_In_bitCount 15 = .ok (.iload_n 0, 1) := by decide +kernel
theorem d_In_bitCount_16 : decode b_In_bitCount 16 = .ok (.iconst 2, 1) := by decide +kernel
theorem d_In_bitCount_17 : decode b_In_bitCount 17 = .ok (.iushr, 1) := by decide +kernel
theorem d_In_bitCount_18 : decode b_In_bitCount 18 = .ok (.ldc_w 266, 3) := by decide +kernel
theorem d_In_bitCount_21 : decode b_In_bitCount 21 = .ok (.iand, 1) := by decide +kernel
theorem d_In_bitCount_22 : decode b_In_bitCount 22 = .ok (.iadd, 1) := by decide +kernel
theorem d_In_bitCount_23 : decode b_In_bitCount 23 = .ok (.istore_n 0, 1) := by decide +kernel
theorem d_In_bitCount_24 : decode b_In_bitCount 24 = .ok (.iload_n 0, 1) := by decide +kernel
theorem d_In_bitCount_25 : decode b_In_bitCount 25 = .ok (.iload_n 0, 1) := by decide +kernel
theorem d_In_bitCount_26 : decode b_In_bitCount 26 = .ok (.iconst 4, 1) := by decide +kernel
theorem d_In_bitCount_27 : decode b_In_bitCount 27 = .ok (.iushr, 1) := by decide +kernel
theorem d_In_bitCount_28 : decode b_In_bitCount 28 = .ok (.iadd, 1) := by decide +kernel
theorem d_In_bitCount_29 : decode b_In_bitCount 29 = .ok (.ldc_w 267, 3) := by decide +kernel
theorem d_In_bitCount_32 : decode b_In_bitCount 32 = .ok (.iand, 1) := by decide +kernel
theorem d_In_bitCount_33 : decode b_In_bitCount 33 = .ok (.istore_n 0, 1) := by decide +kernel
theorem d_In_bitCount_34 : decode b_In_bitCount 34 = .ok (.iload_n 0, 1) := by decide +kernel
theorem d_In_bitCount_35 : decode b_In_bitCount 35 = .ok (.iload_n 0, 1) := by decide +kernel
theorem d_In_bitCount_36 : decode b_In_bitCount 36 = .ok (.bipush 8, 2) := by decide +kernel
theorem d_In_bitCount_38 : decode b_In_bitCount 38 = .ok (.iushr, 1) := by decide +kernel
theorem d_In_bitCount_39 : decode b_In_bitCount 39 = .ok (.iadd, 1) := by decide +kernel
theorem d_In_bitCount_40 : decode b_In_bitCount 40 = .ok (.istore_n 0, 1) := by decide +kernel
theorem d_In_bitCount_41 : decode b_In_bitCount 41 = .ok (.iload_n 0, 1) := by decide +kernel
theorem d_In_bitCount_42 : decode b_In_bitCount 42 = .ok (.iload_n 0, 1) := by decide +kernel
theorem d_In_bitCount_43 : decode b_In_bitCount 43 = .ok (.bipush 16, 2) := by decide +kernel
theorem d_In_bitCount_45 : decode b_In_bitCount 45 = .ok (.iushr, 1) := by decide +kernel
theorem d_In_bitCount_46 : decode b_In_bitCount 46 = .ok (.iadd, 1) := by decide +kernel
theorem d_In_bitCount_47 : decode b_In_bitCount 47 = .ok (.istore_n 0, 1) := by decide +kernel
theorem d_In_bitCount_48 : decode b_In_bitCount 48 = .ok (.iload_n 0, 1) := by decide +kernel
theorem d_In_bitCount_49 : decode b_In_bitCount 49 = .ok (.bipush 63, 2) := by decide +kernel
theorem d_In_bitCount_51 : decode b_In_bitCount 51 = .ok (.iand, 1) := by decide +kernel
theorem d_In_bitCount_52 : decode b_In_bitCount 52 = .ok (.ireturn, 1) := by decide +kernel
section GLW
variable {p : Program} {l : Launch} {e : Env} {R : Room} {s : State} {m : MethodId} {args : Array Value} {below : List Frame} {meth : Method} {c : Code} {H : Heap} {locs : List Loc} {cells slots : Nat} {Q : State → Prop} {cc : ByteArray} {pc : Nat} {ls : Array Slot} {rest : List Value}
theorem g_ldcw (hexec : p.tables.exec = Jvm.exec) (hb : c.code = cc) {own : String} {index : Nat} {v : Int32} (hown : s.vm.findClass own = some m.cls) (hconst : (Cond.constant own index v).before args s = true) (hdg : decode cc pc = .ok (.ldc_w index, 3)) (k : W p l e R s m args below meth c H locs cells slots Q (F0 m (pc + 3) ls (.int v :: rest))) : W p l e R s m args below meth c H locs cells slots Q (F0 m pc ls rest) := by
  intro T hT X
  obtain ⟨t, a1, b1⟩ := k T hT X
  exact ⟨t, va_ldcwI X hexec hown hconst (g := F0 m pc ls rest) rfl (by rw [hb]; exact hdg) t a1, b1⟩
end GLW
def fUsh (x y : Int32) : Int32 := (x.toUInt32 >>> (y.toUInt32 &&& Int32.toUInt32 31)).toInt32
def fB1 (x : Int32) : Int32 := x - (fUsh x 1 &&& 1431655765)
def fB2 (x : Int32) : Int32 := (x &&& 858993459) + (fUsh x 2 &&& 858993459)
def fB3 (x : Int32) : Int32 := (x + fUsh x 4) &&& 252645135
def fB4 (x : Int32) : Int32 := x + fUsh x 8
def fB5 (x : Int32) : Int32 := x + fUsh x 16
def fBits (x : Int32) : Int32 := fB5 (fB4 (fB3 (fB2 (fB1 x)))) &&& 63
section GO
variable {p : Program} {l : Launch} {e : Env} {R : Room} {s : State} {m : MethodId} {args : Array Value} {below : List Frame} {meth : Method} {c : Code} {H : Heap} {locs : List Loc} {cells slots : Nat} {Q : State → Prop}
variable {cc bytes : ByteArray} {pc : Nat} {ls : Array Slot} {rest As : List Value} {D : va_G} {t : Nat → ClassId} {A : Nat → Prop} {w : va_W} {H0 : Heap} {S : Type} {wd : S → va_W}
variable {nL maxL n k index b : Nat} {ret : Option FieldType} {y : MethodName} {own C : String} {w0 : Cond}
/-- a call of a static method of another class -/
theorem g_so {post : Int32 → S → Prop} (F : CallFix p m c cc nL s args (w0 :: gBig) own) (hM : gMi l D t y bytes maxL ret n As w wd post) (h1 : Cond.methodLink own index y ∈ gBig) (h2 : Cond.static y ∈ gBig) (h4 : Cond.initialized y.cls ∈ gBig) (h5 : Cond.code y bytes maxL ret ∈ gBig)
    (hd : y.cls ≠ "java/lang/invoke/MethodHandle" ∧ y.cls ≠ "java/lang/invoke/VarHandle" ∧ (parseMethodDescriptor y.desc).map (fun d => d.parameters.length) = some k) (hR : n + 1 ≤ R.frames ∧ 8 + (maxL + 11) + 40 * n ≤ R.locals) (hkl : As.length = k)
    (hK : gK D t s) (hP : va_P D gCl w H) (hD : va_D A w) (hS : va_S A H0 H locs) (hsz : ls.size = nL) {st0 : List Value} (hst : st0 = As.reverse ++ rest) (hrest : (rest.map fun v => v.category).sum ≤ 8) (hc : cells ≤ R.cells ∧ slots ≤ R.slots) (hdg : decode cc pc = .ok (.invokestatic index, 3))
    (kk : ∀ (r : Int32) (u : S) (H1 : Heap) (locs1 : List Loc), post r u → va_P D gCl (wd u) H1 → va_D A (wd u) → va_S A H0 H1 locs1 → W p l e R s m args below meth c H1 locs1 cells slots Q (F0 m (pc + 3) ls (.int r :: rest))) :
    W p l e R s m args below meth c H locs cells slots Q (F0 m pc ls st0) := by
  subst hst
  have hts := F.2.2.2.2
  have hG : GoodIn (w0 :: gBig) (.code y bytes maxL ret :: gBig) := gGood (fun w hw => by
    rcases List.mem_cons.mp hw with rfl | hw <;> assumption)
  refine va_calli (A1 := A) (va_runS (As := As) (rest := rest) F (hM A) ⟨callB_of k hts hG rfl rfl rfl (hts _ (List.mem_cons_of_mem _ h4)) (hts _ (List.mem_cons_of_mem _ h1)) hd hR, hts _ (List.mem_cons_of_mem _ h2)⟩ ⟨gBlind, fun U hU hW => ⟨rfl, gK.moved hW hK, by rw [hU]; exact hP, hD⟩⟩ rfl hkl hsz rfl (lv_room hrest) hdg hc) hS (fun q _ h => h) (fun q h => h) (fun r u T1 H1 locs1 ht hvm hp hB hz hk hS1 => ?_)
  exact kk r u H1 locs1 hp (by rw [← ht]; exact hB.1) hB.2 hS1
end GO
def fTB1 (τ : Nat → Nat → Int32) (bx : Nat) (set : Int32) : Nat → Nat → Int32 := gSt τ (1100 + bx) 1 (fBits set)
def fTB2 (τ : Nat → Nat → Int32) (bx : Nat) (set : Int32) (np : Nat) : Nat → Nat → Int32 := gSt τ (1100 + bx) 2 (fGrams τ set np)
def fTB3 (τ : Nat → Nat → Int32) (bx L : Nat) : Nat → Nat → Int32 := gSt τ (1100 + bx) 3 (nI L)
def fTB4 (τ : Nat → Nat → Int32) (bx L : Nat) : Nat → Nat → Int32 := gSt τ (1100 + bx) 4 (mSum (τ 202) L)
def fTB (τ : Nat → Nat → Int32) (bx : Nat) (set : Int32) (np L : Nat) : Nat → Nat → Int32 := fTB4 (fTB3 (fTB2 (fTB1 τ bx set) bx set np) bx L) bx L
def fFS (σ : Nat → Nat → Int32) (bt : Nat → Nat) (nc np : Nat) : Nat → (Nat → Nat → Int32)
  | 0 => gSt (gSt σ 404 0 (nI np)) 405 0 7200009
  | j + 1 => gSt (fCh (fFS σ bt nc np j) bt (j + 1) np nc) 405 0 (if fCh (fFS σ bt nc np j) bt (j + 1) np nc 401 (j + 1) < fCh (fFS σ bt nc np j) bt (j + 1) np nc 405 0 then fCh (fFS σ bt nc np j) bt (j + 1) np nc 401 (j + 1) else fCh (fFS σ bt nc np j) bt (j + 1) np nc 405 0)
theorem fCh_fix (σ : Nat → Nat → Int32) (bt : Nat → Nat) (st np : Nat) {i : Nat} (h : i ≤ 200 ∨ 208 < i) (h1 : i ≠ 400) (h2 : i ≠ 401) : ∀ c, fCh σ bt st np c i = σ i
  | 0 => (gSt_ne _ _ _ _ h2).trans (gSt_ne _ _ _ _ h1)
  | c + 1 => by
    unfold fCh
    split
    · exact fCh_fix σ bt st np h h1 h2 c
    · split
      · exact (fHeldU_fix _ _ _ _ _ h).trans (fCh_fix σ bt st np h h1 h2 c)
      · exact (gSt_ne _ _ _ _ h2).trans ((gSt_ne _ _ _ _ h1).trans ((fHeldU_fix _ _ _ _ _ h).trans (fCh_fix σ bt st np h h1 h2 c)))
def fFind0 (σ : Nat → Nat → Int32) (bt : Nat → Nat) (nc np M : Nat) : Nat → Nat → Int32 := gSt (gSt (fFS σ bt nc np M) 406 0 7200009) 407 0 (-1)

theorem gg_Sh_68 (w0 : Cond) : GoodIn (w0 :: gBig) (wsV R_Sh 68 R_Pt y_Pt_gramsOf (.code y_Pt_gramsOf b_Pt_gramsOf 4 (some .int) :: gBig)) := gGoodV (gIn k_361 (by decide +kernel)) (gIn k_285 (by decide +kernel)) (gIn k_286 (by decide +kernel)) (gIn k_3 (by decide +kernel)) (gIn k_287 (by decide +kernel))
theorem gg_Sh_76 (w0 : Cond) : GoodIn (w0 :: gBig) (wsV R_Sh 76 R_Pk y_Pk_height (.code y_Pk_height b_Pk_height 3 (some .int) :: gBig)) := gGoodV (gIn k_362 (by decide +kernel)) (gIn k_314 (by decide +kernel)) (gIn k_315 (by decide +kernel)) (gIn k_4 (by decide +kernel)) (gIn k_316 (by decide +kernel))
theorem gg_Sr_37 (w0 : Cond) : GoodIn (w0 :: gBig) (wsV R_Sr 37 R_Pt y_Pt_everyPart (.code y_Pt_everyPart b_Pt_everyPart 1 (some .int) :: gBig)) := gGoodV (gIn k_272 (by decide +kernel)) (gIn k_273 (by decide +kernel)) (gIn k_274 (by decide +kernel)) (gIn k_3 (by decide +kernel)) (gIn k_275 (by decide +kernel))
theorem gg_Sr_41 (w0 : Cond) : GoodIn (w0 :: gBig) (wsV R_Sr 41 R_Sr y_Sr_chooseCarton (.code y_Sr_chooseCarton b_Sr_chooseCarton 7 none :: gBig)) := gGoodV (gIn k_276 (by decide +kernel)) (gIn k_278 (by decide +kernel)) (gInP (List.mem_of_getElem? (i := 0) (by decide +kernel)) (by decide +kernel)) (gIn k_6 (by decide +kernel)) (gIn k_279 (by decide +kernel))
set_option maxHeartbeats 4000000 in
set_option maxRecDepth 100000 in
theorem c_In_bitCount (l : Launch) (D : va_G) (t : Nat → ClassId) (a : Nat → Nat) (σ : Nat → Nat → Int32) (x : Int32) : gMi l D t y_In_bitCount b_In_bitCount 1 (some .int) 0 [.int x] (wFb t a σ) (wFb t a) (fun r u => r = fBits x ∧ u = σ) := by
  intro A
  refine Met.ofW (cc := b_In_bitCount) (maxL := 1) (ret := (some .int)) (by decide) rfl ?_
  intro p e s m args below meth c s₁ B hml hv
  obtain ⟨rfl, hK, hP, hD⟩ := hv
  have hx := B.exec
  have hb := B.bytes
  have hr := B.returns
  have hts := atoms_spec (ws := .code y_In_bitCount b_In_bitCount 1 (some .int) :: gBig) B.pre
  have hown : s.vm.findClass R_In = some m.cls := findClass_of_methodNamed B.named
  have hlocks := B.notSynchronized
  have hS : va_S A s.heap s.heap [] := va_S.rf
  have hl := lv_entry ([.int x]) (n := 1) (Nat.le_of_ble_eq_true rfl)
  rw [lg_entry_eq]
  generalize (lg_sl ([.int x]) ++ List.replicate (1 - (lg_sl ([.int x])).length) Slot.unset).toArray = ls at hl ⊢
  have hl : lv_has ls 1 [(0, .int x)] := hl
  show gGo l p e s m below meth c D t A 0 [.int x] (wFb t a) (fun r u => r = fBits x ∧ u = σ) s.heap [] (F0 m 0 ls [])
  refine lv_iload_n hx hb d_In_bitCount_0 rfl (lv_at hl 0 rfl) ?_
  refine lv_iload_n hx hb d_In_bitCount_1 rfl (lv_at hl 0 rfl) ?_
  refine lv_iconst (v := 1) hx hb d_In_bitCount_2 (by decide) ?_
  refine lv_iushr (v := fUsh x 1) hx hb d_In_bitCount_3 rfl ?_
  refine g_ldcw hx hb hown (hts (.constant R_In 265 1431655765) (List.mem_cons_of_mem _ (gIn k_358 (by decide +kernel)))) d_In_bitCount_4 ?_
  refine lv_iand hx hb d_In_bitCount_7 ?_
  refine lv_isub hx hb d_In_bitCount_8 ?_
  refine lv_istore_n (lv' := [(0, .int (x - ((fUsh x 1) &&& 1431655765)))]) hx hb d_In_bitCount_9 rfl hl (by decide) rfl (fun ls hl => ?_)
  refine lv_iload_n hx hb d_In_bitCount_10 rfl (lv_at hl 0 rfl) ?_
  refine g_ldcw hx hb hown (hts (.constant R_In 266 858993459) (List.mem_cons_of_mem _ (gIn k_359 (by decide +kernel)))) d_In_bitCount_11 ?_
  refine lv_iand hx hb d_In_bitCount_14 ?_
  refine lv_iload_n hx hb d_In_bitCount_15 rfl (lv_at hl 0 rfl) ?_
  refine lv_iconst (v := 2) hx hb d_In_bitCount_16 (by decide) ?_
  refine lv_iushr (v := fUsh (x - ((fUsh x 1) &&& 1431655765)) 2) hx hb d_In_bitCount_17 rfl ?_
  refine g_ldcw hx hb hown (hts (.constant R_In 266 858993459) (List.mem_cons_of_mem _ (gIn k_359 (by decide +kernel)))) d_In_bitCount_18 ?_
  refine lv_iand hx hb d_In_bitCount_21 ?_
  refine lv_iadd hx hb d_In_bitCount_22 ?_
  refine lv_istore_n (lv' := [(0, .int (((x - ((fUsh x 1) &&& 1431655765)) &&& 858993459) + ((fUsh (x - ((fUsh x 1) &&& 1431655765)) 2) &&& 858993459)))]) hx hb d_In_bitCount_23 rfl hl (by decide) rfl (fun ls hl => ?_)
  refine lv_iload_n hx hb d_In_bitCount_24 rfl (lv_at hl 0 rfl) ?_
  refine lv_iload_n hx hb d_In_bitCount_25 rfl (lv_at hl 0 rfl) ?_
  refine lv_iconst (v := 4) hx hb d_In_bitCount_26 (by decide) ?_
  refine lv_iushr (v := fUsh (((x - ((fUsh x 1) &&& 1431655765)) &&& 858993459) + ((fUsh (x - ((fUsh x 1) &&& 1431655765)) 2) &&& 858993459)) 4) hx hb d_In_bitCount_27 rfl ?_
  refine lv_iadd hx hb d_In_bitCount_28 ?_
  refine g_ldcw hx hb hown (hts (.constant R_In 267 252645135) (List.mem_cons_of_mem _ (gIn k_360 (by decide +kernel)))) d_In_bitCount_29 ?_
  refine lv_iand hx hb d_In_bitCount_32 ?_
  refine lv_istore_n (lv' := [(0, .int (((((x - ((fUsh x 1) &&& 1431655765)) &&& 858993459) + ((fUsh (x - ((fUsh x 1) &&& 1431655765)) 2) &&& 858993459)) + (fUsh (((x - ((fUsh x 1) &&& 1431655765)) &&& 858993459) + ((fUsh (x - ((fUsh x 1) &&& 1431655765)) 2) &&& 858993459)) 4)) &&& 252645135))]) hx hb d_In_bitCount_33 rfl hl (by decide) rfl (fun ls hl => ?_)
  refine lv_iload_n hx hb d_In_bitCount_34 rfl (lv_at hl 0 rfl) ?_
  refine lv_iload_n hx hb d_In_bitCount_35 rfl (lv_at hl 0 rfl) ?_
  refine lv_bipush (v := 8) hx hb d_In_bitCount_36 (by decide) ?_
  refine lv_iushr (v := fUsh (((((x - ((fUsh x 1) &&& 1431655765)) &&& 858993459) + ((fUsh (x - ((fUsh x 1) &&& 1431655765)) 2) &&& 858993459)) + (fUsh (((x - ((fUsh x 1) &&& 1431655765)) &&& 858993459) + ((fUsh (x - ((fUsh x 1) &&& 1431655765)) 2) &&& 858993459)) 4)) &&& 252645135) 8) hx hb d_In_bitCount_38 rfl ?_
  refine lv_iadd hx hb d_In_bitCount_39 ?_
  refine lv_istore_n (lv' := [(0, .int ((((((x - ((fUsh x 1) &&& 1431655765)) &&& 858993459) + ((fUsh (x - ((fUsh x 1) &&& 1431655765)) 2) &&& 858993459)) + (fUsh (((x - ((fUsh x 1) &&& 1431655765)) &&& 858993459) + ((fUsh (x - ((fUsh x 1) &&& 1431655765)) 2) &&& 858993459)) 4)) &&& 252645135) + (fUsh (((((x - ((fUsh x 1) &&& 1431655765)) &&& 858993459) + ((fUsh (x - ((fUsh x 1) &&& 1431655765)) 2) &&& 858993459)) + (fUsh (((x - ((fUsh x 1) &&& 1431655765)) &&& 858993459) + ((fUsh (x - ((fUsh x 1) &&& 1431655765)) 2) &&& 858993459)) 4)) &&& 252645135) 8)))]) hx hb d_In_bitCount_40 rfl hl (by decide) rfl (fun ls hl => ?_)
  refine lv_iload_n hx hb d_In_bitCount_41 rfl (lv_at hl 0 rfl) ?_
  refine lv_iload_n hx hb d_In_bitCount_42 rfl (lv_at hl 0 rfl) ?_
  refine lv_bipush (v := 16) hx hb d_In_bitCount_43 (by decide) ?_
  refine lv_iushr (v := fUsh ((((((x - ((fUsh x 1) &&& 1431655765)) &&& 858993459) + ((fUsh (x - ((fUsh x 1) &&& 1431655765)) 2) &&& 858993459)) + (fUsh (((x - ((fUsh x 1) &&& 1431655765)) &&& 858993459) + ((fUsh (x - ((fUsh x 1) &&& 1431655765)) 2) &&& 858993459)) 4)) &&& 252645135) + (fUsh (((((x - ((fUsh x 1) &&& 1431655765)) &&& 858993459) + ((fUsh (x - ((fUsh x 1) &&& 1431655765)) 2) &&& 858993459)) + (fUsh (((x - ((fUsh x 1) &&& 1431655765)) &&& 858993459) + ((fUsh (x - ((fUsh x 1) &&& 1431655765)) 2) &&& 858993459)) 4)) &&& 252645135) 8)) 16) hx hb d_In_bitCount_45 rfl ?_
  refine lv_iadd hx hb d_In_bitCount_46 ?_
  refine lv_istore_n (lv' := [(0, .int (((((((x - ((fUsh x 1) &&& 1431655765)) &&& 858993459) + ((fUsh (x - ((fUsh x 1) &&& 1431655765)) 2) &&& 858993459)) + (fUsh (((x - ((fUsh x 1) &&& 1431655765)) &&& 858993459) + ((fUsh (x - ((fUsh x 1) &&& 1431655765)) 2) &&& 858993459)) 4)) &&& 252645135) + (fUsh (((((x - ((fUsh x 1) &&& 1431655765)) &&& 858993459) + ((fUsh (x - ((fUsh x 1) &&& 1431655765)) 2) &&& 858993459)) + (fUsh (((x - ((fUsh x 1) &&& 1431655765)) &&& 858993459) + ((fUsh (x - ((fUsh x 1) &&& 1431655765)) 2) &&& 858993459)) 4)) &&& 252645135) 8)) + (fUsh ((((((x - ((fUsh x 1) &&& 1431655765)) &&& 858993459) + ((fUsh (x - ((fUsh x 1) &&& 1431655765)) 2) &&& 858993459)) + (fUsh (((x - ((fUsh x 1) &&& 1431655765)) &&& 858993459) + ((fUsh (x - ((fUsh x 1) &&& 1431655765)) 2) &&& 858993459)) 4)) &&& 252645135) + (fUsh (((((x - ((fUsh x 1) &&& 1431655765)) &&& 858993459) + ((fUsh (x - ((fUsh x 1) &&& 1431655765)) 2) &&& 858993459)) + (fUsh (((x - ((fUsh x 1) &&& 1431655765)) &&& 858993459) + ((fUsh (x - ((fUsh x 1) &&& 1431655765)) 2) &&& 858993459)) 4)) &&& 252645135) 8)) 16)))]) hx hb d_In_bitCount_47 rfl hl (by decide) rfl (fun ls hl => ?_)
  refine lv_iload_n hx hb d_In_bitCount_48 rfl (lv_at hl 0 rfl) ?_
  refine lv_bipush (v := 63) hx hb d_In_bitCount_49 (by decide) ?_
  refine lv_iand hx hb d_In_bitCount_51 ?_
  exact W.iret (v := (((((((x - ((fUsh x 1) &&& 1431655765)) &&& 858993459) + ((fUsh (x - ((fUsh x 1) &&& 1431655765)) 2) &&& 858993459)) + (fUsh (((x - ((fUsh x 1) &&& 1431655765)) &&& 858993459) + ((fUsh (x - ((fUsh x 1) &&& 1431655765)) 2) &&& 858993459)) 4)) &&& 252645135) + (fUsh (((((x - ((fUsh x 1) &&& 1431655765)) &&& 858993459) + ((fUsh (x - ((fUsh x 1) &&& 1431655765)) 2) &&& 858993459)) + (fUsh (((x - ((fUsh x 1) &&& 1431655765)) &&& 858993459) + ((fUsh (x - ((fUsh x 1) &&& 1431655765)) 2) &&& 858993459)) 4)) &&& 252645135) 8)) + (fUsh ((((((x - ((fUsh x 1) &&& 1431655765)) &&& 858993459) + ((fUsh (x - ((fUsh x 1) &&& 1431655765)) 2) &&& 858993459)) + (fUsh (((x - ((fUsh x 1) &&& 1431655765)) &&& 858993459) + ((fUsh (x - ((fUsh x 1) &&& 1431655765)) 2) &&& 858993459)) 4)) &&& 252645135) + (fUsh (((((x - ((fUsh x 1) &&& 1431655765)) &&& 858993459) + ((fUsh (x - ((fUsh x 1) &&& 1431655765)) 2) &&& 858993459)) + (fUsh (((x - ((fUsh x 1) &&& 1431655765)) &&& 858993459) + ((fUsh (x - ((fUsh x 1) &&& 1431655765)) 2) &&& 858993459)) 4)) &&& 252645135) 8)) 16)) &&& 63) hx hb hr (fun U hU hW => ⟨⟨(((((((x - ((fUsh x 1) &&& 1431655765)) &&& 858993459) + ((fUsh (x - ((fUsh x 1) &&& 1431655765)) 2) &&& 858993459)) + (fUsh (((x - ((fUsh x 1) &&& 1431655765)) &&& 858993459) + ((fUsh (x - ((fUsh x 1) &&& 1431655765)) 2) &&& 858993459)) 4)) &&& 252645135) + (fUsh (((((x - ((fUsh x 1) &&& 1431655765)) &&& 858993459) + ((fUsh (x - ((fUsh x 1) &&& 1431655765)) 2) &&& 858993459)) + (fUsh (((x - ((fUsh x 1) &&& 1431655765)) &&& 858993459) + ((fUsh (x - ((fUsh x 1) &&& 1431655765)) 2) &&& 858993459)) 4)) &&& 252645135) 8)) + (fUsh ((((((x - ((fUsh x 1) &&& 1431655765)) &&& 858993459) + ((fUsh (x - ((fUsh x 1) &&& 1431655765)) 2) &&& 858993459)) + (fUsh (((x - ((fUsh x 1) &&& 1431655765)) &&& 858993459) + ((fUsh (x - ((fUsh x 1) &&& 1431655765)) 2) &&& 858993459)) 4)) &&& 252645135) + (fUsh (((((x - ((fUsh x 1) &&& 1431655765)) &&& 858993459) + ((fUsh (x - ((fUsh x 1) &&& 1431655765)) 2) &&& 858993459)) + (fUsh (((x - ((fUsh x 1) &&& 1431655765)) &&& 858993459) + ((fUsh (x - ((fUsh x 1) &&& 1431655765)) 2) &&& 858993459)) 4)) &&& 252645135) 8)) 16)) &&& 63, σ, rfl, by exact ⟨rfl, rfl⟩, by rw [hU]; exact hP, hD⟩, hS.F hU⟩) hS.2.2 d_In_bitCount_52
set_option maxHeartbeats 4000000 in
set_option maxRecDepth 100000 in
theorem c_Sh_tellBox (l : Launch) (D : va_G) (t : Nat → ClassId) (a : Nat → Nat) (σ : Nat → Nat → Int32) (bx : Nat) (set : Int32) (hbx : bx < 8) (np : Nat) (hN : σ 308 0 = nI np) (hN8 : np ≤ 8) (L : Nat) (hL : σ 208 0 = nI L) (hL8 : L ≤ 8) : gMv l D t y_Sh_tellBox b_Sh_tellBox 5 2 [.ref (a 599), .int (nI bx), .int set, .ref (a 399), .ref (a 299)] (wFb t a σ) (wFb t a) (fun u => u = fTB σ bx set np L) := by
  intro A
  refine Met.ofW (cc := b_Sh_tellBox) (maxL := 5) (ret := none) (by decide) rfl ?_
  intro p e s m args below meth c s₁ B hml hv
  obtain ⟨rfl, hK, hP, hD⟩ := hv
  have hx := B.exec
  have hb := B.bytes
  have hr := B.returns
  have hts := atoms_spec (ws := .code y_Sh_tellBox b_Sh_tellBox 5 none :: gBig) B.pre
  have hown : s.vm.findClass R_Sh = some m.cls := findClass_of_methodNamed B.named
  have hlocks := B.notSynchronized
  have hS : va_S A s.heap s.heap [] := va_S.rf
  have hl := lv_entry ([.ref (a 599), .int (nI bx), .int set, .ref (a 399), .ref (a 299)]) (n := 5) (Nat.le_of_ble_eq_true rfl)
  rw [lg_entry_eq]
  generalize (lg_sl ([.ref (a 599), .int (nI bx), .int set, .ref (a 399), .ref (a 299)]) ++ List.replicate (5 - (lg_sl ([.ref (a 599), .int (nI bx), .int set, .ref (a 399), .ref (a 299)])).length) Slot.unset).toArray = ls at hl ⊢
  have hl : lv_has ls 5 [(0, .ref (a 599)), (1, .int (nI bx)), (2, .int set), (3, .ref (a 399)), (4, .ref (a 299))] := hl
  show gGov l p e s m below meth c D t A 2 [.ref (a 599), .int (nI bx), .int set, .ref (a 399), .ref (a 299)] (wFb t a) (fun u => u = fTB σ bx set np L) s.heap [] (F0 m 0 ls [])
  refine lv_aload_n hx hb d_Sh_tellBox_0 rfl (lv_at hl 0 rfl) ?_
  refine va_get (D := D) (ci := 5) (v := .ref (a 501)) (C := R_Sh) (T := F_Sh) (N := 5) hx hb hts (fun w h => List.mem_cons_of_mem _ (i_Sh w h)) hown hK.1 hP 5 (wFb_o5 t a σ) rfl 1 (by decide) (hts (.fieldLink R_Sh 16 "FlatBoxes$Shares" "ofBox" "[[I") (List.mem_cons_of_mem _ (gIn k_194 (by decide +kernel)))) (fun _ h9 => h9) rfl d_Sh_tellBox_1 ?_
  refine lv_iload_n hx hb d_Sh_tellBox_4 rfl (lv_at hl 1 rfl) ?_
  refine g_aald hx hb hK.1 hP 32 2 (wFb_501 t a σ) rfl bx (rfl) (by omega) (by decide) rfl d_Sh_tellBox_5 ?_
  refine lv_iconst (v := 1) hx hb d_Sh_tellBox_6 (by decide) ?_
  refine lv_iload_n hx hb d_Sh_tellBox_7 rfl (lv_at hl 2 rfl) ?_
  refine g_so (k := 1) (As := [.int set]) (rest := [.int 1, .ref (a (1100 + bx))]) (own := R_Sh) (index := 63) ⟨hx, hb, hml, hown, hts⟩ (c_In_bitCount l D t a σ set) (gIn k_355 (by decide +kernel)) (gIn k_356 (by decide +kernel)) (gIn k_17 (by decide +kernel)) (gIn k_357 (by decide +kernel)) (by decide +kernel) ⟨Nat.le_of_ble_eq_true rfl, Nat.le_of_ble_eq_true rfl⟩ rfl hK hP hD hS hl.1 rfl (Nat.le_of_ble_eq_true rfl) ⟨Nat.zero_le _, Nat.zero_le _⟩ d_Sh_tellBox_8 (fun r_1 u_1 H locs q_1 hP hD hS => ?_)
  obtain ⟨rfl, hu_1⟩ := q_1
  rw [hu_1] at hP hD
  refine g_iast hx hb hK.1 hP hD hS (47 + bx) 0 (wFb_r1100 t a σ bx (by omega)) rfl 1 (rfl) (by omega) (by decide) (w' := wFb t a (gSt σ (1100 + bx) 1 (fBits set))) (sFb_r1100 t a σ 1 (fBits set) bx (by omega)) d_Sh_tellBox_11 (fun H locs hP hD hS => ?_)
  refine lv_aload_n hx hb d_Sh_tellBox_12 rfl (lv_at hl 0 rfl) ?_
  refine va_get (D := D) (ci := 5) (v := .ref (a 501)) (C := R_Sh) (T := F_Sh) (N := 5) hx hb hts (fun w h => List.mem_cons_of_mem _ (i_Sh w h)) hown hK.1 hP 5 (wFb_o5 t a (gSt σ (1100 + bx) 1 (fBits set))) rfl 1 (by decide) (hts (.fieldLink R_Sh 16 "FlatBoxes$Shares" "ofBox" "[[I") (List.mem_cons_of_mem _ (gIn k_194 (by decide +kernel)))) (fun _ h9 => h9) rfl d_Sh_tellBox_13 ?_
  refine lv_iload_n hx hb d_Sh_tellBox_16 rfl (lv_at hl 1 rfl) ?_
  refine g_aald hx hb hK.1 hP 32 2 (wFb_501 t a (gSt σ (1100 + bx) 1 (fBits set))) rfl bx (rfl) (by omega) (by decide) rfl d_Sh_tellBox_17 ?_
  refine lv_iconst (v := 2) hx hb d_Sh_tellBox_18 (by decide) ?_
  refine lv_aload_n hx hb d_Sh_tellBox_19 rfl (lv_at hl 3 rfl) ?_
  refine lv_iload_n hx hb d_Sh_tellBox_20 rfl (lv_at hl 2 rfl) ?_
  refine g_vi (k := 1) (As := [.int set]) (rest := [.int 2, .ref (a (1100 + bx))]) (own := R_Sh) (C := R_Pt) (index := 68) ⟨hx, hb, hml, hown, hts⟩ (c_Pt_gramsOf l D t a (gSt σ (1100 + bx) 1 (fBits set)) set np (by (repeat rw [gSt_ne _ _ _ _ (by omega)]); exact hN) hN8) (gg_Sh_68 _) (by decide +kernel) ⟨Nat.le_of_ble_eq_true rfl, Nat.le_of_ble_eq_true rfl⟩ rfl (va_recv hK.1 hP (ci := 3) (q0 := 2) rfl (wFb_o3 t a (gSt σ (1100 + bx) 1 (fBits set)))) hK hP hD hS hl.1 rfl (Nat.le_of_ble_eq_true rfl) ⟨Nat.zero_le _, Nat.zero_le _⟩ d_Sh_tellBox_21 (fun r_2 u_2 H locs q_2 hP hD hS => ?_)
  obtain ⟨rfl, hu_2⟩ := q_2
  rw [hu_2] at hP hD
  refine g_iast hx hb hK.1 hP hD hS (47 + bx) 0 (wFb_r1100 t a (gSt σ (1100 + bx) 1 (fBits set)) bx (by omega)) rfl 2 (rfl) (by omega) (by decide) (w' := wFb t a (gSt (gSt σ (1100 + bx) 1 (fBits set)) (1100 + bx) 2 (fGrams (gSt σ (1100 + bx) 1 (fBits set)) set np))) (sFb_r1100 t a (gSt σ (1100 + bx) 1 (fBits set)) 2 (fGrams (gSt σ (1100 + bx) 1 (fBits set)) set np) bx (by omega)) d_Sh_tellBox_24 (fun H locs hP hD hS => ?_)
  refine lv_aload_n hx hb d_Sh_tellBox_25 rfl (lv_at hl 0 rfl) ?_
  refine va_get (D := D) (ci := 5) (v := .ref (a 501)) (C := R_Sh) (T := F_Sh) (N := 5) hx hb hts (fun w h => List.mem_cons_of_mem _ (i_Sh w h)) hown hK.1 hP 5 (wFb_o5 t a (gSt (gSt σ (1100 + bx) 1 (fBits set)) (1100 + bx) 2 (fGrams (gSt σ (1100 + bx) 1 (fBits set)) set np))) rfl 1 (by decide) (hts (.fieldLink R_Sh 16 "FlatBoxes$Shares" "ofBox" "[[I") (List.mem_cons_of_mem _ (gIn k_194 (by decide +kernel)))) (fun _ h9 => h9) rfl d_Sh_tellBox_26 ?_
  refine lv_iload_n hx hb d_Sh_tellBox_29 rfl (lv_at hl 1 rfl) ?_
  refine g_aald hx hb hK.1 hP 32 2 (wFb_501 t a (gSt (gSt σ (1100 + bx) 1 (fBits set)) (1100 + bx) 2 (fGrams (gSt σ (1100 + bx) 1 (fBits set)) set np))) rfl bx (rfl) (by omega) (by decide) rfl d_Sh_tellBox_30 ?_
  refine lv_iconst (v := 3) hx hb d_Sh_tellBox_31 (by decide) ?_
  refine lv_aload hx hb d_Sh_tellBox_32 (lv_at hl 4 rfl) ?_
  refine va_get (D := D) (ci := 2) (v := .int ((gSt (gSt σ (1100 + bx) 1 (fBits set)) (1100 + bx) 2 (fGrams (gSt σ (1100 + bx) 1 (fBits set)) set np)) 208 0)) (C := R_Pk) (T := F_Pk) (N := 9) hx hb hts (fun w h => List.mem_cons_of_mem _ (i_Pk w h)) hown hK.1 hP 3 (wFb_o2 t a (gSt (gSt σ (1100 + bx) 1 (fBits set)) (1100 + bx) 2 (fGrams (gSt σ (1100 + bx) 1 (fBits set)) set np))) rfl 8 (by decide) (hts (.fieldLink R_Sh 73 "FlatBoxes$Packing" "layers" "I") (List.mem_cons_of_mem _ (gIn k_133 (by decide +kernel)))) (fun _ h9 => h9) rfl d_Sh_tellBox_34 ?_
  refine lv_topi (fun v_3 e_3 => ?_)
  obtain rfl : nI L = v_3 := (e_3.trans ((by (repeat rw [gSt_ne _ _ _ _ (by omega)]); exact hL))).symm
  refine g_iast hx hb hK.1 hP hD hS (47 + bx) 0 (wFb_r1100 t a (gSt (gSt σ (1100 + bx) 1 (fBits set)) (1100 + bx) 2 (fGrams (gSt σ (1100 + bx) 1 (fBits set)) set np)) bx (by omega)) rfl 3 (rfl) (by omega) (by decide) (w' := wFb t a (gSt (gSt (gSt σ (1100 + bx) 1 (fBits set)) (1100 + bx) 2 (fGrams (gSt σ (1100 + bx) 1 (fBits set)) set np)) (1100 + bx) 3 (nI L))) (sFb_r1100 t a (gSt (gSt σ (1100 + bx) 1 (fBits set)) (1100 + bx) 2 (fGrams (gSt σ (1100 + bx) 1 (fBits set)) set np)) 3 (nI L) bx (by omega)) d_Sh_tellBox_37 (fun H locs hP hD hS => ?_)
  refine lv_aload_n hx hb d_Sh_tellBox_38 rfl (lv_at hl 0 rfl) ?_
  refine va_get (D := D) (ci := 5) (v := .ref (a 501)) (C := R_Sh) (T := F_Sh) (N := 5) hx hb hts (fun w h => List.mem_cons_of_mem _ (i_Sh w h)) hown hK.1 hP 5 (wFb_o5 t a (gSt (gSt (gSt σ (1100 + bx) 1 (fBits set)) (1100 + bx) 2 (fGrams (gSt σ (1100 + bx) 1 (fBits set)) set np)) (1100 + bx) 3 (nI L))) rfl 1 (by decide) (hts (.fieldLink R_Sh 16 "FlatBoxes$Shares" "ofBox" "[[I") (List.mem_cons_of_mem _ (gIn k_194 (by decide +kernel)))) (fun _ h9 => h9) rfl d_Sh_tellBox_39 ?_
  refine lv_iload_n hx hb d_Sh_tellBox_42 rfl (lv_at hl 1 rfl) ?_
  refine g_aald hx hb hK.1 hP 32 2 (wFb_501 t a (gSt (gSt (gSt σ (1100 + bx) 1 (fBits set)) (1100 + bx) 2 (fGrams (gSt σ (1100 + bx) 1 (fBits set)) set np)) (1100 + bx) 3 (nI L))) rfl bx (rfl) (by omega) (by decide) rfl d_Sh_tellBox_43 ?_
  refine lv_iconst (v := 4) hx hb d_Sh_tellBox_44 (by decide) ?_
  refine lv_aload hx hb d_Sh_tellBox_45 (lv_at hl 4 rfl) ?_
  refine g_vi (k := 0) (As := []) (rest := [.int 4, .ref (a (1100 + bx))]) (own := R_Sh) (C := R_Pk) (index := 76) ⟨hx, hb, hml, hown, hts⟩ (c_Pk_height l D t a (gSt (gSt (gSt σ (1100 + bx) 1 (fBits set)) (1100 + bx) 2 (fGrams (gSt σ (1100 + bx) 1 (fBits set)) set np)) (1100 + bx) 3 (nI L)) L (by (repeat rw [gSt_ne _ _ _ _ (by omega)]); exact hL) hL8) (gg_Sh_76 _) (by decide +kernel) ⟨Nat.le_of_ble_eq_true rfl, Nat.le_of_ble_eq_true rfl⟩ rfl (va_recv hK.1 hP (ci := 2) (q0 := 3) rfl (wFb_o2 t a (gSt (gSt (gSt σ (1100 + bx) 1 (fBits set)) (1100 + bx) 2 (fGrams (gSt σ (1100 + bx) 1 (fBits set)) set np)) (1100 + bx) 3 (nI L)))) hK hP hD hS hl.1 rfl (Nat.le_of_ble_eq_true rfl) ⟨Nat.zero_le _, Nat.zero_le _⟩ d_Sh_tellBox_47 (fun r_4 u_4 H locs q_4 hP hD hS => ?_)
  obtain ⟨rfl, hu_4⟩ := q_4
  rw [hu_4] at hP hD
  refine g_iast hx hb hK.1 hP hD hS (47 + bx) 0 (wFb_r1100 t a (gSt (gSt (gSt σ (1100 + bx) 1 (fBits set)) (1100 + bx) 2 (fGrams (gSt σ (1100 + bx) 1 (fBits set)) set np)) (1100 + bx) 3 (nI L)) bx (by omega)) rfl 4 (rfl) (by omega) (by decide) (w' := wFb t a (gSt (gSt (gSt (gSt σ (1100 + bx) 1 (fBits set)) (1100 + bx) 2 (fGrams (gSt σ (1100 + bx) 1 (fBits set)) set np)) (1100 + bx) 3 (nI L)) (1100 + bx) 4 (mSum ((gSt (gSt (gSt σ (1100 + bx) 1 (fBits set)) (1100 + bx) 2 (fGrams (gSt σ (1100 + bx) 1 (fBits set)) set np)) (1100 + bx) 3 (nI L)) 202) L))) (sFb_r1100 t a (gSt (gSt (gSt σ (1100 + bx) 1 (fBits set)) (1100 + bx) 2 (fGrams (gSt σ (1100 + bx) 1 (fBits set)) set np)) (1100 + bx) 3 (nI L)) 4 (mSum ((gSt (gSt (gSt σ (1100 + bx) 1 (fBits set)) (1100 + bx) 2 (fGrams (gSt σ (1100 + bx) 1 (fBits set)) set np)) (1100 + bx) 3 (nI L)) 202) L) bx (by omega)) d_Sh_tellBox_50 (fun H locs hP hD hS => ?_)
  exact W.vret hx hb hr (fun U hU hW => ⟨⟨gSt (gSt (gSt (gSt σ (1100 + bx) 1 (fBits set)) (1100 + bx) 2 (fGrams (gSt σ (1100 + bx) 1 (fBits set)) set np)) (1100 + bx) 3 (nI L)) (1100 + bx) 4 (mSum ((gSt (gSt (gSt σ (1100 + bx) 1 (fBits set)) (1100 + bx) 2 (fGrams (gSt σ (1100 + bx) 1 (fBits set)) set np)) (1100 + bx) 3 (nI L)) 202) L), rfl, by rfl, by rw [hU]; exact hP, hD⟩, hS.F hU⟩) hS.2.2 d_Sh_tellBox_51
set_option maxHeartbeats 4000000 in
set_option maxRecDepth 100000 in
theorem c_Sr_find (l : Launch) (D : va_G) (t : Nat → ClassId) (a : Nat → Nat) (σ : Nat → Nat → Int32) (np : Nat) (hN : σ 308 0 = nI np) (hN8 : np ≤ 8) (bt : Nat → Nat) (hbt : ∀ k, k < np → σ 306 k = nI (bt k) ∧ bt k < 8) (nc M lv : Nat) (hlv : lv ≤ 12) (hC : σ 105 0 = nI nc) (hC4 : nc ≤ 4) (hM : (1 : Int32) <<< (nI np &&& 31) = nI (M + 1)) (hM8 : M ≤ 255) (hI : fSetsOK σ 0) (hsh : ∀ τ, τ 404 0 = nI np → fSetsOK τ 0 → gMv l D t y_Sr_share b_Sr_share 4 lv [.ref (a 499), .int 0, .int 0] (wFb t a τ) (wFb t a) (fun u => u = fShr np 0 0 τ)) : gMv l D t y_Sr_find b_Sr_find 5 16 [.ref (a 499), .ref (a 199), .ref (a 399), .ref (a 299)] (wFb t a σ) (wFb t a) (fun u => u = fShr np 0 0 (fFind0 σ bt nc np M)) := by
  intro A
  refine Met.ofW (cc := b_Sr_find) (maxL := 5) (ret := none) (by decide) rfl ?_
  intro p e s m args below meth c s₁ B hml hv
  obtain ⟨rfl, hK, hP, hD⟩ := hv
  have hx := B.exec
  have hb := B.bytes
  have hr := B.returns
  have hts := atoms_spec (ws := .code y_Sr_find b_Sr_find 5 none :: gBig) B.pre
  have hown : s.vm.findClass R_Sr = some m.cls := findClass_of_methodNamed B.named
  have hlocks := B.notSynchronized
  have hS : va_S A s.heap s.heap [] := va_S.rf
  have hl := lv_entry ([.ref (a 499), .ref (a 199), .ref (a 399), .ref (a 299)]) (n := 5) (Nat.le_of_ble_eq_true rfl)
  rw [lg_entry_eq]
  generalize (lg_sl ([.ref (a 499), .ref (a 199), .ref (a 399), .ref (a 299)]) ++ List.replicate (5 - (lg_sl ([.ref (a 499), .ref (a 199), .ref (a 399), .ref (a 299)])).length) Slot.unset).toArray = ls at hl ⊢
  have hl : lv_has ls 5 [(0, .ref (a 499)), (1, .ref (a 199)), (2, .ref (a 399)), (3, .ref (a 299))] := hl
  show gGov l p e s m below meth c D t A 16 [.ref (a 499), .ref (a 199), .ref (a 399), .ref (a 299)] (wFb t a) (fun u => u = fShr np 0 0 (fFind0 σ bt nc np M)) s.heap [] (F0 m 0 ls [])
  have cut_17 : ∀ (n : Nat) (j : Nat) (τ : Nat → Nat → Int32) (H : Heap) (locs : List Loc) (ls : Array Slot), (j ≤ M) → (M + 1 ≤ j + n) → (fFS σ bt nc np j = τ) → (∀ i, (i ≤ 200 ∨ (208 < i ∧ i < 400)) → τ i = σ i) → (τ 404 0 = nI np) → (τ 402 = σ 402) → va_P D gCl (wFb t a τ) H → va_D A (wFb t a τ) → va_S A s.heap H locs → lv_has ls 5 [(0, .ref (a 499)), (1, .ref (a 199)), (2, .ref (a 399)), (3, .ref (a 299)), (4, .int (nI (j + 1)))] → gGov l p e s m below meth c D t A 16 [.ref (a 499), .ref (a 199), .ref (a 399), .ref (a 299)] (wFb t a) (fun u => u = fShr np 0 0 (fFind0 σ bt nc np M)) H locs (F0 m 17 ls []) := by
    intro n
    induction n with
    | zero =>
      intro j τ H locs ls hj hf hs hfix h404 h402 hP hD hS hl
      exact absurd hf (by omega)
    | succ n ih =>
      intro j τ H locs ls hj hf hs hfix h404 h402 hP hD hS hl
      refine lv_iload hx hb d_Sr_find_17 (lv_at hl 4 rfl) ?_
      refine lv_aload_n hx hb d_Sr_find_19 rfl (lv_at hl 2 rfl) ?_
      refine g_vi (k := 0) (As := []) (rest := [.int (nI (j + 1))]) (own := R_Sr) (C := R_Pt) (index := 37) ⟨hx, hb, hml, hown, hts⟩ (c_Pt_everyPart l D t a τ np ((congrFun (hfix 308 (by omega)) 0).trans hN) hN8) (gg_Sr_37 _) (by decide +kernel) ⟨Nat.le_of_ble_eq_true rfl, Nat.le_of_ble_eq_true rfl⟩ rfl (va_recv hK.1 hP (ci := 3) (q0 := 2) rfl (wFb_o3 t a τ)) hK hP hD hS hl.1 rfl (Nat.le_of_ble_eq_true rfl) ⟨Nat.zero_le _, Nat.zero_le _⟩ d_Sr_find_20 (fun r_1 u_1 H locs q_1 hP hD hS => ?_)
      obtain ⟨hr_1, hu_1⟩ := q_1
      rw [hu_1] at hP hD
      obtain rfl : nI M = r_1 := (hr_1.trans (by rw [hM, nI_pred])).symm
      refine lv_icmp_gt (tgt := 59) hx hb d_Sr_find_23 (by decide) (fun c_2 => ?_) (fun c_2 => ?_)
      · 
        have h_2 : M < j + 1 := (nI_ltI (a := M) (b := j + 1) (by omega) (by omega)).mp c_2
        refine lv_aload_n hx hb d_Sr_find_59 rfl (lv_at hl 0 rfl) ?_
        refine lv_ldc hx hb hown (hts (.constant R_Sr 33 7200009) (List.mem_cons_of_mem _ (gIn k_271 (by decide +kernel)))) d_Sr_find_60 ?_
        refine va_put (D := D) (ci := 4) (v := .int 7200009) (ty := .int) (C := R_Sr) (T := F_Sr) (N := 8) hx hb hts (fun w h => List.mem_cons_of_mem _ (i_Sr w h)) t_Sr t_Sr_ok n_Sr hown hK.1 hP hD hS 4 (wFb_o4 t a τ) rfl 6 (by decide) (hts (.fieldLink R_Sr 51 "FlatBoxes$Search" "bestPrice" "I") (List.mem_cons_of_mem _ (gIn k_165 (by decide +kernel)))) (fun _ h9 => h9) rfl (by decide +kernel) rfl rfl (Nat.le_of_ble_eq_true rfl) d_Sr_find_62 (fun H locs hP hD hS => ?_)
        have hP : va_P D gCl (wFb t a (gSt τ 406 0 7200009)) H := hP
        have hD : va_D A (wFb t a (gSt τ 406 0 7200009)) := hD
        refine lv_aload_n hx hb d_Sr_find_65 rfl (lv_at hl 0 rfl) ?_
        refine lv_iconst (v := -1) hx hb d_Sr_find_66 (by decide) ?_
        refine va_put (D := D) (ci := 4) (v := .int (-1)) (ty := .int) (C := R_Sr) (T := F_Sr) (N := 8) hx hb hts (fun w h => List.mem_cons_of_mem _ (i_Sr w h)) t_Sr t_Sr_ok n_Sr hown hK.1 hP hD hS 4 (wFb_o4 t a (gSt τ 406 0 7200009)) rfl 7 (by decide) (hts (.fieldLink R_Sr 54 "FlatBoxes$Search" "bestBoxes" "I") (List.mem_cons_of_mem _ (gIn k_166 (by decide +kernel)))) (fun _ h9 => h9) rfl (by decide +kernel) rfl rfl (Nat.le_of_ble_eq_true rfl) d_Sr_find_67 (fun H locs hP hD hS => ?_)
        have hP : va_P D gCl (wFb t a (gSt (gSt τ 406 0 7200009) 407 0 (-1))) H := hP
        have hD : va_D A (wFb t a (gSt (gSt τ 406 0 7200009) 407 0 (-1))) := hD
        have h404 : (gSt (gSt τ 406 0 7200009) 407 0 (-1)) 404 0 = nI np := h404
        have h402 : (gSt (gSt τ 406 0 7200009) 407 0 (-1)) 402 = σ 402 := h402
        refine lv_aload_n hx hb d_Sr_find_70 rfl (lv_at hl 0 rfl) ?_
        refine lv_iconst (v := 0) hx hb d_Sr_find_71 (by decide) ?_
        refine lv_iconst (v := 0) hx hb d_Sr_find_72 (by decide) ?_
        refine g_vv (k := 2) (As := [.int 0, .int 0]) (rest := []) (own := R_Sr) (C := R_Sr) (index := 57) ⟨hx, hb, hml, hown, hts⟩ (hsh _ h404 (fSetsOK_eq h402 hI)) (gg_Sr_57 _) (by decide +kernel) ⟨by show lv + 1 ≤ 16; omega, by show 8 + (4 + 11) + 40 * lv ≤ 640; omega⟩ rfl (va_recv hK.1 hP (ci := 4) (q0 := 4) rfl (wFb_o4 t a (gSt (gSt τ 406 0 7200009) 407 0 (-1)))) hK hP hD hS hl.1 rfl (Nat.le_of_ble_eq_true rfl) ⟨Nat.zero_le _, Nat.zero_le _⟩ d_Sr_find_73 (fun u_3 H locs q_3 hP hD hS => ?_)
        have hu_3 : u_3 = _ := q_3
        rw [hu_3] at hP hD
        exact W.vret hx hb hr (fun U hU hW => ⟨⟨fShr np 0 0 (gSt (gSt τ 406 0 7200009) 407 0 (-1)), rfl, by obtain rfl : j = M := (by omega); unfold fFind0; rw [hs], by rw [hU]; exact hP, hD⟩, hS.F hU⟩) hS.2.2 d_Sr_find_76
      · 
        have h_2 : ¬ M < j + 1 := fun q9 => c_2 ((nI_ltI (a := M) (b := j + 1) (by omega) (by omega)).mpr q9)
        refine lv_aload_n hx hb d_Sr_find_26 rfl (lv_at hl 0 rfl) ?_
        refine lv_aload_n hx hb d_Sr_find_27 rfl (lv_at hl 1 rfl) ?_
        refine lv_aload_n hx hb d_Sr_find_28 rfl (lv_at hl 2 rfl) ?_
        refine lv_aload_n hx hb d_Sr_find_29 rfl (lv_at hl 3 rfl) ?_
        refine lv_iload hx hb d_Sr_find_30 (lv_at hl 4 rfl) ?_
        refine g_vv (k := 4) (As := [.ref (a 199), .ref (a 399), .ref (a 299), .int (nI (j + 1))]) (rest := []) (own := R_Sr) (C := R_Sr) (index := 41) ⟨hx, hb, hml, hown, hts⟩ (c_Sr_chooseCarton l D t a τ (j + 1) nc (by omega) ((congrFun (hfix 105 (by omega)) 0).trans hC) hC4 np ((congrFun (hfix 308 (by omega)) 0).trans hN) hN8 bt (fun k hk => ⟨(congrFun (hfix 306 (by omega)) k).trans (hbt k hk).1, (hbt k hk).2⟩)) (gg_Sr_41 _) (by decide +kernel) ⟨Nat.le_of_ble_eq_true rfl, Nat.le_of_ble_eq_true rfl⟩ rfl (va_recv hK.1 hP (ci := 4) (q0 := 4) rfl (wFb_o4 t a τ)) hK hP hD hS hl.1 rfl (Nat.le_of_ble_eq_true rfl) ⟨Nat.zero_le _, Nat.zero_le _⟩ d_Sr_find_32 (fun u_4 H locs q_4 hP hD hS => ?_)
        have hu_4 : u_4 = _ := q_4
        rw [hu_4] at hP hD
        refine lv_aload_n hx hb d_Sr_find_35 rfl (lv_at hl 0 rfl) ?_
        refine lv_aload_n hx hb d_Sr_find_36 rfl (lv_at hl 0 rfl) ?_
        refine va_get (D := D) (ci := 4) (v := .int ((fCh τ bt (j + 1) np nc) 405 0)) (C := R_Sr) (T := F_Sr) (N := 8) hx hb hts (fun w h => List.mem_cons_of_mem _ (i_Sr w h)) hown hK.1 hP 4 (wFb_o4 t a (fCh τ bt (j + 1) np nc)) rfl 5 (by decide) (hts (.fieldLink R_Sr 34 "FlatBoxes$Search" "leastPrice" "I") (List.mem_cons_of_mem _ (gIn k_164 (by decide +kernel)))) (fun _ h9 => h9) rfl d_Sr_find_37 ?_
        refine lv_aload_n hx hb d_Sr_find_40 rfl (lv_at hl 0 rfl) ?_
        refine va_get (D := D) (ci := 4) (v := .ref (a 401)) (C := R_Sr) (T := F_Sr) (N := 8) hx hb hts (fun w h => List.mem_cons_of_mem _ (i_Sr w h)) hown hK.1 hP 4 (wFb_o4 t a (fCh τ bt (j + 1) np nc)) rfl 1 (by decide) (hts (.fieldLink R_Sr 15 "FlatBoxes$Search" "priceOf" "[I") (List.mem_cons_of_mem _ (gIn k_160 (by decide +kernel)))) (fun _ h9 => h9) rfl d_Sr_find_41 ?_
        refine lv_iload hx hb d_Sr_find_44 (lv_at hl 4 rfl) ?_
        refine g_iald hx hb hK.1 hP 28 0 (wFb_401 t a (fCh τ bt (j + 1) np nc)) rfl (j + 1) (rfl) (by omega) (by decide) d_Sr_find_46 ?_
        refine va_mmin hx hb (hml.trans hl.1.symm) hown (hts (.methodLink R_Sr 45 Lib.Math.min.name) (List.mem_cons_of_mem _ (gIn k_321 (by decide +kernel)))) (hts (.static Lib.Math.min.name) (List.mem_cons_of_mem _ (gIn k_116 (by decide +kernel)))) (hts (.initialized "java/lang/Math") (List.mem_cons_of_mem _ (gIn k_5 (by decide +kernel)))) (hts (.code Lib.Math.min.name Lib.Math.min.code 2 (some .int)) (List.mem_cons_of_mem _ (gIn k_117 (by decide +kernel)))) (Nat.le_of_ble_eq_true rfl) (Nat.le_of_ble_eq_true rfl) (Nat.zero_le _) (Nat.zero_le _) d_Sr_find_47 ?_
        refine va_put (D := D) (ci := 4) (v := .int (if ((fCh τ bt (j + 1) np nc) 401 (j + 1)) < ((fCh τ bt (j + 1) np nc) 405 0) then ((fCh τ bt (j + 1) np nc) 401 (j + 1)) else ((fCh τ bt (j + 1) np nc) 405 0))) (ty := .int) (C := R_Sr) (T := F_Sr) (N := 8) hx hb hts (fun w h => List.mem_cons_of_mem _ (i_Sr w h)) t_Sr t_Sr_ok n_Sr hown hK.1 hP hD hS 4 (wFb_o4 t a (fCh τ bt (j + 1) np nc)) rfl 5 (by decide) (hts (.fieldLink R_Sr 34 "FlatBoxes$Search" "leastPrice" "I") (List.mem_cons_of_mem _ (gIn k_164 (by decide +kernel)))) (fun _ h9 => h9) rfl (by decide +kernel) rfl rfl (Nat.le_of_ble_eq_true rfl) d_Sr_find_50 (fun H locs hP hD hS => ?_)
        have hP : va_P D gCl (wFb t a (gSt (fCh τ bt (j + 1) np nc) 405 0 (if ((fCh τ bt (j + 1) np nc) 401 (j + 1)) < ((fCh τ bt (j + 1) np nc) 405 0) then ((fCh τ bt (j + 1) np nc) 401 (j + 1)) else ((fCh τ bt (j + 1) np nc) 405 0)))) H := hP
        have hD : va_D A (wFb t a (gSt (fCh τ bt (j + 1) np nc) 405 0 (if ((fCh τ bt (j + 1) np nc) 401 (j + 1)) < ((fCh τ bt (j + 1) np nc) 405 0) then ((fCh τ bt (j + 1) np nc) 401 (j + 1)) else ((fCh τ bt (j + 1) np nc) 405 0)))) := hD
        refine lv_iinc (v := nI (j + 1 + 1)) (lv' := [(4, .int (nI (j + 1 + 1))), (0, .ref (a 499)), (1, .ref (a 199)), (2, .ref (a 399)), (3, .ref (a 299))]) hx hb d_Sr_find_53 hl (k := 4) rfl (nI_1 (j + 1)) (by decide) rfl (fun ls hl => ?_)
        refine lv_goto (tgt := 17) hx hb d_Sr_find_56 (by decide) ?_
        exact ih (j + 1) (gSt (fCh τ bt (j + 1) np nc) 405 0 (if ((fCh τ bt (j + 1) np nc) 401 (j + 1)) < ((fCh τ bt (j + 1) np nc) 405 0) then ((fCh τ bt (j + 1) np nc) 401 (j + 1)) else ((fCh τ bt (j + 1) np nc) 405 0))) _ _ _ (by omega) (by omega) (by rw [← hs]; rfl) (fun i hi => (gSt_ne _ _ _ _ (by omega)).trans ((fCh_fix _ _ _ _ (by omega) (by omega) (by omega) _).trans (hfix i hi))) ((congrFun ((gSt_ne _ _ _ _ (by omega)).trans (fCh_fix _ _ _ _ (by omega) (by omega) (by omega) _)) 0).trans h404) (((gSt_ne _ _ _ _ (by omega)).trans (fCh_fix _ _ _ _ (by omega) (by omega) (by omega) _)).trans h402) hP hD hS (lv_sub hl [1, 2, 3, 4, 0] rfl)
  refine lv_aload_n hx hb d_Sr_find_0 rfl (lv_at hl 0 rfl) ?_
  refine lv_aload_n hx hb d_Sr_find_1 rfl (lv_at hl 2 rfl) ?_
  refine va_get (D := D) (ci := 3) (v := .int (σ 308 0)) (C := R_Pt) (T := F_Pt) (N := 9) hx hb hts (fun w h => List.mem_cons_of_mem _ (i_Pt w h)) hown hK.1 hP 2 (wFb_o3 t a σ) rfl 8 (by decide) (hts (.fieldLink R_Sr 24 "FlatBoxes$Parts" "count" "I") (List.mem_cons_of_mem _ (gIn k_86 (by decide +kernel)))) (fun _ h9 => h9) rfl d_Sr_find_2 ?_
  refine lv_topi (fun v_5 e_5 => ?_)
  obtain rfl : nI np = v_5 := (e_5.trans hN).symm
  refine va_put (D := D) (ci := 4) (v := .int (nI np)) (ty := .int) (C := R_Sr) (T := F_Sr) (N := 8) hx hb hts (fun w h => List.mem_cons_of_mem _ (i_Sr w h)) t_Sr t_Sr_ok n_Sr hown hK.1 hP hD hS 4 (wFb_o4 t a σ) rfl 4 (by decide) (hts (.fieldLink R_Sr 30 "FlatBoxes$Search" "parts" "I") (List.mem_cons_of_mem _ (gIn k_163 (by decide +kernel)))) (fun _ h9 => h9) rfl (by decide +kernel) rfl rfl (Nat.le_of_ble_eq_true rfl) d_Sr_find_5 (fun H locs hP hD hS => ?_)
  have hP : va_P D gCl (wFb t a (gSt σ 404 0 (nI np))) H := hP
  have hD : va_D A (wFb t a (gSt σ 404 0 (nI np))) := hD
  refine lv_aload_n hx hb d_Sr_find_8 rfl (lv_at hl 0 rfl) ?_
  refine lv_ldc hx hb hown (hts (.constant R_Sr 33 7200009) (List.mem_cons_of_mem _ (gIn k_271 (by decide +kernel)))) d_Sr_find_9 ?_
  refine va_put (D := D) (ci := 4) (v := .int 7200009) (ty := .int) (C := R_Sr) (T := F_Sr) (N := 8) hx hb hts (fun w h => List.mem_cons_of_mem _ (i_Sr w h)) t_Sr t_Sr_ok n_Sr hown hK.1 hP hD hS 4 (wFb_o4 t a (gSt σ 404 0 (nI np))) rfl 5 (by decide) (hts (.fieldLink R_Sr 34 "FlatBoxes$Search" "leastPrice" "I") (List.mem_cons_of_mem _ (gIn k_164 (by decide +kernel)))) (fun _ h9 => h9) rfl (by decide +kernel) rfl rfl (Nat.le_of_ble_eq_true rfl) d_Sr_find_11 (fun H locs hP hD hS => ?_)
  have hP : va_P D gCl (wFb t a (gSt (gSt σ 404 0 (nI np)) 405 0 7200009)) H := hP
  have hD : va_D A (wFb t a (gSt (gSt σ 404 0 (nI np)) 405 0 7200009)) := hD
  refine lv_iconst (v := 1) hx hb d_Sr_find_14 (by decide) ?_
  refine lv_istore (lv' := [(4, .int 1), (0, .ref (a 499)), (1, .ref (a 199)), (2, .ref (a 399)), (3, .ref (a 299))]) hx hb d_Sr_find_15 hl (by decide) rfl (fun ls hl => ?_)
  exact cut_17 (M + 1) 0 (gSt (gSt σ 404 0 (nI np)) 405 0 7200009) _ _ _ (by omega) (by omega) (rfl) (fun i hi => (gSt_ne _ _ _ _ (by omega)).trans (gSt_ne _ _ _ _ (by omega))) (rfl) (rfl) hP hD hS (lv_sub hl [1, 2, 3, 4, 0] rfl)
