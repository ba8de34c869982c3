section GCP
variable {p : Program} {l : Launch} {e : Env} {R : Room} {s : State} {m : MethodId} {args : Array Value} {below : List Frame} {meth : Method} {c : Code} {H : Heap} {locs : List Loc} {cells slots : Nat} {Q : State → Prop}
variable {cc : ByteArray} {pc : Nat} {ls : Array Slot} {rest : List Value} {D : va_G} {cl : List vw_C} {A : Nat → Prop} {a : Nat} {tys : List (ClassId × FieldType)} {ws : va_W} {H0 : Heap}
theorem g_cpy (hexec : p.tables.exec = Jvm.exec) (hb : c.code = cc) (hml : c.maxLocals = ls.size) {own : String} {index : Nat} (hown : s.vm.findClass own = some m.cls) (hlink : (Cond.methodLink own index arraycopyName).before args s = true) (hnat : (Cond.native arraycopyName).before args s = true) (hstat : (Cond.static arraycopyName).before args s = true) (hini : (Cond.initialized "java/lang/System").before args s = true)
    (hK : va_K D cl tys s) (hP : va_P D cl ws H) (hD : va_D A ws) (hS : va_S A H0 H locs) (q0 q1 t0 t1 : Nat) {a0 : Nat} {c0 c1 : ClassId} {n0 n1 : Nat} {f g : Nat → Int32} {ty : FieldType} (ha0 : ws[q0]? = some (a0, .inl (c0, n0, .inl f))) (ha1 : ws[q1]? = some (a, .inl (c1, n1, .inl g))) (ht0 : tys[t0]? = some (c0, ty)) (ht1 : tys[t1]? = some (c1, ty)) (hprim : refKind ty = false)
    (k : Nat) (hk : k ≤ 1024) (h4 : k ≤ n0) (h5 : k ≤ n1) (hfit : ∀ i, i < k → fits ty (.int (f (0 + i))) = true)
    (hframes : 1 ≤ R.frames) (hlocals : (rest.map fun v => v.category).sum + (nativeFrameWords "java/lang/System" "arraycopy" 5 + 11) ≤ R.locals) {w' : va_W} (hw : ws.set q1 (a, .inl (c1, n1, .inl (va_cpy f g 0 0 k))) = w') (hdg : decode cc pc = .ok (.invokestatic index, 3))
    (kk : ∀ (H1 : Heap) (locs1 : List Loc), va_P D cl w' H1 → va_D A w' → va_S A H0 H1 locs1 → W p l e R s m args below meth c H1 locs1 cells slots Q (F0 m (pc + 3) ls rest)) : W p l e R s m args below meth c H locs cells slots Q (F0 m pc ls (.int (nI k) :: .int 0 :: .ref a :: .int 0 :: .ref a0 :: rest)) := by
  subst hw
  refine va_copyi hexec hb hml hown hlink hnat hstat hini hK hP hD hS q0 q1 t0 t1 ha0 ha1 ht0 ht1 hprim (by decide) (by decide) (nI_pos (by omega)) (by rw [nI_clamp (by omega), sb_cl0]; omega) (by rw [nI_clamp (by omega), sb_cl0]; omega) (fun i hi => by rw [nI_clamp (by omega)] at hi; rw [sb_cl0]; exact hfit i hi) hframes hlocals hdg ?_
  rw [nI_clamp (by omega), sb_cl0]
  exact kk
end GCP
def fPrice (σ : Nat → Nat → Int32) (sx : Nat → Nat) : Nat → Int32
  | 0 => 0
  | b + 1 => fPrice σ sx b + σ 401 (sx b)
def fCmp (σ : Nat → Nat → Int32) (sx : Nat → Nat) (bx : Nat) : Nat → Nat → Int32 := if σ 406 0 ≤ fPrice σ sx bx then σ else gUp (gSt (gSt σ 406 0 (fPrice σ sx bx)) 407 0 (nI bx)) 403 (va_cpy (σ 402) (σ 403) 0 0 bx)
theorem fHeldU_fix (σ : Nat → Nat → Int32) (bt : Nat → Nat) (set : Int32) (cc np : Nat) {i : Nat} (h : i ≤ 200 ∨ 208 < i) : fHeldU σ bt set cc np i = σ i := by
  unfold fHeldU
  split
  · rfl
  · split
    · rfl
    · exact fPk_fix σ bt set _ h np
def fCh (σ : Nat → Nat → Int32) (bt : Nat → Nat) (st np : Nat) : Nat → (Nat → Nat → Int32)
  | 0 => gSt (gSt σ 400 st (-1)) 401 st 7200009
  | c + 1 => if fCh σ bt st np c 401 st ≤ fCh σ bt st np c 103 c * 9 + 1 then fCh σ bt st np c else if fHeldR (fCh σ bt st np c) bt (nI st) c np = 0 then fHeldU (fCh σ bt st np c) bt (nI st) c np else gSt (gSt (fHeldU (fCh σ bt st np c) bt (nI st) c np) 400 st (nI c)) 401 st (fCh σ bt st np c 103 c * 9 + 1)
def fPal (own : Nat → Int32) (lm : Int32) : Nat → Int32 × Int32
  | 0 => (0, 0)
  | b + 1 => if (fPal own lm b).1 = 0 then ((fPal own lm b).1 + 1, 0 + own b) else if (fPal own lm b).2 + own b ≤ lm then ((fPal own lm b).1, (fPal own lm b).2 + own b) else ((fPal own lm b).1 + 1, 0 + own b)
def fT1 (τ : Nat → Nat → Int32) (q bx lo L : Nat) : Nat → Nat → Int32 := gSt (gSt τ (1000 + q) 0 (nI bx)) (1000 + q) 1 (fLy (gSt τ (1000 + q) 0 (nI bx)) lo L)
def fT2 (τ : Nat → Nat → Int32) (q : Nat) : Nat → Nat → Int32 := gSt τ (1000 + q) 2 (τ 207 q)
def fT3 (τ : Nat → Nat → Int32) (q lo L : Nat) : Nat → Nat → Int32 := gSt τ (1000 + q) 3 (fLz τ lo L)
def fTell (σ : Nat → Nat → Int32) (bx : Nat) (set : Int32) (lo : Nat → Nat) (L : Nat) : Nat → (Nat → Nat → Int32)
  | 0 => σ
  | q + 1 => if fIn set (nI q) = 0 then fTell σ bx set lo L q else fT3 (fT2 (fT1 (fTell σ bx set lo L q) q bx (lo q) L) q) q (lo q) L

theorem gg_Pt_41 (w0 : Cond) : GoodIn (w0 :: gBig) (wsV R_Pt 41 R_Pt y_Pt_sortInByThickness (.code y_Pt_sortInByThickness b_Pt_sortInByThickness 3 none :: gBig)) := gGoodV (gIn k_506 (by decide +kernel)) (gIn k_508 (by decide +kernel)) (gInP (List.mem_of_getElem? (i := 11) (by decide +kernel)) (by decide +kernel)) (gIn k_3 (by decide +kernel)) (gIn k_509 (by decide +kernel))
theorem gg_Pt_45 (w0 : Cond) : GoodIn (w0 :: gBig) (wsV R_Pt 45 R_Pt y_Pt_sortInByStep (.code y_Pt_sortInByStep b_Pt_sortInByStep 3 none :: gBig)) := gGoodV (gIn k_510 (by decide +kernel)) (gIn k_512 (by decide +kernel)) (gInP (List.mem_of_getElem? (i := 12) (by decide +kernel)) (by decide +kernel)) (gIn k_3 (by decide +kernel)) (gIn k_513 (by decide +kernel))
theorem gg_Sr_67 (w0 : Cond) : GoodIn (w0 :: gBig) (wsV R_Sr 67 R_Pk y_Pk_isHeldBy (.code y_Pk_isHeldBy b_Pk_isHeldBy 5 (some .boolean) :: gBig)) := gGoodV (gIn k_280 (by decide +kernel)) (gIn k_281 (by decide +kernel)) (gIn k_282 (by decide +kernel)) (gIn k_4 (by decide +kernel)) (gIn k_283 (by decide +kernel))
theorem gg_Sh_89 (w0 : Cond) : GoodIn (w0 :: gBig) (wsV R_Sh 89 R_Pk y_Pk_layersBelow (.code y_Pk_layersBelow b_Pk_layersBelow 4 (some .int) :: gBig)) := gGoodV (gIn k_368 (by decide +kernel)) (gIn k_369 (by decide +kernel)) (gIn k_370 (by decide +kernel)) (gIn k_4 (by decide +kernel)) (gIn k_371 (by decide +kernel))
theorem gg_Sh_95 (w0 : Cond) : GoodIn (w0 :: gBig) (wsV R_Sh 95 R_Pk y_Pk_heightBelow (.code y_Pk_heightBelow b_Pk_heightBelow 4 (some .int) :: gBig)) := gGoodV (gIn k_376 (by decide +kernel)) (gIn k_377 (by decide +kernel)) (gIn k_378 (by decide +kernel)) (gIn k_4 (by decide +kernel)) (gIn k_379 (by decide +kernel))
set_option maxHeartbeats 4000000 in
set_option maxRecDepth 100000 in
theorem c_Pt_add (l : Launch) (D : va_G) (t : Nat → ClassId) (a : Nat → Nat) (σ : Nat → Nat → Int32) (wd dp th gr sp : Int32) (np : Nat) (hN : σ 308 0 = nI np) (hN8 : np < 8) (bt bs : Nat → Nat) (hbt : ∀ k, k < np → σ 306 k = nI (bt k) ∧ bt k < 8) (hbs : ∀ k, k < np → σ 307 k = nI (bs k) ∧ bs k < 8) : gMi l D t y_Pt_add b_Pt_add 7 (some .int) 1 [.ref (a 399), .int wd, .int dp, .int th, .int gr, .int sp] (wFb t a σ) (wFb t a) (fun r u => r = nI np ∧ u = fPartU σ np bt bs wd dp th gr sp) := by
  intro A
  refine Met.ofW (cc := b_Pt_add) (maxL := 7) (ret := (some .int)) (by decide) rfl ?_
  intro p e s m args below meth c s₁ B hml hv
  obtain ⟨rfl, hK, hP, hD⟩ := hv
  have hx := B.exec
  have hb := B.bytes
  have hr := B.returns
  have hts := atoms_spec (ws := .code y_Pt_add b_Pt_add 7 (some .int) :: gBig) B.pre
  have hown : s.vm.findClass R_Pt = some m.cls := findClass_of_methodNamed B.named
  have hlocks := B.notSynchronized
  have hS : va_S A s.heap s.heap [] := va_S.rf
  have hl := lv_entry ([.ref (a 399), .int wd, .int dp, .int th, .int gr, .int sp]) (n := 7) (Nat.le_of_ble_eq_true rfl)
  rw [lg_entry_eq]
  generalize (lg_sl ([.ref (a 399), .int wd, .int dp, .int th, .int gr, .int sp]) ++ List.replicate (7 - (lg_sl ([.ref (a 399), .int wd, .int dp, .int th, .int gr, .int sp])).length) Slot.unset).toArray = ls at hl ⊢
  have hl : lv_has ls 7 [(0, .ref (a 399)), (1, .int wd), (2, .int dp), (3, .int th), (4, .int gr), (5, .int sp)] := hl
  show gGo l p e s m below meth c D t A 1 [.ref (a 399), .int wd, .int dp, .int th, .int gr, .int sp] (wFb t a) (fun r u => r = nI np ∧ u = fPartU σ np bt bs wd dp th gr sp) s.heap [] (F0 m 0 ls [])
  refine lv_aload_n hx hb d_Pt_add_0 rfl (lv_at hl 0 rfl) ?_
  refine va_get (D := D) (ci := 3) (v := .int (σ 308 0)) (C := R_Pt) (T := F_Pt) (N := 9) hx hb hts (fun w h => List.mem_cons_of_mem _ (i_Pt w h)) hown hK.1 hP 2 (wFb_o3 t a σ) rfl 8 (by decide) (hts (.fieldLink R_Pt 37 "FlatBoxes$Parts" "count" "I") (List.mem_cons_of_mem _ (gIn k_85 (by decide +kernel)))) (fun _ h9 => h9) rfl d_Pt_add_1 ?_
  refine lv_topi (fun v_1 e_1 => ?_)
  obtain rfl : nI np = v_1 := (e_1.trans hN).symm
  refine lv_istore (lv' := [(6, .int (nI np)), (0, .ref (a 399)), (1, .int wd), (2, .int dp), (3, .int th), (4, .int gr), (5, .int sp)]) hx hb d_Pt_add_4 hl (by decide) rfl (fun ls hl => ?_)
  refine lv_aload_n hx hb d_Pt_add_6 rfl (lv_at hl 1 rfl) ?_
  refine va_get (D := D) (ci := 3) (v := .ref (a 300)) (C := R_Pt) (T := F_Pt) (N := 9) hx hb hts (fun w h => List.mem_cons_of_mem _ (i_Pt w h)) hown hK.1 hP 2 (wFb_o3 t a σ) rfl 0 (by decide) (hts (.fieldLink R_Pt 9 "FlatBoxes$Parts" "width" "[I") (List.mem_cons_of_mem _ (gIn k_69 (by decide +kernel)))) (fun _ h9 => h9) rfl d_Pt_add_7 ?_
  refine lv_iload hx hb d_Pt_add_10 (lv_at hl 0 rfl) ?_
  refine lv_iload_n hx hb d_Pt_add_12 rfl (lv_at hl 2 rfl) ?_
  refine g_iast hx hb hK.1 hP hD hS 12 0 (wFb_300 t a σ) rfl np (rfl) (by omega) (by decide) (w' := wFb t a (gSt σ 300 np wd)) (sFb_300 t a σ np wd) d_Pt_add_13 (fun H locs hP hD hS => ?_)
  refine lv_aload_n hx hb d_Pt_add_14 rfl (lv_at hl 1 rfl) ?_
  refine va_get (D := D) (ci := 3) (v := .ref (a 301)) (C := R_Pt) (T := F_Pt) (N := 9) hx hb hts (fun w h => List.mem_cons_of_mem _ (i_Pt w h)) hown hK.1 hP 2 (wFb_o3 t a (gSt σ 300 np wd)) rfl 1 (by decide) (hts (.fieldLink R_Pt 15 "FlatBoxes$Parts" "depth" "[I") (List.mem_cons_of_mem _ (gIn k_71 (by decide +kernel)))) (fun _ h9 => h9) rfl d_Pt_add_15 ?_
  refine lv_iload hx hb d_Pt_add_18 (lv_at hl 0 rfl) ?_
  refine lv_iload_n hx hb d_Pt_add_20 rfl (lv_at hl 3 rfl) ?_
  refine g_iast hx hb hK.1 hP hD hS 13 0 (wFb_301 t a (gSt σ 300 np wd)) rfl np (rfl) (by omega) (by decide) (w' := wFb t a (gSt (gSt σ 300 np wd) 301 np dp)) (sFb_301 t a (gSt σ 300 np wd) np dp) d_Pt_add_21 (fun H locs hP hD hS => ?_)
  refine lv_aload_n hx hb d_Pt_add_22 rfl (lv_at hl 1 rfl) ?_
  refine va_get (D := D) (ci := 3) (v := .ref (a 302)) (C := R_Pt) (T := F_Pt) (N := 9) hx hb hts (fun w h => List.mem_cons_of_mem _ (i_Pt w h)) hown hK.1 hP 2 (wFb_o3 t a (gSt (gSt σ 300 np wd) 301 np dp)) rfl 2 (by decide) (hts (.fieldLink R_Pt 18 "FlatBoxes$Parts" "thick" "[I") (List.mem_cons_of_mem _ (gIn k_72 (by decide +kernel)))) (fun _ h9 => h9) rfl d_Pt_add_23 ?_
  refine lv_iload hx hb d_Pt_add_26 (lv_at hl 0 rfl) ?_
  refine lv_iload_n hx hb d_Pt_add_28 rfl (lv_at hl 4 rfl) ?_
  refine g_iast hx hb hK.1 hP hD hS 14 0 (wFb_302 t a (gSt (gSt σ 300 np wd) 301 np dp)) rfl np (rfl) (by omega) (by decide) (w' := wFb t a (gSt (gSt (gSt σ 300 np wd) 301 np dp) 302 np th)) (sFb_302 t a (gSt (gSt σ 300 np wd) 301 np dp) np th) d_Pt_add_29 (fun H locs hP hD hS => ?_)
  refine lv_aload_n hx hb d_Pt_add_30 rfl (lv_at hl 1 rfl) ?_
  refine va_get (D := D) (ci := 3) (v := .ref (a 303)) (C := R_Pt) (T := F_Pt) (N := 9) hx hb hts (fun w h => List.mem_cons_of_mem _ (i_Pt w h)) hown hK.1 hP 2 (wFb_o3 t a (gSt (gSt (gSt σ 300 np wd) 301 np dp) 302 np th)) rfl 3 (by decide) (hts (.fieldLink R_Pt 21 "FlatBoxes$Parts" "grams" "[I") (List.mem_cons_of_mem _ (gIn k_74 (by decide +kernel)))) (fun _ h9 => h9) rfl d_Pt_add_31 ?_
  refine lv_iload hx hb d_Pt_add_34 (lv_at hl 0 rfl) ?_
  refine lv_iload hx hb d_Pt_add_36 (lv_at hl 5 rfl) ?_
  refine g_iast hx hb hK.1 hP hD hS 15 0 (wFb_303 t a (gSt (gSt (gSt σ 300 np wd) 301 np dp) 302 np th)) rfl np (rfl) (by omega) (by decide) (w' := wFb t a (gSt (gSt (gSt (gSt σ 300 np wd) 301 np dp) 302 np th) 303 np gr)) (sFb_303 t a (gSt (gSt (gSt σ 300 np wd) 301 np dp) 302 np th) np gr) d_Pt_add_38 (fun H locs hP hD hS => ?_)
  refine lv_aload_n hx hb d_Pt_add_39 rfl (lv_at hl 1 rfl) ?_
  refine va_get (D := D) (ci := 3) (v := .ref (a 304)) (C := R_Pt) (T := F_Pt) (N := 9) hx hb hts (fun w h => List.mem_cons_of_mem _ (i_Pt w h)) hown hK.1 hP 2 (wFb_o3 t a (gSt (gSt (gSt (gSt σ 300 np wd) 301 np dp) 302 np th) 303 np gr)) rfl 4 (by decide) (hts (.fieldLink R_Pt 24 "FlatBoxes$Parts" "step" "[I") (List.mem_cons_of_mem _ (gIn k_76 (by decide +kernel)))) (fun _ h9 => h9) rfl d_Pt_add_40 ?_
  refine lv_iload hx hb d_Pt_add_43 (lv_at hl 0 rfl) ?_
  refine lv_iload hx hb d_Pt_add_45 (lv_at hl 6 rfl) ?_
  refine g_iast hx hb hK.1 hP hD hS 16 0 (wFb_304 t a (gSt (gSt (gSt (gSt σ 300 np wd) 301 np dp) 302 np th) 303 np gr)) rfl np (rfl) (by omega) (by decide) (w' := wFb t a (gSt (gSt (gSt (gSt (gSt σ 300 np wd) 301 np dp) 302 np th) 303 np gr) 304 np sp)) (sFb_304 t a (gSt (gSt (gSt (gSt σ 300 np wd) 301 np dp) 302 np th) 303 np gr) np sp) d_Pt_add_47 (fun H locs hP hD hS => ?_)
  refine lv_aload_n hx hb d_Pt_add_48 rfl (lv_at hl 1 rfl) ?_
  refine lv_iload hx hb d_Pt_add_49 (lv_at hl 0 rfl) ?_
  refine g_vv (k := 1) (As := [.int (nI np)]) (rest := []) (own := R_Pt) (C := R_Pt) (index := 41) ⟨hx, hb, hml, hown, hts⟩ (c_Pt_sortInByThickness l D t a (gSt (gSt (gSt (gSt (gSt σ 300 np wd) 301 np dp) 302 np th) 303 np gr) 304 np sp) np (by omega) bt hbt) (gg_Pt_41 _) (by decide +kernel) ⟨Nat.le_of_ble_eq_true rfl, Nat.le_of_ble_eq_true rfl⟩ rfl (va_recv hK.1 hP (ci := 3) (q0 := 2) rfl (wFb_o3 t a (gSt (gSt (gSt (gSt (gSt σ 300 np wd) 301 np dp) 302 np th) 303 np gr) 304 np sp))) hK hP hD hS hl.1 rfl (Nat.le_of_ble_eq_true rfl) ⟨Nat.zero_le _, Nat.zero_le _⟩ d_Pt_add_51 (fun u_2 H locs q_2 hP hD hS => ?_)
  have hu_2 : u_2 = _ := q_2
  rw [hu_2] at hP hD
  refine lv_aload_n hx hb d_Pt_add_54 rfl (lv_at hl 1 rfl) ?_
  refine lv_iload hx hb d_Pt_add_55 (lv_at hl 0 rfl) ?_
  refine g_vv (k := 1) (As := [.int (nI np)]) (rest := []) (own := R_Pt) (C := R_Pt) (index := 45) ⟨hx, hb, hml, hown, hts⟩ (c_Pt_sortInByStep l D t a (fSrt 306 np bt (fGo1 (gSt (gSt (gSt (gSt (gSt σ 300 np wd) 301 np dp) 302 np th) 303 np gr) 304 np sp) bt np) np (gSt (gSt (gSt (gSt (gSt σ 300 np wd) 301 np dp) 302 np th) 303 np gr) 304 np sp)) np (by omega) bs (fun k hk => ⟨(congrFun (fSrt_fix 306 np bt _ (by decide) np _) k).trans (hbs k hk).1, (hbs k hk).2⟩)) (gg_Pt_45 _) (by decide +kernel) ⟨Nat.le_of_ble_eq_true rfl, Nat.le_of_ble_eq_true rfl⟩ rfl (va_recv hK.1 hP (ci := 3) (q0 := 2) rfl (wFb_o3 t a (fSrt 306 np bt (fGo1 (gSt (gSt (gSt (gSt (gSt σ 300 np wd) 301 np dp) 302 np th) 303 np gr) 304 np sp) bt np) np (gSt (gSt (gSt (gSt (gSt σ 300 np wd) 301 np dp) 302 np th) 303 np gr) 304 np sp)))) hK hP hD hS hl.1 rfl (Nat.le_of_ble_eq_true rfl) ⟨Nat.zero_le _, Nat.zero_le _⟩ d_Pt_add_57 (fun u_3 H locs q_3 hP hD hS => ?_)
  have hu_3 : u_3 = _ := q_3
  rw [hu_3] at hP hD
  refine lv_aload_n hx hb d_Pt_add_60 rfl (lv_at hl 1 rfl) ?_
  refine lv_iload hx hb d_Pt_add_61 (lv_at hl 0 rfl) ?_
  refine lv_iconst (v := 1) hx hb d_Pt_add_63 (by decide) ?_
  refine lv_iadd hx hb d_Pt_add_64 ?_
  refine lv_topi (fun v_4 e_4 => ?_)
  obtain rfl : nI (np + 1) = v_4 := (e_4.trans (nI_1 _)).symm
  refine va_put (D := D) (ci := 3) (v := .int (nI (np + 1))) (ty := .int) (C := R_Pt) (T := F_Pt) (N := 9) hx hb hts (fun w h => List.mem_cons_of_mem _ (i_Pt w h)) t_Pt t_Pt_ok n_Pt hown hK.1 hP hD hS 2 (wFb_o3 t a (fSrt 307 np bs (fGo2 (fSrt 306 np bt (fGo1 (gSt (gSt (gSt (gSt (gSt σ 300 np wd) 301 np dp) 302 np th) 303 np gr) 304 np sp) bt np) np (gSt (gSt (gSt (gSt (gSt σ 300 np wd) 301 np dp) 302 np th) 303 np gr) 304 np sp)) bs np) np (fSrt 306 np bt (fGo1 (gSt (gSt (gSt (gSt (gSt σ 300 np wd) 301 np dp) 302 np th) 303 np gr) 304 np sp) bt np) np (gSt (gSt (gSt (gSt (gSt σ 300 np wd) 301 np dp) 302 np th) 303 np gr) 304 np sp)))) rfl 8 (by decide) (hts (.fieldLink R_Pt 37 "FlatBoxes$Parts" "count" "I") (List.mem_cons_of_mem _ (gIn k_85 (by decide +kernel)))) (fun _ h9 => h9) rfl (by decide +kernel) rfl rfl (Nat.le_of_ble_eq_true rfl) d_Pt_add_65 (fun H locs hP hD hS => ?_)
  have hP : va_P D gCl (wFb t a (gSt (fSrt 307 np bs (fGo2 (fSrt 306 np bt (fGo1 (gSt (gSt (gSt (gSt (gSt σ 300 np wd) 301 np dp) 302 np th) 303 np gr) 304 np sp) bt np) np (gSt (gSt (gSt (gSt (gSt σ 300 np wd) 301 np dp) 302 np th) 303 np gr) 304 np sp)) bs np) np (fSrt 306 np bt (fGo1 (gSt (gSt (gSt (gSt (gSt σ 300 np wd) 301 np dp) 302 np th) 303 np gr) 304 np sp) bt np) np (gSt (gSt (gSt (gSt (gSt σ 300 np wd) 301 np dp) 302 np th) 303 np gr) 304 np sp))) 308 0 (nI (np + 1)))) H := hP
  have hD : va_D A (wFb t a (gSt (fSrt 307 np bs (fGo2 (fSrt 306 np bt (fGo1 (gSt (gSt (gSt (gSt (gSt σ 300 np wd) 301 np dp) 302 np th) 303 np gr) 304 np sp) bt np) np (gSt (gSt (gSt (gSt (gSt σ 300 np wd) 301 np dp) 302 np th) 303 np gr) 304 np sp)) bs np) np (fSrt 306 np bt (fGo1 (gSt (gSt (gSt (gSt (gSt σ 300 np wd) 301 np dp) 302 np th) 303 np gr) 304 np sp) bt np) np (gSt (gSt (gSt (gSt (gSt σ 300 np wd) 301 np dp) 302 np th) 303 np gr) 304 np sp))) 308 0 (nI (np + 1)))) := hD
  refine lv_iload hx hb d_Pt_add_68 (lv_at hl 0 rfl) ?_
  exact W.iret (v := nI np) hx hb hr (fun U hU hW => ⟨⟨nI np, gSt (fSrt 307 np bs (fGo2 (fSrt 306 np bt (fGo1 (gSt (gSt (gSt (gSt (gSt σ 300 np wd) 301 np dp) 302 np th) 303 np gr) 304 np sp) bt np) np (gSt (gSt (gSt (gSt (gSt σ 300 np wd) 301 np dp) 302 np th) 303 np gr) 304 np sp)) bs np) np (fSrt 306 np bt (fGo1 (gSt (gSt (gSt (gSt (gSt σ 300 np wd) 301 np dp) 302 np th) 303 np gr) 304 np sp) bt np) np (gSt (gSt (gSt (gSt (gSt σ 300 np wd) 301 np dp) 302 np th) 303 np gr) 304 np sp))) 308 0 (nI (np + 1)), rfl, by exact ⟨rfl, rfl⟩, by rw [hU]; exact hP, hD⟩, hS.F hU⟩) hS.2.2 d_Pt_add_70
set_option maxHeartbeats 4000000 in
set_option maxRecDepth 100000 in
theorem c_Sr_boxes (l : Launch) (D : va_G) (t : Nat → ClassId) (a : Nat → Nat) (σ : Nat → Nat → Int32)  : gMi l D t y_Sr_boxes b_Sr_boxes 1 (some .int) 0 [.ref (a 499)] (wFb t a σ) (wFb t a) (fun r u => r = σ 407 0 ∧ u = σ) := by
  intro A
  refine Met.ofW (cc := b_Sr_boxes) (maxL := 1) (ret := (some .int)) (by decide) rfl ?_
  intro p e s m args below meth c s₁ B hml hv
  obtain ⟨rfl, hK, hP, hD⟩ := hv
  have hx := B.exec
  have hb := B.bytes
  have hr := B.returns
  have hts := atoms_spec (ws := .code y_Sr_boxes b_Sr_boxes 1 (some .int) :: gBig) B.pre
  have hown : s.vm.findClass R_Sr = some m.cls := findClass_of_methodNamed B.named
  have hlocks := B.notSynchronized
  have hS : va_S A s.heap s.heap [] := va_S.rf
  have hl := lv_entry ([.ref (a 499)]) (n := 1) (Nat.le_of_ble_eq_true rfl)
  rw [lg_entry_eq]
  generalize (lg_sl ([.ref (a 499)]) ++ List.replicate (1 - (lg_sl ([.ref (a 499)])).length) Slot.unset).toArray = ls at hl ⊢
  have hl : lv_has ls 1 [(0, .ref (a 499))] := hl
  show gGo l p e s m below meth c D t A 0 [.ref (a 499)] (wFb t a) (fun r u => r = σ 407 0 ∧ u = σ) s.heap [] (F0 m 0 ls [])
  refine lv_aload_n hx hb d_Sr_boxes_0 rfl (lv_at hl 0 rfl) ?_
  refine va_get (D := D) (ci := 4) (v := .int (σ 407 0)) (C := R_Sr) (T := F_Sr) (N := 8) hx hb hts (fun w h => List.mem_cons_of_mem _ (i_Sr w h)) hown hK.1 hP 4 (wFb_o4 t a σ) rfl 7 (by decide) (hts (.fieldLink R_Sr 54 "FlatBoxes$Search" "bestBoxes" "I") (List.mem_cons_of_mem _ (gIn k_166 (by decide +kernel)))) (fun _ h9 => h9) rfl d_Sr_boxes_1 ?_
  exact W.iret (v := σ 407 0) hx hb hr (fun U hU hW => ⟨⟨σ 407 0, σ, rfl, by exact ⟨rfl, rfl⟩, by rw [hU]; exact hP, hD⟩, hS.F hU⟩) hS.2.2 d_Sr_boxes_4
set_option maxHeartbeats 4000000 in
set_option maxRecDepth 100000 in
theorem c_Sr_setOf (l : Launch) (D : va_G) (t : Nat → ClassId) (a : Nat → Nat) (σ : Nat → Nat → Int32) (b : Nat) (hb8 : b < 8) : gMi l D t y_Sr_setOf b_Sr_setOf 2 (some .int) 0 [.ref (a 499), .int (nI b)] (wFb t a σ) (wFb t a) (fun r u => r = σ 403 b ∧ u = σ) := by
  intro A
  refine Met.ofW (cc := b_Sr_setOf) (maxL := 2) (ret := (some .int)) (by decide) rfl ?_
  intro p e s m args below meth c s₁ B hml hv
  obtain ⟨rfl, hK, hP, hD⟩ := hv
  have hx := B.exec
  have hb := B.bytes
  have hr := B.returns
  have hts := atoms_spec (ws := .code y_Sr_setOf b_Sr_setOf 2 (some .int) :: gBig) B.pre
  have hown : s.vm.findClass R_Sr = some m.cls := findClass_of_methodNamed B.named
  have hlocks := B.notSynchronized
  have hS : va_S A s.heap s.heap [] := va_S.rf
  have hl := lv_entry ([.ref (a 499), .int (nI b)]) (n := 2) (Nat.le_of_ble_eq_true rfl)
  rw [lg_entry_eq]
  generalize (lg_sl ([.ref (a 499), .int (nI b)]) ++ List.replicate (2 - (lg_sl ([.ref (a 499), .int (nI b)])).length) Slot.unset).toArray = ls at hl ⊢
  have hl : lv_has ls 2 [(0, .ref (a 499)), (1, .int (nI b))] := hl
  show gGo l p e s m below meth c D t A 0 [.ref (a 499), .int (nI b)] (wFb t a) (fun r u => r = σ 403 b ∧ u = σ) s.heap [] (F0 m 0 ls [])
  refine lv_aload_n hx hb d_Sr_setOf_0 rfl (lv_at hl 0 rfl) ?_
  refine va_get (D := D) (ci := 4) (v := .ref (a 403)) (C := R_Sr) (T := F_Sr) (N := 8) hx hb hts (fun w h => List.mem_cons_of_mem _ (i_Sr w h)) hown hK.1 hP 4 (wFb_o4 t a σ) rfl 3 (by decide) (hts (.fieldLink R_Sr 21 "FlatBoxes$Search" "bestSets" "[I") (List.mem_cons_of_mem _ (gIn k_162 (by decide +kernel)))) (fun _ h9 => h9) rfl d_Sr_setOf_1 ?_
  refine lv_iload_n hx hb d_Sr_setOf_4 rfl (lv_at hl 1 rfl) ?_
  refine g_iald hx hb hK.1 hP 30 0 (wFb_403 t a σ) rfl b (rfl) (by omega) (by decide) d_Sr_setOf_5 ?_
  exact W.iret (v := σ 403 b) hx hb hr (fun U hU hW => ⟨⟨σ 403 b, σ, rfl, by exact ⟨rfl, rfl⟩, by rw [hU]; exact hP, hD⟩, hS.F hU⟩) hS.2.2 d_Sr_setOf_6
set_option maxHeartbeats 4000000 in
set_option maxRecDepth 100000 in
theorem c_Sr_cartonFor (l : Launch) (D : va_G) (t : Nat → ClassId) (a : Nat → Nat) (σ : Nat → Nat → Int32) (b sx1 : Nat) (hb8 : b < 8) (hsx : σ 403 b = nI sx1) (hs2 : sx1 < 256) : gMi l D t y_Sr_cartonFor b_Sr_cartonFor 2 (some .int) 0 [.ref (a 499), .int (nI b)] (wFb t a σ) (wFb t a) (fun r u => r = σ 400 sx1 ∧ u = σ) := by
  intro A
  refine Met.ofW (cc := b_Sr_cartonFor) (maxL := 2) (ret := (some .int)) (by decide) rfl ?_
  intro p e s m args below meth c s₁ B hml hv
  obtain ⟨rfl, hK, hP, hD⟩ := hv
  have hx := B.exec
  have hb := B.bytes
  have hr := B.returns
  have hts := atoms_spec (ws := .code y_Sr_cartonFor b_Sr_cartonFor 2 (some .int) :: gBig) B.pre
  have hown : s.vm.findClass R_Sr = some m.cls := findClass_of_methodNamed B.named
  have hlocks := B.notSynchronized
  have hS : va_S A s.heap s.heap [] := va_S.rf
  have hl := lv_entry ([.ref (a 499), .int (nI b)]) (n := 2) (Nat.le_of_ble_eq_true rfl)
  rw [lg_entry_eq]
  generalize (lg_sl ([.ref (a 499), .int (nI b)]) ++ List.replicate (2 - (lg_sl ([.ref (a 499), .int (nI b)])).length) Slot.unset).toArray = ls at hl ⊢
  have hl : lv_has ls 2 [(0, .ref (a 499)), (1, .int (nI b))] := hl
  show gGo l p e s m below meth c D t A 0 [.ref (a 499), .int (nI b)] (wFb t a) (fun r u => r = σ 400 sx1 ∧ u = σ) s.heap [] (F0 m 0 ls [])
  refine lv_aload_n hx hb d_Sr_cartonFor_0 rfl (lv_at hl 0 rfl) ?_
  refine va_get (D := D) (ci := 4) (v := .ref (a 400)) (C := R_Sr) (T := F_Sr) (N := 8) hx hb hts (fun w h => List.mem_cons_of_mem _ (i_Sr w h)) hown hK.1 hP 4 (wFb_o4 t a σ) rfl 0 (by decide) (hts (.fieldLink R_Sr 9 "FlatBoxes$Search" "cartonOf" "[I") (List.mem_cons_of_mem _ (gIn k_159 (by decide +kernel)))) (fun _ h9 => h9) rfl d_Sr_cartonFor_1 ?_
  refine lv_aload_n hx hb d_Sr_cartonFor_4 rfl (lv_at hl 0 rfl) ?_
  refine va_get (D := D) (ci := 4) (v := .ref (a 403)) (C := R_Sr) (T := F_Sr) (N := 8) hx hb hts (fun w h => List.mem_cons_of_mem _ (i_Sr w h)) hown hK.1 hP 4 (wFb_o4 t a σ) rfl 3 (by decide) (hts (.fieldLink R_Sr 21 "FlatBoxes$Search" "bestSets" "[I") (List.mem_cons_of_mem _ (gIn k_162 (by decide +kernel)))) (fun _ h9 => h9) rfl d_Sr_cartonFor_5 ?_
  refine lv_iload_n hx hb d_Sr_cartonFor_8 rfl (lv_at hl 1 rfl) ?_
  refine g_iald hx hb hK.1 hP 30 0 (wFb_403 t a σ) rfl b (rfl) (by omega) (by decide) d_Sr_cartonFor_9 ?_
  refine lv_topi (fun v_1 e_1 => ?_)
  obtain rfl : nI sx1 = v_1 := (e_1.trans (hsx)).symm
  refine g_iald hx hb hK.1 hP 27 0 (wFb_400 t a σ) rfl sx1 (rfl) (by omega) (by decide) d_Sr_cartonFor_10 ?_
  exact W.iret (v := σ 400 sx1) hx hb hr (fun U hU hW => ⟨⟨σ 400 sx1, σ, rfl, by exact ⟨rfl, rfl⟩, by rw [hU]; exact hP, hD⟩, hS.F hU⟩) hS.2.2 d_Sr_cartonFor_11
set_option maxHeartbeats 4000000 in
set_option maxRecDepth 100000 in
theorem c_Sr_compareWithBest (l : Launch) (D : va_G) (t : Nat → ClassId) (a : Nat → Nat) (σ : Nat → Nat → Int32) (bx : Nat) (hbx : bx ≤ 8) (sx : Nat → Nat) (hsx : ∀ b, b < bx → σ 402 b = nI (sx b) ∧ sx b < 256) : gMv l D t y_Sr_compareWithBest b_Sr_compareWithBest 4 1 [.ref (a 499), .int (nI bx)] (wFb t a σ) (wFb t a) (fun u => u = fCmp σ sx bx) := by
  intro A
  refine Met.ofW (cc := b_Sr_compareWithBest) (maxL := 4) (ret := none) (by decide) rfl ?_
  intro p e s m args below meth c s₁ B hml hv
  obtain ⟨rfl, hK, hP, hD⟩ := hv
  have hx := B.exec
  have hb := B.bytes
  have hr := B.returns
  have hts := atoms_spec (ws := .code y_Sr_compareWithBest b_Sr_compareWithBest 4 none :: gBig) B.pre
  have hown : s.vm.findClass R_Sr = some m.cls := findClass_of_methodNamed B.named
  have hlocks := B.notSynchronized
  have hS : va_S A s.heap s.heap [] := va_S.rf
  have hl := lv_entry ([.ref (a 499), .int (nI bx)]) (n := 4) (Nat.le_of_ble_eq_true rfl)
  rw [lg_entry_eq]
  generalize (lg_sl ([.ref (a 499), .int (nI bx)]) ++ List.replicate (4 - (lg_sl ([.ref (a 499), .int (nI bx)])).length) Slot.unset).toArray = ls at hl ⊢
  have hl : lv_has ls 4 [(0, .ref (a 499)), (1, .int (nI bx))] := hl
  show gGov l p e s m below meth c D t A 1 [.ref (a 499), .int (nI bx)] (wFb t a) (fun u => u = fCmp σ sx bx) s.heap [] (F0 m 0 ls [])
  have cut_4 : ∀ (n : Nat) (b : Nat) (pr : Int32) (H : Heap) (locs : List Loc) (ls : Array Slot), (b ≤ bx) → (bx + 1 ≤ b + n) → (pr = fPrice σ sx b) → va_P D gCl (wFb t a σ) H → va_D A (wFb t a σ) → va_S A s.heap H locs → lv_has ls 4 [(0, .ref (a 499)), (1, .int (nI bx)), (2, .int pr), (3, .int (nI b))] → gGov l p e s m below meth c D t A 1 [.ref (a 499), .int (nI bx)] (wFb t a) (fun u => u = fCmp σ sx bx) H locs (F0 m 4 ls []) := by
    intro n
    induction n with
    | zero =>
      intro b pr H locs ls hb1 hf hs hP hD hS hl
      exact absurd hf (by omega)
    | succ n ih =>
      intro b pr H locs ls hb1 hf hs hP hD hS hl
      refine lv_iload_n hx hb d_Sr_compareWithBest_4 rfl (lv_at hl 3 rfl) ?_
      refine lv_iload_n hx hb d_Sr_compareWithBest_5 rfl (lv_at hl 1 rfl) ?_
      refine lv_icmp_ge (tgt := 29) hx hb d_Sr_compareWithBest_6 (by decide) (fun c_1 => ?_) (fun c_1 => ?_)
      · 
        have h_1 : bx ≤ b := (nI_leI (a := bx) (b := b) (by omega) (by omega)).mp c_1
        refine lv_iload_n hx hb d_Sr_compareWithBest_29 rfl (lv_at hl 2 rfl) ?_
        refine lv_aload_n hx hb d_Sr_compareWithBest_30 rfl (lv_at hl 0 rfl) ?_
        refine va_get (D := D) (ci := 4) (v := .int (σ 406 0)) (C := R_Sr) (T := F_Sr) (N := 8) hx hb hts (fun w h => List.mem_cons_of_mem _ (i_Sr w h)) hown hK.1 hP 4 (wFb_o4 t a σ) rfl 6 (by decide) (hts (.fieldLink R_Sr 51 "FlatBoxes$Search" "bestPrice" "I") (List.mem_cons_of_mem _ (gIn k_165 (by decide +kernel)))) (fun _ h9 => h9) rfl d_Sr_compareWithBest_31 ?_
        refine lv_icmp_ge (tgt := 61) hx hb d_Sr_compareWithBest_34 (by decide) (fun c_2 => ?_) (fun c_2 => ?_)
        · 
          exact W.vret hx hb hr (fun U hU hW => ⟨⟨σ, rfl, by obtain rfl : b = bx := (by omega); subst hs; unfold fCmp; rw [if_pos (by assumption)], by rw [hU]; exact hP, hD⟩, hS.F hU⟩) hS.2.2 d_Sr_compareWithBest_61
        · 
          refine lv_aload_n hx hb d_Sr_compareWithBest_37 rfl (lv_at hl 0 rfl) ?_
          refine lv_iload_n hx hb d_Sr_compareWithBest_38 rfl (lv_at hl 2 rfl) ?_
          refine va_put (D := D) (ci := 4) (v := .int pr) (ty := .int) (C := R_Sr) (T := F_Sr) (N := 8) hx hb hts (fun w h => List.mem_cons_of_mem _ (i_Sr w h)) t_Sr t_Sr_ok n_Sr hown hK.1 hP hD hS 4 (wFb_o4 t a σ) rfl 6 (by decide) (hts (.fieldLink R_Sr 51 "FlatBoxes$Search" "bestPrice" "I") (List.mem_cons_of_mem _ (gIn k_165 (by decide +kernel)))) (fun _ h9 => h9) rfl (by decide +kernel) rfl rfl (Nat.le_of_ble_eq_true rfl) d_Sr_compareWithBest_39 (fun H locs hP hD hS => ?_)
          have hP : va_P D gCl (wFb t a (gSt σ 406 0 pr)) H := hP
          have hD : va_D A (wFb t a (gSt σ 406 0 pr)) := hD
          refine lv_aload_n hx hb d_Sr_compareWithBest_42 rfl (lv_at hl 0 rfl) ?_
          refine lv_iload_n hx hb d_Sr_compareWithBest_43 rfl (lv_at hl 1 rfl) ?_
          refine va_put (D := D) (ci := 4) (v := .int (nI bx)) (ty := .int) (C := R_Sr) (T := F_Sr) (N := 8) hx hb hts (fun w h => List.mem_cons_of_mem _ (i_Sr w h)) t_Sr t_Sr_ok n_Sr hown hK.1 hP hD hS 4 (wFb_o4 t a (gSt σ 406 0 pr)) rfl 7 (by decide) (hts (.fieldLink R_Sr 54 "FlatBoxes$Search" "bestBoxes" "I") (List.mem_cons_of_mem _ (gIn k_166 (by decide +kernel)))) (fun _ h9 => h9) rfl (by decide +kernel) rfl rfl (Nat.le_of_ble_eq_true rfl) d_Sr_compareWithBest_44 (fun H locs hP hD hS => ?_)
          have hP : va_P D gCl (wFb t a (gSt (gSt σ 406 0 pr) 407 0 (nI bx))) H := hP
          have hD : va_D A (wFb t a (gSt (gSt σ 406 0 pr) 407 0 (nI bx))) := hD
          refine lv_aload_n hx hb d_Sr_compareWithBest_47 rfl (lv_at hl 0 rfl) ?_
          refine va_get (D := D) (ci := 4) (v := .ref (a 402)) (C := R_Sr) (T := F_Sr) (N := 8) hx hb hts (fun w h => List.mem_cons_of_mem _ (i_Sr w h)) hown hK.1 hP 4 (wFb_o4 t a (gSt (gSt σ 406 0 pr) 407 0 (nI bx))) rfl 2 (by decide) (hts (.fieldLink R_Sr 18 "FlatBoxes$Search" "sets" "[I") (List.mem_cons_of_mem _ (gIn k_161 (by decide +kernel)))) (fun _ h9 => h9) rfl d_Sr_compareWithBest_48 ?_
          refine lv_iconst (v := 0) hx hb d_Sr_compareWithBest_51 (by decide) ?_
          refine lv_aload_n hx hb d_Sr_compareWithBest_52 rfl (lv_at hl 0 rfl) ?_
          refine va_get (D := D) (ci := 4) (v := .ref (a 403)) (C := R_Sr) (T := F_Sr) (N := 8) hx hb hts (fun w h => List.mem_cons_of_mem _ (i_Sr w h)) hown hK.1 hP 4 (wFb_o4 t a (gSt (gSt σ 406 0 pr) 407 0 (nI bx))) rfl 3 (by decide) (hts (.fieldLink R_Sr 21 "FlatBoxes$Search" "bestSets" "[I") (List.mem_cons_of_mem _ (gIn k_162 (by decide +kernel)))) (fun _ h9 => h9) rfl d_Sr_compareWithBest_53 ?_
          refine lv_iconst (v := 0) hx hb d_Sr_compareWithBest_56 (by decide) ?_
          refine lv_iload_n hx hb d_Sr_compareWithBest_57 rfl (lv_at hl 1 rfl) ?_
          refine g_cpy hx hb (hml.trans hl.1.symm) hown (hts (.methodLink R_Sr 80 arraycopyName) (List.mem_cons_of_mem _ (gIn k_330 (by decide +kernel)))) (hts (.native arraycopyName) (List.mem_cons_of_mem _ (gIn k_332 (by decide +kernel)))) (hts (.static arraycopyName) (List.mem_cons_of_mem _ (gIn k_331 (by decide +kernel)))) (hts (.initialized "java/lang/System") (List.mem_cons_of_mem _ (gIn k_16 (by decide +kernel)))) hK.1 hP hD hS 29 30 0 0 (wFb_402 t a (gSt (gSt σ 406 0 pr) 407 0 (nI bx))) (wFb_403 t a (gSt (gSt σ 406 0 pr) 407 0 (nI bx))) rfl rfl rfl bx (by omega) (by omega) (by omega) (fun i hi => rfl) (Nat.le_of_ble_eq_true rfl) (Nat.le_of_ble_eq_true rfl) (w' := wFb t a (gUp (gSt (gSt σ 406 0 pr) 407 0 (nI bx)) 403 (va_cpy ((gSt (gSt σ 406 0 pr) 407 0 (nI bx)) 402) ((gSt (gSt σ 406 0 pr) 407 0 (nI bx)) 403) 0 0 bx))) rfl d_Sr_compareWithBest_58 (fun H locs hP hD hS => ?_)
          exact W.vret hx hb hr (fun U hU hW => ⟨⟨gUp (gSt (gSt σ 406 0 pr) 407 0 (nI bx)) 403 (va_cpy ((gSt (gSt σ 406 0 pr) 407 0 (nI bx)) 402) ((gSt (gSt σ 406 0 pr) 407 0 (nI bx)) 403) 0 0 bx), rfl, by obtain rfl : b = bx := (by omega); subst hs; unfold fCmp; rw [if_neg (by assumption)]; rfl, by rw [hU]; exact hP, hD⟩, hS.F hU⟩) hS.2.2 d_Sr_compareWithBest_61
      · 
        have h_1 : ¬ bx ≤ b := fun q9 => c_1 ((nI_leI (a := bx) (b := b) (by omega) (by omega)).mpr q9)
        refine lv_iload_n hx hb d_Sr_compareWithBest_9 rfl (lv_at hl 2 rfl) ?_
        refine lv_aload_n hx hb d_Sr_compareWithBest_10 rfl (lv_at hl 0 rfl) ?_
        refine va_get (D := D) (ci := 4) (v := .ref (a 401)) (C := R_Sr) (T := F_Sr) (N := 8) hx hb hts (fun w h => List.mem_cons_of_mem _ (i_Sr w h)) hown hK.1 hP 4 (wFb_o4 t a σ) rfl 1 (by decide) (hts (.fieldLink R_Sr 15 "FlatBoxes$Search" "priceOf" "[I") (List.mem_cons_of_mem _ (gIn k_160 (by decide +kernel)))) (fun _ h9 => h9) rfl d_Sr_compareWithBest_11 ?_
        refine lv_aload_n hx hb d_Sr_compareWithBest_14 rfl (lv_at hl 0 rfl) ?_
        refine va_get (D := D) (ci := 4) (v := .ref (a 402)) (C := R_Sr) (T := F_Sr) (N := 8) hx hb hts (fun w h => List.mem_cons_of_mem _ (i_Sr w h)) hown hK.1 hP 4 (wFb_o4 t a σ) rfl 2 (by decide) (hts (.fieldLink R_Sr 18 "FlatBoxes$Search" "sets" "[I") (List.mem_cons_of_mem _ (gIn k_161 (by decide +kernel)))) (fun _ h9 => h9) rfl d_Sr_compareWithBest_15 ?_
        refine lv_iload_n hx hb d_Sr_compareWithBest_18 rfl (lv_at hl 3 rfl) ?_
        refine g_iald hx hb hK.1 hP 29 0 (wFb_402 t a σ) rfl b (rfl) (by omega) (by decide) d_Sr_compareWithBest_19 ?_
        refine lv_topi (fun v_3 e_3 => ?_)
        obtain rfl : nI (sx b) = v_3 := (e_3.trans ((hsx b (by omega)).1)).symm
        have hs256 := (hsx b (by omega)).2
        refine g_iald hx hb hK.1 hP 28 0 (wFb_401 t a σ) rfl (sx b) (rfl) (by omega) (by decide) d_Sr_compareWithBest_20 ?_
        refine lv_iadd hx hb d_Sr_compareWithBest_21 ?_
        refine lv_istore_n (lv' := [(2, .int (pr + (σ 401 (sx b)))), (0, .ref (a 499)), (1, .int (nI bx)), (3, .int (nI b))]) hx hb d_Sr_compareWithBest_22 rfl hl (by decide) rfl (fun ls hl => ?_)
        refine lv_iinc (v := nI (b + 1)) (lv' := [(3, .int (nI (b + 1))), (2, .int (pr + (σ 401 (sx b)))), (0, .ref (a 499)), (1, .int (nI bx))]) hx hb d_Sr_compareWithBest_23 hl (k := 3) rfl (nI_1 b) (by decide) rfl (fun ls hl => ?_)
        refine lv_goto (tgt := 4) hx hb d_Sr_compareWithBest_26 (by decide) ?_
        exact ih (b + 1) (pr + (σ 401 (sx b))) _ _ _ (by omega) (by omega) (by rw [hs]; rfl) hP hD hS (lv_sub hl [2, 3, 1, 0] rfl)
  refine lv_iconst (v := 0) hx hb d_Sr_compareWithBest_0 (by decide) ?_
  refine lv_istore_n (lv' := [(2, .int 0), (0, .ref (a 499)), (1, .int (nI bx))]) hx hb d_Sr_compareWithBest_1 rfl hl (by decide) rfl (fun ls hl => ?_)
  refine lv_iconst (v := 0) hx hb d_Sr_compareWithBest_2 (by decide) ?_
  refine lv_istore_n (lv' := [(3, .int 0), (2, .int 0), (0, .ref (a 499)), (1, .int (nI bx))]) hx hb d_Sr_compareWithBest_3 rfl hl (by decide) rfl (fun ls hl => ?_)
  exact cut_4 (bx + 1) 0 0 _ _ _ (by omega) (by omega) (rfl) hP hD hS (lv_sub hl [2, 3, 1, 0] rfl)
set_option maxHeartbeats 4000000 in
set_option maxRecDepth 100000 in
theorem c_Sr_chooseCarton (l : Launch) (D : va_G) (t : Nat → ClassId) (a : Nat → Nat) (σ : Nat → Nat → Int32) (st nc : Nat) (hst : st < 256) (hC : σ 105 0 = nI nc) (hC4 : nc ≤ 4) (np : Nat) (hN : σ 308 0 = nI np) (hN8 : np ≤ 8) (bt : Nat → Nat) (hbt : ∀ k, k < np → σ 306 k = nI (bt k) ∧ bt k < 8) : gMv l D t y_Sr_chooseCarton b_Sr_chooseCarton 7 4 [.ref (a 499), .ref (a 199), .ref (a 399), .ref (a 299), .int (nI st)] (wFb t a σ) (wFb t a) (fun u => u = fCh σ bt st np nc) := by
  intro A
  refine Met.ofW (cc := b_Sr_chooseCarton) (maxL := 7) (ret := none) (by decide) rfl ?_
  intro p e s m args below meth c s₁ B hml hv
  obtain ⟨rfl, hK, hP, hD⟩ := hv
  have hx := B.exec
  have hb := B.bytes
  have hr := B.returns
  have hts := atoms_spec (ws := .code y_Sr_chooseCarton b_Sr_chooseCarton 7 none :: gBig) B.pre
  have hown : s.vm.findClass R_Sr = some m.cls := findClass_of_methodNamed B.named
  have hlocks := B.notSynchronized
  have hS : va_S A s.heap s.heap [] := va_S.rf
  have hl := lv_entry ([.ref (a 499), .ref (a 199), .ref (a 399), .ref (a 299), .int (nI st)]) (n := 7) (Nat.le_of_ble_eq_true rfl)
  rw [lg_entry_eq]
  generalize (lg_sl ([.ref (a 499), .ref (a 199), .ref (a 399), .ref (a 299), .int (nI st)]) ++ List.replicate (7 - (lg_sl ([.ref (a 499), .ref (a 199), .ref (a 399), .ref (a 299), .int (nI st)])).length) Slot.unset).toArray = ls at hl ⊢
  have hl : lv_has ls 7 [(0, .ref (a 499)), (1, .ref (a 199)), (2, .ref (a 399)), (3, .ref (a 299)), (4, .int (nI st))] := hl
  show gGov l p e s m below meth c D t A 4 [.ref (a 499), .ref (a 199), .ref (a 399), .ref (a 299), .int (nI st)] (wFb t a) (fun u => u = fCh σ bt st np nc) s.heap [] (F0 m 0 ls [])
  have cut_20 : ∀ (n : Nat) (c1 : Nat) (τ : Nat → Nat → Int32) (H : Heap) (locs : List Loc) (ls : Array Slot), (c1 ≤ nc) → (nc + 1 ≤ c1 + n) → (fCh σ bt st np c1 = τ) → (∀ i, (i ≤ 200 ∨ 208 < i) → i ≠ 400 → i ≠ 401 → τ i = σ i) → va_P D gCl (wFb t a τ) H → va_D A (wFb t a τ) → va_S A s.heap H locs → lv_has ls 7 [(0, .ref (a 499)), (1, .ref (a 199)), (2, .ref (a 399)), (3, .ref (a 299)), (4, .int (nI st)), (5, .int (nI c1))] → gGov l p e s m below meth c D t A 4 [.ref (a 499), .ref (a 199), .ref (a 399), .ref (a 299), .int (nI st)] (wFb t a) (fun u => u = fCh σ bt st np nc) H locs (F0 m 20 ls []) := by
    intro n
    induction n with
    | zero =>
      intro c1 τ H locs ls hc1 hf hs hfix hP hD hS hl
      exact absurd hf (by omega)
    | succ n ih =>
      intro c1 τ H locs ls hc1 hf hs hfix hP hD hS hl
      refine lv_iload hx hb d_Sr_chooseCarton_20 (lv_at hl 5 rfl) ?_
      refine lv_aload_n hx hb d_Sr_chooseCarton_22 rfl (lv_at hl 1 rfl) ?_
      refine va_get (D := D) (ci := 1) (v := .int (τ 105 0)) (C := R_Ct) (T := F_Ct) (N := 6) hx hb hts (fun w h => List.mem_cons_of_mem _ (i_Ct w h)) hown hK.1 hP 1 (wFb_o1 t a τ) rfl 5 (by decide) (hts (.fieldLink R_Sr 61 "FlatBoxes$Cartons" "count" "I") (List.mem_cons_of_mem _ (gIn k_48 (by decide +kernel)))) (fun _ h9 => h9) rfl d_Sr_chooseCarton_23 ?_
      refine lv_topi (fun v_1 e_1 => ?_)
      obtain rfl : nI nc = v_1 := (e_1.trans ((congrFun (hfix 105 (by omega) (by omega) (by omega)) 0).trans hC)).symm
      refine lv_icmp_ge (tgt := 92) hx hb d_Sr_chooseCarton_26 (by decide) (fun c_2 => ?_) (fun c_2 => ?_)
      · 
        have h_2 : nc ≤ c1 := (nI_leI (a := nc) (b := c1) (by omega) (by omega)).mp c_2
        exact W.vret hx hb hr (fun U hU hW => ⟨⟨τ, rfl, by obtain rfl : c1 = nc := (by omega); exact hs.symm, by rw [hU]; exact hP, hD⟩, hS.F hU⟩) hS.2.2 d_Sr_chooseCarton_92
      · 
        have h_2 : ¬ nc ≤ c1 := fun q9 => c_2 ((nI_leI (a := nc) (b := c1) (by omega) (by omega)).mpr q9)
        refine lv_aload_n hx hb d_Sr_chooseCarton_29 rfl (lv_at hl 1 rfl) ?_
        refine va_get (D := D) (ci := 1) (v := .ref (a 103)) (C := R_Ct) (T := F_Ct) (N := 6) hx hb hts (fun w h => List.mem_cons_of_mem _ (i_Ct w h)) hown hK.1 hP 1 (wFb_o1 t a τ) rfl 3 (by decide) (hts (.fieldLink R_Sr 64 "FlatBoxes$Cartons" "cents" "[I") (List.mem_cons_of_mem _ (gIn k_42 (by decide +kernel)))) (fun _ h9 => h9) rfl d_Sr_chooseCarton_30 ?_
        refine lv_iload hx hb d_Sr_chooseCarton_33 (lv_at hl 5 rfl) ?_
        refine g_iald hx hb hK.1 hP 10 0 (wFb_103 t a τ) rfl c1 (rfl) (by omega) (by decide) d_Sr_chooseCarton_35 ?_
        refine lv_bipush (v := 9) hx hb d_Sr_chooseCarton_36 (by decide) ?_
        refine lv_imul hx hb d_Sr_chooseCarton_38 ?_
        refine lv_iconst (v := 1) hx hb d_Sr_chooseCarton_39 (by decide) ?_
        refine lv_iadd hx hb d_Sr_chooseCarton_40 ?_
        refine lv_istore (lv' := [(6, .int (((τ 103 c1) * 9) + 1)), (0, .ref (a 499)), (1, .ref (a 199)), (2, .ref (a 399)), (3, .ref (a 299)), (4, .int (nI st)), (5, .int (nI c1))]) hx hb d_Sr_chooseCarton_41 hl (by decide) rfl (fun ls hl => ?_)
        refine lv_iload hx hb d_Sr_chooseCarton_43 (lv_at hl 0 rfl) ?_
        refine lv_aload_n hx hb d_Sr_chooseCarton_45 rfl (lv_at hl 1 rfl) ?_
        refine va_get (D := D) (ci := 4) (v := .ref (a 401)) (C := R_Sr) (T := F_Sr) (N := 8) hx hb hts (fun w h => List.mem_cons_of_mem _ (i_Sr w h)) hown hK.1 hP 4 (wFb_o4 t a τ) rfl 1 (by decide) (hts (.fieldLink R_Sr 15 "FlatBoxes$Search" "priceOf" "[I") (List.mem_cons_of_mem _ (gIn k_160 (by decide +kernel)))) (fun _ h9 => h9) rfl d_Sr_chooseCarton_46 ?_
        refine lv_iload hx hb d_Sr_chooseCarton_49 (lv_at hl 5 rfl) ?_
        refine g_iald hx hb hK.1 hP 28 0 (wFb_401 t a τ) rfl st (rfl) (by omega) (by decide) d_Sr_chooseCarton_51 ?_
        refine lv_icmp_ge (tgt := 86) hx hb d_Sr_chooseCarton_52 (by decide) (fun c_3 => ?_) (fun c_3 => ?_)
        · 
          refine lv_iinc (v := nI (c1 + 1)) (lv' := [(5, .int (nI (c1 + 1))), (6, .int (((τ 103 c1) * 9) + 1)), (0, .ref (a 499)), (1, .ref (a 199)), (2, .ref (a 399)), (3, .ref (a 299)), (4, .int (nI st))]) hx hb d_Sr_chooseCarton_86 hl (k := 6) rfl (nI_1 c1) (by decide) rfl (fun ls hl => ?_)
          refine lv_goto (tgt := 20) hx hb d_Sr_chooseCarton_89 (by decide) ?_
          exact ih (c1 + 1) τ _ _ _ (by omega) (by omega) (by simp [fCh, hs, c_2, h_2, c_3]) (by first | exact hfix | exact fun i h1 h2 h3 => (fHeldU_fix _ _ _ _ _ h1).trans (hfix i h1 h2 h3) | exact fun i h1 h2 h3 => (gSt_ne _ _ _ _ h3).trans ((gSt_ne _ _ _ _ h2).trans ((fHeldU_fix _ _ _ _ _ h1).trans (hfix i h1 h2 h3)))) hP hD hS (lv_sub hl [2, 3, 4, 5, 6, 0] rfl)
        · 
          refine lv_aload_n hx hb d_Sr_chooseCarton_55 rfl (lv_at hl 4 rfl) ?_
          refine lv_aload_n hx hb d_Sr_chooseCarton_56 rfl (lv_at hl 2 rfl) ?_
          refine lv_iload hx hb d_Sr_chooseCarton_57 (lv_at hl 6 rfl) ?_
          refine lv_aload_n hx hb d_Sr_chooseCarton_59 rfl (lv_at hl 3 rfl) ?_
          refine lv_iload hx hb d_Sr_chooseCarton_60 (lv_at hl 5 rfl) ?_
          refine g_vi (k := 4) (As := [.ref (a 199), .int (nI c1), .ref (a 399), .int (nI st)]) (rest := []) (own := R_Sr) (C := R_Pk) (index := 67) ⟨hx, hb, hml, hown, hts⟩ (c_Pk_isHeldBy l D t a τ (nI st) c1 (by omega) np ((congrFun (hfix 308 (by omega) (by omega) (by omega)) 0).trans hN) hN8 bt (fun k hk => ⟨(congrFun (hfix 306 (by omega) (by omega) (by omega)) k).trans (hbt k hk).1, (hbt k hk).2⟩)) (gg_Sr_67 _) (by decide +kernel) ⟨Nat.le_of_ble_eq_true rfl, Nat.le_of_ble_eq_true rfl⟩ rfl (va_recv hK.1 hP (ci := 2) (q0 := 3) rfl (wFb_o2 t a τ)) hK hP hD hS hl.1 rfl (Nat.le_of_ble_eq_true rfl) ⟨Nat.zero_le _, Nat.zero_le _⟩ d_Sr_chooseCarton_62 (fun r_4 u_4 H locs q_4 hP hD hS => ?_)
          obtain ⟨rfl, hu_4⟩ := q_4
          rw [hu_4] at hP hD
          refine lv_if_eq (tgt := 86) hx hb d_Sr_chooseCarton_65 (by decide) (fun c_5 => ?_) (fun c_5 => ?_)
          · 
            refine lv_iinc (v := nI (c1 + 1)) (lv' := [(5, .int (nI (c1 + 1))), (6, .int (((τ 103 c1) * 9) + 1)), (0, .ref (a 499)), (1, .ref (a 199)), (2, .ref (a 399)), (3, .ref (a 299)), (4, .int (nI st))]) hx hb d_Sr_chooseCarton_86 hl (k := 6) rfl (nI_1 c1) (by decide) rfl (fun ls hl => ?_)
            refine lv_goto (tgt := 20) hx hb d_Sr_chooseCarton_89 (by decide) ?_
            exact ih (c1 + 1) (fHeldU τ bt (nI st) c1 np) _ _ _ (by omega) (by omega) (by simp [fCh, hs, c_2, h_2, c_3, c_5]) (by first | exact hfix | exact fun i h1 h2 h3 => (fHeldU_fix _ _ _ _ _ h1).trans (hfix i h1 h2 h3) | exact fun i h1 h2 h3 => (gSt_ne _ _ _ _ h3).trans ((gSt_ne _ _ _ _ h2).trans ((fHeldU_fix _ _ _ _ _ h1).trans (hfix i h1 h2 h3)))) hP hD hS (lv_sub hl [2, 3, 4, 5, 6, 0] rfl)
          · 
            refine lv_aload_n hx hb d_Sr_chooseCarton_68 rfl (lv_at hl 1 rfl) ?_
            refine va_get (D := D) (ci := 4) (v := .ref (a 400)) (C := R_Sr) (T := F_Sr) (N := 8) hx hb hts (fun w h => List.mem_cons_of_mem _ (i_Sr w h)) hown hK.1 hP 4 (wFb_o4 t a (fHeldU τ bt (nI st) c1 np)) rfl 0 (by decide) (hts (.fieldLink R_Sr 9 "FlatBoxes$Search" "cartonOf" "[I") (List.mem_cons_of_mem _ (gIn k_159 (by decide +kernel)))) (fun _ h9 => h9) rfl d_Sr_chooseCarton_69 ?_
            refine lv_iload hx hb d_Sr_chooseCarton_72 (lv_at hl 5 rfl) ?_
            refine lv_iload hx hb d_Sr_chooseCarton_74 (lv_at hl 6 rfl) ?_
            refine g_iast hx hb hK.1 hP hD hS 27 0 (wFb_400 t a (fHeldU τ bt (nI st) c1 np)) rfl st (rfl) (by omega) (by decide) (w' := wFb t a (gSt (fHeldU τ bt (nI st) c1 np) 400 st (nI c1))) (sFb_400 t a (fHeldU τ bt (nI st) c1 np) st (nI c1)) d_Sr_chooseCarton_76 (fun H locs hP hD hS => ?_)
            refine lv_aload_n hx hb d_Sr_chooseCarton_77 rfl (lv_at hl 1 rfl) ?_
            refine va_get (D := D) (ci := 4) (v := .ref (a 401)) (C := R_Sr) (T := F_Sr) (N := 8) hx hb hts (fun w h => List.mem_cons_of_mem _ (i_Sr w h)) hown hK.1 hP 4 (wFb_o4 t a (gSt (fHeldU τ bt (nI st) c1 np) 400 st (nI c1))) rfl 1 (by decide) (hts (.fieldLink R_Sr 15 "FlatBoxes$Search" "priceOf" "[I") (List.mem_cons_of_mem _ (gIn k_160 (by decide +kernel)))) (fun _ h9 => h9) rfl d_Sr_chooseCarton_78 ?_
            refine lv_iload hx hb d_Sr_chooseCarton_81 (lv_at hl 5 rfl) ?_
            refine lv_iload hx hb d_Sr_chooseCarton_83 (lv_at hl 0 rfl) ?_
            refine g_iast hx hb hK.1 hP hD hS 28 0 (wFb_401 t a (gSt (fHeldU τ bt (nI st) c1 np) 400 st (nI c1))) rfl st (rfl) (by omega) (by decide) (w' := wFb t a (gSt (gSt (fHeldU τ bt (nI st) c1 np) 400 st (nI c1)) 401 st (((τ 103 c1) * 9) + 1))) (sFb_401 t a (gSt (fHeldU τ bt (nI st) c1 np) 400 st (nI c1)) st (((τ 103 c1) * 9) + 1)) d_Sr_chooseCarton_85 (fun H locs hP hD hS => ?_)
            refine lv_iinc (v := nI (c1 + 1)) (lv' := [(5, .int (nI (c1 + 1))), (6, .int (((τ 103 c1) * 9) + 1)), (0, .ref (a 499)), (1, .ref (a 199)), (2, .ref (a 399)), (3, .ref (a 299)), (4, .int (nI st))]) hx hb d_Sr_chooseCarton_86 hl (k := 6) rfl (nI_1 c1) (by decide) rfl (fun ls hl => ?_)
            refine lv_goto (tgt := 20) hx hb d_Sr_chooseCarton_89 (by decide) ?_
            exact ih (c1 + 1) (gSt (gSt (fHeldU τ bt (nI st) c1 np) 400 st (nI c1)) 401 st (((τ 103 c1) * 9) + 1)) _ _ _ (by omega) (by omega) (by simp [fCh, hs, c_2, h_2, c_3, c_5]) (by first | exact hfix | exact fun i h1 h2 h3 => (fHeldU_fix _ _ _ _ _ h1).trans (hfix i h1 h2 h3) | exact fun i h1 h2 h3 => (gSt_ne _ _ _ _ h3).trans ((gSt_ne _ _ _ _ h2).trans ((fHeldU_fix _ _ _ _ _ h1).trans (hfix i h1 h2 h3)))) hP hD hS (lv_sub hl [2, 3, 4, 5, 6, 0] rfl)
  refine lv_aload_n hx hb d_Sr_chooseCarton_0 rfl (lv_at hl 0 rfl) ?_
  refine va_get (D := D) (ci := 4) (v := .ref (a 400)) (C := R_Sr) (T := F_Sr) (N := 8) hx hb hts (fun w h => List.mem_cons_of_mem _ (i_Sr w h)) hown hK.1 hP 4 (wFb_o4 t a σ) rfl 0 (by decide) (hts (.fieldLink R_Sr 9 "FlatBoxes$Search" "cartonOf" "[I") (List.mem_cons_of_mem _ (gIn k_159 (by decide +kernel)))) (fun _ h9 => h9) rfl d_Sr_chooseCarton_1 ?_
  refine lv_iload hx hb d_Sr_chooseCarton_4 (lv_at hl 4 rfl) ?_
  refine lv_iconst (v := -1) hx hb d_Sr_chooseCarton_6 (by decide) ?_
  refine g_iast hx hb hK.1 hP hD hS 27 0 (wFb_400 t a σ) rfl st (rfl) (by omega) (by decide) (w' := wFb t a (gSt σ 400 st (-1))) (sFb_400 t a σ st (-1)) d_Sr_chooseCarton_7 (fun H locs hP hD hS => ?_)
  refine lv_aload_n hx hb d_Sr_chooseCarton_8 rfl (lv_at hl 0 rfl) ?_
  refine va_get (D := D) (ci := 4) (v := .ref (a 401)) (C := R_Sr) (T := F_Sr) (N := 8) hx hb hts (fun w h => List.mem_cons_of_mem _ (i_Sr w h)) hown hK.1 hP 4 (wFb_o4 t a (gSt σ 400 st (-1))) rfl 1 (by decide) (hts (.fieldLink R_Sr 15 "FlatBoxes$Search" "priceOf" "[I") (List.mem_cons_of_mem _ (gIn k_160 (by decide +kernel)))) (fun _ h9 => h9) rfl d_Sr_chooseCarton_9 ?_
  refine lv_iload hx hb d_Sr_chooseCarton_12 (lv_at hl 4 rfl) ?_
  refine lv_ldc hx hb hown (hts (.constant R_Sr 33 7200009) (List.mem_cons_of_mem _ (gIn k_271 (by decide +kernel)))) d_Sr_chooseCarton_14 ?_
  refine g_iast hx hb hK.1 hP hD hS 28 0 (wFb_401 t a (gSt σ 400 st (-1))) rfl st (rfl) (by omega) (by decide) (w' := wFb t a (gSt (gSt σ 400 st (-1)) 401 st 7200009)) (sFb_401 t a (gSt σ 400 st (-1)) st 7200009) d_Sr_chooseCarton_16 (fun H locs hP hD hS => ?_)
  refine lv_iconst (v := 0) hx hb d_Sr_chooseCarton_17 (by decide) ?_
  refine lv_istore (lv' := [(5, .int 0), (0, .ref (a 499)), (1, .ref (a 199)), (2, .ref (a 399)), (3, .ref (a 299)), (4, .int (nI st))]) hx hb d_Sr_chooseCarton_18 hl (by decide) rfl (fun ls hl => ?_)
  exact cut_20 (nc + 1) 0 (gSt (gSt σ 400 st (-1)) 401 st 7200009) _ _ _ (by omega) (by omega) (rfl) (fun i h1 h2 h3 => (gSt_ne _ _ _ _ h3).trans (gSt_ne _ _ _ _ h2)) hP hD hS (lv_sub hl [1, 2, 3, 4, 5, 0] rfl)
set_option maxHeartbeats 4000000 in
set_option maxRecDepth 100000 in
theorem c_Sh_stackOnPallets (l : Launch) (D : va_G) (t : Nat → ClassId) (a : Nat → Nat) (σ : Nat → Nat → Int32) (lm : Int32) (nbx : Nat) (hB : σ 503 0 = nI nbx) (hB8 : nbx ≤ 8) : gMi l D t y_Sh_stackOnPallets b_Sh_stackOnPallets 6 (some .int) 0 [.ref (a 599), .int lm] (wFb t a σ) (wFb t a) (fun r u => r = (fPal (fun b => σ (1100 + b) 2) lm nbx).1 ∧ u = σ) := by
  intro A
  refine Met.ofW (cc := b_Sh_stackOnPallets) (maxL := 6) (ret := (some .int)) (by decide) rfl ?_
  intro p e s m args below meth c s₁ B hml hv
  obtain ⟨rfl, hK, hP, hD⟩ := hv
  have hx := B.exec
  have hb := B.bytes
  have hr := B.returns
  have hts := atoms_spec (ws := .code y_Sh_stackOnPallets b_Sh_stackOnPallets 6 (some .int) :: gBig) B.pre
  have hown : s.vm.findClass R_Sh = some m.cls := findClass_of_methodNamed B.named
  have hlocks := B.notSynchronized
  have hS : va_S A s.heap s.heap [] := va_S.rf
  have hl := lv_entry ([.ref (a 599), .int lm]) (n := 6) (Nat.le_of_ble_eq_true rfl)
  rw [lg_entry_eq]
  generalize (lg_sl ([.ref (a 599), .int lm]) ++ List.replicate (6 - (lg_sl ([.ref (a 599), .int lm])).length) Slot.unset).toArray = ls at hl ⊢
  have hl : lv_has ls 6 [(0, .ref (a 599)), (1, .int lm)] := hl
  show gGo l p e s m below meth c D t A 0 [.ref (a 599), .int lm] (wFb t a) (fun r u => r = (fPal (fun b => σ (1100 + b) 2) lm nbx).1 ∧ u = σ) s.heap [] (F0 m 0 ls [])
  have cut_7 : ∀ (n : Nat) (b : Nat) (pn : Int32) (th : Int32) (H : Heap) (locs : List Loc) (ls : Array Slot), (b ≤ nbx) → (nbx + 1 ≤ b + n) → (fPal (fun b => σ (1100 + b) 2) lm b = (pn, th)) → va_P D gCl (wFb t a σ) H → va_D A (wFb t a σ) → va_S A s.heap H locs → lv_has ls 6 [(0, .ref (a 599)), (1, .int lm), (2, .int pn), (3, .int th), (4, .int (nI b))] → gGo l p e s m below meth c D t A 0 [.ref (a 599), .int lm] (wFb t a) (fun r u => r = (fPal (fun b => σ (1100 + b) 2) lm nbx).1 ∧ u = σ) H locs (F0 m 7 ls []) := by
    intro n
    induction n with
    | zero =>
      intro b pn th H locs ls hb1 hf hs hP hD hS hl
      exact absurd hf (by omega)
    | succ n ih =>
      intro b pn th H locs ls hb1 hf hs hP hD hS hl
      refine lv_iload hx hb d_Sh_stackOnPallets_7 (lv_at hl 4 rfl) ?_
      refine lv_aload_n hx hb d_Sh_stackOnPallets_9 rfl (lv_at hl 0 rfl) ?_
      refine va_get (D := D) (ci := 5) (v := .int (σ 503 0)) (C := R_Sh) (T := F_Sh) (N := 5) hx hb hts (fun w h => List.mem_cons_of_mem _ (i_Sh w h)) hown hK.1 hP 5 (wFb_o5 t a σ) rfl 3 (by decide) (hts (.fieldLink R_Sh 19 "FlatBoxes$Shares" "boxes" "I") (List.mem_cons_of_mem _ (gIn k_198 (by decide +kernel)))) (fun _ h9 => h9) rfl d_Sh_stackOnPallets_10 ?_
      refine lv_topi (fun v_1 e_1 => ?_)
      obtain rfl : nI nbx = v_1 := (e_1.trans hB).symm
      refine lv_icmp_ge (tgt := 55) hx hb d_Sh_stackOnPallets_13 (by decide) (fun c_2 => ?_) (fun c_2 => ?_)
      · 
        have h_2 : nbx ≤ b := (nI_leI (a := nbx) (b := b) (by omega) (by omega)).mp c_2
        refine lv_iload_n hx hb d_Sh_stackOnPallets_55 rfl (lv_at hl 2 rfl) ?_
        exact W.iret (v := pn) hx hb hr (fun U hU hW => ⟨⟨pn, σ, rfl, by obtain rfl : b = nbx := (by omega); exact ⟨by rw [hs], rfl⟩, by rw [hU]; exact hP, hD⟩, hS.F hU⟩) hS.2.2 d_Sh_stackOnPallets_56
      · 
        have h_2 : ¬ nbx ≤ b := fun q9 => c_2 ((nI_leI (a := nbx) (b := b) (by omega) (by omega)).mpr q9)
        refine lv_aload_n hx hb d_Sh_stackOnPallets_16 rfl (lv_at hl 0 rfl) ?_
        refine va_get (D := D) (ci := 5) (v := .ref (a 501)) (C := R_Sh) (T := F_Sh) (N := 5) hx hb hts (fun w h => List.mem_cons_of_mem _ (i_Sh w h)) hown hK.1 hP 5 (wFb_o5 t a σ) rfl 1 (by decide) (hts (.fieldLink R_Sh 16 "FlatBoxes$Shares" "ofBox" "[[I") (List.mem_cons_of_mem _ (gIn k_194 (by decide +kernel)))) (fun _ h9 => h9) rfl d_Sh_stackOnPallets_17 ?_
        refine lv_iload hx hb d_Sh_stackOnPallets_20 (lv_at hl 4 rfl) ?_
        refine g_aald hx hb hK.1 hP 32 2 (wFb_501 t a σ) rfl b (rfl) (by omega) (by decide) rfl d_Sh_stackOnPallets_22 ?_
        refine lv_iconst (v := 2) hx hb d_Sh_stackOnPallets_23 (by decide) ?_
        refine g_iald hx hb hK.1 hP (47 + b) 0 (wFb_r1100 t a σ b (by omega)) rfl 2 (rfl) (by omega) (by decide) d_Sh_stackOnPallets_24 ?_
        refine lv_istore (lv' := [(5, .int (σ (1100 + b) 2)), (0, .ref (a 599)), (1, .int lm), (2, .int pn), (3, .int th), (4, .int (nI b))]) hx hb d_Sh_stackOnPallets_25 hl (by decide) rfl (fun ls hl => ?_)
        refine lv_iload_n hx hb d_Sh_stackOnPallets_27 rfl (lv_at hl 3 rfl) ?_
        refine lv_if_eq (tgt := 39) hx hb d_Sh_stackOnPallets_28 (by decide) (fun c_3 => ?_) (fun c_3 => ?_)
        · 
          refine lv_iinc (v := pn + 1) (lv' := [(2, .int (pn + 1)), (5, .int (σ (1100 + b) 2)), (0, .ref (a 599)), (1, .int lm), (3, .int th), (4, .int (nI b))]) hx hb d_Sh_stackOnPallets_39 hl (k := 3) rfl (rfl) (by decide) rfl (fun ls hl => ?_)
          refine lv_iconst (v := 0) hx hb d_Sh_stackOnPallets_42 (by decide) ?_
          refine lv_istore_n (lv' := [(3, .int 0), (2, .int (pn + 1)), (5, .int (σ (1100 + b) 2)), (0, .ref (a 599)), (1, .int lm), (4, .int (nI b))]) hx hb d_Sh_stackOnPallets_43 rfl hl (by decide) rfl (fun ls hl => ?_)
          refine lv_iload_n hx hb d_Sh_stackOnPallets_44 rfl (lv_at hl 0 rfl) ?_
          refine lv_iload hx hb d_Sh_stackOnPallets_45 (lv_at hl 2 rfl) ?_
          refine lv_iadd hx hb d_Sh_stackOnPallets_47 ?_
          refine lv_istore_n (lv' := [(3, .int (0 + (σ (1100 + b) 2))), (2, .int (pn + 1)), (5, .int (σ (1100 + b) 2)), (0, .ref (a 599)), (1, .int lm), (4, .int (nI b))]) hx hb d_Sh_stackOnPallets_48 rfl hl (by decide) rfl (fun ls hl => ?_)
          refine lv_iinc (v := nI (b + 1)) (lv' := [(4, .int (nI (b + 1))), (3, .int (0 + (σ (1100 + b) 2))), (2, .int (pn + 1)), (5, .int (σ (1100 + b) 2)), (0, .ref (a 599)), (1, .int lm)]) hx hb d_Sh_stackOnPallets_49 hl (k := 5) rfl (nI_1 b) (by decide) rfl (fun ls hl => ?_)
          refine lv_goto (tgt := 7) hx hb d_Sh_stackOnPallets_52 (by decide) ?_
          exact ih (b + 1) (pn + 1) (0 + (σ (1100 + b) 2)) _ _ _ (by omega) (by omega) (by simp [fPal, hs, c_2, h_2, c_3]) hP hD hS (lv_sub hl [4, 5, 2, 1, 0] rfl)
        · 
          refine lv_iload_n hx hb d_Sh_stackOnPallets_31 rfl (lv_at hl 4 rfl) ?_
          refine lv_iload hx hb d_Sh_stackOnPallets_32 (lv_at hl 0 rfl) ?_
          refine lv_iadd hx hb d_Sh_stackOnPallets_34 ?_
          refine lv_iload_n hx hb d_Sh_stackOnPallets_35 rfl (lv_at hl 2 rfl) ?_
          refine lv_icmp_le (tgt := 44) hx hb d_Sh_stackOnPallets_36 (by decide) (fun c_4 => ?_) (fun c_4 => ?_)
          · 
            refine lv_iload_n hx hb d_Sh_stackOnPallets_44 rfl (lv_at hl 4 rfl) ?_
            refine lv_iload hx hb d_Sh_stackOnPallets_45 (lv_at hl 0 rfl) ?_
            refine lv_iadd hx hb d_Sh_stackOnPallets_47 ?_
            refine lv_istore_n (lv' := [(3, .int (th + (σ (1100 + b) 2))), (5, .int (σ (1100 + b) 2)), (0, .ref (a 599)), (1, .int lm), (2, .int pn), (4, .int (nI b))]) hx hb d_Sh_stackOnPallets_48 rfl hl (by decide) rfl (fun ls hl => ?_)
            refine lv_iinc (v := nI (b + 1)) (lv' := [(4, .int (nI (b + 1))), (3, .int (th + (σ (1100 + b) 2))), (5, .int (σ (1100 + b) 2)), (0, .ref (a 599)), (1, .int lm), (2, .int pn)]) hx hb d_Sh_stackOnPallets_49 hl (k := 5) rfl (nI_1 b) (by decide) rfl (fun ls hl => ?_)
            refine lv_goto (tgt := 7) hx hb d_Sh_stackOnPallets_52 (by decide) ?_
            exact ih (b + 1) pn (th + (σ (1100 + b) 2)) _ _ _ (by omega) (by omega) (by simp [fPal, hs, c_2, h_2, c_3, c_4]) hP hD hS (lv_sub hl [3, 4, 5, 1, 0] rfl)
          · 
            refine lv_iinc (v := pn + 1) (lv' := [(2, .int (pn + 1)), (5, .int (σ (1100 + b) 2)), (0, .ref (a 599)), (1, .int lm), (3, .int th), (4, .int (nI b))]) hx hb d_Sh_stackOnPallets_39 hl (k := 3) rfl (rfl) (by decide) rfl (fun ls hl => ?_)
            refine lv_iconst (v := 0) hx hb d_Sh_stackOnPallets_42 (by decide) ?_
            refine lv_istore_n (lv' := [(3, .int 0), (2, .int (pn + 1)), (5, .int (σ (1100 + b) 2)), (0, .ref (a 599)), (1, .int lm), (4, .int (nI b))]) hx hb d_Sh_stackOnPallets_43 rfl hl (by decide) rfl (fun ls hl => ?_)
            refine lv_iload_n hx hb d_Sh_stackOnPallets_44 rfl (lv_at hl 0 rfl) ?_
            refine lv_iload hx hb d_Sh_stackOnPallets_45 (lv_at hl 2 rfl) ?_
            refine lv_iadd hx hb d_Sh_stackOnPallets_47 ?_
            refine lv_istore_n (lv' := [(3, .int (0 + (σ (1100 + b) 2))), (2, .int (pn + 1)), (5, .int (σ (1100 + b) 2)), (0, .ref (a 599)), (1, .int lm), (4, .int (nI b))]) hx hb d_Sh_stackOnPallets_48 rfl hl (by decide) rfl (fun ls hl => ?_)
            refine lv_iinc (v := nI (b + 1)) (lv' := [(4, .int (nI (b + 1))), (3, .int (0 + (σ (1100 + b) 2))), (2, .int (pn + 1)), (5, .int (σ (1100 + b) 2)), (0, .ref (a 599)), (1, .int lm)]) hx hb d_Sh_stackOnPallets_49 hl (k := 5) rfl (nI_1 b) (by decide) rfl (fun ls hl => ?_)
            refine lv_goto (tgt := 7) hx hb d_Sh_stackOnPallets_52 (by decide) ?_
            exact ih (b + 1) (pn + 1) (0 + (σ (1100 + b) 2)) _ _ _ (by omega) (by omega) (by simp [fPal, hs, c_2, h_2, c_3, c_4]) hP hD hS (lv_sub hl [4, 5, 2, 1, 0] rfl)
  refine lv_iconst (v := 0) hx hb d_Sh_stackOnPallets_0 (by decide) ?_
  refine lv_istore_n (lv' := [(2, .int 0), (0, .ref (a 599)), (1, .int lm)]) hx hb d_Sh_stackOnPallets_1 rfl hl (by decide) rfl (fun ls hl => ?_)
  refine lv_iconst (v := 0) hx hb d_Sh_stackOnPallets_2 (by decide) ?_
  refine lv_istore_n (lv' := [(3, .int 0), (2, .int 0), (0, .ref (a 599)), (1, .int lm)]) hx hb d_Sh_stackOnPallets_3 rfl hl (by decide) rfl (fun ls hl => ?_)
  refine lv_iconst (v := 0) hx hb d_Sh_stackOnPallets_4 (by decide) ?_
  refine lv_istore (lv' := [(4, .int 0), (3, .int 0), (2, .int 0), (0, .ref (a 599)), (1, .int lm)]) hx hb d_Sh_stackOnPallets_5 hl (by decide) rfl (fun ls hl => ?_)
  exact cut_7 (nbx + 1) 0 0 0 _ _ _ (by omega) (by omega) (rfl) hP hD hS (lv_sub hl [3, 4, 2, 1, 0] rfl)
set_option maxHeartbeats 4000000 in
set_option maxRecDepth 100000 in
theorem c_Sh_tellParts (l : Launch) (D : va_G) (t : Nat → ClassId) (a : Nat → Nat) (σ : Nat → Nat → Int32) (bx : Nat) (set : Int32) (np : Nat) (hN : σ 308 0 = nI np) (hN8 : np ≤ 8) (lo : Nat → Nat) (L : Nat) (hL : σ 208 0 = nI L) (hL8 : L ≤ 8) (h205a : ∀ i, σ 205 i = 0 ∨ σ 205 i = 1) (hlo : ∀ q, q < np → ¬ fIn set (nI q) = 0 → σ 206 q = nI (lo q) ∧ lo q < 8) : gMv l D t y_Sh_tellParts b_Sh_tellParts 7 2 [.ref (a 599), .int (nI bx), .int set, .ref (a 399), .ref (a 299)] (wFb t a σ) (wFb t a) (fun u => u = fTell σ bx set lo L np) := by
  intro A
  refine Met.ofW (cc := b_Sh_tellParts) (maxL := 7) (ret := none) (by decide) rfl ?_
  intro p e s m args below meth c s₁ B hml hv
  obtain ⟨rfl, hK, hP, hD⟩ := hv
  have hx := B.exec
  have hb := B.bytes
  have hr := B.returns
  have hts := atoms_spec (ws := .code y_Sh_tellParts b_Sh_tellParts 7 none :: gBig) B.pre
  have hown : s.vm.findClass R_Sh = some m.cls := findClass_of_methodNamed B.named
  have hlocks := B.notSynchronized
  have hS : va_S A s.heap s.heap [] := va_S.rf
  have hl := lv_entry ([.ref (a 599), .int (nI bx), .int set, .ref (a 399), .ref (a 299)]) (n := 7) (Nat.le_of_ble_eq_true rfl)
  rw [lg_entry_eq]
  generalize (lg_sl ([.ref (a 599), .int (nI bx), .int set, .ref (a 399), .ref (a 299)]) ++ List.replicate (7 - (lg_sl ([.ref (a 599), .int (nI bx), .int set, .ref (a 399), .ref (a 299)])).length) Slot.unset).toArray = ls at hl ⊢
  have hl : lv_has ls 7 [(0, .ref (a 599)), (1, .int (nI bx)), (2, .int set), (3, .ref (a 399)), (4, .ref (a 299))] := hl
  show gGov l p e s m below meth c D t A 2 [.ref (a 599), .int (nI bx), .int set, .ref (a 399), .ref (a 299)] (wFb t a) (fun u => u = fTell σ bx set lo L np) s.heap [] (F0 m 0 ls [])
  have cut_3 : ∀ (n : Nat) (q : Nat) (τ : Nat → Nat → Int32) (H : Heap) (locs : List Loc) (ls : Array Slot), (q ≤ np) → (np + 1 ≤ q + n) → (fTell σ bx set lo L q = τ) → (∀ i, i < 1000 → τ i = σ i) → va_P D gCl (wFb t a τ) H → va_D A (wFb t a τ) → va_S A s.heap H locs → lv_has ls 7 [(0, .ref (a 599)), (1, .int (nI bx)), (2, .int set), (3, .ref (a 399)), (4, .ref (a 299)), (5, .int (nI q))] → gGov l p e s m below meth c D t A 2 [.ref (a 599), .int (nI bx), .int set, .ref (a 399), .ref (a 299)] (wFb t a) (fun u => u = fTell σ bx set lo L np) H locs (F0 m 3 ls []) := by
    intro n
    induction n with
    | zero =>
      intro q τ H locs ls hq hf hs hfix hP hD hS hl
      exact absurd hf (by omega)
    | succ n ih =>
      intro q τ H locs ls hq hf hs hfix hP hD hS hl
      refine lv_iload hx hb d_Sh_tellParts_3 (lv_at hl 5 rfl) ?_
      refine lv_aload_n hx hb d_Sh_tellParts_5 rfl (lv_at hl 3 rfl) ?_
      refine va_get (D := D) (ci := 3) (v := .int (τ 308 0)) (C := R_Pt) (T := F_Pt) (N := 9) hx hb hts (fun w h => List.mem_cons_of_mem _ (i_Pt w h)) hown hK.1 hP 2 (wFb_o3 t a τ) rfl 8 (by decide) (hts (.fieldLink R_Sh 79 "FlatBoxes$Parts" "count" "I") (List.mem_cons_of_mem _ (gIn k_89 (by decide +kernel)))) (fun _ h9 => h9) rfl d_Sh_tellParts_6 ?_
      refine lv_topi (fun v_1 e_1 => ?_)
      obtain rfl : nI np = v_1 := (e_1.trans ((congrFun (hfix 308 (by omega)) 0).trans hN)).symm
      refine lv_icmp_ge (tgt := 96) hx hb d_Sh_tellParts_9 (by decide) (fun c_2 => ?_) (fun c_2 => ?_)
      · 
        have h_2 : np ≤ q := (nI_leI (a := np) (b := q) (by omega) (by omega)).mp c_2
        exact W.vret hx hb hr (fun U hU hW => ⟨⟨τ, rfl, by obtain rfl : q = np := (by omega); exact hs.symm, by rw [hU]; exact hP, hD⟩, hS.F hU⟩) hS.2.2 d_Sh_tellParts_96
      · 
        have h_2 : ¬ np ≤ q := fun q9 => c_2 ((nI_leI (a := np) (b := q) (by omega) (by omega)).mpr q9)
        refine lv_iload_n hx hb d_Sh_tellParts_12 rfl (lv_at hl 2 rfl) ?_
        refine lv_iload hx hb d_Sh_tellParts_13 (lv_at hl 5 rfl) ?_
        refine g_sn (k := 2) (As := [.int set, .int (nI q)]) (rest := []) (own := R_Sh) (index := 82) (host := "FlatBoxes") ⟨hx, hb, hml, hown, hts⟩ (c_Fb_isIn l D t a τ set (nI q)) (by decide +kernel) (gIn k_289 (by decide +kernel)) (gIn k_1 (by decide +kernel)) (gIn k_290 (by decide +kernel)) (by decide +kernel) ⟨Nat.le_of_ble_eq_true rfl, Nat.le_of_ble_eq_true rfl⟩ rfl hK hP hD hS hl.1 rfl (Nat.le_of_ble_eq_true rfl) ⟨Nat.zero_le _, Nat.zero_le _⟩ d_Sh_tellParts_15 (fun r_3 u_3 H locs q_3 hP hD hS => ?_)
        obtain ⟨rfl, hu_3⟩ := q_3
        rw [hu_3] at hP hD
        refine lv_if_eq (tgt := 90) hx hb d_Sh_tellParts_18 (by decide) (fun c_4 => ?_) (fun c_4 => ?_)
        · 
          refine lv_iinc (v := nI (q + 1)) (lv' := [(5, .int (nI (q + 1))), (0, .ref (a 599)), (1, .int (nI bx)), (2, .int set), (3, .ref (a 399)), (4, .ref (a 299))]) hx hb d_Sh_tellParts_90 hl (k := 5) rfl (nI_1 q) (by decide) rfl (fun ls hl => ?_)
          refine lv_goto (tgt := 3) hx hb d_Sh_tellParts_93 (by decide) ?_
          exact ih (q + 1) τ _ _ _ (by omega) (by omega) (by first | (simp [fTell, hs, c_2, h_2, c_4]; done) | (simp [fTell, hs, c_2, h_2, c_4]; rfl)) (by first | exact hfix | exact fun i hi => by (repeat rw [gSt_ne _ _ _ _ (by omega)]); exact hfix i hi) hP hD hS (lv_sub hl [1, 2, 3, 4, 5, 0] rfl)
        · 
          refine lv_aload hx hb d_Sh_tellParts_21 (lv_at hl 4 rfl) ?_
          refine va_get (D := D) (ci := 2) (v := .ref (a 206)) (C := R_Pk) (T := F_Pk) (N := 9) hx hb hts (fun w h => List.mem_cons_of_mem _ (i_Pk w h)) hown hK.1 hP 3 (wFb_o2 t a τ) rfl 6 (by decide) (hts (.fieldLink R_Sh 86 "FlatBoxes$Packing" "layerOf" "[I") (List.mem_cons_of_mem _ (gIn k_129 (by decide +kernel)))) (fun _ h9 => h9) rfl d_Sh_tellParts_23 ?_
          refine lv_iload hx hb d_Sh_tellParts_26 (lv_at hl 5 rfl) ?_
          refine g_iald hx hb hK.1 hP 25 0 (wFb_206 t a τ) rfl q (rfl) (by omega) (by decide) d_Sh_tellParts_28 ?_
          refine lv_topi (fun v_5 e_5 => ?_)
          obtain rfl : nI (lo q) = v_5 := (e_5.trans ((congrFun (hfix 206 (by omega)) q).trans (hlo q (by omega) c_4).1)).symm
          have hl8 := (hlo q (by omega) c_4).2
          have hL1 : τ 208 0 = nI L := (congrFun (hfix 208 (by omega)) 0).trans hL
          have h205 : ∀ i, τ 205 i = 0 ∨ τ 205 i = 1 := fun i => by rw [hfix 205 (by omega)]; exact h205a i
          refine lv_istore (lv' := [(6, .int (nI (lo q))), (0, .ref (a 599)), (1, .int (nI bx)), (2, .int set), (3, .ref (a 399)), (4, .ref (a 299)), (5, .int (nI q))]) hx hb d_Sh_tellParts_29 hl (by decide) rfl (fun ls hl => ?_)
          refine lv_aload_n hx hb d_Sh_tellParts_31 rfl (lv_at hl 1 rfl) ?_
          refine va_get (D := D) (ci := 5) (v := .ref (a 500)) (C := R_Sh) (T := F_Sh) (N := 5) hx hb hts (fun w h => List.mem_cons_of_mem _ (i_Sh w h)) hown hK.1 hP 5 (wFb_o5 t a τ) rfl 0 (by decide) (hts (.fieldLink R_Sh 11 "FlatBoxes$Shares" "ofPart" "[[I") (List.mem_cons_of_mem _ (gIn k_192 (by decide +kernel)))) (fun _ h9 => h9) rfl d_Sh_tellParts_32 ?_
          refine lv_iload hx hb d_Sh_tellParts_35 (lv_at hl 6 rfl) ?_
          refine g_aald hx hb hK.1 hP 31 2 (wFb_500 t a τ) rfl q (rfl) (by omega) (by decide) rfl d_Sh_tellParts_37 ?_
          refine lv_iconst (v := 0) hx hb d_Sh_tellParts_38 (by decide) ?_
          refine lv_iload_n hx hb d_Sh_tellParts_39 rfl (lv_at hl 2 rfl) ?_
          refine g_iast hx hb hK.1 hP hD hS (39 + q) 0 (wFb_r1000 t a τ q (by omega)) rfl 0 (rfl) (by omega) (by decide) (w' := wFb t a (gSt τ (1000 + q) 0 (nI bx))) (sFb_r1000 t a τ 0 (nI bx) q (by omega)) d_Sh_tellParts_40 (fun H locs hP hD hS => ?_)
          refine lv_aload_n hx hb d_Sh_tellParts_41 rfl (lv_at hl 1 rfl) ?_
          refine va_get (D := D) (ci := 5) (v := .ref (a 500)) (C := R_Sh) (T := F_Sh) (N := 5) hx hb hts (fun w h => List.mem_cons_of_mem _ (i_Sh w h)) hown hK.1 hP 5 (wFb_o5 t a (gSt τ (1000 + q) 0 (nI bx))) rfl 0 (by decide) (hts (.fieldLink R_Sh 11 "FlatBoxes$Shares" "ofPart" "[[I") (List.mem_cons_of_mem _ (gIn k_192 (by decide +kernel)))) (fun _ h9 => h9) rfl d_Sh_tellParts_42 ?_
          refine lv_iload hx hb d_Sh_tellParts_45 (lv_at hl 6 rfl) ?_
          refine g_aald hx hb hK.1 hP 31 2 (wFb_500 t a (gSt τ (1000 + q) 0 (nI bx))) rfl q (rfl) (by omega) (by decide) rfl d_Sh_tellParts_47 ?_
          refine lv_iconst (v := 1) hx hb d_Sh_tellParts_48 (by decide) ?_
          refine lv_aload hx hb d_Sh_tellParts_49 (lv_at hl 5 rfl) ?_
          refine lv_iload hx hb d_Sh_tellParts_51 (lv_at hl 0 rfl) ?_
          refine g_vi (k := 1) (As := [.int (nI (lo q))]) (rest := [.int 1, .ref (a (1000 + q))]) (own := R_Sh) (C := R_Pk) (index := 89) ⟨hx, hb, hml, hown, hts⟩ (c_Pk_layersBelow l D t a (gSt τ (1000 + q) 0 (nI bx)) (lo q) (by omega) (fun i => by (repeat rw [gSt_ne _ _ _ _ (by omega)]); exact h205 i) L (by (repeat rw [gSt_ne _ _ _ _ (by omega)]); exact hL1) hL8) (gg_Sh_89 _) (by decide +kernel) ⟨Nat.le_of_ble_eq_true rfl, Nat.le_of_ble_eq_true rfl⟩ rfl (va_recv hK.1 hP (ci := 2) (q0 := 3) rfl (wFb_o2 t a (gSt τ (1000 + q) 0 (nI bx)))) hK hP hD hS hl.1 rfl (Nat.le_of_ble_eq_true rfl) ⟨Nat.zero_le _, Nat.zero_le _⟩ d_Sh_tellParts_53 (fun r_6 u_6 H locs q_6 hP hD hS => ?_)
          obtain ⟨rfl, hu_6⟩ := q_6
          rw [hu_6] at hP hD
          refine g_iast hx hb hK.1 hP hD hS (39 + q) 0 (wFb_r1000 t a (gSt τ (1000 + q) 0 (nI bx)) q (by omega)) rfl 1 (rfl) (by omega) (by decide) (w' := wFb t a (gSt (gSt τ (1000 + q) 0 (nI bx)) (1000 + q) 1 (fLy (gSt τ (1000 + q) 0 (nI bx)) (lo q) L))) (sFb_r1000 t a (gSt τ (1000 + q) 0 (nI bx)) 1 (fLy (gSt τ (1000 + q) 0 (nI bx)) (lo q) L) q (by omega)) d_Sh_tellParts_56 (fun H locs hP hD hS => ?_)
          refine lv_aload_n hx hb d_Sh_tellParts_57 rfl (lv_at hl 1 rfl) ?_
          refine va_get (D := D) (ci := 5) (v := .ref (a 500)) (C := R_Sh) (T := F_Sh) (N := 5) hx hb hts (fun w h => List.mem_cons_of_mem _ (i_Sh w h)) hown hK.1 hP 5 (wFb_o5 t a (gSt (gSt τ (1000 + q) 0 (nI bx)) (1000 + q) 1 (fLy (gSt τ (1000 + q) 0 (nI bx)) (lo q) L))) rfl 0 (by decide) (hts (.fieldLink R_Sh 11 "FlatBoxes$Shares" "ofPart" "[[I") (List.mem_cons_of_mem _ (gIn k_192 (by decide +kernel)))) (fun _ h9 => h9) rfl d_Sh_tellParts_58 ?_
          refine lv_iload hx hb d_Sh_tellParts_61 (lv_at hl 6 rfl) ?_
          refine g_aald hx hb hK.1 hP 31 2 (wFb_500 t a (gSt (gSt τ (1000 + q) 0 (nI bx)) (1000 + q) 1 (fLy (gSt τ (1000 + q) 0 (nI bx)) (lo q) L))) rfl q (rfl) (by omega) (by decide) rfl d_Sh_tellParts_63 ?_
          refine lv_iconst (v := 2) hx hb d_Sh_tellParts_64 (by decide) ?_
          refine lv_aload hx hb d_Sh_tellParts_65 (lv_at hl 5 rfl) ?_
          refine va_get (D := D) (ci := 2) (v := .ref (a 207)) (C := R_Pk) (T := F_Pk) (N := 9) hx hb hts (fun w h => List.mem_cons_of_mem _ (i_Pk w h)) hown hK.1 hP 3 (wFb_o2 t a (gSt (gSt τ (1000 + q) 0 (nI bx)) (1000 + q) 1 (fLy (gSt τ (1000 + q) 0 (nI bx)) (lo q) L))) rfl 7 (by decide) (hts (.fieldLink R_Sh 92 "FlatBoxes$Packing" "xOf" "[I") (List.mem_cons_of_mem _ (gIn k_131 (by decide +kernel)))) (fun _ h9 => h9) rfl d_Sh_tellParts_67 ?_
          refine lv_iload hx hb d_Sh_tellParts_70 (lv_at hl 6 rfl) ?_
          refine g_iald hx hb hK.1 hP 26 0 (wFb_207 t a (gSt (gSt τ (1000 + q) 0 (nI bx)) (1000 + q) 1 (fLy (gSt τ (1000 + q) 0 (nI bx)) (lo q) L))) rfl q (rfl) (by omega) (by decide) d_Sh_tellParts_72 ?_
          refine g_iast hx hb hK.1 hP hD hS (39 + q) 0 (wFb_r1000 t a (gSt (gSt τ (1000 + q) 0 (nI bx)) (1000 + q) 1 (fLy (gSt τ (1000 + q) 0 (nI bx)) (lo q) L)) q (by omega)) rfl 2 (rfl) (by omega) (by decide) (w' := wFb t a (gSt (gSt (gSt τ (1000 + q) 0 (nI bx)) (1000 + q) 1 (fLy (gSt τ (1000 + q) 0 (nI bx)) (lo q) L)) (1000 + q) 2 ((gSt (gSt τ (1000 + q) 0 (nI bx)) (1000 + q) 1 (fLy (gSt τ (1000 + q) 0 (nI bx)) (lo q) L)) 207 q))) (sFb_r1000 t a (gSt (gSt τ (1000 + q) 0 (nI bx)) (1000 + q) 1 (fLy (gSt τ (1000 + q) 0 (nI bx)) (lo q) L)) 2 ((gSt (gSt τ (1000 + q) 0 (nI bx)) (1000 + q) 1 (fLy (gSt τ (1000 + q) 0 (nI bx)) (lo q) L)) 207 q) q (by omega)) d_Sh_tellParts_73 (fun H locs hP hD hS => ?_)
          refine lv_aload_n hx hb d_Sh_tellParts_74 rfl (lv_at hl 1 rfl) ?_
          refine va_get (D := D) (ci := 5) (v := .ref (a 500)) (C := R_Sh) (T := F_Sh) (N := 5) hx hb hts (fun w h => List.mem_cons_of_mem _ (i_Sh w h)) hown hK.1 hP 5 (wFb_o5 t a (gSt (gSt (gSt τ (1000 + q) 0 (nI bx)) (1000 + q) 1 (fLy (gSt τ (1000 + q) 0 (nI bx)) (lo q) L)) (1000 + q) 2 ((gSt (gSt τ (1000 + q) 0 (nI bx)) (1000 + q) 1 (fLy (gSt τ (1000 + q) 0 (nI bx)) (lo q) L)) 207 q))) rfl 0 (by decide) (hts (.fieldLink R_Sh 11 "FlatBoxes$Shares" "ofPart" "[[I") (List.mem_cons_of_mem _ (gIn k_192 (by decide +kernel)))) (fun _ h9 => h9) rfl d_Sh_tellParts_75 ?_
          refine lv_iload hx hb d_Sh_tellParts_78 (lv_at hl 6 rfl) ?_
          refine g_aald hx hb hK.1 hP 31 2 (wFb_500 t a (gSt (gSt (gSt τ (1000 + q) 0 (nI bx)) (1000 + q) 1 (fLy (gSt τ (1000 + q) 0 (nI bx)) (lo q) L)) (1000 + q) 2 ((gSt (gSt τ (1000 + q) 0 (nI bx)) (1000 + q) 1 (fLy (gSt τ (1000 + q) 0 (nI bx)) (lo q) L)) 207 q))) rfl q (rfl) (by omega) (by decide) rfl d_Sh_tellParts_80 ?_
          refine lv_iconst (v := 3) hx hb d_Sh_tellParts_81 (by decide) ?_
          refine lv_aload hx hb d_Sh_tellParts_82 (lv_at hl 5 rfl) ?_
          refine lv_iload hx hb d_Sh_tellParts_84 (lv_at hl 0 rfl) ?_
          refine g_vi (k := 1) (As := [.int (nI (lo q))]) (rest := [.int 3, .ref (a (1000 + q))]) (own := R_Sh) (C := R_Pk) (index := 95) ⟨hx, hb, hml, hown, hts⟩ (c_Pk_heightBelow l D t a (gSt (gSt (gSt τ (1000 + q) 0 (nI bx)) (1000 + q) 1 (fLy (gSt τ (1000 + q) 0 (nI bx)) (lo q) L)) (1000 + q) 2 ((gSt (gSt τ (1000 + q) 0 (nI bx)) (1000 + q) 1 (fLy (gSt τ (1000 + q) 0 (nI bx)) (lo q) L)) 207 q)) (lo q) (by omega) (fun i => by (repeat rw [gSt_ne _ _ _ _ (by omega)]); exact h205 i) L (by (repeat rw [gSt_ne _ _ _ _ (by omega)]); exact hL1) hL8) (gg_Sh_95 _) (by decide +kernel) ⟨Nat.le_of_ble_eq_true rfl, Nat.le_of_ble_eq_true rfl⟩ rfl (va_recv hK.1 hP (ci := 2) (q0 := 3) rfl (wFb_o2 t a (gSt (gSt (gSt τ (1000 + q) 0 (nI bx)) (1000 + q) 1 (fLy (gSt τ (1000 + q) 0 (nI bx)) (lo q) L)) (1000 + q) 2 ((gSt (gSt τ (1000 + q) 0 (nI bx)) (1000 + q) 1 (fLy (gSt τ (1000 + q) 0 (nI bx)) (lo q) L)) 207 q)))) hK hP hD hS hl.1 rfl (Nat.le_of_ble_eq_true rfl) ⟨Nat.zero_le _, Nat.zero_le _⟩ d_Sh_tellParts_86 (fun r_7 u_7 H locs q_7 hP hD hS => ?_)
          obtain ⟨rfl, hu_7⟩ := q_7
          rw [hu_7] at hP hD
          refine g_iast hx hb hK.1 hP hD hS (39 + q) 0 (wFb_r1000 t a (gSt (gSt (gSt τ (1000 + q) 0 (nI bx)) (1000 + q) 1 (fLy (gSt τ (1000 + q) 0 (nI bx)) (lo q) L)) (1000 + q) 2 ((gSt (gSt τ (1000 + q) 0 (nI bx)) (1000 + q) 1 (fLy (gSt τ (1000 + q) 0 (nI bx)) (lo q) L)) 207 q)) q (by omega)) rfl 3 (rfl) (by omega) (by decide) (w' := wFb t a (gSt (gSt (gSt (gSt τ (1000 + q) 0 (nI bx)) (1000 + q) 1 (fLy (gSt τ (1000 + q) 0 (nI bx)) (lo q) L)) (1000 + q) 2 ((gSt (gSt τ (1000 + q) 0 (nI bx)) (1000 + q) 1 (fLy (gSt τ (1000 + q) 0 (nI bx)) (lo q) L)) 207 q)) (1000 + q) 3 (fLz (gSt (gSt (gSt τ (1000 + q) 0 (nI bx)) (1000 + q) 1 (fLy (gSt τ (1000 + q) 0 (nI bx)) (lo q) L)) (1000 + q) 2 ((gSt (gSt τ (1000 + q) 0 (nI bx)) (1000 + q) 1 (fLy (gSt τ (1000 + q) 0 (nI bx)) (lo q) L)) 207 q)) (lo q) L))) (sFb_r1000 t a (gSt (gSt (gSt τ (1000 + q) 0 (nI bx)) (1000 + q) 1 (fLy (gSt τ (1000 + q) 0 (nI bx)) (lo q) L)) (1000 + q) 2 ((gSt (gSt τ (1000 + q) 0 (nI bx)) (1000 + q) 1 (fLy (gSt τ (1000 + q) 0 (nI bx)) (lo q) L)) 207 q)) 3 (fLz (gSt (gSt (gSt τ (1000 + q) 0 (nI bx)) (1000 + q) 1 (fLy (gSt τ (1000 + q) 0 (nI bx)) (lo q) L)) (1000 + q) 2 ((gSt (gSt τ (1000 + q) 0 (nI bx)) (1000 + q) 1 (fLy (gSt τ (1000 + q) 0 (nI bx)) (lo q) L)) 207 q)) (lo q) L) q (by omega)) d_Sh_tellParts_89 (fun H locs hP hD hS => ?_)
          refine lv_iinc (v := nI (q + 1)) (lv' := [(5, .int (nI (q + 1))), (6, .int (nI (lo q))), (0, .ref (a 599)), (1, .int (nI bx)), (2, .int set), (3, .ref (a 399)), (4, .ref (a 299))]) hx hb d_Sh_tellParts_90 hl (k := 6) rfl (nI_1 q) (by decide) rfl (fun ls hl => ?_)
          refine lv_goto (tgt := 3) hx hb d_Sh_tellParts_93 (by decide) ?_
          exact ih (q + 1) (gSt (gSt (gSt (gSt τ (1000 + q) 0 (nI bx)) (1000 + q) 1 (fLy (gSt τ (1000 + q) 0 (nI bx)) (lo q) L)) (1000 + q) 2 ((gSt (gSt τ (1000 + q) 0 (nI bx)) (1000 + q) 1 (fLy (gSt τ (1000 + q) 0 (nI bx)) (lo q) L)) 207 q)) (1000 + q) 3 (fLz (gSt (gSt (gSt τ (1000 + q) 0 (nI bx)) (1000 + q) 1 (fLy (gSt τ (1000 + q) 0 (nI bx)) (lo q) L)) (1000 + q) 2 ((gSt (gSt τ (1000 + q) 0 (nI bx)) (1000 + q) 1 (fLy (gSt τ (1000 + q) 0 (nI bx)) (lo q) L)) 207 q)) (lo q) L)) _ _ _ (by omega) (by omega) (by first | (simp [fTell, hs, c_2, h_2, c_4]; done) | (simp [fTell, hs, c_2, h_2, c_4]; rfl)) (by first | exact hfix | exact fun i hi => by (repeat rw [gSt_ne _ _ _ _ (by omega)]); exact hfix i hi) hP hD hS (lv_sub hl [2, 3, 4, 5, 6, 0] rfl)
  refine lv_iconst (v := 0) hx hb d_Sh_tellParts_0 (by decide) ?_
  refine lv_istore (lv' := [(5, .int 0), (0, .ref (a 599)), (1, .int (nI bx)), (2, .int set), (3, .ref (a 399)), (4, .ref (a 299))]) hx hb d_Sh_tellParts_1 hl (by decide) rfl (fun ls hl => ?_)
  exact cut_3 (np + 1) 0 σ _ _ _ (by omega) (by omega) (rfl) (fun i hi => rfl) hP hD hS (lv_sub hl [1, 2, 3, 4, 5, 0] rfl)
