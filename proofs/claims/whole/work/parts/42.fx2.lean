def gMr0 (l : Launch) (D : va_G) (t : Nat → ClassId) (y : MethodName) (cc : ByteArray) (maxL : Nat) (n : Nat) (av : List Value) (w : va_W) : Prop :=
  ∀ A : Nat → Prop, Met l y (.code y cc maxL none :: gBig) (gRm n) (va_Pc av (gPre D t A w)) (fun _ st o u => o = .returned none ∧ u.heap = st.heap) 0 0 (fun _ => False)
section GR0
variable {p : Program} {l : Launch} {e : Env} {R : Room} {s : State} {m : MethodId} {args : Array Value} {below : List Frame} {meth : Method} {c : Code} {H : Heap} {locs : List Loc} {cells slots : Nat} {Q : State → Prop}
variable {cc bytes : ByteArray} {pc : Nat} {ls : Array Slot} {rest As : List Value} {D : va_G} {t : Nat → ClassId} {A : Nat → Prop} {w : va_W}
variable {nL maxL n k index b : Nat} {y : MethodName} {own C : String} {w0 : Cond}
theorem g_vr0 (F : CallFix p m c cc nL s args (w0 :: gBig) own) (hM : gMr0 l D t y bytes maxL n (.ref b :: As) w) (hG : GoodIn (w0 :: gBig) (wsV own index C y (.code y bytes maxL none :: gBig)))
    (hd : y.cls = C ∧ y.cls ≠ "java/lang/invoke/MethodHandle" ∧ y.cls ≠ "java/lang/invoke/VarHandle" ∧ (parseMethodDescriptor y.desc).map (fun d => d.parameters.length) = some k) (hR : n + 1 ≤ R.frames ∧ 8 + (maxL + 11) + 40 * n ≤ R.locals) (hkl : As.length = k)
    (hrecv : ∃ cellB : Cell, H[b]? = some cellB ∧ cellB.vm.isStatics = false ∧ s.vm.findClass C = some cellB.cls)
    (hK : gK D t s) (hP : va_P D gCl w H) (hD : va_D A w) (hsz : ls.size = nL) {st0 : List Value} (hst : st0 = As.reverse ++ .ref b :: rest) (hrest : (rest.map fun v => v.category).sum ≤ 8) (hc : cells ≤ R.cells ∧ slots ≤ R.slots) (hdg : decode cc pc = .ok (.invokevirtual index, 3))
    (kk : W p l e R s m args below meth c H locs cells slots Q (F0 m (pc + 3) ls rest)) : W p l e R s m args below meth c H locs cells slots Q (F0 m pc ls st0) := by
  subst hst
  have hr := W.runV (below := below) (meth := meth) (e := e) (H := H) (locs := locs) (cells := cells) (slots := slots) (g := F0 m pc ls (As.reverse ++ .ref b :: rest)) (As := As) (rest := rest) F (hM A) (cwV k F.2.2.2.2 hG rfl rfl rfl hd hR) ⟨gBlind, hrecv, fun U hU hW => ⟨rfl, gK.moved hW hK, by rw [hU]; exact hP, hD⟩⟩ rfl hkl hsz rfl (lv_room hrest) hdg hc
  intro T hT X
  obtain ⟨v, st₀, t1, T', L, h0, X', hL, e1, ⟨hv, hh⟩, st⟩ := hr T hT X
  cases hv
  obtain ⟨t2, a1, b1⟩ := kk T' (by rw [e1, hh, h0]) (Stand.forget X' (fun q h => (hL q h).elim))
  exact ⟨t2, st t2 a1, b1⟩
end GR0


set_option maxHeartbeats 4000000 in
set_option maxRecDepth 100000 in
theorem r_Fb_needShares (l : Launch) (D : va_G) (t : Nat → ClassId) (a : Nat → Nat) (σ : Nat → Nat → Int32) (hsh : ¬ σ 503 0 = -1)  : gMr0 l D t y_Fb_needShares b_Fb_needShares 1 0 [.ref (a 699)] (wFb t a σ) := by
  intro A
  refine Met.ofW (cc := b_Fb_needShares) (maxL := 1) (ret := none) (by decide) rfl ?_
  intro p e s m args below meth c s₁ B hml hv
  obtain ⟨rfl, hK, hP, hD⟩ := hv
  have hx := B.exec
  have hb := B.bytes
  have hr := B.returns
  have hts := atoms_spec (ws := .code y_Fb_needShares b_Fb_needShares 1 none :: gBig) B.pre
  have hown : s.vm.findClass R_Fb = some m.cls := findClass_of_methodNamed B.named
  have hlocks := B.notSynchronized
  have hl := lv_entry ([.ref (a 699)]) (n := 1) (Nat.le_of_ble_eq_true rfl)
  rw [lg_entry_eq]
  generalize (lg_sl ([.ref (a 699)]) ++ List.replicate (1 - (lg_sl ([.ref (a 699)])).length) Slot.unset).toArray = ls at hl ⊢
  have hl : lv_has ls 1 [(0, .ref (a 699))] := hl
  refine lv_aload_n hx hb d_Fb_needShares_0 rfl (lv_at hl 0 rfl) ?_
  refine va_get (D := D) (ci := 6) (v := .ref (a 599)) (C := R_Fb) (T := F_Fb) (N := 6) hx hb hts (fun w h => List.mem_cons_of_mem _ (i_Fb w h)) hown hK.1 hP 0 (wFb_o6 t a σ) rfl 4 (by decide) (hts (.fieldLink R_Fb 51 "FlatBoxes" "shares" "LFlatBoxes$Shares;") (List.mem_cons_of_mem _ (gIn k_248 (by decide +kernel)))) (fun _ h9 => h9) rfl d_Fb_needShares_1 ?_
  refine va_get (D := D) (ci := 5) (v := .int (σ 503 0)) (C := R_Sh) (T := F_Sh) (N := 5) hx hb hts (fun w h => List.mem_cons_of_mem _ (i_Sh w h)) hown hK.1 hP 5 (wFb_o5 t a σ) rfl 3 (by decide) (hts (.fieldLink R_Fb 139 "FlatBoxes$Shares" "boxes" "I") (List.mem_cons_of_mem _ (gIn k_199 (by decide +kernel)))) (fun _ h9 => h9) rfl d_Fb_needShares_4 ?_
  refine lv_iconst (v := -1) hx hb d_Fb_needShares_7 (by decide) ?_
  refine lv_icmp_ne (tgt := 21) hx hb d_Fb_needShares_8 (by decide) (fun c_1 => ?_) (fun c_1 => ?_)
  · 
    exact W.vret hx hb hr (fun U hU hW => ⟨rfl, hU⟩) (fun q hq => nomatch hq) d_Fb_needShares_21
  · 
    exact absurd c_1 (hsh)
set_option maxHeartbeats 4000000 in
set_option maxRecDepth 100000 in
theorem x_Fb_carton_iae (l : Launch) (D : va_G) (t : Nat → ClassId) (a : Nat → Nat) (σ : Nat → Nat → Int32) (wd dp ht ct gr : Int32) (hE : fSides wd dp ht = 0 ∨ mIn ct 1 100000 = 0 ∨ mIn gr 1 100000 = 0) (hl0 : l.stackTraces = false) : gMx l D t y_Fb_carton b_Fb_carton 6 (some .int) 12 [.ref (a 699), .int wd, .int dp, .int ht, .int ct, .int gr] (wFb t a σ) "java/lang/IllegalArgumentException" := by
  intro A
  refine x_ofW (cc := b_Fb_carton) (maxL := 6) (ret := (some .int)) (by decide) rfl ?_
  intro p e s m args below meth c s₁ B hml hv
  obtain ⟨rfl, ⟨hK, hP, hD⟩, hxo⟩ := hv
  have hx := B.exec
  have hb := B.bytes
  have hr := B.returns
  have hts := atoms_spec (ws := .code y_Fb_carton b_Fb_carton 6 (some .int) :: gBig) B.pre
  have hown : s.vm.findClass R_Fb = some m.cls := findClass_of_methodNamed B.named
  have hlocks := B.notSynchronized
  have hout : c.exceptionTable.isEmpty = true := BodyLoose.noHandlers B (hts _ List.mem_cons_self)
  have hl := lv_entry ([.ref (a 699), .int wd, .int dp, .int ht, .int ct, .int gr]) (n := 6) (Nat.le_of_ble_eq_true rfl)
  rw [lg_entry_eq]
  generalize (lg_sl ([.ref (a 699), .int wd, .int dp, .int ht, .int ct, .int gr]) ++ List.replicate (6 - (lg_sl ([.ref (a 699), .int wd, .int dp, .int ht, .int ct, .int gr])).length) Slot.unset).toArray = ls at hl ⊢
  have hl : lv_has ls 6 [(0, .ref (a 699)), (1, .int wd), (2, .int dp), (3, .int ht), (4, .int ct), (5, .int gr)] := hl
  refine lv_iload_n hx hb d_Fb_carton_0 rfl (lv_at hl 1 rfl) ?_
  refine lv_iload_n hx hb d_Fb_carton_1 rfl (lv_at hl 2 rfl) ?_
  refine lv_iload_n hx hb d_Fb_carton_2 rfl (lv_at hl 3 rfl) ?_
  refine g_sr (k := 3) (As := [.int wd, .int dp, .int ht]) (rest := []) (own := R_Fb) (index := 62) ⟨hx, hb, hml, hown, hts⟩ (r_Fb_areSides l D t a σ wd dp ht) (gg_Fb_62 _) (by decide +kernel) ⟨Nat.le_of_ble_eq_true rfl, Nat.le_of_ble_eq_true rfl⟩ rfl hK hP hD hl.1 rfl (Nat.le_of_ble_eq_true rfl) ⟨Nat.zero_le _, Nat.zero_le _⟩ d_Fb_carton_3 ?_
  refine lv_if_ne (tgt := 19) hx hb d_Fb_carton_6 (by decide) (fun c_1 => ?_) (fun c_1 => ?_)
  · 
    refine lv_iload hx hb d_Fb_carton_19 (lv_at hl 4 rfl) ?_
    refine lv_iconst (v := 1) hx hb d_Fb_carton_21 (by decide) ?_
    refine lv_ldc hx hb hown (hts (.constant R_Fb 73 100000) (List.mem_cons_of_mem _ (gIn k_466 (by decide +kernel)))) d_Fb_carton_22 ?_
    refine g_sr (k := 3) (As := [.int ct, .int 1, .int 100000]) (rest := []) (own := R_Fb) (index := 74) ⟨hx, hb, hml, hown, hts⟩ (r_Fb_isWithin l D t a σ ct 1 100000) (gg_Fb_74 _) (by decide +kernel) ⟨Nat.le_of_ble_eq_true rfl, Nat.le_of_ble_eq_true rfl⟩ rfl hK hP hD hl.1 rfl (Nat.le_of_ble_eq_true rfl) ⟨Nat.zero_le _, Nat.zero_le _⟩ d_Fb_carton_24 ?_
    refine lv_if_eq (tgt := 41) hx hb d_Fb_carton_27 (by decide) (fun c_2 => ?_) (fun c_2 => ?_)
    · 
      obtain ⟨sa, hsa⟩ := hxo.2.1 _ (show (77, _) ∈ xStr from List.mem_of_getElem? (i := 1) rfl)
      exact x_throw hx hb hl0 (names := xUp) hown (by decide +kernel) (by decide +kernel) (hts (.classLink R_Fb 66 "java/lang/IllegalArgumentException") (List.mem_cons_of_mem _ (gIn k_398 (by decide +kernel)))) (hts (.initialized "java/lang/IllegalArgumentException") (List.mem_cons_of_mem _ (gIn k_13 (by decide +kernel)))) (hts (.instantiable "java/lang/IllegalArgumentException" 6) (List.mem_cons_of_mem _ (gIn k_399 (by decide +kernel)))) hsa (xHat xIn_70 hts hxo) (hl.1.trans hml.symm) d_Fb_carton_41 d_Fb_carton_44 d_Fb_carton_45 d_Fb_carton_47 d_Fb_carton_50 hout (Nat.le_of_ble_eq_true rfl) (Nat.le_of_ble_eq_true rfl) (Nat.le_refl _) (Nat.le_refl _) hlocks
    · 
      refine lv_iload hx hb d_Fb_carton_30 (lv_at hl 5 rfl) ?_
      refine lv_iconst (v := 1) hx hb d_Fb_carton_32 (by decide) ?_
      refine lv_ldc hx hb hown (hts (.constant R_Fb 73 100000) (List.mem_cons_of_mem _ (gIn k_466 (by decide +kernel)))) d_Fb_carton_33 ?_
      refine g_sr (k := 3) (As := [.int gr, .int 1, .int 100000]) (rest := []) (own := R_Fb) (index := 74) ⟨hx, hb, hml, hown, hts⟩ (r_Fb_isWithin l D t a σ gr 1 100000) (gg_Fb_74 _) (by decide +kernel) ⟨Nat.le_of_ble_eq_true rfl, Nat.le_of_ble_eq_true rfl⟩ rfl hK hP hD hl.1 rfl (Nat.le_of_ble_eq_true rfl) ⟨Nat.zero_le _, Nat.zero_le _⟩ d_Fb_carton_35 ?_
      refine lv_if_ne (tgt := 51) hx hb d_Fb_carton_38 (by decide) (fun c_3 => ?_) (fun c_3 => ?_)
      · 
        exact absurd hE (by simp [c_1, c_2, c_3])
      · 
        obtain ⟨sa, hsa⟩ := hxo.2.1 _ (show (77, _) ∈ xStr from List.mem_of_getElem? (i := 1) rfl)
        exact x_throw hx hb hl0 (names := xUp) hown (by decide +kernel) (by decide +kernel) (hts (.classLink R_Fb 66 "java/lang/IllegalArgumentException") (List.mem_cons_of_mem _ (gIn k_398 (by decide +kernel)))) (hts (.initialized "java/lang/IllegalArgumentException") (List.mem_cons_of_mem _ (gIn k_13 (by decide +kernel)))) (hts (.instantiable "java/lang/IllegalArgumentException" 6) (List.mem_cons_of_mem _ (gIn k_399 (by decide +kernel)))) hsa (xHat xIn_70 hts hxo) (hl.1.trans hml.symm) d_Fb_carton_41 d_Fb_carton_44 d_Fb_carton_45 d_Fb_carton_47 d_Fb_carton_50 hout (Nat.le_of_ble_eq_true rfl) (Nat.le_of_ble_eq_true rfl) (Nat.le_refl _) (Nat.le_refl _) hlocks
  · 
    obtain ⟨sa, hsa⟩ := hxo.2.1 _ (show (68, _) ∈ xStr from List.mem_of_getElem? (i := 0) rfl)
    exact x_throw hx hb hl0 (names := xUp) hown (by decide +kernel) (by decide +kernel) (hts (.classLink R_Fb 66 "java/lang/IllegalArgumentException") (List.mem_cons_of_mem _ (gIn k_398 (by decide +kernel)))) (hts (.initialized "java/lang/IllegalArgumentException") (List.mem_cons_of_mem _ (gIn k_13 (by decide +kernel)))) (hts (.instantiable "java/lang/IllegalArgumentException" 6) (List.mem_cons_of_mem _ (gIn k_399 (by decide +kernel)))) hsa (xHat xIn_70 hts hxo) (hl.1.trans hml.symm) d_Fb_carton_9 d_Fb_carton_12 d_Fb_carton_13 d_Fb_carton_15 d_Fb_carton_18 hout (Nat.le_of_ble_eq_true rfl) (Nat.le_of_ble_eq_true rfl) (Nat.le_refl _) (Nat.le_refl _) hlocks
set_option maxHeartbeats 4000000 in
set_option maxRecDepth 100000 in
theorem x_Fb_part_iae (l : Launch) (D : va_G) (t : Nat → ClassId) (a : Nat → Nat) (σ : Nat → Nat → Int32) (wd dp ht gr sp : Int32) (hE : fSides wd dp ht = 0 ∨ mIn gr 1 50000 = 0 ∨ mIn sp 0 50 = 0) (hl0 : l.stackTraces = false) : gMx l D t y_Fb_part b_Fb_part 6 (some .int) 12 [.ref (a 699), .int wd, .int dp, .int ht, .int gr, .int sp] (wFb t a σ) "java/lang/IllegalArgumentException" := by
  intro A
  refine x_ofW (cc := b_Fb_part) (maxL := 6) (ret := (some .int)) (by decide) rfl ?_
  intro p e s m args below meth c s₁ B hml hv
  obtain ⟨rfl, ⟨hK, hP, hD⟩, hxo⟩ := hv
  have hx := B.exec
  have hb := B.bytes
  have hr := B.returns
  have hts := atoms_spec (ws := .code y_Fb_part b_Fb_part 6 (some .int) :: gBig) B.pre
  have hown : s.vm.findClass R_Fb = some m.cls := findClass_of_methodNamed B.named
  have hlocks := B.notSynchronized
  have hout : c.exceptionTable.isEmpty = true := BodyLoose.noHandlers B (hts _ List.mem_cons_self)
  have hl := lv_entry ([.ref (a 699), .int wd, .int dp, .int ht, .int gr, .int sp]) (n := 6) (Nat.le_of_ble_eq_true rfl)
  rw [lg_entry_eq]
  generalize (lg_sl ([.ref (a 699), .int wd, .int dp, .int ht, .int gr, .int sp]) ++ List.replicate (6 - (lg_sl ([.ref (a 699), .int wd, .int dp, .int ht, .int gr, .int sp])).length) Slot.unset).toArray = ls at hl ⊢
  have hl : lv_has ls 6 [(0, .ref (a 699)), (1, .int wd), (2, .int dp), (3, .int ht), (4, .int gr), (5, .int sp)] := hl
  refine lv_iload_n hx hb d_Fb_part_0 rfl (lv_at hl 1 rfl) ?_
  refine lv_iload_n hx hb d_Fb_part_1 rfl (lv_at hl 2 rfl) ?_
  refine lv_iload_n hx hb d_Fb_part_2 rfl (lv_at hl 3 rfl) ?_
  refine g_sr (k := 3) (As := [.int wd, .int dp, .int ht]) (rest := []) (own := R_Fb) (index := 62) ⟨hx, hb, hml, hown, hts⟩ (r_Fb_areSides l D t a σ wd dp ht) (gg_Fb_62 _) (by decide +kernel) ⟨Nat.le_of_ble_eq_true rfl, Nat.le_of_ble_eq_true rfl⟩ rfl hK hP hD hl.1 rfl (Nat.le_of_ble_eq_true rfl) ⟨Nat.zero_le _, Nat.zero_le _⟩ d_Fb_part_3 ?_
  refine lv_if_ne (tgt := 19) hx hb d_Fb_part_6 (by decide) (fun c_1 => ?_) (fun c_1 => ?_)
  · 
    refine lv_iload hx hb d_Fb_part_19 (lv_at hl 4 rfl) ?_
    refine lv_iconst (v := 1) hx hb d_Fb_part_21 (by decide) ?_
    refine lv_ldc hx hb hown (hts (.constant R_Fb 95 50000) (List.mem_cons_of_mem _ (gIn k_499 (by decide +kernel)))) d_Fb_part_22 ?_
    refine g_sr (k := 3) (As := [.int gr, .int 1, .int 50000]) (rest := []) (own := R_Fb) (index := 74) ⟨hx, hb, hml, hown, hts⟩ (r_Fb_isWithin l D t a σ gr 1 50000) (gg_Fb_74 _) (by decide +kernel) ⟨Nat.le_of_ble_eq_true rfl, Nat.le_of_ble_eq_true rfl⟩ rfl hK hP hD hl.1 rfl (Nat.le_of_ble_eq_true rfl) ⟨Nat.zero_le _, Nat.zero_le _⟩ d_Fb_part_24 ?_
    refine lv_if_eq (tgt := 41) hx hb d_Fb_part_27 (by decide) (fun c_2 => ?_) (fun c_2 => ?_)
    · 
      obtain ⟨sa, hsa⟩ := hxo.2.1 _ (show (96, _) ∈ xStr from List.mem_of_getElem? (i := 3) rfl)
      exact x_throw hx hb hl0 (names := xUp) hown (by decide +kernel) (by decide +kernel) (hts (.classLink R_Fb 66 "java/lang/IllegalArgumentException") (List.mem_cons_of_mem _ (gIn k_398 (by decide +kernel)))) (hts (.initialized "java/lang/IllegalArgumentException") (List.mem_cons_of_mem _ (gIn k_13 (by decide +kernel)))) (hts (.instantiable "java/lang/IllegalArgumentException" 6) (List.mem_cons_of_mem _ (gIn k_399 (by decide +kernel)))) hsa (xHat xIn_70 hts hxo) (hl.1.trans hml.symm) d_Fb_part_41 d_Fb_part_44 d_Fb_part_45 d_Fb_part_47 d_Fb_part_50 hout (Nat.le_of_ble_eq_true rfl) (Nat.le_of_ble_eq_true rfl) (Nat.le_refl _) (Nat.le_refl _) hlocks
    · 
      refine lv_iload hx hb d_Fb_part_30 (lv_at hl 5 rfl) ?_
      refine lv_iconst (v := 0) hx hb d_Fb_part_32 (by decide) ?_
      refine lv_bipush (v := 50) hx hb d_Fb_part_33 (by decide) ?_
      refine g_sr (k := 3) (As := [.int sp, .int 0, .int 50]) (rest := []) (own := R_Fb) (index := 74) ⟨hx, hb, hml, hown, hts⟩ (r_Fb_isWithin l D t a σ sp 0 50) (gg_Fb_74 _) (by decide +kernel) ⟨Nat.le_of_ble_eq_true rfl, Nat.le_of_ble_eq_true rfl⟩ rfl hK hP hD hl.1 rfl (Nat.le_of_ble_eq_true rfl) ⟨Nat.zero_le _, Nat.zero_le _⟩ d_Fb_part_35 ?_
      refine lv_if_ne (tgt := 51) hx hb d_Fb_part_38 (by decide) (fun c_3 => ?_) (fun c_3 => ?_)
      · 
        exact absurd hE (by simp [c_1, c_2, c_3])
      · 
        obtain ⟨sa, hsa⟩ := hxo.2.1 _ (show (96, _) ∈ xStr from List.mem_of_getElem? (i := 3) rfl)
        exact x_throw hx hb hl0 (names := xUp) hown (by decide +kernel) (by decide +kernel) (hts (.classLink R_Fb 66 "java/lang/IllegalArgumentException") (List.mem_cons_of_mem _ (gIn k_398 (by decide +kernel)))) (hts (.initialized "java/lang/IllegalArgumentException") (List.mem_cons_of_mem _ (gIn k_13 (by decide +kernel)))) (hts (.instantiable "java/lang/IllegalArgumentException" 6) (List.mem_cons_of_mem _ (gIn k_399 (by decide +kernel)))) hsa (xHat xIn_70 hts hxo) (hl.1.trans hml.symm) d_Fb_part_41 d_Fb_part_44 d_Fb_part_45 d_Fb_part_47 d_Fb_part_50 hout (Nat.le_of_ble_eq_true rfl) (Nat.le_of_ble_eq_true rfl) (Nat.le_refl _) (Nat.le_refl _) hlocks
  · 
    obtain ⟨sa, hsa⟩ := hxo.2.1 _ (show (68, _) ∈ xStr from List.mem_of_getElem? (i := 0) rfl)
    exact x_throw hx hb hl0 (names := xUp) hown (by decide +kernel) (by decide +kernel) (hts (.classLink R_Fb 66 "java/lang/IllegalArgumentException") (List.mem_cons_of_mem _ (gIn k_398 (by decide +kernel)))) (hts (.initialized "java/lang/IllegalArgumentException") (List.mem_cons_of_mem _ (gIn k_13 (by decide +kernel)))) (hts (.instantiable "java/lang/IllegalArgumentException" 6) (List.mem_cons_of_mem _ (gIn k_399 (by decide +kernel)))) hsa (xHat xIn_70 hts hxo) (hl.1.trans hml.symm) d_Fb_part_9 d_Fb_part_12 d_Fb_part_13 d_Fb_part_15 d_Fb_part_18 hout (Nat.le_of_ble_eq_true rfl) (Nat.le_of_ble_eq_true rfl) (Nat.le_refl _) (Nat.le_refl _) hlocks
set_option maxHeartbeats 4000000 in
set_option maxRecDepth 100000 in
theorem x_Fb_part_ise (l : Launch) (D : va_G) (t : Nat → ClassId) (a : Nat → Nat) (σ : Nat → Nat → Int32) (wd dp ht gr sp : Int32) (hN : σ 308 0 = nI 8) (h1 : ¬ fSides wd dp ht = 0) (h2 : ¬ mIn gr 1 50000 = 0) (h3 : ¬ mIn sp 0 50 = 0) (hl0 : l.stackTraces = false) : gMx l D t y_Fb_part b_Fb_part 6 (some .int) 12 [.ref (a 699), .int wd, .int dp, .int ht, .int gr, .int sp] (wFb t a σ) "java/lang/IllegalStateException" := by
  intro A
  refine x_ofW (cc := b_Fb_part) (maxL := 6) (ret := (some .int)) (by decide) rfl ?_
  intro p e s m args below meth c s₁ B hml hv
  obtain ⟨rfl, ⟨hK, hP, hD⟩, hxo⟩ := hv
  have hx := B.exec
  have hb := B.bytes
  have hr := B.returns
  have hts := atoms_spec (ws := .code y_Fb_part b_Fb_part 6 (some .int) :: gBig) B.pre
  have hown : s.vm.findClass R_Fb = some m.cls := findClass_of_methodNamed B.named
  have hlocks := B.notSynchronized
  have hout : c.exceptionTable.isEmpty = true := BodyLoose.noHandlers B (hts _ List.mem_cons_self)
  have hl := lv_entry ([.ref (a 699), .int wd, .int dp, .int ht, .int gr, .int sp]) (n := 6) (Nat.le_of_ble_eq_true rfl)
  rw [lg_entry_eq]
  generalize (lg_sl ([.ref (a 699), .int wd, .int dp, .int ht, .int gr, .int sp]) ++ List.replicate (6 - (lg_sl ([.ref (a 699), .int wd, .int dp, .int ht, .int gr, .int sp])).length) Slot.unset).toArray = ls at hl ⊢
  have hl : lv_has ls 6 [(0, .ref (a 699)), (1, .int wd), (2, .int dp), (3, .int ht), (4, .int gr), (5, .int sp)] := hl
  refine lv_iload_n hx hb d_Fb_part_0 rfl (lv_at hl 1 rfl) ?_
  refine lv_iload_n hx hb d_Fb_part_1 rfl (lv_at hl 2 rfl) ?_
  refine lv_iload_n hx hb d_Fb_part_2 rfl (lv_at hl 3 rfl) ?_
  refine g_sr (k := 3) (As := [.int wd, .int dp, .int ht]) (rest := []) (own := R_Fb) (index := 62) ⟨hx, hb, hml, hown, hts⟩ (r_Fb_areSides l D t a σ wd dp ht) (gg_Fb_62 _) (by decide +kernel) ⟨Nat.le_of_ble_eq_true rfl, Nat.le_of_ble_eq_true rfl⟩ rfl hK hP hD hl.1 rfl (Nat.le_of_ble_eq_true rfl) ⟨Nat.zero_le _, Nat.zero_le _⟩ d_Fb_part_3 ?_
  refine lv_if_ne (tgt := 19) hx hb d_Fb_part_6 (by decide) (fun c_1 => ?_) (fun c_1 => ?_)
  · 
    refine lv_iload hx hb d_Fb_part_19 (lv_at hl 4 rfl) ?_
    refine lv_iconst (v := 1) hx hb d_Fb_part_21 (by decide) ?_
    refine lv_ldc hx hb hown (hts (.constant R_Fb 95 50000) (List.mem_cons_of_mem _ (gIn k_499 (by decide +kernel)))) d_Fb_part_22 ?_
    refine g_sr (k := 3) (As := [.int gr, .int 1, .int 50000]) (rest := []) (own := R_Fb) (index := 74) ⟨hx, hb, hml, hown, hts⟩ (r_Fb_isWithin l D t a σ gr 1 50000) (gg_Fb_74 _) (by decide +kernel) ⟨Nat.le_of_ble_eq_true rfl, Nat.le_of_ble_eq_true rfl⟩ rfl hK hP hD hl.1 rfl (Nat.le_of_ble_eq_true rfl) ⟨Nat.zero_le _, Nat.zero_le _⟩ d_Fb_part_24 ?_
    refine lv_if_eq (tgt := 41) hx hb d_Fb_part_27 (by decide) (fun c_2 => ?_) (fun c_2 => ?_)
    · 
      exact absurd c_2 (h2)
    · 
      refine lv_iload hx hb d_Fb_part_30 (lv_at hl 5 rfl) ?_
      refine lv_iconst (v := 0) hx hb d_Fb_part_32 (by decide) ?_
      refine lv_bipush (v := 50) hx hb d_Fb_part_33 (by decide) ?_
      refine g_sr (k := 3) (As := [.int sp, .int 0, .int 50]) (rest := []) (own := R_Fb) (index := 74) ⟨hx, hb, hml, hown, hts⟩ (r_Fb_isWithin l D t a σ sp 0 50) (gg_Fb_74 _) (by decide +kernel) ⟨Nat.le_of_ble_eq_true rfl, Nat.le_of_ble_eq_true rfl⟩ rfl hK hP hD hl.1 rfl (Nat.le_of_ble_eq_true rfl) ⟨Nat.zero_le _, Nat.zero_le _⟩ d_Fb_part_35 ?_
      refine lv_if_ne (tgt := 51) hx hb d_Fb_part_38 (by decide) (fun c_3 => ?_) (fun c_3 => ?_)
      · 
        refine lv_aload_n hx hb d_Fb_part_51 rfl (lv_at hl 0 rfl) ?_
        refine va_get (D := D) (ci := 6) (v := .ref (a 399)) (C := R_Fb) (T := F_Fb) (N := 6) hx hb hts (fun w h => List.mem_cons_of_mem _ (i_Fb w h)) hown hK.1 hP 0 (wFb_o6 t a σ) rfl 1 (by decide) (hts (.fieldLink R_Fb 19 "FlatBoxes" "partRows" "LFlatBoxes$Parts;") (List.mem_cons_of_mem _ (gIn k_245 (by decide +kernel)))) (fun _ h9 => h9) rfl d_Fb_part_52 ?_
        refine va_get (D := D) (ci := 3) (v := .int (σ 308 0)) (C := R_Pt) (T := F_Pt) (N := 9) hx hb hts (fun w h => List.mem_cons_of_mem _ (i_Pt w h)) hown hK.1 hP 2 (wFb_o3 t a σ) rfl 8 (by decide) (hts (.fieldLink R_Fb 98 "FlatBoxes$Parts" "count" "I") (List.mem_cons_of_mem _ (gIn k_88 (by decide +kernel)))) (fun _ h9 => h9) rfl d_Fb_part_55 ?_
        refine lv_topi (fun v_4 e_4 => ?_)
        obtain rfl : 8 = v_4 := (e_4.trans (hN)).symm
        refine lv_bipush (v := 8) hx hb d_Fb_part_58 (by decide) ?_
        refine lv_icmp_lt (tgt := 73) hx hb d_Fb_part_60 (by decide) (fun c_5 => ?_) (fun c_5 => ?_)
        · 
          exact absurd c_5 (by decide)
        · 
          obtain ⟨sa, hsa⟩ := hxo.2.1 _ (show (99, _) ∈ xStr from List.mem_of_getElem? (i := 4) rfl)
          exact x_throw hx hb hl0 (names := xUp) hown (by decide +kernel) (by decide +kernel) (hts (.classLink R_Fb 83 "java/lang/IllegalStateException") (List.mem_cons_of_mem _ (gIn k_468 (by decide +kernel)))) (hts (.initialized "java/lang/IllegalStateException") (List.mem_cons_of_mem _ (gIn k_14 (by decide +kernel)))) (hts (.instantiable "java/lang/IllegalStateException" 6) (List.mem_cons_of_mem _ (gIn k_469 (by decide +kernel)))) hsa (xHat xIn_87 hts hxo) (hl.1.trans hml.symm) d_Fb_part_63 d_Fb_part_66 d_Fb_part_67 d_Fb_part_69 d_Fb_part_72 hout (Nat.le_of_ble_eq_true rfl) (Nat.le_of_ble_eq_true rfl) (Nat.le_refl _) (Nat.le_refl _) hlocks
      · 
        exact absurd c_3 (h3)
  · 
    exact absurd c_1 (h1)
set_option maxHeartbeats 4000000 in
set_option maxRecDepth 100000 in
theorem x_Fb_fragile_iob (l : Launch) (D : va_G) (t : Nat → ClassId) (a : Nat → Nat) (σ : Nat → Nat → Int32) (pq on : Int32) (hE : fPlc pq (σ 308 0) = 0) (hl0 : l.stackTraces = false) : gMx l D t y_Fb_fragile b_Fb_fragile 3 (some .boolean) 12 [.ref (a 699), .int pq, .int on] (wFb t a σ) "java/lang/IndexOutOfBoundsException" := by
  intro A
  refine x_ofW (cc := b_Fb_fragile) (maxL := 3) (ret := (some .boolean)) (by decide) rfl ?_
  intro p e s m args below meth c s₁ B hml hv
  obtain ⟨rfl, ⟨hK, hP, hD⟩, hxo⟩ := hv
  have hx := B.exec
  have hb := B.bytes
  have hr := B.returns
  have hts := atoms_spec (ws := .code y_Fb_fragile b_Fb_fragile 3 (some .boolean) :: gBig) B.pre
  have hown : s.vm.findClass R_Fb = some m.cls := findClass_of_methodNamed B.named
  have hlocks := B.notSynchronized
  have hout : c.exceptionTable.isEmpty = true := BodyLoose.noHandlers B (hts _ List.mem_cons_self)
  have hl := lv_entry ([.ref (a 699), .int pq, .int on]) (n := 3) (Nat.le_of_ble_eq_true rfl)
  rw [lg_entry_eq]
  generalize (lg_sl ([.ref (a 699), .int pq, .int on]) ++ List.replicate (3 - (lg_sl ([.ref (a 699), .int pq, .int on])).length) Slot.unset).toArray = ls at hl ⊢
  have hl : lv_has ls 3 [(0, .ref (a 699)), (1, .int pq), (2, .int on)] := hl
  refine lv_iload_n hx hb d_Fb_fragile_0 rfl (lv_at hl 1 rfl) ?_
  refine lv_aload_n hx hb d_Fb_fragile_1 rfl (lv_at hl 0 rfl) ?_
  refine va_get (D := D) (ci := 6) (v := .ref (a 399)) (C := R_Fb) (T := F_Fb) (N := 6) hx hb hts (fun w h => List.mem_cons_of_mem _ (i_Fb w h)) hown hK.1 hP 0 (wFb_o6 t a σ) rfl 1 (by decide) (hts (.fieldLink R_Fb 19 "FlatBoxes" "partRows" "LFlatBoxes$Parts;") (List.mem_cons_of_mem _ (gIn k_245 (by decide +kernel)))) (fun _ h9 => h9) rfl d_Fb_fragile_2 ?_
  refine va_get (D := D) (ci := 3) (v := .int (σ 308 0)) (C := R_Pt) (T := F_Pt) (N := 9) hx hb hts (fun w h => List.mem_cons_of_mem _ (i_Pt w h)) hown hK.1 hP 2 (wFb_o3 t a σ) rfl 8 (by decide) (hts (.fieldLink R_Fb 98 "FlatBoxes$Parts" "count" "I") (List.mem_cons_of_mem _ (gIn k_88 (by decide +kernel)))) (fun _ h9 => h9) rfl d_Fb_fragile_5 ?_
  refine g_sr (k := 2) (As := [.int pq, .int (σ 308 0)]) (rest := []) (own := R_Fb) (index := 102) ⟨hx, hb, hml, hown, hts⟩ (r_Fb_isPlace l D t a σ pq (σ 308 0)) (gg_Fb_102 _) (by decide +kernel) ⟨Nat.le_of_ble_eq_true rfl, Nat.le_of_ble_eq_true rfl⟩ rfl hK hP hD hl.1 rfl (Nat.le_of_ble_eq_true rfl) ⟨Nat.zero_le _, Nat.zero_le _⟩ d_Fb_fragile_8 ?_
  refine lv_if_ne (tgt := 24) hx hb d_Fb_fragile_11 (by decide) (fun c_1 => ?_) (fun c_1 => ?_)
  · 
    exact absurd c_1 (fun h9 => h9 hE)
  · 
    obtain ⟨sa, hsa⟩ := hxo.2.1 _ (show (108, _) ∈ xStr from List.mem_of_getElem? (i := 5) rfl)
    exact x_throw hx hb hl0 (names := xUp) hown (by decide +kernel) (by decide +kernel) (hts (.classLink R_Fb 106 "java/lang/IndexOutOfBoundsException") (List.mem_cons_of_mem _ (gIn k_525 (by decide +kernel)))) (hts (.initialized "java/lang/IndexOutOfBoundsException") (List.mem_cons_of_mem _ (gIn k_15 (by decide +kernel)))) (hts (.instantiable "java/lang/IndexOutOfBoundsException" 6) (List.mem_cons_of_mem _ (gIn k_526 (by decide +kernel)))) hsa (xHat xIn_110 hts hxo) (hl.1.trans hml.symm) d_Fb_fragile_14 d_Fb_fragile_17 d_Fb_fragile_18 d_Fb_fragile_20 d_Fb_fragile_23 hout (Nat.le_of_ble_eq_true rfl) (Nat.le_of_ble_eq_true rfl) (Nat.le_refl _) (Nat.le_refl _) hlocks
set_option maxHeartbeats 4000000 in
set_option maxRecDepth 100000 in
theorem x_Fb_fits_iob (l : Launch) (D : va_G) (t : Nat → ClassId) (a : Nat → Nat) (σ : Nat → Nat → Int32) (cv set : Int32) (hE : fPlc cv (σ 105 0) = 0) (hl0 : l.stackTraces = false) : gMx l D t y_Fb_fits b_Fb_fits 3 (some .boolean) 12 [.ref (a 699), .int cv, .int set] (wFb t a σ) "java/lang/IndexOutOfBoundsException" := by
  intro A
  refine x_ofW (cc := b_Fb_fits) (maxL := 3) (ret := (some .boolean)) (by decide) rfl ?_
  intro p e s m args below meth c s₁ B hml hv
  obtain ⟨rfl, ⟨hK, hP, hD⟩, hxo⟩ := hv
  have hx := B.exec
  have hb := B.bytes
  have hr := B.returns
  have hts := atoms_spec (ws := .code y_Fb_fits b_Fb_fits 3 (some .boolean) :: gBig) B.pre
  have hown : s.vm.findClass R_Fb = some m.cls := findClass_of_methodNamed B.named
  have hlocks := B.notSynchronized
  have hout : c.exceptionTable.isEmpty = true := BodyLoose.noHandlers B (hts _ List.mem_cons_self)
  have hl := lv_entry ([.ref (a 699), .int cv, .int set]) (n := 3) (Nat.le_of_ble_eq_true rfl)
  rw [lg_entry_eq]
  generalize (lg_sl ([.ref (a 699), .int cv, .int set]) ++ List.replicate (3 - (lg_sl ([.ref (a 699), .int cv, .int set])).length) Slot.unset).toArray = ls at hl ⊢
  have hl : lv_has ls 3 [(0, .ref (a 699)), (1, .int cv), (2, .int set)] := hl
  refine lv_iload_n hx hb d_Fb_fits_0 rfl (lv_at hl 1 rfl) ?_
  refine lv_aload_n hx hb d_Fb_fits_1 rfl (lv_at hl 0 rfl) ?_
  refine va_get (D := D) (ci := 6) (v := .ref (a 199)) (C := R_Fb) (T := F_Fb) (N := 6) hx hb hts (fun w h => List.mem_cons_of_mem _ (i_Fb w h)) hown hK.1 hP 0 (wFb_o6 t a σ) rfl 0 (by decide) (hts (.fieldLink R_Fb 12 "FlatBoxes" "cartonRows" "LFlatBoxes$Cartons;") (List.mem_cons_of_mem _ (gIn k_244 (by decide +kernel)))) (fun _ h9 => h9) rfl d_Fb_fits_2 ?_
  refine va_get (D := D) (ci := 1) (v := .int (σ 105 0)) (C := R_Ct) (T := F_Ct) (N := 6) hx hb hts (fun w h => List.mem_cons_of_mem _ (i_Ct w h)) hown hK.1 hP 1 (wFb_o1 t a σ) rfl 5 (by decide) (hts (.fieldLink R_Fb 79 "FlatBoxes$Cartons" "count" "I") (List.mem_cons_of_mem _ (gIn k_47 (by decide +kernel)))) (fun _ h9 => h9) rfl d_Fb_fits_5 ?_
  refine g_sr (k := 2) (As := [.int cv, .int (σ 105 0)]) (rest := []) (own := R_Fb) (index := 102) ⟨hx, hb, hml, hown, hts⟩ (r_Fb_isPlace l D t a σ cv (σ 105 0)) (gg_Fb_102 _) (by decide +kernel) ⟨Nat.le_of_ble_eq_true rfl, Nat.le_of_ble_eq_true rfl⟩ rfl hK hP hD hl.1 rfl (Nat.le_of_ble_eq_true rfl) ⟨Nat.zero_le _, Nat.zero_le _⟩ d_Fb_fits_8 ?_
  refine lv_if_ne (tgt := 24) hx hb d_Fb_fits_11 (by decide) (fun c_1 => ?_) (fun c_1 => ?_)
  · 
    exact absurd c_1 (fun h9 => h9 hE)
  · 
    obtain ⟨sa, hsa⟩ := hxo.2.1 _ (show (115, _) ∈ xStr from List.mem_of_getElem? (i := 6) rfl)
    exact x_throw hx hb hl0 (names := xUp) hown (by decide +kernel) (by decide +kernel) (hts (.classLink R_Fb 106 "java/lang/IndexOutOfBoundsException") (List.mem_cons_of_mem _ (gIn k_525 (by decide +kernel)))) (hts (.initialized "java/lang/IndexOutOfBoundsException") (List.mem_cons_of_mem _ (gIn k_15 (by decide +kernel)))) (hts (.instantiable "java/lang/IndexOutOfBoundsException" 6) (List.mem_cons_of_mem _ (gIn k_526 (by decide +kernel)))) hsa (xHat xIn_110 hts hxo) (hl.1.trans hml.symm) d_Fb_fits_14 d_Fb_fits_17 d_Fb_fits_18 d_Fb_fits_20 d_Fb_fits_23 hout (Nat.le_of_ble_eq_true rfl) (Nat.le_of_ble_eq_true rfl) (Nat.le_refl _) (Nat.le_refl _) hlocks
set_option maxHeartbeats 4000000 in
set_option maxRecDepth 100000 in
theorem x_Fb_fits_iae (l : Launch) (D : va_G) (t : Nat → ClassId) (a : Nat → Nat) (σ : Nat → Nat → Int32) (cv set : Int32) (np : Nat) (hN : σ 308 0 = nI np) (hN8 : np ≤ 8) (h1 : ¬ fPlc cv (σ 105 0) = 0) (hE : mIn set 1 (((1 : Int32) <<< (nI np &&& 31)) - 1) = 0) (hl0 : l.stackTraces = false) : gMx l D t y_Fb_fits b_Fb_fits 3 (some .boolean) 12 [.ref (a 699), .int cv, .int set] (wFb t a σ) "java/lang/IllegalArgumentException" := by
  intro A
  refine x_ofW (cc := b_Fb_fits) (maxL := 3) (ret := (some .boolean)) (by decide) rfl ?_
  intro p e s m args below meth c s₁ B hml hv
  obtain ⟨rfl, ⟨hK, hP, hD⟩, hxo⟩ := hv
  have hx := B.exec
  have hb := B.bytes
  have hr := B.returns
  have hts := atoms_spec (ws := .code y_Fb_fits b_Fb_fits 3 (some .boolean) :: gBig) B.pre
  have hown : s.vm.findClass R_Fb = some m.cls := findClass_of_methodNamed B.named
  have hlocks := B.notSynchronized
  have hout : c.exceptionTable.isEmpty = true := BodyLoose.noHandlers B (hts _ List.mem_cons_self)
  have hl := lv_entry ([.ref (a 699), .int cv, .int set]) (n := 3) (Nat.le_of_ble_eq_true rfl)
  rw [lg_entry_eq]
  generalize (lg_sl ([.ref (a 699), .int cv, .int set]) ++ List.replicate (3 - (lg_sl ([.ref (a 699), .int cv, .int set])).length) Slot.unset).toArray = ls at hl ⊢
  have hl : lv_has ls 3 [(0, .ref (a 699)), (1, .int cv), (2, .int set)] := hl
  refine lv_iload_n hx hb d_Fb_fits_0 rfl (lv_at hl 1 rfl) ?_
  refine lv_aload_n hx hb d_Fb_fits_1 rfl (lv_at hl 0 rfl) ?_
  refine va_get (D := D) (ci := 6) (v := .ref (a 199)) (C := R_Fb) (T := F_Fb) (N := 6) hx hb hts (fun w h => List.mem_cons_of_mem _ (i_Fb w h)) hown hK.1 hP 0 (wFb_o6 t a σ) rfl 0 (by decide) (hts (.fieldLink R_Fb 12 "FlatBoxes" "cartonRows" "LFlatBoxes$Cartons;") (List.mem_cons_of_mem _ (gIn k_244 (by decide +kernel)))) (fun _ h9 => h9) rfl d_Fb_fits_2 ?_
  refine va_get (D := D) (ci := 1) (v := .int (σ 105 0)) (C := R_Ct) (T := F_Ct) (N := 6) hx hb hts (fun w h => List.mem_cons_of_mem _ (i_Ct w h)) hown hK.1 hP 1 (wFb_o1 t a σ) rfl 5 (by decide) (hts (.fieldLink R_Fb 79 "FlatBoxes$Cartons" "count" "I") (List.mem_cons_of_mem _ (gIn k_47 (by decide +kernel)))) (fun _ h9 => h9) rfl d_Fb_fits_5 ?_
  refine g_sr (k := 2) (As := [.int cv, .int (σ 105 0)]) (rest := []) (own := R_Fb) (index := 102) ⟨hx, hb, hml, hown, hts⟩ (r_Fb_isPlace l D t a σ cv (σ 105 0)) (gg_Fb_102 _) (by decide +kernel) ⟨Nat.le_of_ble_eq_true rfl, Nat.le_of_ble_eq_true rfl⟩ rfl hK hP hD hl.1 rfl (Nat.le_of_ble_eq_true rfl) ⟨Nat.zero_le _, Nat.zero_le _⟩ d_Fb_fits_8 ?_
  refine lv_if_ne (tgt := 24) hx hb d_Fb_fits_11 (by decide) (fun c_1 => ?_) (fun c_1 => ?_)
  · 
    refine lv_iload_n hx hb d_Fb_fits_24 rfl (lv_at hl 2 rfl) ?_
    refine lv_iconst (v := 1) hx hb d_Fb_fits_25 (by decide) ?_
    refine lv_aload_n hx hb d_Fb_fits_26 rfl (lv_at hl 0 rfl) ?_
    refine va_get (D := D) (ci := 6) (v := .ref (a 399)) (C := R_Fb) (T := F_Fb) (N := 6) hx hb hts (fun w h => List.mem_cons_of_mem _ (i_Fb w h)) hown hK.1 hP 0 (wFb_o6 t a σ) rfl 1 (by decide) (hts (.fieldLink R_Fb 19 "FlatBoxes" "partRows" "LFlatBoxes$Parts;") (List.mem_cons_of_mem _ (gIn k_245 (by decide +kernel)))) (fun _ h9 => h9) rfl d_Fb_fits_27 ?_
    refine g_vr (k := 0) (As := []) (rest := [.int 1, .int set]) (own := R_Fb) (C := R_Pt) (index := 117) ⟨hx, hb, hml, hown, hts⟩ (r_Pt_everyPart l D t a σ np hN hN8) (gg_Fb_117 _) (by decide +kernel) ⟨Nat.le_of_ble_eq_true rfl, Nat.le_of_ble_eq_true rfl⟩ rfl (va_recv hK.1 hP (ci := 3) (q0 := 2) rfl (wFb_o3 t a σ)) hK hP hD hl.1 rfl (Nat.le_of_ble_eq_true rfl) ⟨Nat.zero_le _, Nat.zero_le _⟩ d_Fb_fits_30 ?_
    refine g_sr (k := 3) (As := [.int set, .int 1, .int (((1 : Int32) <<< (nI np &&& 31)) - 1)]) (rest := []) (own := R_Fb) (index := 74) ⟨hx, hb, hml, hown, hts⟩ (r_Fb_isWithin l D t a σ set 1 (((1 : Int32) <<< (nI np &&& 31)) - 1)) (gg_Fb_74 _) (by decide +kernel) ⟨Nat.le_of_ble_eq_true rfl, Nat.le_of_ble_eq_true rfl⟩ rfl hK hP hD hl.1 rfl (Nat.le_of_ble_eq_true rfl) ⟨Nat.zero_le _, Nat.zero_le _⟩ d_Fb_fits_33 ?_
    refine lv_if_ne (tgt := 49) hx hb d_Fb_fits_36 (by decide) (fun c_2 => ?_) (fun c_2 => ?_)
    · 
      exact absurd c_2 (fun h9 => h9 hE)
    · 
      obtain ⟨sa, hsa⟩ := hxo.2.1 _ (show (121, _) ∈ xStr from List.mem_of_getElem? (i := 7) rfl)
      exact x_throw hx hb hl0 (names := xUp) hown (by decide +kernel) (by decide +kernel) (hts (.classLink R_Fb 66 "java/lang/IllegalArgumentException") (List.mem_cons_of_mem _ (gIn k_398 (by decide +kernel)))) (hts (.initialized "java/lang/IllegalArgumentException") (List.mem_cons_of_mem _ (gIn k_13 (by decide +kernel)))) (hts (.instantiable "java/lang/IllegalArgumentException" 6) (List.mem_cons_of_mem _ (gIn k_399 (by decide +kernel)))) hsa (xHat xIn_70 hts hxo) (hl.1.trans hml.symm) d_Fb_fits_39 d_Fb_fits_42 d_Fb_fits_43 d_Fb_fits_45 d_Fb_fits_48 hout (Nat.le_of_ble_eq_true rfl) (Nat.le_of_ble_eq_true rfl) (Nat.le_refl _) (Nat.le_refl _) hlocks
  · 
    exact absurd c_1 (h1)
set_option maxHeartbeats 4000000 in
set_option maxRecDepth 100000 in
theorem x_Fb_manual_iob (l : Launch) (D : va_G) (t : Nat → ClassId) (a : Nat → Nat) (σ : Nat → Nat → Int32) (kv : Int32) (hE : fPlc kv (σ 308 0) = 0) (hl0 : l.stackTraces = false) : gMx l D t y_Fb_manual b_Fb_manual 2 (some .int) 12 [.ref (a 699), .int kv] (wFb t a σ) "java/lang/IndexOutOfBoundsException" := by
  intro A
  refine x_ofW (cc := b_Fb_manual) (maxL := 2) (ret := (some .int)) (by decide) rfl ?_
  intro p e s m args below meth c s₁ B hml hv
  obtain ⟨rfl, ⟨hK, hP, hD⟩, hxo⟩ := hv
  have hx := B.exec
  have hb := B.bytes
  have hr := B.returns
  have hts := atoms_spec (ws := .code y_Fb_manual b_Fb_manual 2 (some .int) :: gBig) B.pre
  have hown : s.vm.findClass R_Fb = some m.cls := findClass_of_methodNamed B.named
  have hlocks := B.notSynchronized
  have hout : c.exceptionTable.isEmpty = true := BodyLoose.noHandlers B (hts _ List.mem_cons_self)
  have hl := lv_entry ([.ref (a 699), .int kv]) (n := 2) (Nat.le_of_ble_eq_true rfl)
  rw [lg_entry_eq]
  generalize (lg_sl ([.ref (a 699), .int kv]) ++ List.replicate (2 - (lg_sl ([.ref (a 699), .int kv])).length) Slot.unset).toArray = ls at hl ⊢
  have hl : lv_has ls 2 [(0, .ref (a 699)), (1, .int kv)] := hl
  refine lv_iload_n hx hb d_Fb_manual_0 rfl (lv_at hl 1 rfl) ?_
  refine lv_aload_n hx hb d_Fb_manual_1 rfl (lv_at hl 0 rfl) ?_
  refine va_get (D := D) (ci := 6) (v := .ref (a 399)) (C := R_Fb) (T := F_Fb) (N := 6) hx hb hts (fun w h => List.mem_cons_of_mem _ (i_Fb w h)) hown hK.1 hP 0 (wFb_o6 t a σ) rfl 1 (by decide) (hts (.fieldLink R_Fb 19 "FlatBoxes" "partRows" "LFlatBoxes$Parts;") (List.mem_cons_of_mem _ (gIn k_245 (by decide +kernel)))) (fun _ h9 => h9) rfl d_Fb_manual_2 ?_
  refine va_get (D := D) (ci := 3) (v := .int (σ 308 0)) (C := R_Pt) (T := F_Pt) (N := 9) hx hb hts (fun w h => List.mem_cons_of_mem _ (i_Pt w h)) hown hK.1 hP 2 (wFb_o3 t a σ) rfl 8 (by decide) (hts (.fieldLink R_Fb 98 "FlatBoxes$Parts" "count" "I") (List.mem_cons_of_mem _ (gIn k_88 (by decide +kernel)))) (fun _ h9 => h9) rfl d_Fb_manual_5 ?_
  refine g_sr (k := 2) (As := [.int kv, .int (σ 308 0)]) (rest := []) (own := R_Fb) (index := 102) ⟨hx, hb, hml, hown, hts⟩ (r_Fb_isPlace l D t a σ kv (σ 308 0)) (gg_Fb_102 _) (by decide +kernel) ⟨Nat.le_of_ble_eq_true rfl, Nat.le_of_ble_eq_true rfl⟩ rfl hK hP hD hl.1 rfl (Nat.le_of_ble_eq_true rfl) ⟨Nat.zero_le _, Nat.zero_le _⟩ d_Fb_manual_8 ?_
  refine lv_if_ne (tgt := 24) hx hb d_Fb_manual_11 (by decide) (fun c_1 => ?_) (fun c_1 => ?_)
  · 
    exact absurd c_1 (fun h9 => h9 hE)
  · 
    obtain ⟨sa, hsa⟩ := hxo.2.1 _ (show (159, _) ∈ xStr from List.mem_of_getElem? (i := 11) rfl)
    exact x_throw hx hb hl0 (names := xUp) hown (by decide +kernel) (by decide +kernel) (hts (.classLink R_Fb 106 "java/lang/IndexOutOfBoundsException") (List.mem_cons_of_mem _ (gIn k_525 (by decide +kernel)))) (hts (.initialized "java/lang/IndexOutOfBoundsException") (List.mem_cons_of_mem _ (gIn k_15 (by decide +kernel)))) (hts (.instantiable "java/lang/IndexOutOfBoundsException" 6) (List.mem_cons_of_mem _ (gIn k_526 (by decide +kernel)))) hsa (xHat xIn_110 hts hxo) (hl.1.trans hml.symm) d_Fb_manual_14 d_Fb_manual_17 d_Fb_manual_18 d_Fb_manual_20 d_Fb_manual_23 hout (Nat.le_of_ble_eq_true rfl) (Nat.le_of_ble_eq_true rfl) (Nat.le_refl _) (Nat.le_refl _) hlocks
set_option maxHeartbeats 4000000 in
set_option maxRecDepth 100000 in
theorem x_Fb_bag_ise (l : Launch) (D : va_G) (t : Nat → ClassId) (a : Nat → Nat) (σ : Nat → Nat → Int32) (hB : σ 6 0 = nI 4) (hl0 : l.stackTraces = false) : gMx l D t y_Fb_bag b_Fb_bag 1 (some .int) 12 [.ref (a 699)] (wFb t a σ) "java/lang/IllegalStateException" := by
  intro A
  refine x_ofW (cc := b_Fb_bag) (maxL := 1) (ret := (some .int)) (by decide) rfl ?_
  intro p e s m args below meth c s₁ B hml hv
  obtain ⟨rfl, ⟨hK, hP, hD⟩, hxo⟩ := hv
  have hx := B.exec
  have hb := B.bytes
  have hr := B.returns
  have hts := atoms_spec (ws := .code y_Fb_bag b_Fb_bag 1 (some .int) :: gBig) B.pre
  have hown : s.vm.findClass R_Fb = some m.cls := findClass_of_methodNamed B.named
  have hlocks := B.notSynchronized
  have hout : c.exceptionTable.isEmpty = true := BodyLoose.noHandlers B (hts _ List.mem_cons_self)
  have hl := lv_entry ([.ref (a 699)]) (n := 1) (Nat.le_of_ble_eq_true rfl)
  rw [lg_entry_eq]
  generalize (lg_sl ([.ref (a 699)]) ++ List.replicate (1 - (lg_sl ([.ref (a 699)])).length) Slot.unset).toArray = ls at hl ⊢
  have hl : lv_has ls 1 [(0, .ref (a 699))] := hl
  refine lv_aload_n hx hb d_Fb_bag_0 rfl (lv_at hl 0 rfl) ?_
  refine va_get (D := D) (ci := 6) (v := .ref (a 99)) (C := R_Fb) (T := F_Fb) (N := 6) hx hb hts (fun w h => List.mem_cons_of_mem _ (i_Fb w h)) hown hK.1 hP 0 (wFb_o6 t a σ) rfl 5 (by decide) (hts (.fieldLink R_Fb 58 "FlatBoxes" "bagRows" "LFlatBoxes$Bags;") (List.mem_cons_of_mem _ (gIn k_249 (by decide +kernel)))) (fun _ h9 => h9) rfl d_Fb_bag_1 ?_
  refine va_get (D := D) (ci := 0) (v := .int (σ 6 0)) (C := R_Bg) (T := F_Bg) (N := 7) hx hb hts (fun w h => List.mem_cons_of_mem _ (i_Bg w h)) hown hK.1 hP 6 (wFb_o0 t a σ) rfl 6 (by decide) (hts (.fieldLink R_Fb 165 "FlatBoxes$Bags" "count" "I") (List.mem_cons_of_mem _ (gIn k_228 (by decide +kernel)))) (fun _ h9 => h9) rfl d_Fb_bag_4 ?_
  refine lv_topi (fun v_1 e_1 => ?_)
  obtain rfl : 4 = v_1 := (e_1.trans (hB)).symm
  refine lv_iconst (v := 4) hx hb d_Fb_bag_7 (by decide) ?_
  refine lv_icmp_lt (tgt := 21) hx hb d_Fb_bag_8 (by decide) (fun c_2 => ?_) (fun c_2 => ?_)
  · 
    exact absurd c_2 (by decide)
  · 
    obtain ⟨sa, hsa⟩ := hxo.2.1 _ (show (166, _) ∈ xStr from List.mem_of_getElem? (i := 12) rfl)
    exact x_throw hx hb hl0 (names := xUp) hown (by decide +kernel) (by decide +kernel) (hts (.classLink R_Fb 83 "java/lang/IllegalStateException") (List.mem_cons_of_mem _ (gIn k_468 (by decide +kernel)))) (hts (.initialized "java/lang/IllegalStateException") (List.mem_cons_of_mem _ (gIn k_14 (by decide +kernel)))) (hts (.instantiable "java/lang/IllegalStateException" 6) (List.mem_cons_of_mem _ (gIn k_469 (by decide +kernel)))) hsa (xHat xIn_87 hts hxo) (hl.1.trans hml.symm) d_Fb_bag_11 d_Fb_bag_14 d_Fb_bag_15 d_Fb_bag_17 d_Fb_bag_20 hout (Nat.le_of_ble_eq_true rfl) (Nat.le_of_ble_eq_true rfl) (Nat.le_refl _) (Nat.le_refl _) hlocks
set_option maxHeartbeats 4000000 in
set_option maxRecDepth 100000 in
theorem x_Fb_into_iob (l : Launch) (D : va_G) (t : Nat → ClassId) (a : Nat → Nat) (σ : Nat → Nat → Int32) (bg mn ec sp : Int32) (hE : fPlc bg (σ 6 0) = 0) (hl0 : l.stackTraces = false) : gMx l D t y_Fb_into b_Fb_into 5 (some .int) 12 [.ref (a 699), .int bg, .int mn, .int ec, .int sp] (wFb t a σ) "java/lang/IndexOutOfBoundsException" := by
  intro A
  refine x_ofW (cc := b_Fb_into) (maxL := 5) (ret := (some .int)) (by decide) rfl ?_
  intro p e s m args below meth c s₁ B hml hv
  obtain ⟨rfl, ⟨hK, hP, hD⟩, hxo⟩ := hv
  have hx := B.exec
  have hb := B.bytes
  have hr := B.returns
  have hts := atoms_spec (ws := .code y_Fb_into b_Fb_into 5 (some .int) :: gBig) B.pre
  have hown : s.vm.findClass R_Fb = some m.cls := findClass_of_methodNamed B.named
  have hlocks := B.notSynchronized
  have hout : c.exceptionTable.isEmpty = true := BodyLoose.noHandlers B (hts _ List.mem_cons_self)
  have hl := lv_entry ([.ref (a 699), .int bg, .int mn, .int ec, .int sp]) (n := 5) (Nat.le_of_ble_eq_true rfl)
  rw [lg_entry_eq]
  generalize (lg_sl ([.ref (a 699), .int bg, .int mn, .int ec, .int sp]) ++ List.replicate (5 - (lg_sl ([.ref (a 699), .int bg, .int mn, .int ec, .int sp])).length) Slot.unset).toArray = ls at hl ⊢
  have hl : lv_has ls 5 [(0, .ref (a 699)), (1, .int bg), (2, .int mn), (3, .int ec), (4, .int sp)] := hl
  refine lv_iload_n hx hb d_Fb_into_0 rfl (lv_at hl 1 rfl) ?_
  refine lv_aload_n hx hb d_Fb_into_1 rfl (lv_at hl 0 rfl) ?_
  refine va_get (D := D) (ci := 6) (v := .ref (a 99)) (C := R_Fb) (T := F_Fb) (N := 6) hx hb hts (fun w h => List.mem_cons_of_mem _ (i_Fb w h)) hown hK.1 hP 0 (wFb_o6 t a σ) rfl 5 (by decide) (hts (.fieldLink R_Fb 58 "FlatBoxes" "bagRows" "LFlatBoxes$Bags;") (List.mem_cons_of_mem _ (gIn k_249 (by decide +kernel)))) (fun _ h9 => h9) rfl d_Fb_into_2 ?_
  refine va_get (D := D) (ci := 0) (v := .int (σ 6 0)) (C := R_Bg) (T := F_Bg) (N := 7) hx hb hts (fun w h => List.mem_cons_of_mem _ (i_Bg w h)) hown hK.1 hP 6 (wFb_o0 t a σ) rfl 6 (by decide) (hts (.fieldLink R_Fb 165 "FlatBoxes$Bags" "count" "I") (List.mem_cons_of_mem _ (gIn k_228 (by decide +kernel)))) (fun _ h9 => h9) rfl d_Fb_into_5 ?_
  refine g_sr (k := 2) (As := [.int bg, .int (σ 6 0)]) (rest := []) (own := R_Fb) (index := 102) ⟨hx, hb, hml, hown, hts⟩ (r_Fb_isPlace l D t a σ bg (σ 6 0)) (gg_Fb_102 _) (by decide +kernel) ⟨Nat.le_of_ble_eq_true rfl, Nat.le_of_ble_eq_true rfl⟩ rfl hK hP hD hl.1 rfl (Nat.le_of_ble_eq_true rfl) ⟨Nat.zero_le _, Nat.zero_le _⟩ d_Fb_into_8 ?_
  refine lv_if_ne (tgt := 24) hx hb d_Fb_into_11 (by decide) (fun c_1 => ?_) (fun c_1 => ?_)
  · 
    exact absurd c_1 (fun h9 => h9 hE)
  · 
    obtain ⟨sa, hsa⟩ := hxo.2.1 _ (show (170, _) ∈ xStr from List.mem_of_getElem? (i := 13) rfl)
    exact x_throw hx hb hl0 (names := xUp) hown (by decide +kernel) (by decide +kernel) (hts (.classLink R_Fb 106 "java/lang/IndexOutOfBoundsException") (List.mem_cons_of_mem _ (gIn k_525 (by decide +kernel)))) (hts (.initialized "java/lang/IndexOutOfBoundsException") (List.mem_cons_of_mem _ (gIn k_15 (by decide +kernel)))) (hts (.instantiable "java/lang/IndexOutOfBoundsException" 6) (List.mem_cons_of_mem _ (gIn k_526 (by decide +kernel)))) hsa (xHat xIn_110 hts hxo) (hl.1.trans hml.symm) d_Fb_into_14 d_Fb_into_17 d_Fb_into_18 d_Fb_into_20 d_Fb_into_23 hout (Nat.le_of_ble_eq_true rfl) (Nat.le_of_ble_eq_true rfl) (Nat.le_refl _) (Nat.le_refl _) hlocks
set_option maxHeartbeats 4000000 in
set_option maxRecDepth 100000 in
theorem x_Fb_into_iae (l : Launch) (D : va_G) (t : Nat → ClassId) (a : Nat → Nat) (σ : Nat → Nat → Int32) (bg mn ec sp : Int32) (h1 : ¬ fPlc bg (σ 6 0) = 0) (hE : mIn mn 0 1000 = 0 ∨ mIn ec 1 1000 = 0 ∨ mIn sp 0 ec = 0) (hl0 : l.stackTraces = false) : gMx l D t y_Fb_into b_Fb_into 5 (some .int) 12 [.ref (a 699), .int bg, .int mn, .int ec, .int sp] (wFb t a σ) "java/lang/IllegalArgumentException" := by
  intro A
  refine x_ofW (cc := b_Fb_into) (maxL := 5) (ret := (some .int)) (by decide) rfl ?_
  intro p e s m args below meth c s₁ B hml hv
  obtain ⟨rfl, ⟨hK, hP, hD⟩, hxo⟩ := hv
  have hx := B.exec
  have hb := B.bytes
  have hr := B.returns
  have hts := atoms_spec (ws := .code y_Fb_into b_Fb_into 5 (some .int) :: gBig) B.pre
  have hown : s.vm.findClass R_Fb = some m.cls := findClass_of_methodNamed B.named
  have hlocks := B.notSynchronized
  have hout : c.exceptionTable.isEmpty = true := BodyLoose.noHandlers B (hts _ List.mem_cons_self)
  have hl := lv_entry ([.ref (a 699), .int bg, .int mn, .int ec, .int sp]) (n := 5) (Nat.le_of_ble_eq_true rfl)
  rw [lg_entry_eq]
  generalize (lg_sl ([.ref (a 699), .int bg, .int mn, .int ec, .int sp]) ++ List.replicate (5 - (lg_sl ([.ref (a 699), .int bg, .int mn, .int ec, .int sp])).length) Slot.unset).toArray = ls at hl ⊢
  have hl : lv_has ls 5 [(0, .ref (a 699)), (1, .int bg), (2, .int mn), (3, .int ec), (4, .int sp)] := hl
  refine lv_iload_n hx hb d_Fb_into_0 rfl (lv_at hl 1 rfl) ?_
  refine lv_aload_n hx hb d_Fb_into_1 rfl (lv_at hl 0 rfl) ?_
  refine va_get (D := D) (ci := 6) (v := .ref (a 99)) (C := R_Fb) (T := F_Fb) (N := 6) hx hb hts (fun w h => List.mem_cons_of_mem _ (i_Fb w h)) hown hK.1 hP 0 (wFb_o6 t a σ) rfl 5 (by decide) (hts (.fieldLink R_Fb 58 "FlatBoxes" "bagRows" "LFlatBoxes$Bags;") (List.mem_cons_of_mem _ (gIn k_249 (by decide +kernel)))) (fun _ h9 => h9) rfl d_Fb_into_2 ?_
  refine va_get (D := D) (ci := 0) (v := .int (σ 6 0)) (C := R_Bg) (T := F_Bg) (N := 7) hx hb hts (fun w h => List.mem_cons_of_mem _ (i_Bg w h)) hown hK.1 hP 6 (wFb_o0 t a σ) rfl 6 (by decide) (hts (.fieldLink R_Fb 165 "FlatBoxes$Bags" "count" "I") (List.mem_cons_of_mem _ (gIn k_228 (by decide +kernel)))) (fun _ h9 => h9) rfl d_Fb_into_5 ?_
  refine g_sr (k := 2) (As := [.int bg, .int (σ 6 0)]) (rest := []) (own := R_Fb) (index := 102) ⟨hx, hb, hml, hown, hts⟩ (r_Fb_isPlace l D t a σ bg (σ 6 0)) (gg_Fb_102 _) (by decide +kernel) ⟨Nat.le_of_ble_eq_true rfl, Nat.le_of_ble_eq_true rfl⟩ rfl hK hP hD hl.1 rfl (Nat.le_of_ble_eq_true rfl) ⟨Nat.zero_le _, Nat.zero_le _⟩ d_Fb_into_8 ?_
  refine lv_if_ne (tgt := 24) hx hb d_Fb_into_11 (by decide) (fun c_1 => ?_) (fun c_1 => ?_)
  · 
    refine lv_iload_n hx hb d_Fb_into_24 rfl (lv_at hl 2 rfl) ?_
    refine lv_iconst (v := 0) hx hb d_Fb_into_25 (by decide) ?_
    refine lv_sipush (v := 1000) hx hb d_Fb_into_26 (by decide) ?_
    refine g_sr (k := 3) (As := [.int mn, .int 0, .int 1000]) (rest := []) (own := R_Fb) (index := 74) ⟨hx, hb, hml, hown, hts⟩ (r_Fb_isWithin l D t a σ mn 0 1000) (gg_Fb_74 _) (by decide +kernel) ⟨Nat.le_of_ble_eq_true rfl, Nat.le_of_ble_eq_true rfl⟩ rfl hK hP hD hl.1 rfl (Nat.le_of_ble_eq_true rfl) ⟨Nat.zero_le _, Nat.zero_le _⟩ d_Fb_into_29 ?_
    refine lv_if_eq (tgt := 46) hx hb d_Fb_into_32 (by decide) (fun c_2 => ?_) (fun c_2 => ?_)
    · 
      obtain ⟨sa, hsa⟩ := hxo.2.1 _ (show (172, _) ∈ xStr from List.mem_of_getElem? (i := 14) rfl)
      exact x_throw hx hb hl0 (names := xUp) hown (by decide +kernel) (by decide +kernel) (hts (.classLink R_Fb 66 "java/lang/IllegalArgumentException") (List.mem_cons_of_mem _ (gIn k_398 (by decide +kernel)))) (hts (.initialized "java/lang/IllegalArgumentException") (List.mem_cons_of_mem _ (gIn k_13 (by decide +kernel)))) (hts (.instantiable "java/lang/IllegalArgumentException" 6) (List.mem_cons_of_mem _ (gIn k_399 (by decide +kernel)))) hsa (xHat xIn_70 hts hxo) (hl.1.trans hml.symm) d_Fb_into_46 d_Fb_into_49 d_Fb_into_50 d_Fb_into_52 d_Fb_into_55 hout (Nat.le_of_ble_eq_true rfl) (Nat.le_of_ble_eq_true rfl) (Nat.le_refl _) (Nat.le_refl _) hlocks
    · 
      refine lv_iload_n hx hb d_Fb_into_35 rfl (lv_at hl 3 rfl) ?_
      refine lv_iconst (v := 1) hx hb d_Fb_into_36 (by decide) ?_
      refine lv_sipush (v := 1000) hx hb d_Fb_into_37 (by decide) ?_
      refine g_sr (k := 3) (As := [.int ec, .int 1, .int 1000]) (rest := []) (own := R_Fb) (index := 74) ⟨hx, hb, hml, hown, hts⟩ (r_Fb_isWithin l D t a σ ec 1 1000) (gg_Fb_74 _) (by decide +kernel) ⟨Nat.le_of_ble_eq_true rfl, Nat.le_of_ble_eq_true rfl⟩ rfl hK hP hD hl.1 rfl (Nat.le_of_ble_eq_true rfl) ⟨Nat.zero_le _, Nat.zero_le _⟩ d_Fb_into_40 ?_
      refine lv_if_ne (tgt := 56) hx hb d_Fb_into_43 (by decide) (fun c_3 => ?_) (fun c_3 => ?_)
      · 
        refine lv_iload hx hb d_Fb_into_56 (lv_at hl 4 rfl) ?_
        refine lv_iconst (v := 0) hx hb d_Fb_into_58 (by decide) ?_
        refine lv_iload_n hx hb d_Fb_into_59 rfl (lv_at hl 3 rfl) ?_
        refine g_sr (k := 3) (As := [.int sp, .int 0, .int ec]) (rest := []) (own := R_Fb) (index := 74) ⟨hx, hb, hml, hown, hts⟩ (r_Fb_isWithin l D t a σ sp 0 ec) (gg_Fb_74 _) (by decide +kernel) ⟨Nat.le_of_ble_eq_true rfl, Nat.le_of_ble_eq_true rfl⟩ rfl hK hP hD hl.1 rfl (Nat.le_of_ble_eq_true rfl) ⟨Nat.zero_le _, Nat.zero_le _⟩ d_Fb_into_60 ?_
        refine lv_if_ne (tgt := 76) hx hb d_Fb_into_63 (by decide) (fun c_4 => ?_) (fun c_4 => ?_)
        · 
          exact absurd hE (by simp [c_1, c_2, c_3, c_4])
        · 
          obtain ⟨sa, hsa⟩ := hxo.2.1 _ (show (174, _) ∈ xStr from List.mem_of_getElem? (i := 15) rfl)
          exact x_throw hx hb hl0 (names := xUp) hown (by decide +kernel) (by decide +kernel) (hts (.classLink R_Fb 66 "java/lang/IllegalArgumentException") (List.mem_cons_of_mem _ (gIn k_398 (by decide +kernel)))) (hts (.initialized "java/lang/IllegalArgumentException") (List.mem_cons_of_mem _ (gIn k_13 (by decide +kernel)))) (hts (.instantiable "java/lang/IllegalArgumentException" 6) (List.mem_cons_of_mem _ (gIn k_399 (by decide +kernel)))) hsa (xHat xIn_70 hts hxo) (hl.1.trans hml.symm) d_Fb_into_66 d_Fb_into_69 d_Fb_into_70 d_Fb_into_72 d_Fb_into_75 hout (Nat.le_of_ble_eq_true rfl) (Nat.le_of_ble_eq_true rfl) (Nat.le_refl _) (Nat.le_refl _) hlocks
      · 
        obtain ⟨sa, hsa⟩ := hxo.2.1 _ (show (172, _) ∈ xStr from List.mem_of_getElem? (i := 14) rfl)
        exact x_throw hx hb hl0 (names := xUp) hown (by decide +kernel) (by decide +kernel) (hts (.classLink R_Fb 66 "java/lang/IllegalArgumentException") (List.mem_cons_of_mem _ (gIn k_398 (by decide +kernel)))) (hts (.initialized "java/lang/IllegalArgumentException") (List.mem_cons_of_mem _ (gIn k_13 (by decide +kernel)))) (hts (.instantiable "java/lang/IllegalArgumentException" 6) (List.mem_cons_of_mem _ (gIn k_399 (by decide +kernel)))) hsa (xHat xIn_70 hts hxo) (hl.1.trans hml.symm) d_Fb_into_46 d_Fb_into_49 d_Fb_into_50 d_Fb_into_52 d_Fb_into_55 hout (Nat.le_of_ble_eq_true rfl) (Nat.le_of_ble_eq_true rfl) (Nat.le_refl _) (Nat.le_refl _) hlocks
  · 
    exact absurd c_1 (h1)
set_option maxHeartbeats 4000000 in
set_option maxRecDepth 100000 in
theorem x_Fb_into_ise (l : Launch) (D : va_G) (t : Nat → ClassId) (a : Nat → Nat) (σ : Nat → Nat → Int32) (b : Nat) (mn ec sp : Int32) (hb4 : b < 4) (h0 : ¬ fPlc (nI b) (σ 6 0) = 0) (h1 : ¬ mIn mn 0 1000 = 0) (h2 : ¬ mIn ec 1 1000 = 0) (h3 : ¬ mIn sp 0 ec = 0) (h6 : σ 5 b = nI 6) (hl0 : l.stackTraces = false) : gMx l D t y_Fb_into b_Fb_into 5 (some .int) 12 [.ref (a 699), .int (nI b), .int mn, .int ec, .int sp] (wFb t a σ) "java/lang/IllegalStateException" := by
  intro A
  refine x_ofW (cc := b_Fb_into) (maxL := 5) (ret := (some .int)) (by decide) rfl ?_
  intro p e s m args below meth c s₁ B hml hv
  obtain ⟨rfl, ⟨hK, hP, hD⟩, hxo⟩ := hv
  have hx := B.exec
  have hb := B.bytes
  have hr := B.returns
  have hts := atoms_spec (ws := .code y_Fb_into b_Fb_into 5 (some .int) :: gBig) B.pre
  have hown : s.vm.findClass R_Fb = some m.cls := findClass_of_methodNamed B.named
  have hlocks := B.notSynchronized
  have hout : c.exceptionTable.isEmpty = true := BodyLoose.noHandlers B (hts _ List.mem_cons_self)
  have hl := lv_entry ([.ref (a 699), .int (nI b), .int mn, .int ec, .int sp]) (n := 5) (Nat.le_of_ble_eq_true rfl)
  rw [lg_entry_eq]
  generalize (lg_sl ([.ref (a 699), .int (nI b), .int mn, .int ec, .int sp]) ++ List.replicate (5 - (lg_sl ([.ref (a 699), .int (nI b), .int mn, .int ec, .int sp])).length) Slot.unset).toArray = ls at hl ⊢
  have hl : lv_has ls 5 [(0, .ref (a 699)), (1, .int (nI b)), (2, .int mn), (3, .int ec), (4, .int sp)] := hl
  refine lv_iload_n hx hb d_Fb_into_0 rfl (lv_at hl 1 rfl) ?_
  refine lv_aload_n hx hb d_Fb_into_1 rfl (lv_at hl 0 rfl) ?_
  refine va_get (D := D) (ci := 6) (v := .ref (a 99)) (C := R_Fb) (T := F_Fb) (N := 6) hx hb hts (fun w h => List.mem_cons_of_mem _ (i_Fb w h)) hown hK.1 hP 0 (wFb_o6 t a σ) rfl 5 (by decide) (hts (.fieldLink R_Fb 58 "FlatBoxes" "bagRows" "LFlatBoxes$Bags;") (List.mem_cons_of_mem _ (gIn k_249 (by decide +kernel)))) (fun _ h9 => h9) rfl d_Fb_into_2 ?_
  refine va_get (D := D) (ci := 0) (v := .int (σ 6 0)) (C := R_Bg) (T := F_Bg) (N := 7) hx hb hts (fun w h => List.mem_cons_of_mem _ (i_Bg w h)) hown hK.1 hP 6 (wFb_o0 t a σ) rfl 6 (by decide) (hts (.fieldLink R_Fb 165 "FlatBoxes$Bags" "count" "I") (List.mem_cons_of_mem _ (gIn k_228 (by decide +kernel)))) (fun _ h9 => h9) rfl d_Fb_into_5 ?_
  refine g_sr (k := 2) (As := [.int (nI b), .int (σ 6 0)]) (rest := []) (own := R_Fb) (index := 102) ⟨hx, hb, hml, hown, hts⟩ (r_Fb_isPlace l D t a σ (nI b) (σ 6 0)) (gg_Fb_102 _) (by decide +kernel) ⟨Nat.le_of_ble_eq_true rfl, Nat.le_of_ble_eq_true rfl⟩ rfl hK hP hD hl.1 rfl (Nat.le_of_ble_eq_true rfl) ⟨Nat.zero_le _, Nat.zero_le _⟩ d_Fb_into_8 ?_
  refine lv_if_ne (tgt := 24) hx hb d_Fb_into_11 (by decide) (fun c_1 => ?_) (fun c_1 => ?_)
  · 
    refine lv_iload_n hx hb d_Fb_into_24 rfl (lv_at hl 2 rfl) ?_
    refine lv_iconst (v := 0) hx hb d_Fb_into_25 (by decide) ?_
    refine lv_sipush (v := 1000) hx hb d_Fb_into_26 (by decide) ?_
    refine g_sr (k := 3) (As := [.int mn, .int 0, .int 1000]) (rest := []) (own := R_Fb) (index := 74) ⟨hx, hb, hml, hown, hts⟩ (r_Fb_isWithin l D t a σ mn 0 1000) (gg_Fb_74 _) (by decide +kernel) ⟨Nat.le_of_ble_eq_true rfl, Nat.le_of_ble_eq_true rfl⟩ rfl hK hP hD hl.1 rfl (Nat.le_of_ble_eq_true rfl) ⟨Nat.zero_le _, Nat.zero_le _⟩ d_Fb_into_29 ?_
    refine lv_if_eq (tgt := 46) hx hb d_Fb_into_32 (by decide) (fun c_2 => ?_) (fun c_2 => ?_)
    · 
      exact absurd c_2 (h1)
    · 
      refine lv_iload_n hx hb d_Fb_into_35 rfl (lv_at hl 3 rfl) ?_
      refine lv_iconst (v := 1) hx hb d_Fb_into_36 (by decide) ?_
      refine lv_sipush (v := 1000) hx hb d_Fb_into_37 (by decide) ?_
      refine g_sr (k := 3) (As := [.int ec, .int 1, .int 1000]) (rest := []) (own := R_Fb) (index := 74) ⟨hx, hb, hml, hown, hts⟩ (r_Fb_isWithin l D t a σ ec 1 1000) (gg_Fb_74 _) (by decide +kernel) ⟨Nat.le_of_ble_eq_true rfl, Nat.le_of_ble_eq_true rfl⟩ rfl hK hP hD hl.1 rfl (Nat.le_of_ble_eq_true rfl) ⟨Nat.zero_le _, Nat.zero_le _⟩ d_Fb_into_40 ?_
      refine lv_if_ne (tgt := 56) hx hb d_Fb_into_43 (by decide) (fun c_3 => ?_) (fun c_3 => ?_)
      · 
        refine lv_iload hx hb d_Fb_into_56 (lv_at hl 4 rfl) ?_
        refine lv_iconst (v := 0) hx hb d_Fb_into_58 (by decide) ?_
        refine lv_iload_n hx hb d_Fb_into_59 rfl (lv_at hl 3 rfl) ?_
        refine g_sr (k := 3) (As := [.int sp, .int 0, .int ec]) (rest := []) (own := R_Fb) (index := 74) ⟨hx, hb, hml, hown, hts⟩ (r_Fb_isWithin l D t a σ sp 0 ec) (gg_Fb_74 _) (by decide +kernel) ⟨Nat.le_of_ble_eq_true rfl, Nat.le_of_ble_eq_true rfl⟩ rfl hK hP hD hl.1 rfl (Nat.le_of_ble_eq_true rfl) ⟨Nat.zero_le _, Nat.zero_le _⟩ d_Fb_into_60 ?_
        refine lv_if_ne (tgt := 76) hx hb d_Fb_into_63 (by decide) (fun c_4 => ?_) (fun c_4 => ?_)
        · 
          refine lv_aload_n hx hb d_Fb_into_76 rfl (lv_at hl 0 rfl) ?_
          refine va_get (D := D) (ci := 6) (v := .ref (a 99)) (C := R_Fb) (T := F_Fb) (N := 6) hx hb hts (fun w h => List.mem_cons_of_mem _ (i_Fb w h)) hown hK.1 hP 0 (wFb_o6 t a σ) rfl 5 (by decide) (hts (.fieldLink R_Fb 58 "FlatBoxes" "bagRows" "LFlatBoxes$Bags;") (List.mem_cons_of_mem _ (gIn k_249 (by decide +kernel)))) (fun _ h9 => h9) rfl d_Fb_into_77 ?_
          refine va_get (D := D) (ci := 0) (v := .ref (a 5)) (C := R_Bg) (T := F_Bg) (N := 7) hx hb hts (fun w h => List.mem_cons_of_mem _ (i_Bg w h)) hown hK.1 hP 6 (wFb_o0 t a σ) rfl 5 (by decide) (hts (.fieldLink R_Fb 176 "FlatBoxes$Bags" "kinds" "[I") (List.mem_cons_of_mem _ (gIn k_226 (by decide +kernel)))) (fun _ h9 => h9) rfl d_Fb_into_80 ?_
          refine lv_iload_n hx hb d_Fb_into_83 rfl (lv_at hl 1 rfl) ?_
          refine g_iald hx hb hK.1 hP 38 0 (wFb_5 t a σ) rfl b (rfl) (by omega) (by decide) d_Fb_into_84 ?_
          refine lv_topi (fun v_5 e_5 => ?_)
          obtain rfl : 6 = v_5 := (e_5.trans (h6)).symm
          refine lv_bipush (v := 6) hx hb d_Fb_into_85 (by decide) ?_
          refine lv_icmp_lt (tgt := 100) hx hb d_Fb_into_87 (by decide) (fun c_6 => ?_) (fun c_6 => ?_)
          · 
            exact absurd c_6 (by decide)
          · 
            obtain ⟨sa, hsa⟩ := hxo.2.1 _ (show (179, _) ∈ xStr from List.mem_of_getElem? (i := 16) rfl)
            exact x_throw hx hb hl0 (names := xUp) hown (by decide +kernel) (by decide +kernel) (hts (.classLink R_Fb 83 "java/lang/IllegalStateException") (List.mem_cons_of_mem _ (gIn k_468 (by decide +kernel)))) (hts (.initialized "java/lang/IllegalStateException") (List.mem_cons_of_mem _ (gIn k_14 (by decide +kernel)))) (hts (.instantiable "java/lang/IllegalStateException" 6) (List.mem_cons_of_mem _ (gIn k_469 (by decide +kernel)))) hsa (xHat xIn_87 hts hxo) (hl.1.trans hml.symm) d_Fb_into_90 d_Fb_into_93 d_Fb_into_94 d_Fb_into_96 d_Fb_into_99 hout (Nat.le_of_ble_eq_true rfl) (Nat.le_of_ble_eq_true rfl) (Nat.le_refl _) (Nat.le_refl _) hlocks
        · 
          exact absurd c_4 (h3)
      · 
        exact absurd c_3 (h2)
  · 
    exact absurd c_1 (h0)
set_option maxHeartbeats 4000000 in
set_option maxRecDepth 100000 in
theorem x_Fb_counted_iob (l : Launch) (D : va_G) (t : Nat → ClassId) (a : Nat → Nat) (σ : Nat → Nat → Int32) (bg wt : Int32) (hE : fPlc bg (σ 6 0) = 0) (hl0 : l.stackTraces = false) : gMx l D t y_Fb_counted b_Fb_counted 3 (some .int) 12 [.ref (a 699), .int bg, .int wt] (wFb t a σ) "java/lang/IndexOutOfBoundsException" := by
  intro A
  refine x_ofW (cc := b_Fb_counted) (maxL := 3) (ret := (some .int)) (by decide) rfl ?_
  intro p e s m args below meth c s₁ B hml hv
  obtain ⟨rfl, ⟨hK, hP, hD⟩, hxo⟩ := hv
  have hx := B.exec
  have hb := B.bytes
  have hr := B.returns
  have hts := atoms_spec (ws := .code y_Fb_counted b_Fb_counted 3 (some .int) :: gBig) B.pre
  have hown : s.vm.findClass R_Fb = some m.cls := findClass_of_methodNamed B.named
  have hlocks := B.notSynchronized
  have hout : c.exceptionTable.isEmpty = true := BodyLoose.noHandlers B (hts _ List.mem_cons_self)
  have hl := lv_entry ([.ref (a 699), .int bg, .int wt]) (n := 3) (Nat.le_of_ble_eq_true rfl)
  rw [lg_entry_eq]
  generalize (lg_sl ([.ref (a 699), .int bg, .int wt]) ++ List.replicate (3 - (lg_sl ([.ref (a 699), .int bg, .int wt])).length) Slot.unset).toArray = ls at hl ⊢
  have hl : lv_has ls 3 [(0, .ref (a 699)), (1, .int bg), (2, .int wt)] := hl
  refine lv_iload_n hx hb d_Fb_counted_0 rfl (lv_at hl 1 rfl) ?_
  refine lv_aload_n hx hb d_Fb_counted_1 rfl (lv_at hl 0 rfl) ?_
  refine va_get (D := D) (ci := 6) (v := .ref (a 99)) (C := R_Fb) (T := F_Fb) (N := 6) hx hb hts (fun w h => List.mem_cons_of_mem _ (i_Fb w h)) hown hK.1 hP 0 (wFb_o6 t a σ) rfl 5 (by decide) (hts (.fieldLink R_Fb 58 "FlatBoxes" "bagRows" "LFlatBoxes$Bags;") (List.mem_cons_of_mem _ (gIn k_249 (by decide +kernel)))) (fun _ h9 => h9) rfl d_Fb_counted_2 ?_
  refine va_get (D := D) (ci := 0) (v := .int (σ 6 0)) (C := R_Bg) (T := F_Bg) (N := 7) hx hb hts (fun w h => List.mem_cons_of_mem _ (i_Bg w h)) hown hK.1 hP 6 (wFb_o0 t a σ) rfl 6 (by decide) (hts (.fieldLink R_Fb 165 "FlatBoxes$Bags" "count" "I") (List.mem_cons_of_mem _ (gIn k_228 (by decide +kernel)))) (fun _ h9 => h9) rfl d_Fb_counted_5 ?_
  refine g_sr (k := 2) (As := [.int bg, .int (σ 6 0)]) (rest := []) (own := R_Fb) (index := 102) ⟨hx, hb, hml, hown, hts⟩ (r_Fb_isPlace l D t a σ bg (σ 6 0)) (gg_Fb_102 _) (by decide +kernel) ⟨Nat.le_of_ble_eq_true rfl, Nat.le_of_ble_eq_true rfl⟩ rfl hK hP hD hl.1 rfl (Nat.le_of_ble_eq_true rfl) ⟨Nat.zero_le _, Nat.zero_le _⟩ d_Fb_counted_8 ?_
  refine lv_if_ne (tgt := 24) hx hb d_Fb_counted_11 (by decide) (fun c_1 => ?_) (fun c_1 => ?_)
  · 
    exact absurd c_1 (fun h9 => h9 hE)
  · 
    obtain ⟨sa, hsa⟩ := hxo.2.1 _ (show (170, _) ∈ xStr from List.mem_of_getElem? (i := 13) rfl)
    exact x_throw hx hb hl0 (names := xUp) hown (by decide +kernel) (by decide +kernel) (hts (.classLink R_Fb 106 "java/lang/IndexOutOfBoundsException") (List.mem_cons_of_mem _ (gIn k_525 (by decide +kernel)))) (hts (.initialized "java/lang/IndexOutOfBoundsException") (List.mem_cons_of_mem _ (gIn k_15 (by decide +kernel)))) (hts (.instantiable "java/lang/IndexOutOfBoundsException" 6) (List.mem_cons_of_mem _ (gIn k_526 (by decide +kernel)))) hsa (xHat xIn_110 hts hxo) (hl.1.trans hml.symm) d_Fb_counted_14 d_Fb_counted_17 d_Fb_counted_18 d_Fb_counted_20 d_Fb_counted_23 hout (Nat.le_of_ble_eq_true rfl) (Nat.le_of_ble_eq_true rfl) (Nat.le_refl _) (Nat.le_refl _) hlocks
set_option maxHeartbeats 4000000 in
set_option maxRecDepth 100000 in
theorem x_Fb_counted_iae (l : Launch) (D : va_G) (t : Nat → ClassId) (a : Nat → Nat) (σ : Nat → Nat → Int32) (bg wt : Int32) (h1 : ¬ fPlc bg (σ 6 0) = 0) (hE : ¬ 0 ≤ wt) (hl0 : l.stackTraces = false) : gMx l D t y_Fb_counted b_Fb_counted 3 (some .int) 12 [.ref (a 699), .int bg, .int wt] (wFb t a σ) "java/lang/IllegalArgumentException" := by
  intro A
  refine x_ofW (cc := b_Fb_counted) (maxL := 3) (ret := (some .int)) (by decide) rfl ?_
  intro p e s m args below meth c s₁ B hml hv
  obtain ⟨rfl, ⟨hK, hP, hD⟩, hxo⟩ := hv
  have hx := B.exec
  have hb := B.bytes
  have hr := B.returns
  have hts := atoms_spec (ws := .code y_Fb_counted b_Fb_counted 3 (some .int) :: gBig) B.pre
  have hown : s.vm.findClass R_Fb = some m.cls := findClass_of_methodNamed B.named
  have hlocks := B.notSynchronized
  have hout : c.exceptionTable.isEmpty = true := BodyLoose.noHandlers B (hts _ List.mem_cons_self)
  have hl := lv_entry ([.ref (a 699), .int bg, .int wt]) (n := 3) (Nat.le_of_ble_eq_true rfl)
  rw [lg_entry_eq]
  generalize (lg_sl ([.ref (a 699), .int bg, .int wt]) ++ List.replicate (3 - (lg_sl ([.ref (a 699), .int bg, .int wt])).length) Slot.unset).toArray = ls at hl ⊢
  have hl : lv_has ls 3 [(0, .ref (a 699)), (1, .int bg), (2, .int wt)] := hl
  refine lv_iload_n hx hb d_Fb_counted_0 rfl (lv_at hl 1 rfl) ?_
  refine lv_aload_n hx hb d_Fb_counted_1 rfl (lv_at hl 0 rfl) ?_
  refine va_get (D := D) (ci := 6) (v := .ref (a 99)) (C := R_Fb) (T := F_Fb) (N := 6) hx hb hts (fun w h => List.mem_cons_of_mem _ (i_Fb w h)) hown hK.1 hP 0 (wFb_o6 t a σ) rfl 5 (by decide) (hts (.fieldLink R_Fb 58 "FlatBoxes" "bagRows" "LFlatBoxes$Bags;") (List.mem_cons_of_mem _ (gIn k_249 (by decide +kernel)))) (fun _ h9 => h9) rfl d_Fb_counted_2 ?_
  refine va_get (D := D) (ci := 0) (v := .int (σ 6 0)) (C := R_Bg) (T := F_Bg) (N := 7) hx hb hts (fun w h => List.mem_cons_of_mem _ (i_Bg w h)) hown hK.1 hP 6 (wFb_o0 t a σ) rfl 6 (by decide) (hts (.fieldLink R_Fb 165 "FlatBoxes$Bags" "count" "I") (List.mem_cons_of_mem _ (gIn k_228 (by decide +kernel)))) (fun _ h9 => h9) rfl d_Fb_counted_5 ?_
  refine g_sr (k := 2) (As := [.int bg, .int (σ 6 0)]) (rest := []) (own := R_Fb) (index := 102) ⟨hx, hb, hml, hown, hts⟩ (r_Fb_isPlace l D t a σ bg (σ 6 0)) (gg_Fb_102 _) (by decide +kernel) ⟨Nat.le_of_ble_eq_true rfl, Nat.le_of_ble_eq_true rfl⟩ rfl hK hP hD hl.1 rfl (Nat.le_of_ble_eq_true rfl) ⟨Nat.zero_le _, Nat.zero_le _⟩ d_Fb_counted_8 ?_
  refine lv_if_ne (tgt := 24) hx hb d_Fb_counted_11 (by decide) (fun c_1 => ?_) (fun c_1 => ?_)
  · 
    refine lv_iload_n hx hb d_Fb_counted_24 rfl (lv_at hl 2 rfl) ?_
    refine lv_if_ge (tgt := 38) hx hb d_Fb_counted_25 (by decide) (fun c_2 => ?_) (fun c_2 => ?_)
    · 
      exact absurd c_2 (hE)
    · 
      obtain ⟨sa, hsa⟩ := hxo.2.1 _ (show (185, _) ∈ xStr from List.mem_of_getElem? (i := 17) rfl)
      exact x_throw hx hb hl0 (names := xUp) hown (by decide +kernel) (by decide +kernel) (hts (.classLink R_Fb 66 "java/lang/IllegalArgumentException") (List.mem_cons_of_mem _ (gIn k_398 (by decide +kernel)))) (hts (.initialized "java/lang/IllegalArgumentException") (List.mem_cons_of_mem _ (gIn k_13 (by decide +kernel)))) (hts (.instantiable "java/lang/IllegalArgumentException" 6) (List.mem_cons_of_mem _ (gIn k_399 (by decide +kernel)))) hsa (xHat xIn_70 hts hxo) (hl.1.trans hml.symm) d_Fb_counted_28 d_Fb_counted_31 d_Fb_counted_32 d_Fb_counted_34 d_Fb_counted_37 hout (Nat.le_of_ble_eq_true rfl) (Nat.le_of_ble_eq_true rfl) (Nat.le_refl _) (Nat.le_refl _) hlocks
  · 
    exact absurd c_1 (h1)
set_option maxHeartbeats 4000000 in
set_option maxRecDepth 100000 in
theorem x_Fb_at_iob (l : Launch) (D : va_G) (t : Nat → ClassId) (a : Nat → Nat) (σ : Nat → Nat → Int32) (pt wh : Int32) (hsh : ¬ σ 503 0 = -1) (hE : fPlc pt (σ 308 0) = 0 ∨ fPlc wh 4 = 0) (hl0 : l.stackTraces = false) : gMx l D t y_Fb_at b_Fb_at 3 (some .int) 12 [.ref (a 699), .int pt, .int wh] (wFb t a σ) "java/lang/IndexOutOfBoundsException" := by
  intro A
  refine x_ofW (cc := b_Fb_at) (maxL := 3) (ret := (some .int)) (by decide) rfl ?_
  intro p e s m args below meth c s₁ B hml hv
  obtain ⟨rfl, ⟨hK, hP, hD⟩, hxo⟩ := hv
  have hx := B.exec
  have hb := B.bytes
  have hr := B.returns
  have hts := atoms_spec (ws := .code y_Fb_at b_Fb_at 3 (some .int) :: gBig) B.pre
  have hown : s.vm.findClass R_Fb = some m.cls := findClass_of_methodNamed B.named
  have hlocks := B.notSynchronized
  have hout : c.exceptionTable.isEmpty = true := BodyLoose.noHandlers B (hts _ List.mem_cons_self)
  have hl := lv_entry ([.ref (a 699), .int pt, .int wh]) (n := 3) (Nat.le_of_ble_eq_true rfl)
  rw [lg_entry_eq]
  generalize (lg_sl ([.ref (a 699), .int pt, .int wh]) ++ List.replicate (3 - (lg_sl ([.ref (a 699), .int pt, .int wh])).length) Slot.unset).toArray = ls at hl ⊢
  have hl : lv_has ls 3 [(0, .ref (a 699)), (1, .int pt), (2, .int wh)] := hl
  refine lv_aload_n hx hb d_Fb_at_0 rfl (lv_at hl 0 rfl) ?_
  refine g_vr0 (k := 0) (As := []) (rest := []) (own := R_Fb) (C := R_Fb) (index := 142) ⟨hx, hb, hml, hown, hts⟩ (r_Fb_needShares l D t a σ hsh) (gg_Fb_142 _) (by decide +kernel) ⟨Nat.le_of_ble_eq_true rfl, Nat.le_of_ble_eq_true rfl⟩ rfl (va_recv hK.1 hP (ci := 6) (q0 := 0) rfl (wFb_o6 t a σ)) hK hP hD hl.1 rfl (Nat.le_of_ble_eq_true rfl) ⟨Nat.zero_le _, Nat.zero_le _⟩ d_Fb_at_1 ?_
  refine lv_iload_n hx hb d_Fb_at_4 rfl (lv_at hl 1 rfl) ?_
  refine lv_aload_n hx hb d_Fb_at_5 rfl (lv_at hl 0 rfl) ?_
  refine va_get (D := D) (ci := 6) (v := .ref (a 399)) (C := R_Fb) (T := F_Fb) (N := 6) hx hb hts (fun w h => List.mem_cons_of_mem _ (i_Fb w h)) hown hK.1 hP 0 (wFb_o6 t a σ) rfl 1 (by decide) (hts (.fieldLink R_Fb 19 "FlatBoxes" "partRows" "LFlatBoxes$Parts;") (List.mem_cons_of_mem _ (gIn k_245 (by decide +kernel)))) (fun _ h9 => h9) rfl d_Fb_at_6 ?_
  refine va_get (D := D) (ci := 3) (v := .int (σ 308 0)) (C := R_Pt) (T := F_Pt) (N := 9) hx hb hts (fun w h => List.mem_cons_of_mem _ (i_Pt w h)) hown hK.1 hP 2 (wFb_o3 t a σ) rfl 8 (by decide) (hts (.fieldLink R_Fb 98 "FlatBoxes$Parts" "count" "I") (List.mem_cons_of_mem _ (gIn k_88 (by decide +kernel)))) (fun _ h9 => h9) rfl d_Fb_at_9 ?_
  refine g_sr (k := 2) (As := [.int pt, .int (σ 308 0)]) (rest := []) (own := R_Fb) (index := 102) ⟨hx, hb, hml, hown, hts⟩ (r_Fb_isPlace l D t a σ pt (σ 308 0)) (gg_Fb_102 _) (by decide +kernel) ⟨Nat.le_of_ble_eq_true rfl, Nat.le_of_ble_eq_true rfl⟩ rfl hK hP hD hl.1 rfl (Nat.le_of_ble_eq_true rfl) ⟨Nat.zero_le _, Nat.zero_le _⟩ d_Fb_at_12 ?_
  refine lv_if_eq (tgt := 26) hx hb d_Fb_at_15 (by decide) (fun c_1 => ?_) (fun c_1 => ?_)
  · 
    obtain ⟨sa, hsa⟩ := hxo.2.1 _ (show (145, _) ∈ xStr from List.mem_of_getElem? (i := 9) rfl)
    exact x_throw hx hb hl0 (names := xUp) hown (by decide +kernel) (by decide +kernel) (hts (.classLink R_Fb 106 "java/lang/IndexOutOfBoundsException") (List.mem_cons_of_mem _ (gIn k_525 (by decide +kernel)))) (hts (.initialized "java/lang/IndexOutOfBoundsException") (List.mem_cons_of_mem _ (gIn k_15 (by decide +kernel)))) (hts (.instantiable "java/lang/IndexOutOfBoundsException" 6) (List.mem_cons_of_mem _ (gIn k_526 (by decide +kernel)))) hsa (xHat xIn_110 hts hxo) (hl.1.trans hml.symm) d_Fb_at_26 d_Fb_at_29 d_Fb_at_30 d_Fb_at_32 d_Fb_at_35 hout (Nat.le_of_ble_eq_true rfl) (Nat.le_of_ble_eq_true rfl) (Nat.le_refl _) (Nat.le_refl _) hlocks
  · 
    refine lv_iload_n hx hb d_Fb_at_18 rfl (lv_at hl 2 rfl) ?_
    refine lv_iconst (v := 4) hx hb d_Fb_at_19 (by decide) ?_
    refine g_sr (k := 2) (As := [.int wh, .int 4]) (rest := []) (own := R_Fb) (index := 102) ⟨hx, hb, hml, hown, hts⟩ (r_Fb_isPlace l D t a σ wh 4) (gg_Fb_102 _) (by decide +kernel) ⟨Nat.le_of_ble_eq_true rfl, Nat.le_of_ble_eq_true rfl⟩ rfl hK hP hD hl.1 rfl (Nat.le_of_ble_eq_true rfl) ⟨Nat.zero_le _, Nat.zero_le _⟩ d_Fb_at_20 ?_
    refine lv_if_ne (tgt := 36) hx hb d_Fb_at_23 (by decide) (fun c_2 => ?_) (fun c_2 => ?_)
    · 
      exact absurd hE (by simp [c_1, c_2])
    · 
      obtain ⟨sa, hsa⟩ := hxo.2.1 _ (show (145, _) ∈ xStr from List.mem_of_getElem? (i := 9) rfl)
      exact x_throw hx hb hl0 (names := xUp) hown (by decide +kernel) (by decide +kernel) (hts (.classLink R_Fb 106 "java/lang/IndexOutOfBoundsException") (List.mem_cons_of_mem _ (gIn k_525 (by decide +kernel)))) (hts (.initialized "java/lang/IndexOutOfBoundsException") (List.mem_cons_of_mem _ (gIn k_15 (by decide +kernel)))) (hts (.instantiable "java/lang/IndexOutOfBoundsException" 6) (List.mem_cons_of_mem _ (gIn k_526 (by decide +kernel)))) hsa (xHat xIn_110 hts hxo) (hl.1.trans hml.symm) d_Fb_at_26 d_Fb_at_29 d_Fb_at_30 d_Fb_at_32 d_Fb_at_35 hout (Nat.le_of_ble_eq_true rfl) (Nat.le_of_ble_eq_true rfl) (Nat.le_refl _) (Nat.le_refl _) hlocks
set_option maxHeartbeats 4000000 in
set_option maxRecDepth 100000 in
theorem x_Fb_box_iob (l : Launch) (D : va_G) (t : Nat → ClassId) (a : Nat → Nat) (σ : Nat → Nat → Int32) (bv wh : Int32) (hsh : ¬ σ 503 0 = -1) (hE : fPlc bv (σ 503 0) = 0 ∨ fPlc wh 5 = 0) (hl0 : l.stackTraces = false) : gMx l D t y_Fb_box b_Fb_box 3 (some .int) 12 [.ref (a 699), .int bv, .int wh] (wFb t a σ) "java/lang/IndexOutOfBoundsException" := by
  intro A
  refine x_ofW (cc := b_Fb_box) (maxL := 3) (ret := (some .int)) (by decide) rfl ?_
  intro p e s m args below meth c s₁ B hml hv
  obtain ⟨rfl, ⟨hK, hP, hD⟩, hxo⟩ := hv
  have hx := B.exec
  have hb := B.bytes
  have hr := B.returns
  have hts := atoms_spec (ws := .code y_Fb_box b_Fb_box 3 (some .int) :: gBig) B.pre
  have hown : s.vm.findClass R_Fb = some m.cls := findClass_of_methodNamed B.named
  have hlocks := B.notSynchronized
  have hout : c.exceptionTable.isEmpty = true := BodyLoose.noHandlers B (hts _ List.mem_cons_self)
  have hl := lv_entry ([.ref (a 699), .int bv, .int wh]) (n := 3) (Nat.le_of_ble_eq_true rfl)
  rw [lg_entry_eq]
  generalize (lg_sl ([.ref (a 699), .int bv, .int wh]) ++ List.replicate (3 - (lg_sl ([.ref (a 699), .int bv, .int wh])).length) Slot.unset).toArray = ls at hl ⊢
  have hl : lv_has ls 3 [(0, .ref (a 699)), (1, .int bv), (2, .int wh)] := hl
  refine lv_aload_n hx hb d_Fb_box_0 rfl (lv_at hl 0 rfl) ?_
  refine g_vr0 (k := 0) (As := []) (rest := []) (own := R_Fb) (C := R_Fb) (index := 142) ⟨hx, hb, hml, hown, hts⟩ (r_Fb_needShares l D t a σ hsh) (gg_Fb_142 _) (by decide +kernel) ⟨Nat.le_of_ble_eq_true rfl, Nat.le_of_ble_eq_true rfl⟩ rfl (va_recv hK.1 hP (ci := 6) (q0 := 0) rfl (wFb_o6 t a σ)) hK hP hD hl.1 rfl (Nat.le_of_ble_eq_true rfl) ⟨Nat.zero_le _, Nat.zero_le _⟩ d_Fb_box_1 ?_
  refine lv_iload_n hx hb d_Fb_box_4 rfl (lv_at hl 1 rfl) ?_
  refine lv_aload_n hx hb d_Fb_box_5 rfl (lv_at hl 0 rfl) ?_
  refine va_get (D := D) (ci := 6) (v := .ref (a 599)) (C := R_Fb) (T := F_Fb) (N := 6) hx hb hts (fun w h => List.mem_cons_of_mem _ (i_Fb w h)) hown hK.1 hP 0 (wFb_o6 t a σ) rfl 4 (by decide) (hts (.fieldLink R_Fb 51 "FlatBoxes" "shares" "LFlatBoxes$Shares;") (List.mem_cons_of_mem _ (gIn k_248 (by decide +kernel)))) (fun _ h9 => h9) rfl d_Fb_box_6 ?_
  refine va_get (D := D) (ci := 5) (v := .int (σ 503 0)) (C := R_Sh) (T := F_Sh) (N := 5) hx hb hts (fun w h => List.mem_cons_of_mem _ (i_Sh w h)) hown hK.1 hP 5 (wFb_o5 t a σ) rfl 3 (by decide) (hts (.fieldLink R_Fb 139 "FlatBoxes$Shares" "boxes" "I") (List.mem_cons_of_mem _ (gIn k_199 (by decide +kernel)))) (fun _ h9 => h9) rfl d_Fb_box_9 ?_
  refine g_sr (k := 2) (As := [.int bv, .int (σ 503 0)]) (rest := []) (own := R_Fb) (index := 102) ⟨hx, hb, hml, hown, hts⟩ (r_Fb_isPlace l D t a σ bv (σ 503 0)) (gg_Fb_102 _) (by decide +kernel) ⟨Nat.le_of_ble_eq_true rfl, Nat.le_of_ble_eq_true rfl⟩ rfl hK hP hD hl.1 rfl (Nat.le_of_ble_eq_true rfl) ⟨Nat.zero_le _, Nat.zero_le _⟩ d_Fb_box_12 ?_
  refine lv_if_eq (tgt := 26) hx hb d_Fb_box_15 (by decide) (fun c_1 => ?_) (fun c_1 => ?_)
  · 
    obtain ⟨sa, hsa⟩ := hxo.2.1 _ (show (151, _) ∈ xStr from List.mem_of_getElem? (i := 10) rfl)
    exact x_throw hx hb hl0 (names := xUp) hown (by decide +kernel) (by decide +kernel) (hts (.classLink R_Fb 106 "java/lang/IndexOutOfBoundsException") (List.mem_cons_of_mem _ (gIn k_525 (by decide +kernel)))) (hts (.initialized "java/lang/IndexOutOfBoundsException") (List.mem_cons_of_mem _ (gIn k_15 (by decide +kernel)))) (hts (.instantiable "java/lang/IndexOutOfBoundsException" 6) (List.mem_cons_of_mem _ (gIn k_526 (by decide +kernel)))) hsa (xHat xIn_110 hts hxo) (hl.1.trans hml.symm) d_Fb_box_26 d_Fb_box_29 d_Fb_box_30 d_Fb_box_32 d_Fb_box_35 hout (Nat.le_of_ble_eq_true rfl) (Nat.le_of_ble_eq_true rfl) (Nat.le_refl _) (Nat.le_refl _) hlocks
  · 
    refine lv_iload_n hx hb d_Fb_box_18 rfl (lv_at hl 2 rfl) ?_
    refine lv_iconst (v := 5) hx hb d_Fb_box_19 (by decide) ?_
    refine g_sr (k := 2) (As := [.int wh, .int 5]) (rest := []) (own := R_Fb) (index := 102) ⟨hx, hb, hml, hown, hts⟩ (r_Fb_isPlace l D t a σ wh 5) (gg_Fb_102 _) (by decide +kernel) ⟨Nat.le_of_ble_eq_true rfl, Nat.le_of_ble_eq_true rfl⟩ rfl hK hP hD hl.1 rfl (Nat.le_of_ble_eq_true rfl) ⟨Nat.zero_le _, Nat.zero_le _⟩ d_Fb_box_20 ?_
    refine lv_if_ne (tgt := 36) hx hb d_Fb_box_23 (by decide) (fun c_2 => ?_) (fun c_2 => ?_)
    · 
      exact absurd hE (by simp [c_1, c_2])
    · 
      obtain ⟨sa, hsa⟩ := hxo.2.1 _ (show (151, _) ∈ xStr from List.mem_of_getElem? (i := 10) rfl)
      exact x_throw hx hb hl0 (names := xUp) hown (by decide +kernel) (by decide +kernel) (hts (.classLink R_Fb 106 "java/lang/IndexOutOfBoundsException") (List.mem_cons_of_mem _ (gIn k_525 (by decide +kernel)))) (hts (.initialized "java/lang/IndexOutOfBoundsException") (List.mem_cons_of_mem _ (gIn k_15 (by decide +kernel)))) (hts (.instantiable "java/lang/IndexOutOfBoundsException" 6) (List.mem_cons_of_mem _ (gIn k_526 (by decide +kernel)))) hsa (xHat xIn_110 hts hxo) (hl.1.trans hml.symm) d_Fb_box_26 d_Fb_box_29 d_Fb_box_30 d_Fb_box_32 d_Fb_box_35 hout (Nat.le_of_ble_eq_true rfl) (Nat.le_of_ble_eq_true rfl) (Nat.le_refl _) (Nat.le_refl _) hlocks
set_option maxHeartbeats 4000000 in
set_option maxRecDepth 100000 in
theorem x_Fb_raised_iob (l : Launch) (D : va_G) (t : Nat → ClassId) (a : Nat → Nat) (σ : Nat → Nat → Int32) (bv rm : Int32) (hsh : ¬ σ 503 0 = -1) (hE : fPlc bv (σ 503 0) = 0) (hl0 : l.stackTraces = false) : gMx l D t y_Fb_raised b_Fb_raised 6 (some .boolean) 12 [.ref (a 699), .int bv, .int rm] (wFb t a σ) "java/lang/IndexOutOfBoundsException" := by
  intro A
  refine x_ofW (cc := b_Fb_raised) (maxL := 6) (ret := (some .boolean)) (by decide) rfl ?_
  intro p e s m args below meth c s₁ B hml hv
  obtain ⟨rfl, ⟨hK, hP, hD⟩, hxo⟩ := hv
  have hx := B.exec
  have hb := B.bytes
  have hr := B.returns
  have hts := atoms_spec (ws := .code y_Fb_raised b_Fb_raised 6 (some .boolean) :: gBig) B.pre
  have hown : s.vm.findClass R_Fb = some m.cls := findClass_of_methodNamed B.named
  have hlocks := B.notSynchronized
  have hout : c.exceptionTable.isEmpty = true := BodyLoose.noHandlers B (hts _ List.mem_cons_self)
  have hl := lv_entry ([.ref (a 699), .int bv, .int rm]) (n := 6) (Nat.le_of_ble_eq_true rfl)
  rw [lg_entry_eq]
  generalize (lg_sl ([.ref (a 699), .int bv, .int rm]) ++ List.replicate (6 - (lg_sl ([.ref (a 699), .int bv, .int rm])).length) Slot.unset).toArray = ls at hl ⊢
  have hl : lv_has ls 6 [(0, .ref (a 699)), (1, .int bv), (2, .int rm)] := hl
  refine lv_aload_n hx hb d_Fb_raised_0 rfl (lv_at hl 0 rfl) ?_
  refine g_vr0 (k := 0) (As := []) (rest := []) (own := R_Fb) (C := R_Fb) (index := 142) ⟨hx, hb, hml, hown, hts⟩ (r_Fb_needShares l D t a σ hsh) (gg_Fb_142 _) (by decide +kernel) ⟨Nat.le_of_ble_eq_true rfl, Nat.le_of_ble_eq_true rfl⟩ rfl (va_recv hK.1 hP (ci := 6) (q0 := 0) rfl (wFb_o6 t a σ)) hK hP hD hl.1 rfl (Nat.le_of_ble_eq_true rfl) ⟨Nat.zero_le _, Nat.zero_le _⟩ d_Fb_raised_1 ?_
  refine lv_iload_n hx hb d_Fb_raised_4 rfl (lv_at hl 1 rfl) ?_
  refine lv_aload_n hx hb d_Fb_raised_5 rfl (lv_at hl 0 rfl) ?_
  refine va_get (D := D) (ci := 6) (v := .ref (a 599)) (C := R_Fb) (T := F_Fb) (N := 6) hx hb hts (fun w h => List.mem_cons_of_mem _ (i_Fb w h)) hown hK.1 hP 0 (wFb_o6 t a σ) rfl 4 (by decide) (hts (.fieldLink R_Fb 51 "FlatBoxes" "shares" "LFlatBoxes$Shares;") (List.mem_cons_of_mem _ (gIn k_248 (by decide +kernel)))) (fun _ h9 => h9) rfl d_Fb_raised_6 ?_
  refine va_get (D := D) (ci := 5) (v := .int (σ 503 0)) (C := R_Sh) (T := F_Sh) (N := 5) hx hb hts (fun w h => List.mem_cons_of_mem _ (i_Sh w h)) hown hK.1 hP 5 (wFb_o5 t a σ) rfl 3 (by decide) (hts (.fieldLink R_Fb 139 "FlatBoxes$Shares" "boxes" "I") (List.mem_cons_of_mem _ (gIn k_199 (by decide +kernel)))) (fun _ h9 => h9) rfl d_Fb_raised_9 ?_
  refine g_sr (k := 2) (As := [.int bv, .int (σ 503 0)]) (rest := []) (own := R_Fb) (index := 102) ⟨hx, hb, hml, hown, hts⟩ (r_Fb_isPlace l D t a σ bv (σ 503 0)) (gg_Fb_102 _) (by decide +kernel) ⟨Nat.le_of_ble_eq_true rfl, Nat.le_of_ble_eq_true rfl⟩ rfl hK hP hD hl.1 rfl (Nat.le_of_ble_eq_true rfl) ⟨Nat.zero_le _, Nat.zero_le _⟩ d_Fb_raised_12 ?_
  refine lv_if_ne (tgt := 28) hx hb d_Fb_raised_15 (by decide) (fun c_1 => ?_) (fun c_1 => ?_)
  · 
    exact absurd c_1 (fun h9 => h9 hE)
  · 
    obtain ⟨sa, hsa⟩ := hxo.2.1 _ (show (190, _) ∈ xStr from List.mem_of_getElem? (i := 18) rfl)
    exact x_throw hx hb hl0 (names := xUp) hown (by decide +kernel) (by decide +kernel) (hts (.classLink R_Fb 106 "java/lang/IndexOutOfBoundsException") (List.mem_cons_of_mem _ (gIn k_525 (by decide +kernel)))) (hts (.initialized "java/lang/IndexOutOfBoundsException") (List.mem_cons_of_mem _ (gIn k_15 (by decide +kernel)))) (hts (.instantiable "java/lang/IndexOutOfBoundsException" 6) (List.mem_cons_of_mem _ (gIn k_526 (by decide +kernel)))) hsa (xHat xIn_110 hts hxo) (hl.1.trans hml.symm) d_Fb_raised_18 d_Fb_raised_21 d_Fb_raised_22 d_Fb_raised_24 d_Fb_raised_27 hout (Nat.le_of_ble_eq_true rfl) (Nat.le_of_ble_eq_true rfl) (Nat.le_refl _) (Nat.le_refl _) hlocks
set_option maxHeartbeats 4000000 in
set_option maxRecDepth 100000 in
theorem x_Fb_raised_iae (l : Launch) (D : va_G) (t : Nat → ClassId) (a : Nat → Nat) (σ : Nat → Nat → Int32) (bv rm : Int32) (hsh : ¬ σ 503 0 = -1) (h1 : ¬ fPlc bv (σ 503 0) = 0) (hE : mIn rm 1 1000 = 0) (hl0 : l.stackTraces = false) : gMx l D t y_Fb_raised b_Fb_raised 6 (some .boolean) 12 [.ref (a 699), .int bv, .int rm] (wFb t a σ) "java/lang/IllegalArgumentException" := by
  intro A
  refine x_ofW (cc := b_Fb_raised) (maxL := 6) (ret := (some .boolean)) (by decide) rfl ?_
  intro p e s m args below meth c s₁ B hml hv
  obtain ⟨rfl, ⟨hK, hP, hD⟩, hxo⟩ := hv
  have hx := B.exec
  have hb := B.bytes
  have hr := B.returns
  have hts := atoms_spec (ws := .code y_Fb_raised b_Fb_raised 6 (some .boolean) :: gBig) B.pre
  have hown : s.vm.findClass R_Fb = some m.cls := findClass_of_methodNamed B.named
  have hlocks := B.notSynchronized
  have hout : c.exceptionTable.isEmpty = true := BodyLoose.noHandlers B (hts _ List.mem_cons_self)
  have hl := lv_entry ([.ref (a 699), .int bv, .int rm]) (n := 6) (Nat.le_of_ble_eq_true rfl)
  rw [lg_entry_eq]
  generalize (lg_sl ([.ref (a 699), .int bv, .int rm]) ++ List.replicate (6 - (lg_sl ([.ref (a 699), .int bv, .int rm])).length) Slot.unset).toArray = ls at hl ⊢
  have hl : lv_has ls 6 [(0, .ref (a 699)), (1, .int bv), (2, .int rm)] := hl
  refine lv_aload_n hx hb d_Fb_raised_0 rfl (lv_at hl 0 rfl) ?_
  refine g_vr0 (k := 0) (As := []) (rest := []) (own := R_Fb) (C := R_Fb) (index := 142) ⟨hx, hb, hml, hown, hts⟩ (r_Fb_needShares l D t a σ hsh) (gg_Fb_142 _) (by decide +kernel) ⟨Nat.le_of_ble_eq_true rfl, Nat.le_of_ble_eq_true rfl⟩ rfl (va_recv hK.1 hP (ci := 6) (q0 := 0) rfl (wFb_o6 t a σ)) hK hP hD hl.1 rfl (Nat.le_of_ble_eq_true rfl) ⟨Nat.zero_le _, Nat.zero_le _⟩ d_Fb_raised_1 ?_
  refine lv_iload_n hx hb d_Fb_raised_4 rfl (lv_at hl 1 rfl) ?_
  refine lv_aload_n hx hb d_Fb_raised_5 rfl (lv_at hl 0 rfl) ?_
  refine va_get (D := D) (ci := 6) (v := .ref (a 599)) (C := R_Fb) (T := F_Fb) (N := 6) hx hb hts (fun w h => List.mem_cons_of_mem _ (i_Fb w h)) hown hK.1 hP 0 (wFb_o6 t a σ) rfl 4 (by decide) (hts (.fieldLink R_Fb 51 "FlatBoxes" "shares" "LFlatBoxes$Shares;") (List.mem_cons_of_mem _ (gIn k_248 (by decide +kernel)))) (fun _ h9 => h9) rfl d_Fb_raised_6 ?_
  refine va_get (D := D) (ci := 5) (v := .int (σ 503 0)) (C := R_Sh) (T := F_Sh) (N := 5) hx hb hts (fun w h => List.mem_cons_of_mem _ (i_Sh w h)) hown hK.1 hP 5 (wFb_o5 t a σ) rfl 3 (by decide) (hts (.fieldLink R_Fb 139 "FlatBoxes$Shares" "boxes" "I") (List.mem_cons_of_mem _ (gIn k_199 (by decide +kernel)))) (fun _ h9 => h9) rfl d_Fb_raised_9 ?_
  refine g_sr (k := 2) (As := [.int bv, .int (σ 503 0)]) (rest := []) (own := R_Fb) (index := 102) ⟨hx, hb, hml, hown, hts⟩ (r_Fb_isPlace l D t a σ bv (σ 503 0)) (gg_Fb_102 _) (by decide +kernel) ⟨Nat.le_of_ble_eq_true rfl, Nat.le_of_ble_eq_true rfl⟩ rfl hK hP hD hl.1 rfl (Nat.le_of_ble_eq_true rfl) ⟨Nat.zero_le _, Nat.zero_le _⟩ d_Fb_raised_12 ?_
  refine lv_if_ne (tgt := 28) hx hb d_Fb_raised_15 (by decide) (fun c_1 => ?_) (fun c_1 => ?_)
  · 
    refine lv_iload_n hx hb d_Fb_raised_28 rfl (lv_at hl 2 rfl) ?_
    refine lv_iconst (v := 1) hx hb d_Fb_raised_29 (by decide) ?_
    refine lv_sipush (v := 1000) hx hb d_Fb_raised_30 (by decide) ?_
    refine g_sr (k := 3) (As := [.int rm, .int 1, .int 1000]) (rest := []) (own := R_Fb) (index := 74) ⟨hx, hb, hml, hown, hts⟩ (r_Fb_isWithin l D t a σ rm 1 1000) (gg_Fb_74 _) (by decide +kernel) ⟨Nat.le_of_ble_eq_true rfl, Nat.le_of_ble_eq_true rfl⟩ rfl hK hP hD hl.1 rfl (Nat.le_of_ble_eq_true rfl) ⟨Nat.zero_le _, Nat.zero_le _⟩ d_Fb_raised_33 ?_
    refine lv_if_ne (tgt := 49) hx hb d_Fb_raised_36 (by decide) (fun c_2 => ?_) (fun c_2 => ?_)
    · 
      exact absurd c_2 (fun h9 => h9 hE)
    · 
      obtain ⟨sa, hsa⟩ := hxo.2.1 _ (show (192, _) ∈ xStr from List.mem_of_getElem? (i := 19) rfl)
      exact x_throw hx hb hl0 (names := xUp) hown (by decide +kernel) (by decide +kernel) (hts (.classLink R_Fb 66 "java/lang/IllegalArgumentException") (List.mem_cons_of_mem _ (gIn k_398 (by decide +kernel)))) (hts (.initialized "java/lang/IllegalArgumentException") (List.mem_cons_of_mem _ (gIn k_13 (by decide +kernel)))) (hts (.instantiable "java/lang/IllegalArgumentException" 6) (List.mem_cons_of_mem _ (gIn k_399 (by decide +kernel)))) hsa (xHat xIn_70 hts hxo) (hl.1.trans hml.symm) d_Fb_raised_39 d_Fb_raised_42 d_Fb_raised_43 d_Fb_raised_45 d_Fb_raised_48 hout (Nat.le_of_ble_eq_true rfl) (Nat.le_of_ble_eq_true rfl) (Nat.le_refl _) (Nat.le_refl _) hlocks
  · 
    exact absurd c_1 (h1)
set_option maxHeartbeats 4000000 in
set_option maxRecDepth 100000 in
theorem x_Fb_pallets_iae (l : Launch) (D : va_G) (t : Nat → ClassId) (a : Nat → Nat) (σ : Nat → Nat → Int32) (lm : Int32) (hsh : ¬ σ 503 0 = -1) (hE : mIn lm 1 1000000 = 0) (hl0 : l.stackTraces = false) : gMx l D t y_Fb_pallets b_Fb_pallets 2 (some .int) 12 [.ref (a 699), .int lm] (wFb t a σ) "java/lang/IllegalArgumentException" := by
  intro A
  refine x_ofW (cc := b_Fb_pallets) (maxL := 2) (ret := (some .int)) (by decide) rfl ?_
  intro p e s m args below meth c s₁ B hml hv
  obtain ⟨rfl, ⟨hK, hP, hD⟩, hxo⟩ := hv
  have hx := B.exec
  have hb := B.bytes
  have hr := B.returns
  have hts := atoms_spec (ws := .code y_Fb_pallets b_Fb_pallets 2 (some .int) :: gBig) B.pre
  have hown : s.vm.findClass R_Fb = some m.cls := findClass_of_methodNamed B.named
  have hlocks := B.notSynchronized
  have hout : c.exceptionTable.isEmpty = true := BodyLoose.noHandlers B (hts _ List.mem_cons_self)
  have hl := lv_entry ([.ref (a 699), .int lm]) (n := 2) (Nat.le_of_ble_eq_true rfl)
  rw [lg_entry_eq]
  generalize (lg_sl ([.ref (a 699), .int lm]) ++ List.replicate (2 - (lg_sl ([.ref (a 699), .int lm])).length) Slot.unset).toArray = ls at hl ⊢
  have hl : lv_has ls 2 [(0, .ref (a 699)), (1, .int lm)] := hl
  refine lv_aload_n hx hb d_Fb_pallets_0 rfl (lv_at hl 0 rfl) ?_
  refine g_vr0 (k := 0) (As := []) (rest := []) (own := R_Fb) (C := R_Fb) (index := 142) ⟨hx, hb, hml, hown, hts⟩ (r_Fb_needShares l D t a σ hsh) (gg_Fb_142 _) (by decide +kernel) ⟨Nat.le_of_ble_eq_true rfl, Nat.le_of_ble_eq_true rfl⟩ rfl (va_recv hK.1 hP (ci := 6) (q0 := 0) rfl (wFb_o6 t a σ)) hK hP hD hl.1 rfl (Nat.le_of_ble_eq_true rfl) ⟨Nat.zero_le _, Nat.zero_le _⟩ d_Fb_pallets_1 ?_
  refine lv_iload_n hx hb d_Fb_pallets_4 rfl (lv_at hl 1 rfl) ?_
  refine lv_iconst (v := 1) hx hb d_Fb_pallets_5 (by decide) ?_
  refine lv_ldc hx hb hown (hts (.constant R_Fb 200 1000000) (List.mem_cons_of_mem _ (gIn k_654 (by decide +kernel)))) d_Fb_pallets_6 ?_
  refine g_sr (k := 3) (As := [.int lm, .int 1, .int 1000000]) (rest := []) (own := R_Fb) (index := 74) ⟨hx, hb, hml, hown, hts⟩ (r_Fb_isWithin l D t a σ lm 1 1000000) (gg_Fb_74 _) (by decide +kernel) ⟨Nat.le_of_ble_eq_true rfl, Nat.le_of_ble_eq_true rfl⟩ rfl hK hP hD hl.1 rfl (Nat.le_of_ble_eq_true rfl) ⟨Nat.zero_le _, Nat.zero_le _⟩ d_Fb_pallets_8 ?_
  refine lv_if_ne (tgt := 24) hx hb d_Fb_pallets_11 (by decide) (fun c_1 => ?_) (fun c_1 => ?_)
  · 
    exact absurd c_1 (fun h9 => h9 hE)
  · 
    obtain ⟨sa, hsa⟩ := hxo.2.1 _ (show (201, _) ∈ xStr from List.mem_of_getElem? (i := 20) rfl)
    exact x_throw hx hb hl0 (names := xUp) hown (by decide +kernel) (by decide +kernel) (hts (.classLink R_Fb 66 "java/lang/IllegalArgumentException") (List.mem_cons_of_mem _ (gIn k_398 (by decide +kernel)))) (hts (.initialized "java/lang/IllegalArgumentException") (List.mem_cons_of_mem _ (gIn k_13 (by decide +kernel)))) (hts (.instantiable "java/lang/IllegalArgumentException" 6) (List.mem_cons_of_mem _ (gIn k_399 (by decide +kernel)))) hsa (xHat xIn_70 hts hxo) (hl.1.trans hml.symm) d_Fb_pallets_14 d_Fb_pallets_17 d_Fb_pallets_18 d_Fb_pallets_20 d_Fb_pallets_23 hout (Nat.le_of_ble_eq_true rfl) (Nat.le_of_ble_eq_true rfl) (Nat.le_refl _) (Nat.le_refl _) hlocks
