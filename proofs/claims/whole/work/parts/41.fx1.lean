def gMr (l : Launch) (D : va_G) (t : Nat → ClassId) (y : MethodName) (cc : ByteArray) (maxL : Nat) (ret : Option FieldType) (n : Nat) (av : List Value) (w : va_W) (r : Int32) : Prop :=
  ∀ A : Nat → Prop, Met l y (.code y cc maxL ret :: gBig) (gRm n) (va_Pc av (gPre D t A w)) (QcRead r) 0 0 (fun _ => False)
section GR
variable {p : Program} {l : Launch} {e : Env} {R : Room} {s : State} {m : MethodId} {args : Array Value} {below : List Frame} {meth : Method} {c : Code} {H : Heap} {locs : List Loc} {cells slots : Nat} {Q : State → Prop}
variable {cc bytes : ByteArray} {pc : Nat} {ls : Array Slot} {rest As : List Value} {D : va_G} {t : Nat → ClassId} {A : Nat → Prop} {w : va_W}
variable {nL maxL n k index b : Nat} {ret : Option FieldType} {y : MethodName} {own C : String} {w0 : Cond}
theorem g_sr {r : Int32} (F : CallFix p m c cc nL s args (w0 :: gBig) own) (hM : gMr l D t y bytes maxL ret n As w r) (hG : GoodIn (w0 :: gBig) (wsS own index y (.code y bytes maxL ret :: gBig)))
    (hd : y.cls = own ∧ y.cls ≠ "java/lang/invoke/MethodHandle" ∧ y.cls ≠ "java/lang/invoke/VarHandle" ∧ (parseMethodDescriptor y.desc).map (fun d => d.parameters.length) = some k) (hR : n + 1 ≤ R.frames ∧ 8 + (maxL + 11) + 40 * n ≤ R.locals) (hkl : As.length = k)
    (hK : gK D t s) (hP : va_P D gCl w H) (hD : va_D A w) (hsz : ls.size = nL) {st0 : List Value} (hst : st0 = As.reverse ++ rest) (hrest : (rest.map fun v => v.category).sum ≤ 8) (hc : cells ≤ R.cells ∧ slots ≤ R.slots) (hdg : decode cc pc = .ok (.invokestatic index, 3))
    (kk : W p l e R s m args below meth c H locs cells slots Q (F0 m (pc + 3) ls (.int r :: rest))) : W p l e R s m args below meth c H locs cells slots Q (F0 m pc ls st0) := by
  subst hst
  exact W.callR (W.runS (As := As) (rest := rest) F (hM A) (cwS k F.2.2.2.2 hG rfl rfl rfl hd hR) ⟨gBlind, fun U hU hW => ⟨rfl, gK.moved hW hK, by rw [hU]; exact hP, hD⟩⟩ rfl hkl hsz rfl (lv_room hrest) hdg hc) kk
theorem g_vr {r : Int32} (F : CallFix p m c cc nL s args (w0 :: gBig) own) (hM : gMr l D t y bytes maxL ret n (.ref b :: As) w r) (hG : GoodIn (w0 :: gBig) (wsV own index C y (.code y bytes maxL ret :: gBig)))
    (hd : y.cls = C ∧ y.cls ≠ "java/lang/invoke/MethodHandle" ∧ y.cls ≠ "java/lang/invoke/VarHandle" ∧ (parseMethodDescriptor y.desc).map (fun d => d.parameters.length) = some k) (hR : n + 1 ≤ R.frames ∧ 8 + (maxL + 11) + 40 * n ≤ R.locals) (hkl : As.length = k)
    (hrecv : ∃ cellB : Cell, H[b]? = some cellB ∧ cellB.vm.isStatics = false ∧ s.vm.findClass C = some cellB.cls)
    (hK : gK D t s) (hP : va_P D gCl w H) (hD : va_D A w) (hsz : ls.size = nL) {st0 : List Value} (hst : st0 = As.reverse ++ .ref b :: rest) (hrest : (rest.map fun v => v.category).sum ≤ 8) (hc : cells ≤ R.cells ∧ slots ≤ R.slots) (hdg : decode cc pc = .ok (.invokevirtual index, 3))
    (kk : W p l e R s m args below meth c H locs cells slots Q (F0 m (pc + 3) ls (.int r :: rest))) : W p l e R s m args below meth c H locs cells slots Q (F0 m pc ls st0) := by
  subst hst
  exact W.callR (W.runV (As := As) (rest := rest) F (hM A) (cwV k F.2.2.2.2 hG rfl rfl rfl hd hR) ⟨gBlind, hrecv, fun U hU hW => ⟨rfl, gK.moved hW hK, by rw [hU]; exact hP, hD⟩⟩ rfl hkl hsz rfl (lv_room hrest) hdg hc) kk
end GR


set_option maxHeartbeats 4000000 in
set_option maxRecDepth 100000 in
theorem r_Fb_isWithin (l : Launch) (D : va_G) (t : Nat → ClassId) (a : Nat → Nat) (σ : Nat → Nat → Int32) (v lo hi : Int32) : gMr l D t y_Fb_isWithin b_Fb_isWithin 3 (some .boolean) 0 [.int v, .int lo, .int hi] (wFb t a σ) (mIn v lo hi) := by
  intro A
  refine Met.ofW (cc := b_Fb_isWithin) (maxL := 3) (ret := (some .boolean)) (by decide) rfl ?_
  intro p e s m args below meth c s₁ B hml hv
  obtain ⟨rfl, hK, hP, hD⟩ := hv
  have hx := B.exec
  have hb := B.bytes
  have hr := B.returns
  have hts := atoms_spec (ws := .code y_Fb_isWithin b_Fb_isWithin 3 (some .boolean) :: gBig) B.pre
  have hown : s.vm.findClass R_Fb = some m.cls := findClass_of_methodNamed B.named
  have hlocks := B.notSynchronized
  have hl := lv_entry ([.int v, .int lo, .int hi]) (n := 3) (Nat.le_of_ble_eq_true rfl)
  rw [lg_entry_eq]
  generalize (lg_sl ([.int v, .int lo, .int hi]) ++ List.replicate (3 - (lg_sl ([.int v, .int lo, .int hi])).length) Slot.unset).toArray = ls at hl ⊢
  have hl : lv_has ls 3 [(0, .int v), (1, .int lo), (2, .int hi)] := hl
  refine lv_iload_n hx hb d_Fb_isWithin_0 rfl (lv_at hl 0 rfl) ?_
  refine lv_iload_n hx hb d_Fb_isWithin_1 rfl (lv_at hl 1 rfl) ?_
  refine lv_icmp_lt (tgt := 14) hx hb d_Fb_isWithin_2 (by decide) (fun c_1 => ?_) (fun c_1 => ?_)
  · 
    refine lv_iconst (v := 0) hx hb d_Fb_isWithin_14 (by decide) ?_
    exact W.zret (v := 0) (ty := .boolean) hx hb hr (rfl) (fun U hU hW => ⟨by simp [mIn, c_1], hU⟩) (fun q hq => nomatch hq) d_Fb_isWithin_15
  · 
    refine lv_iload_n hx hb d_Fb_isWithin_5 rfl (lv_at hl 0 rfl) ?_
    refine lv_iload_n hx hb d_Fb_isWithin_6 rfl (lv_at hl 2 rfl) ?_
    refine lv_icmp_gt (tgt := 14) hx hb d_Fb_isWithin_7 (by decide) (fun c_2 => ?_) (fun c_2 => ?_)
    · 
      refine lv_iconst (v := 0) hx hb d_Fb_isWithin_14 (by decide) ?_
      exact W.zret (v := 0) (ty := .boolean) hx hb hr (rfl) (fun U hU hW => ⟨by simp [mIn, c_1, c_2], hU⟩) (fun q hq => nomatch hq) d_Fb_isWithin_15
    · 
      refine lv_iconst (v := 1) hx hb d_Fb_isWithin_10 (by decide) ?_
      refine lv_goto (tgt := 15) hx hb d_Fb_isWithin_11 (by decide) ?_
      exact W.zret (v := 1) (ty := .boolean) hx hb hr (rfl) (fun U hU hW => ⟨by simp [mIn, c_1, c_2], hU⟩) (fun q hq => nomatch hq) d_Fb_isWithin_15
set_option maxHeartbeats 4000000 in
set_option maxRecDepth 100000 in
theorem r_Fb_isPlace (l : Launch) (D : va_G) (t : Nat → ClassId) (a : Nat → Nat) (σ : Nat → Nat → Int32) (v nn : Int32) : gMr l D t y_Fb_isPlace b_Fb_isPlace 2 (some .boolean) 0 [.int v, .int nn] (wFb t a σ) (fPlc v nn) := by
  intro A
  refine Met.ofW (cc := b_Fb_isPlace) (maxL := 2) (ret := (some .boolean)) (by decide) rfl ?_
  intro p e s m args below meth c s₁ B hml hv
  obtain ⟨rfl, hK, hP, hD⟩ := hv
  have hx := B.exec
  have hb := B.bytes
  have hr := B.returns
  have hts := atoms_spec (ws := .code y_Fb_isPlace b_Fb_isPlace 2 (some .boolean) :: gBig) B.pre
  have hown : s.vm.findClass R_Fb = some m.cls := findClass_of_methodNamed B.named
  have hlocks := B.notSynchronized
  have hl := lv_entry ([.int v, .int nn]) (n := 2) (Nat.le_of_ble_eq_true rfl)
  rw [lg_entry_eq]
  generalize (lg_sl ([.int v, .int nn]) ++ List.replicate (2 - (lg_sl ([.int v, .int nn])).length) Slot.unset).toArray = ls at hl ⊢
  have hl : lv_has ls 2 [(0, .int v), (1, .int nn)] := hl
  refine lv_iload_n hx hb d_Fb_isPlace_0 rfl (lv_at hl 0 rfl) ?_
  refine lv_if_lt (tgt := 13) hx hb d_Fb_isPlace_1 (by decide) (fun c_1 => ?_) (fun c_1 => ?_)
  · 
    refine lv_iconst (v := 0) hx hb d_Fb_isPlace_13 (by decide) ?_
    exact W.zret (v := 0) (ty := .boolean) hx hb hr (rfl) (fun U hU hW => ⟨by simp [fPlc, c_1], hU⟩) (fun q hq => nomatch hq) d_Fb_isPlace_14
  · 
    refine lv_iload_n hx hb d_Fb_isPlace_4 rfl (lv_at hl 0 rfl) ?_
    refine lv_iload_n hx hb d_Fb_isPlace_5 rfl (lv_at hl 1 rfl) ?_
    refine lv_icmp_ge (tgt := 13) hx hb d_Fb_isPlace_6 (by decide) (fun c_2 => ?_) (fun c_2 => ?_)
    · 
      refine lv_iconst (v := 0) hx hb d_Fb_isPlace_13 (by decide) ?_
      exact W.zret (v := 0) (ty := .boolean) hx hb hr (rfl) (fun U hU hW => ⟨by simp [fPlc, c_1, c_2], hU⟩) (fun q hq => nomatch hq) d_Fb_isPlace_14
    · 
      refine lv_iconst (v := 1) hx hb d_Fb_isPlace_9 (by decide) ?_
      refine lv_goto (tgt := 14) hx hb d_Fb_isPlace_10 (by decide) ?_
      exact W.zret (v := 1) (ty := .boolean) hx hb hr (rfl) (fun U hU hW => ⟨by simp [fPlc, c_1, c_2], hU⟩) (fun q hq => nomatch hq) d_Fb_isPlace_14
set_option maxHeartbeats 4000000 in
set_option maxRecDepth 100000 in
theorem r_Fb_areSides (l : Launch) (D : va_G) (t : Nat → ClassId) (a : Nat → Nat) (σ : Nat → Nat → Int32) (x y z : Int32) : gMr l D t y_Fb_areSides b_Fb_areSides 3 (some .boolean) 1 [.int x, .int y, .int z] (wFb t a σ) (fSides x y z) := by
  intro A
  refine Met.ofW (cc := b_Fb_areSides) (maxL := 3) (ret := (some .boolean)) (by decide) rfl ?_
  intro p e s m args below meth c s₁ B hml hv
  obtain ⟨rfl, hK, hP, hD⟩ := hv
  have hx := B.exec
  have hb := B.bytes
  have hr := B.returns
  have hts := atoms_spec (ws := .code y_Fb_areSides b_Fb_areSides 3 (some .boolean) :: gBig) B.pre
  have hown : s.vm.findClass R_Fb = some m.cls := findClass_of_methodNamed B.named
  have hlocks := B.notSynchronized
  have hl := lv_entry ([.int x, .int y, .int z]) (n := 3) (Nat.le_of_ble_eq_true rfl)
  rw [lg_entry_eq]
  generalize (lg_sl ([.int x, .int y, .int z]) ++ List.replicate (3 - (lg_sl ([.int x, .int y, .int z])).length) Slot.unset).toArray = ls at hl ⊢
  have hl : lv_has ls 3 [(0, .int x), (1, .int y), (2, .int z)] := hl
  refine lv_iload_n hx hb d_Fb_areSides_0 rfl (lv_at hl 0 rfl) ?_
  refine lv_iconst (v := 1) hx hb d_Fb_areSides_1 (by decide) ?_
  refine lv_bipush (v := 100) hx hb d_Fb_areSides_2 (by decide) ?_
  refine g_sr (k := 3) (As := [.int x, .int 1, .int 100]) (rest := []) (own := R_Fb) (index := 74) ⟨hx, hb, hml, hown, hts⟩ (r_Fb_isWithin l D t a σ x 1 100) (gg_Fb_74 _) (by decide +kernel) ⟨Nat.le_of_ble_eq_true rfl, Nat.le_of_ble_eq_true rfl⟩ rfl hK hP hD hl.1 rfl (Nat.le_of_ble_eq_true rfl) ⟨Nat.zero_le _, Nat.zero_le _⟩ d_Fb_areSides_4 ?_
  refine lv_if_eq (tgt := 34) hx hb d_Fb_areSides_7 (by decide) (fun c_1 => ?_) (fun c_1 => ?_)
  · 
    refine lv_iconst (v := 0) hx hb d_Fb_areSides_34 (by decide) ?_
    exact W.zret (v := 0) (ty := .boolean) hx hb hr (rfl) (fun U hU hW => ⟨by simp [fSides, c_1], hU⟩) (fun q hq => nomatch hq) d_Fb_areSides_35
  · 
    refine lv_iload_n hx hb d_Fb_areSides_10 rfl (lv_at hl 1 rfl) ?_
    refine lv_iconst (v := 1) hx hb d_Fb_areSides_11 (by decide) ?_
    refine lv_bipush (v := 100) hx hb d_Fb_areSides_12 (by decide) ?_
    refine g_sr (k := 3) (As := [.int y, .int 1, .int 100]) (rest := []) (own := R_Fb) (index := 74) ⟨hx, hb, hml, hown, hts⟩ (r_Fb_isWithin l D t a σ y 1 100) (gg_Fb_74 _) (by decide +kernel) ⟨Nat.le_of_ble_eq_true rfl, Nat.le_of_ble_eq_true rfl⟩ rfl hK hP hD hl.1 rfl (Nat.le_of_ble_eq_true rfl) ⟨Nat.zero_le _, Nat.zero_le _⟩ d_Fb_areSides_14 ?_
    refine lv_if_eq (tgt := 34) hx hb d_Fb_areSides_17 (by decide) (fun c_2 => ?_) (fun c_2 => ?_)
    · 
      refine lv_iconst (v := 0) hx hb d_Fb_areSides_34 (by decide) ?_
      exact W.zret (v := 0) (ty := .boolean) hx hb hr (rfl) (fun U hU hW => ⟨by simp [fSides, c_1, c_2], hU⟩) (fun q hq => nomatch hq) d_Fb_areSides_35
    · 
      refine lv_iload_n hx hb d_Fb_areSides_20 rfl (lv_at hl 2 rfl) ?_
      refine lv_iconst (v := 1) hx hb d_Fb_areSides_21 (by decide) ?_
      refine lv_bipush (v := 100) hx hb d_Fb_areSides_22 (by decide) ?_
      refine g_sr (k := 3) (As := [.int z, .int 1, .int 100]) (rest := []) (own := R_Fb) (index := 74) ⟨hx, hb, hml, hown, hts⟩ (r_Fb_isWithin l D t a σ z 1 100) (gg_Fb_74 _) (by decide +kernel) ⟨Nat.le_of_ble_eq_true rfl, Nat.le_of_ble_eq_true rfl⟩ rfl hK hP hD hl.1 rfl (Nat.le_of_ble_eq_true rfl) ⟨Nat.zero_le _, Nat.zero_le _⟩ d_Fb_areSides_24 ?_
      refine lv_if_eq (tgt := 34) hx hb d_Fb_areSides_27 (by decide) (fun c_3 => ?_) (fun c_3 => ?_)
      · 
        refine lv_iconst (v := 0) hx hb d_Fb_areSides_34 (by decide) ?_
        exact W.zret (v := 0) (ty := .boolean) hx hb hr (rfl) (fun U hU hW => ⟨by simp [fSides, c_1, c_2, c_3], hU⟩) (fun q hq => nomatch hq) d_Fb_areSides_35
      · 
        refine lv_iconst (v := 1) hx hb d_Fb_areSides_30 (by decide) ?_
        refine lv_goto (tgt := 35) hx hb d_Fb_areSides_31 (by decide) ?_
        exact W.zret (v := 1) (ty := .boolean) hx hb hr (rfl) (fun U hU hW => ⟨by simp [fSides, c_1, c_2, c_3], hU⟩) (fun q hq => nomatch hq) d_Fb_areSides_35
set_option maxHeartbeats 4000000 in
set_option maxRecDepth 100000 in
theorem r_Pt_everyPart (l : Launch) (D : va_G) (t : Nat → ClassId) (a : Nat → Nat) (σ : Nat → Nat → Int32) (np : Nat) (hN : σ 308 0 = nI np) (hN8 : np ≤ 8) : gMr l D t y_Pt_everyPart b_Pt_everyPart 1 (some .int) 0 [.ref (a 399)] (wFb t a σ) (((1 : Int32) <<< (nI np &&& 31)) - 1) := by
  intro A
  refine Met.ofW (cc := b_Pt_everyPart) (maxL := 1) (ret := (some .int)) (by decide) rfl ?_
  intro p e s m args below meth c s₁ B hml hv
  obtain ⟨rfl, hK, hP, hD⟩ := hv
  have hx := B.exec
  have hb := B.bytes
  have hr := B.returns
  have hts := atoms_spec (ws := .code y_Pt_everyPart b_Pt_everyPart 1 (some .int) :: gBig) B.pre
  have hown : s.vm.findClass R_Pt = some m.cls := findClass_of_methodNamed B.named
  have hlocks := B.notSynchronized
  have hl := lv_entry ([.ref (a 399)]) (n := 1) (Nat.le_of_ble_eq_true rfl)
  rw [lg_entry_eq]
  generalize (lg_sl ([.ref (a 399)]) ++ List.replicate (1 - (lg_sl ([.ref (a 399)])).length) Slot.unset).toArray = ls at hl ⊢
  have hl : lv_has ls 1 [(0, .ref (a 399))] := hl
  refine lv_iconst (v := 1) hx hb d_Pt_everyPart_0 (by decide) ?_
  refine lv_aload_n hx hb d_Pt_everyPart_1 rfl (lv_at hl 0 rfl) ?_
  refine va_get (D := D) (ci := 3) (v := .int (σ 308 0)) (C := R_Pt) (T := F_Pt) (N := 9) hx hb hts (fun w h => List.mem_cons_of_mem _ (i_Pt w h)) hown hK.1 hP 2 (wFb_o3 t a σ) rfl 8 (by decide) (hts (.fieldLink R_Pt 37 "FlatBoxes$Parts" "count" "I") (List.mem_cons_of_mem _ (gIn k_85 (by decide +kernel)))) (fun _ h9 => h9) rfl d_Pt_everyPart_2 ?_
  refine lv_topi (fun v_1 e_1 => ?_)
  obtain rfl : nI np = v_1 := (e_1.trans hN).symm
  refine lv_ishl hx hb d_Pt_everyPart_5 ?_
  refine lv_iconst (v := 1) hx hb d_Pt_everyPart_6 (by decide) ?_
  refine lv_isub hx hb d_Pt_everyPart_7 ?_
  exact W.iret (v := (1 <<< ((nI np) &&& 31)) - 1) hx hb hr (fun U hU hW => ⟨by rfl, hU⟩) (fun q hq => nomatch hq) d_Pt_everyPart_8
set_option maxHeartbeats 4000000 in
set_option maxRecDepth 100000 in
theorem x_Fb_needShares_ise (l : Launch) (D : va_G) (t : Nat → ClassId) (a : Nat → Nat) (σ : Nat → Nat → Int32) (hsh : σ 503 0 = -1) (hl0 : l.stackTraces = false) : gMx l D t y_Fb_needShares b_Fb_needShares 1 none 12 [.ref (a 699)] (wFb t a σ) "java/lang/IllegalStateException" := by
  intro A
  refine x_ofW (cc := b_Fb_needShares) (maxL := 1) (ret := none) (by decide) rfl ?_
  intro p e s m args below meth c s₁ B hml hv
  obtain ⟨rfl, ⟨hK, hP, hD⟩, hxo⟩ := hv
  have hx := B.exec
  have hb := B.bytes
  have hr := B.returns
  have hts := atoms_spec (ws := .code y_Fb_needShares b_Fb_needShares 1 none :: gBig) B.pre
  have hown : s.vm.findClass R_Fb = some m.cls := findClass_of_methodNamed B.named
  have hlocks := B.notSynchronized
  have hout : c.exceptionTable.isEmpty = true := BodyLoose.noHandlers B (hts _ List.mem_cons_self)
  have hl := lv_entry ([.ref (a 699)]) (n := 1) (Nat.le_of_ble_eq_true rfl)
  rw [lg_entry_eq]
  generalize (lg_sl ([.ref (a 699)]) ++ List.replicate (1 - (lg_sl ([.ref (a 699)])).length) Slot.unset).toArray = ls at hl ⊢
  have hl : lv_has ls 1 [(0, .ref (a 699))] := hl
  refine lv_aload_n hx hb d_Fb_needShares_0 rfl (lv_at hl 0 rfl) ?_
  refine va_get (D := D) (ci := 6) (v := .ref (a 599)) (C := R_Fb) (T := F_Fb) (N := 6) hx hb hts (fun w h => List.mem_cons_of_mem _ (i_Fb w h)) hown hK.1 hP 0 (wFb_o6 t a σ) rfl 4 (by decide) (hts (.fieldLink R_Fb 51 "FlatBoxes" "shares" "LFlatBoxes$Shares;") (List.mem_cons_of_mem _ (gIn k_248 (by decide +kernel)))) (fun _ h9 => h9) rfl d_Fb_needShares_1 ?_
  refine va_get (D := D) (ci := 5) (v := .int (σ 503 0)) (C := R_Sh) (T := F_Sh) (N := 5) hx hb hts (fun w h => List.mem_cons_of_mem _ (i_Sh w h)) hown hK.1 hP 5 (wFb_o5 t a σ) rfl 3 (by decide) (hts (.fieldLink R_Fb 139 "FlatBoxes$Shares" "boxes" "I") (List.mem_cons_of_mem _ (gIn k_199 (by decide +kernel)))) (fun _ h9 => h9) rfl d_Fb_needShares_4 ?_
  refine lv_iconst (v := -1) hx hb d_Fb_needShares_7 (by decide) ?_
  refine lv_icmp_ne (tgt := 21) hx hb d_Fb_needShares_8 (by decide) (fun c_1 => ?_) (fun c_1 => ?_)
  · 
    exact absurd c_1 (fun h9 => h9 hsh)
  · 
    obtain ⟨sa, hsa⟩ := hxo.2.1 _ (show (207, _) ∈ xStr from List.mem_of_getElem? (i := 8) rfl)
    exact x_throw hx hb hl0 (names := xUp) hown (by decide +kernel) (by decide +kernel) (hts (.classLink R_Fb 83 "java/lang/IllegalStateException") (List.mem_cons_of_mem _ (gIn k_468 (by decide +kernel)))) (hts (.initialized "java/lang/IllegalStateException") (List.mem_cons_of_mem _ (gIn k_14 (by decide +kernel)))) (hts (.instantiable "java/lang/IllegalStateException" 6) (List.mem_cons_of_mem _ (gIn k_469 (by decide +kernel)))) hsa (xHat xIn_87 hts hxo) (hl.1.trans hml.symm) d_Fb_needShares_11 d_Fb_needShares_14 d_Fb_needShares_15 d_Fb_needShares_17 d_Fb_needShares_20 hout (Nat.le_of_ble_eq_true rfl) (Nat.le_of_ble_eq_true rfl) (Nat.le_refl _) (Nat.le_refl _) hlocks
set_option maxHeartbeats 4000000 in
set_option maxRecDepth 100000 in
theorem x_Fb_carton_ise (l : Launch) (D : va_G) (t : Nat → ClassId) (a : Nat → Nat) (σ : Nat → Nat → Int32) (wd dp ht ct gr : Int32) (hC : σ 105 0 = nI 4) (h1 : ¬ fSides wd dp ht = 0) (h2 : ¬ mIn ct 1 100000 = 0) (h3 : ¬ mIn gr 1 100000 = 0) (hl0 : l.stackTraces = false) : gMx l D t y_Fb_carton b_Fb_carton 6 (some .int) 12 [.ref (a 699), .int wd, .int dp, .int ht, .int ct, .int gr] (wFb t a σ) "java/lang/IllegalStateException" := by
  intro A
  refine x_ofW (cc := b_Fb_carton) (maxL := 6) (ret := (some .int)) (by decide) rfl ?_
  intro p e s m args below meth c s₁ B hml hv
  obtain ⟨rfl, ⟨hK, hP, hD⟩, hxo⟩ := hv
  have hx := B.exec
  have hb := B.bytes
  have hr := B.returns
  have hts := atoms_spec (ws := .code y_Fb_carton b_Fb_carton 6 (some .int) :: gBig) B.pre
  have hown : s.vm.findClass R_Fb = some m.cls := findClass_of_methodNamed B.named
  have hlocks := B.notSynchronized
  have hout : c.exceptionTable.isEmpty = true := BodyLoose.noHandlers B (hts _ List.mem_cons_self)
  have hl := lv_entry ([.ref (a 699), .int wd, .int dp, .int ht, .int ct, .int gr]) (n := 6) (Nat.le_of_ble_eq_true rfl)
  rw [lg_entry_eq]
  generalize (lg_sl ([.ref (a 699), .int wd, .int dp, .int ht, .int ct, .int gr]) ++ List.replicate (6 - (lg_sl ([.ref (a 699), .int wd, .int dp, .int ht, .int ct, .int gr])).length) Slot.unset).toArray = ls at hl ⊢
  have hl : lv_has ls 6 [(0, .ref (a 699)), (1, .int wd), (2, .int dp), (3, .int ht), (4, .int ct), (5, .int gr)] := hl
  refine lv_iload_n hx hb d_Fb_carton_0 rfl (lv_at hl 1 rfl) ?_
  refine lv_iload_n hx hb d_Fb_carton_1 rfl (lv_at hl 2 rfl) ?_
  refine lv_iload_n hx hb d_Fb_carton_2 rfl (lv_at hl 3 rfl) ?_
  refine g_sr (k := 3) (As := [.int wd, .int dp, .int ht]) (rest := []) (own := R_Fb) (index := 62) ⟨hx, hb, hml, hown, hts⟩ (r_Fb_areSides l D t a σ wd dp ht) (gg_Fb_62 _) (by decide +kernel) ⟨Nat.le_of_ble_eq_true rfl, Nat.le_of_ble_eq_true rfl⟩ rfl hK hP hD hl.1 rfl (Nat.le_of_ble_eq_true rfl) ⟨Nat.zero_le _, Nat.zero_le _⟩ d_Fb_carton_3 ?_
  refine lv_if_ne (tgt := 19) hx hb d_Fb_carton_6 (by decide) (fun c_1 => ?_) (fun c_1 => ?_)
  · 
    refine lv_iload hx hb d_Fb_carton_19 (lv_at hl 4 rfl) ?_
    refine lv_iconst (v := 1) hx hb d_Fb_carton_21 (by decide) ?_
    refine lv_ldc hx hb hown (hts (.constant R_Fb 73 100000) (List.mem_cons_of_mem _ (gIn k_466 (by decide +kernel)))) d_Fb_carton_22 ?_
    refine g_sr (k := 3) (As := [.int ct, .int 1, .int 100000]) (rest := []) (own := R_Fb) (index := 74) ⟨hx, hb, hml, hown, hts⟩ (r_Fb_isWithin l D t a σ ct 1 100000) (gg_Fb_74 _) (by decide +kernel) ⟨Nat.le_of_ble_eq_true rfl, Nat.le_of_ble_eq_true rfl⟩ rfl hK hP hD hl.1 rfl (Nat.le_of_ble_eq_true rfl) ⟨Nat.zero_le _, Nat.zero_le _⟩ d_Fb_carton_24 ?_
    refine lv_if_eq (tgt := 41) hx hb d_Fb_carton_27 (by decide) (fun c_2 => ?_) (fun c_2 => ?_)
    · 
      exact absurd c_2 (h2)
    · 
      refine lv_iload hx hb d_Fb_carton_30 (lv_at hl 5 rfl) ?_
      refine lv_iconst (v := 1) hx hb d_Fb_carton_32 (by decide) ?_
      refine lv_ldc hx hb hown (hts (.constant R_Fb 73 100000) (List.mem_cons_of_mem _ (gIn k_466 (by decide +kernel)))) d_Fb_carton_33 ?_
      refine g_sr (k := 3) (As := [.int gr, .int 1, .int 100000]) (rest := []) (own := R_Fb) (index := 74) ⟨hx, hb, hml, hown, hts⟩ (r_Fb_isWithin l D t a σ gr 1 100000) (gg_Fb_74 _) (by decide +kernel) ⟨Nat.le_of_ble_eq_true rfl, Nat.le_of_ble_eq_true rfl⟩ rfl hK hP hD hl.1 rfl (Nat.le_of_ble_eq_true rfl) ⟨Nat.zero_le _, Nat.zero_le _⟩ d_Fb_carton_35 ?_
      refine lv_if_ne (tgt := 51) hx hb d_Fb_carton_38 (by decide) (fun c_3 => ?_) (fun c_3 => ?_)
      · 
        refine lv_aload_n hx hb d_Fb_carton_51 rfl (lv_at hl 0 rfl) ?_
        refine va_get (D := D) (ci := 6) (v := .ref (a 199)) (C := R_Fb) (T := F_Fb) (N := 6) hx hb hts (fun w h => List.mem_cons_of_mem _ (i_Fb w h)) hown hK.1 hP 0 (wFb_o6 t a σ) rfl 0 (by decide) (hts (.fieldLink R_Fb 12 "FlatBoxes" "cartonRows" "LFlatBoxes$Cartons;") (List.mem_cons_of_mem _ (gIn k_244 (by decide +kernel)))) (fun _ h9 => h9) rfl d_Fb_carton_52 ?_
        refine va_get (D := D) (ci := 1) (v := .int (σ 105 0)) (C := R_Ct) (T := F_Ct) (N := 6) hx hb hts (fun w h => List.mem_cons_of_mem _ (i_Ct w h)) hown hK.1 hP 1 (wFb_o1 t a σ) rfl 5 (by decide) (hts (.fieldLink R_Fb 79 "FlatBoxes$Cartons" "count" "I") (List.mem_cons_of_mem _ (gIn k_47 (by decide +kernel)))) (fun _ h9 => h9) rfl d_Fb_carton_55 ?_
        refine lv_topi (fun v_4 e_4 => ?_)
        obtain rfl : 4 = v_4 := (e_4.trans (hC)).symm
        refine lv_iconst (v := 4) hx hb d_Fb_carton_58 (by decide) ?_
        refine lv_icmp_lt (tgt := 72) hx hb d_Fb_carton_59 (by decide) (fun c_5 => ?_) (fun c_5 => ?_)
        · 
          exact absurd c_5 (by decide)
        · 
          obtain ⟨sa, hsa⟩ := hxo.2.1 _ (show (85, _) ∈ xStr from List.mem_of_getElem? (i := 2) rfl)
          exact x_throw hx hb hl0 (names := xUp) hown (by decide +kernel) (by decide +kernel) (hts (.classLink R_Fb 83 "java/lang/IllegalStateException") (List.mem_cons_of_mem _ (gIn k_468 (by decide +kernel)))) (hts (.initialized "java/lang/IllegalStateException") (List.mem_cons_of_mem _ (gIn k_14 (by decide +kernel)))) (hts (.instantiable "java/lang/IllegalStateException" 6) (List.mem_cons_of_mem _ (gIn k_469 (by decide +kernel)))) hsa (xHat xIn_87 hts hxo) (hl.1.trans hml.symm) d_Fb_carton_62 d_Fb_carton_65 d_Fb_carton_66 d_Fb_carton_68 d_Fb_carton_71 hout (Nat.le_of_ble_eq_true rfl) (Nat.le_of_ble_eq_true rfl) (Nat.le_refl _) (Nat.le_refl _) hlocks
      · 
        exact absurd c_3 (h3)
  · 
    exact absurd c_1 (h1)
