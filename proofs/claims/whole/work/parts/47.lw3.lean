/-! the law's helpers -/
theorem gg_Lw_7 (w0 : Cond) : GoodIn (w0 :: gBig) (wsV R_Lw 7 R_Fb y_Fb_carton (.code y_Fb_carton b_Fb_carton 6 (some .int) :: gBig)) := gGoodV (gIn k_388 (by decide +kernel)) (gIn k_389 (by decide +kernel)) (gIn k_390 (by decide +kernel)) (gIn k_1 (by decide +kernel)) (gIn k_391 (by decide +kernel))
theorem gg_Lw_17 (w0 : Cond) : GoodIn (w0 :: gBig) (wsV R_Lw 17 R_Fb y_Fb_part (.code y_Fb_part b_Fb_part 6 (some .int) :: gBig)) := gGoodV (gIn k_495 (by decide +kernel)) (gIn k_496 (by decide +kernel)) (gIn k_497 (by decide +kernel)) (gIn k_1 (by decide +kernel)) (gIn k_498 (by decide +kernel))
theorem gg_Lw_20 (w0 : Cond) : GoodIn (w0 :: gBig) (wsV R_Lw 20 R_Fb y_Fb_fragile (.code y_Fb_fragile b_Fb_fragile 3 (some .boolean) :: gBig)) := gGoodV (gIn k_518 (by decide +kernel)) (gIn k_519 (by decide +kernel)) (gIn k_520 (by decide +kernel)) (gIn k_1 (by decide +kernel)) (gIn k_521 (by decide +kernel))
theorem gg_Lw_26 (w0 : Cond) : GoodIn (w0 :: gBig) (wsV R_Lw 26 R_Fb y_Fb_fits (.code y_Fb_fits b_Fb_fits 3 (some .boolean) :: gBig)) := gGoodV (gIn k_544 (by decide +kernel)) (gIn k_545 (by decide +kernel)) (gIn k_546 (by decide +kernel)) (gIn k_1 (by decide +kernel)) (gIn k_547 (by decide +kernel))
theorem gg_Lw_30 (w0 : Cond) : GoodIn (w0 :: gBig) (wsV R_Lw 30 R_Fb y_Fb_at (.code y_Fb_at b_Fb_at 3 (some .int) :: gBig)) := gGoodV (gIn k_555 (by decide +kernel)) (gIn k_556 (by decide +kernel)) (gIn k_557 (by decide +kernel)) (gIn k_1 (by decide +kernel)) (gIn k_558 (by decide +kernel))
theorem gg_Lw_34 (w0 : Cond) : GoodIn (w0 :: gBig) (wsV R_Lw 34 R_Fb y_Fb_box (.code y_Fb_box b_Fb_box 3 (some .int) :: gBig)) := gGoodV (gIn k_568 (by decide +kernel)) (gIn k_569 (by decide +kernel)) (gIn k_570 (by decide +kernel)) (gIn k_1 (by decide +kernel)) (gIn k_571 (by decide +kernel))
theorem gg_Lw_37 (w0 : Cond) : GoodIn (w0 :: gBig) (wsV R_Lw 37 R_Fb y_Fb_cost (.code y_Fb_cost b_Fb_cost 1 (some .int) :: gBig)) := gGoodV (gIn k_576 (by decide +kernel)) (gIn k_577 (by decide +kernel)) (gIn k_578 (by decide +kernel)) (gIn k_1 (by decide +kernel)) (gIn k_579 (by decide +kernel))
theorem gg_Lw_41 (w0 : Cond) : GoodIn (w0 :: gBig) (wsV R_Lw 41 R_Fb y_Fb_manual (.code y_Fb_manual b_Fb_manual 2 (some .int) :: gBig)) := gGoodV (gIn k_583 (by decide +kernel)) (gIn k_584 (by decide +kernel)) (gIn k_585 (by decide +kernel)) (gIn k_1 (by decide +kernel)) (gIn k_586 (by decide +kernel))
theorem gg_Lw_45 (w0 : Cond) : GoodIn (w0 :: gBig) (wsV R_Lw 45 R_Fb y_Fb_bag (.code y_Fb_bag b_Fb_bag 1 (some .int) :: gBig)) := gGoodV (gIn k_591 (by decide +kernel)) (gIn k_592 (by decide +kernel)) (gIn k_593 (by decide +kernel)) (gIn k_1 (by decide +kernel)) (gIn k_594 (by decide +kernel))
theorem gg_Lw_48 (w0 : Cond) : GoodIn (w0 :: gBig) (wsV R_Lw 48 R_Fb y_Fb_into (.code y_Fb_into b_Fb_into 5 (some .int) :: gBig)) := gGoodV (gIn k_603 (by decide +kernel)) (gIn k_604 (by decide +kernel)) (gIn k_605 (by decide +kernel)) (gIn k_1 (by decide +kernel)) (gIn k_606 (by decide +kernel))
theorem gg_Lw_52 (w0 : Cond) : GoodIn (w0 :: gBig) (wsV R_Lw 52 R_Fb y_Fb_counted (.code y_Fb_counted b_Fb_counted 3 (some .int) :: gBig)) := gGoodV (gIn k_618 (by decide +kernel)) (gIn k_619 (by decide +kernel)) (gIn k_620 (by decide +kernel)) (gIn k_1 (by decide +kernel)) (gIn k_621 (by decide +kernel))
theorem gg_Lw_55 (w0 : Cond) : GoodIn (w0 :: gBig) (wsV R_Lw 55 R_Fb y_Fb_raised (.code y_Fb_raised b_Fb_raised 6 (some .boolean) :: gBig)) := gGoodV (gIn k_641 (by decide +kernel)) (gIn k_642 (by decide +kernel)) (gIn k_643 (by decide +kernel)) (gIn k_1 (by decide +kernel)) (gIn k_644 (by decide +kernel))
theorem gg_Lw_58 (w0 : Cond) : GoodIn (w0 :: gBig) (wsV R_Lw 58 R_Fb y_Fb_pallets (.code y_Fb_pallets b_Fb_pallets 2 (some .int) :: gBig)) := gGoodV (gIn k_650 (by decide +kernel)) (gIn k_651 (by decide +kernel)) (gIn k_652 (by decide +kernel)) (gIn k_1 (by decide +kernel)) (gIn k_653 (by decide +kernel))
set_option maxHeartbeats 4000000 in
set_option maxRecDepth 100000 in
theorem r_Lw_carton (l : Launch) (D : va_G) (t : Nat → ClassId) (a : Nat → Nat) (ao : Nat) (σ : Nat → Nat → Int32) (f : Nat → Int64) (p0 p1 p2 p3 p4 : Int32) (n : Nat) (Rv : Int32) (Uv : Nat → Nat → Int32) (hM : gMi l D t y_Fb_carton b_Fb_carton 6 (some .int) n [.ref (a 699), .int p0, .int p1, .int p2, .int p3, .int p4] (wFb t a σ) (wFb t a) (fun r u => r = Rv ∧ u = Uv)) : gMq l D t y_Lw_carton b_Lw_carton 8 [(0, 16, 19, 13), (0, 16, 23, 15)] (n + 1) [.ref (a 699), .int p0, .int p1, .int p2, .int p3, .int p4, .ref ao] (wLw t a ao σ f) (fun u : (Nat → Nat → Int32) × (Nat → Int64) => wLw t a ao u.1 u.2) (fun k u => k = 0 ∧ u = (Uv, vp_updL f 0 Rv.toInt64)) := by
  intro A
  refine va_MetW (cc := b_Lw_carton) (maxL := 8) (ret := (some .int)) (hh := [(0, 16, 19, 13), (0, 16, 23, 15)]) (by decide) rfl ?_
  intro p e s m args below meth c s₁ B hml hv
  obtain ⟨rfl, ⟨hK, hP, hD⟩, hxo, hno⟩ := hv
  have hx := B.exec
  have hb := B.bytes
  have hr := B.returns
  have hts := atoms_spec (ws := .codeWith y_Lw_carton b_Lw_carton 8 (some .int) [(0, 16, 19, 13), (0, 16, 23, 15)] :: gBig) B.pre
  have hown : s.vm.findClass R_Lw = some m.cls := findClass_of_methodNamed B.named
  have hlocks := B.notSynchronized
  have hS : va_S A s.heap s.heap [] := va_S.rf
  have hl := lv_entry ([.ref (a 699), .int p0, .int p1, .int p2, .int p3, .int p4, .ref ao]) (n := 8) (Nat.le_of_ble_eq_true rfl)
  rw [lg_entry_eq]
  generalize (lg_sl ([.ref (a 699), .int p0, .int p1, .int p2, .int p3, .int p4, .ref ao]) ++ List.replicate (8 - (lg_sl ([.ref (a 699), .int p0, .int p1, .int p2, .int p3, .int p4, .ref ao])).length) Slot.unset).toArray = ls at hl ⊢
  have hl : lv_has ls 8 [(0, .ref (a 699)), (1, .int p0), (2, .int p1), (3, .int p2), (4, .int p3), (5, .int p4), (6, .ref ao)] := hl
  refine W.widen (k := 1) (n := 6) (Nat.zero_le _) (Nat.zero_le _) ?_
  refine lv_aload hx hb d_Lw_carton_0 (lv_at hl 6 rfl) ?_
  refine lv_iconst (v := 0) hx hb d_Lw_carton_2 (by decide) ?_
  refine lv_aload_n hx hb d_Lw_carton_3 rfl (lv_at hl 0 rfl) ?_
  refine lv_iload_n hx hb d_Lw_carton_4 rfl (lv_at hl 1 rfl) ?_
  refine lv_iload_n hx hb d_Lw_carton_5 rfl (lv_at hl 2 rfl) ?_
  refine lv_iload_n hx hb d_Lw_carton_6 rfl (lv_at hl 3 rfl) ?_
  refine lv_iload hx hb d_Lw_carton_7 (lv_at hl 4 rfl) ?_
  refine lv_iload hx hb d_Lw_carton_9 (lv_at hl 5 rfl) ?_
  refine g_viS (k := 5) (As := [.int p0, .int p1, .int p2, .int p3, .int p4]) (rest := [.int 0, .ref ao]) (own := R_Lw) (C := R_Fb) (index := 7) (w1 := wFb t a σ) (w2 := [(ao, .inl (t 3, 1, .inr (.inl f)))]) ⟨hx, hb, hml, hown, hts⟩ hM (gg_Lw_7 _) (by decide +kernel) ⟨Nat.le_refl _, by show 8 + (6 + 11) + 40 * n ≤ 40 * (n + 1); omega⟩ rfl (va_recv hK.1 (gSplit hP).1 (ci := 6) (q0 := 0) rfl (wFb_o6 t a σ)) hK hP hD hS hl.1 rfl (Nat.le_of_ble_eq_true rfl) ⟨Nat.le_refl _, Nat.le_refl _⟩ d_Lw_carton_11 (fun r_1 u_1 H locs q_1 hP hD hS => ?_)
  obtain ⟨hr_1, hu_1⟩ := q_1
  subst hr_1
  subst hu_1
  refine lv_i2l (v := r_1.toInt64) hx hb d_Lw_carton_14 rfl ?_
  refine va_last hx hb hK.1 hP hD hS 67 3 (a := ao) (cA := t 3) (n := 1) (f := f) rfl rfl (i := 0) (by unfold vp_in; decide) d_Lw_carton_15 (fun H locs hP hD hS => ?_)
  have hP : va_P D gCl (wLw t a ao u_1 (vp_updL f 0 r_1.toInt64)) H := hP
  have hD : va_D A (wLw t a ao u_1 (vp_updL f 0 r_1.toInt64)) := hD
  refine lv_goto (tgt := 27) hx hb d_Lw_carton_16 (by decide) ?_
  refine lv_iconst (v := 0) hx hb d_Lw_carton_27 (by decide) ?_
  exact W.iret (v := 0) hx hb hr (fun U hU hW => ⟨⟨0, (u_1, vp_updL f 0 r_1.toInt64), rfl, ⟨rfl, rfl⟩, by rw [hU]; exact hP, hD⟩, hS.F hU⟩) hS.2.2 d_Lw_carton_28
set_option maxHeartbeats 4000000 in
set_option maxRecDepth 100000 in
theorem x_Lw_carton_iae (l : Launch) (D : va_G) (t : Nat → ClassId) (a : Nat → Nat) (ao : Nat) (σ : Nat → Nat → Int32) (f : Nat → Int64) (p0 p1 p2 p3 p4 : Int32) (n : Nat) (hM : gMx l D t y_Fb_carton b_Fb_carton 6 (some .int) n [.ref (a 699), .int p0, .int p1, .int p2, .int p3, .int p4] (wFb t a σ) "java/lang/IllegalArgumentException") : gMq l D t y_Lw_carton b_Lw_carton 8 [(0, 16, 19, 13), (0, 16, 23, 15)] (n + 1) [.ref (a 699), .int p0, .int p1, .int p2, .int p3, .int p4, .ref ao] (wLw t a ao σ f) (fun u : (Nat → Nat → Int32) × (Nat → Int64) => wLw t a ao u.1 u.2) (fun k u => k = 1 ∧ u = (σ, f)) := by
  intro A
  refine va_MetW (cc := b_Lw_carton) (maxL := 8) (ret := (some .int)) (hh := [(0, 16, 19, 13), (0, 16, 23, 15)]) (by decide) rfl ?_
  intro p e s m args below meth c s₁ B hml hv
  obtain ⟨rfl, ⟨hK, hP, hD⟩, hxo, hno⟩ := hv
  have hx := B.exec
  have hb := B.bytes
  have hr := B.returns
  have hts := atoms_spec (ws := .codeWith y_Lw_carton b_Lw_carton 8 (some .int) [(0, 16, 19, 13), (0, 16, 23, 15)] :: gBig) B.pre
  have hown : s.vm.findClass R_Lw = some m.cls := findClass_of_methodNamed B.named
  have hlocks := B.notSynchronized
  have hS : va_S A s.heap s.heap [] := va_S.rf
  have hl := lv_entry ([.ref (a 699), .int p0, .int p1, .int p2, .int p3, .int p4, .ref ao]) (n := 8) (Nat.le_of_ble_eq_true rfl)
  rw [lg_entry_eq]
  generalize (lg_sl ([.ref (a 699), .int p0, .int p1, .int p2, .int p3, .int p4, .ref ao]) ++ List.replicate (8 - (lg_sl ([.ref (a 699), .int p0, .int p1, .int p2, .int p3, .int p4, .ref ao])).length) Slot.unset).toArray = ls at hl ⊢
  have hl : lv_has ls 8 [(0, .ref (a 699)), (1, .int p0), (2, .int p1), (3, .int p2), (4, .int p3), (5, .int p4), (6, .ref ao)] := hl
  refine lv_aload hx hb d_Lw_carton_0 (lv_at hl 6 rfl) ?_
  refine lv_iconst (v := 0) hx hb d_Lw_carton_2 (by decide) ?_
  refine lv_aload_n hx hb d_Lw_carton_3 rfl (lv_at hl 0 rfl) ?_
  refine lv_iload_n hx hb d_Lw_carton_4 rfl (lv_at hl 1 rfl) ?_
  refine lv_iload_n hx hb d_Lw_carton_5 rfl (lv_at hl 2 rfl) ?_
  refine lv_iload_n hx hb d_Lw_carton_6 rfl (lv_at hl 3 rfl) ?_
  refine lv_iload hx hb d_Lw_carton_7 (lv_at hl 4 rfl) ?_
  refine lv_iload hx hb d_Lw_carton_9 (lv_at hl 5 rfl) ?_
  have htab := h_tab B (hts _ List.mem_cons_self)
  refine x_caught (k := 5) (As := [.int p0, .int p1, .int p2, .int p3, .int p4]) (rest := [.int 0, .ref ao]) (own := R_Lw) (C := R_Fb) (index := 7) (w1 := wFb t a σ) (w2 := [(ao, .inl (t 3, 1, .inr (.inl f)))]) ⟨hx, hb, hml, hown, hts⟩ hM (gg_Lw_7 _) (by decide +kernel) ⟨Nat.le_refl _, by show 8 + (6 + 11) + 40 * n ≤ 40 * (n + 1); omega⟩ rfl (va_recv hK.1 (gSplit hP).1 (ci := 6) (q0 := 0) rfl (wFb_o6 t a σ)) hK hP hD hS hxo hno hl.1 rfl (Nat.le_of_ble_eq_true rfl) ⟨Nat.le_refl _, Nat.le_refl _⟩ d_Lw_carton_11 (pre := []) (x9 := ⟨0, 16, 19, 13⟩) (rest9 := [⟨0, 16, 23, 15⟩]) htab (fun y9 hy9 => nomatch hy9) (by decide) (by decide) (gIn k_386 (by decide +kernel)) (by decide) (hp9 := 19) rfl (fun v H hP hS => ?_)
  refine lv_astore hx hb d_Lw_carton_19 hl (by decide) (lv' := ((7, .ref v) :: [(0, .ref (a 699)), (1, .int p0), (2, .int p1), (3, .int p2), (4, .int p3), (5, .int p4), (6, .ref ao)])) rfl (fun ls hl => ?_)
  refine lv_iconst (v := 1) hx hb d_Lw_carton_21 (by decide) ?_
  exact W.iret (v := 1) hx hb hr (fun U hU hW => ⟨⟨1, (σ, f), rfl, ⟨rfl, rfl⟩, by rw [hU]; exact hP, hD⟩, hS.F hU⟩) hS.2.2 d_Lw_carton_22
set_option maxHeartbeats 4000000 in
set_option maxRecDepth 100000 in
theorem x_Lw_carton_ise (l : Launch) (D : va_G) (t : Nat → ClassId) (a : Nat → Nat) (ao : Nat) (σ : Nat → Nat → Int32) (f : Nat → Int64) (p0 p1 p2 p3 p4 : Int32) (n : Nat) (hM : gMx l D t y_Fb_carton b_Fb_carton 6 (some .int) n [.ref (a 699), .int p0, .int p1, .int p2, .int p3, .int p4] (wFb t a σ) "java/lang/IllegalStateException") : gMq l D t y_Lw_carton b_Lw_carton 8 [(0, 16, 19, 13), (0, 16, 23, 15)] (n + 1) [.ref (a 699), .int p0, .int p1, .int p2, .int p3, .int p4, .ref ao] (wLw t a ao σ f) (fun u : (Nat → Nat → Int32) × (Nat → Int64) => wLw t a ao u.1 u.2) (fun k u => k = 2 ∧ u = (σ, f)) := by
  intro A
  refine va_MetW (cc := b_Lw_carton) (maxL := 8) (ret := (some .int)) (hh := [(0, 16, 19, 13), (0, 16, 23, 15)]) (by decide) rfl ?_
  intro p e s m args below meth c s₁ B hml hv
  obtain ⟨rfl, ⟨hK, hP, hD⟩, hxo, hno⟩ := hv
  have hx := B.exec
  have hb := B.bytes
  have hr := B.returns
  have hts := atoms_spec (ws := .codeWith y_Lw_carton b_Lw_carton 8 (some .int) [(0, 16, 19, 13), (0, 16, 23, 15)] :: gBig) B.pre
  have hown : s.vm.findClass R_Lw = some m.cls := findClass_of_methodNamed B.named
  have hlocks := B.notSynchronized
  have hS : va_S A s.heap s.heap [] := va_S.rf
  have hl := lv_entry ([.ref (a 699), .int p0, .int p1, .int p2, .int p3, .int p4, .ref ao]) (n := 8) (Nat.le_of_ble_eq_true rfl)
  rw [lg_entry_eq]
  generalize (lg_sl ([.ref (a 699), .int p0, .int p1, .int p2, .int p3, .int p4, .ref ao]) ++ List.replicate (8 - (lg_sl ([.ref (a 699), .int p0, .int p1, .int p2, .int p3, .int p4, .ref ao])).length) Slot.unset).toArray = ls at hl ⊢
  have hl : lv_has ls 8 [(0, .ref (a 699)), (1, .int p0), (2, .int p1), (3, .int p2), (4, .int p3), (5, .int p4), (6, .ref ao)] := hl
  refine lv_aload hx hb d_Lw_carton_0 (lv_at hl 6 rfl) ?_
  refine lv_iconst (v := 0) hx hb d_Lw_carton_2 (by decide) ?_
  refine lv_aload_n hx hb d_Lw_carton_3 rfl (lv_at hl 0 rfl) ?_
  refine lv_iload_n hx hb d_Lw_carton_4 rfl (lv_at hl 1 rfl) ?_
  refine lv_iload_n hx hb d_Lw_carton_5 rfl (lv_at hl 2 rfl) ?_
  refine lv_iload_n hx hb d_Lw_carton_6 rfl (lv_at hl 3 rfl) ?_
  refine lv_iload hx hb d_Lw_carton_7 (lv_at hl 4 rfl) ?_
  refine lv_iload hx hb d_Lw_carton_9 (lv_at hl 5 rfl) ?_
  have htab := h_tab B (hts _ List.mem_cons_self)
  refine x_caught (k := 5) (As := [.int p0, .int p1, .int p2, .int p3, .int p4]) (rest := [.int 0, .ref ao]) (own := R_Lw) (C := R_Fb) (index := 7) (w1 := wFb t a σ) (w2 := [(ao, .inl (t 3, 1, .inr (.inl f)))]) ⟨hx, hb, hml, hown, hts⟩ hM (gg_Lw_7 _) (by decide +kernel) ⟨Nat.le_refl _, by show 8 + (6 + 11) + 40 * n ≤ 40 * (n + 1); omega⟩ rfl (va_recv hK.1 (gSplit hP).1 (ci := 6) (q0 := 0) rfl (wFb_o6 t a σ)) hK hP hD hS hxo hno hl.1 rfl (Nat.le_of_ble_eq_true rfl) ⟨Nat.le_refl _, Nat.le_refl _⟩ d_Lw_carton_11 (pre := [⟨0, 16, 19, 13⟩]) (x9 := ⟨0, 16, 23, 15⟩) (rest9 := []) htab (List.forall_mem_cons.mpr ⟨⟨"java/lang/IllegalArgumentException", by decide, gIn k_386 (by decide +kernel), by decide⟩, fun _ h9 => nomatch h9⟩) (by decide) (by decide) (gIn k_387 (by decide +kernel)) (by decide) (hp9 := 23) rfl (fun v H hP hS => ?_)
  refine lv_astore hx hb d_Lw_carton_23 hl (by decide) (lv' := ((7, .ref v) :: [(0, .ref (a 699)), (1, .int p0), (2, .int p1), (3, .int p2), (4, .int p3), (5, .int p4), (6, .ref ao)])) rfl (fun ls hl => ?_)
  refine lv_iconst (v := 2) hx hb d_Lw_carton_25 (by decide) ?_
  exact W.iret (v := 2) hx hb hr (fun U hU hW => ⟨⟨2, (σ, f), rfl, ⟨rfl, rfl⟩, by rw [hU]; exact hP, hD⟩, hS.F hU⟩) hS.2.2 d_Lw_carton_26
set_option maxHeartbeats 4000000 in
set_option maxRecDepth 100000 in
theorem r_Lw_part (l : Launch) (D : va_G) (t : Nat → ClassId) (a : Nat → Nat) (ao : Nat) (σ : Nat → Nat → Int32) (f : Nat → Int64) (p0 p1 p2 p3 p4 : Int32) (n : Nat) (Rv : Int32) (Uv : Nat → Nat → Int32) (hM : gMi l D t y_Fb_part b_Fb_part 6 (some .int) n [.ref (a 699), .int p0, .int p1, .int p2, .int p3, .int p4] (wFb t a σ) (wFb t a) (fun r u => r = Rv ∧ u = Uv)) : gMq l D t y_Lw_part b_Lw_part 8 [(0, 16, 19, 13), (0, 16, 23, 15)] (n + 1) [.ref (a 699), .int p0, .int p1, .int p2, .int p3, .int p4, .ref ao] (wLw t a ao σ f) (fun u : (Nat → Nat → Int32) × (Nat → Int64) => wLw t a ao u.1 u.2) (fun k u => k = 0 ∧ u = (Uv, vp_updL f 0 Rv.toInt64)) := by
  intro A
  refine va_MetW (cc := b_Lw_part) (maxL := 8) (ret := (some .int)) (hh := [(0, 16, 19, 13), (0, 16, 23, 15)]) (by decide) rfl ?_
  intro p e s m args below meth c s₁ B hml hv
  obtain ⟨rfl, ⟨hK, hP, hD⟩, hxo, hno⟩ := hv
  have hx := B.exec
  have hb := B.bytes
  have hr := B.returns
  have hts := atoms_spec (ws := .codeWith y_Lw_part b_Lw_part 8 (some .int) [(0, 16, 19, 13), (0, 16, 23, 15)] :: gBig) B.pre
  have hown : s.vm.findClass R_Lw = some m.cls := findClass_of_methodNamed B.named
  have hlocks := B.notSynchronized
  have hS : va_S A s.heap s.heap [] := va_S.rf
  have hl := lv_entry ([.ref (a 699), .int p0, .int p1, .int p2, .int p3, .int p4, .ref ao]) (n := 8) (Nat.le_of_ble_eq_true rfl)
  rw [lg_entry_eq]
  generalize (lg_sl ([.ref (a 699), .int p0, .int p1, .int p2, .int p3, .int p4, .ref ao]) ++ List.replicate (8 - (lg_sl ([.ref (a 699), .int p0, .int p1, .int p2, .int p3, .int p4, .ref ao])).length) Slot.unset).toArray = ls at hl ⊢
  have hl : lv_has ls 8 [(0, .ref (a 699)), (1, .int p0), (2, .int p1), (3, .int p2), (4, .int p3), (5, .int p4), (6, .ref ao)] := hl
  refine W.widen (k := 1) (n := 6) (Nat.zero_le _) (Nat.zero_le _) ?_
  refine lv_aload hx hb d_Lw_part_0 (lv_at hl 6 rfl) ?_
  refine lv_iconst (v := 0) hx hb d_Lw_part_2 (by decide) ?_
  refine lv_aload_n hx hb d_Lw_part_3 rfl (lv_at hl 0 rfl) ?_
  refine lv_iload_n hx hb d_Lw_part_4 rfl (lv_at hl 1 rfl) ?_
  refine lv_iload_n hx hb d_Lw_part_5 rfl (lv_at hl 2 rfl) ?_
  refine lv_iload_n hx hb d_Lw_part_6 rfl (lv_at hl 3 rfl) ?_
  refine lv_iload hx hb d_Lw_part_7 (lv_at hl 4 rfl) ?_
  refine lv_iload hx hb d_Lw_part_9 (lv_at hl 5 rfl) ?_
  refine g_viS (k := 5) (As := [.int p0, .int p1, .int p2, .int p3, .int p4]) (rest := [.int 0, .ref ao]) (own := R_Lw) (C := R_Fb) (index := 17) (w1 := wFb t a σ) (w2 := [(ao, .inl (t 3, 1, .inr (.inl f)))]) ⟨hx, hb, hml, hown, hts⟩ hM (gg_Lw_17 _) (by decide +kernel) ⟨Nat.le_refl _, by show 8 + (6 + 11) + 40 * n ≤ 40 * (n + 1); omega⟩ rfl (va_recv hK.1 (gSplit hP).1 (ci := 6) (q0 := 0) rfl (wFb_o6 t a σ)) hK hP hD hS hl.1 rfl (Nat.le_of_ble_eq_true rfl) ⟨Nat.le_refl _, Nat.le_refl _⟩ d_Lw_part_11 (fun r_1 u_1 H locs q_1 hP hD hS => ?_)
  obtain ⟨hr_1, hu_1⟩ := q_1
  subst hr_1
  subst hu_1
  refine lv_i2l (v := r_1.toInt64) hx hb d_Lw_part_14 rfl ?_
  refine va_last hx hb hK.1 hP hD hS 67 3 (a := ao) (cA := t 3) (n := 1) (f := f) rfl rfl (i := 0) (by unfold vp_in; decide) d_Lw_part_15 (fun H locs hP hD hS => ?_)
  have hP : va_P D gCl (wLw t a ao u_1 (vp_updL f 0 r_1.toInt64)) H := hP
  have hD : va_D A (wLw t a ao u_1 (vp_updL f 0 r_1.toInt64)) := hD
  refine lv_goto (tgt := 27) hx hb d_Lw_part_16 (by decide) ?_
  refine lv_iconst (v := 0) hx hb d_Lw_part_27 (by decide) ?_
  exact W.iret (v := 0) hx hb hr (fun U hU hW => ⟨⟨0, (u_1, vp_updL f 0 r_1.toInt64), rfl, ⟨rfl, rfl⟩, by rw [hU]; exact hP, hD⟩, hS.F hU⟩) hS.2.2 d_Lw_part_28
set_option maxHeartbeats 4000000 in
set_option maxRecDepth 100000 in
theorem x_Lw_part_iae (l : Launch) (D : va_G) (t : Nat → ClassId) (a : Nat → Nat) (ao : Nat) (σ : Nat → Nat → Int32) (f : Nat → Int64) (p0 p1 p2 p3 p4 : Int32) (n : Nat) (hM : gMx l D t y_Fb_part b_Fb_part 6 (some .int) n [.ref (a 699), .int p0, .int p1, .int p2, .int p3, .int p4] (wFb t a σ) "java/lang/IllegalArgumentException") : gMq l D t y_Lw_part b_Lw_part 8 [(0, 16, 19, 13), (0, 16, 23, 15)] (n + 1) [.ref (a 699), .int p0, .int p1, .int p2, .int p3, .int p4, .ref ao] (wLw t a ao σ f) (fun u : (Nat → Nat → Int32) × (Nat → Int64) => wLw t a ao u.1 u.2) (fun k u => k = 1 ∧ u = (σ, f)) := by
  intro A
  refine va_MetW (cc := b_Lw_part) (maxL := 8) (ret := (some .int)) (hh := [(0, 16, 19, 13), (0, 16, 23, 15)]) (by decide) rfl ?_
  intro p e s m args below meth c s₁ B hml hv
  obtain ⟨rfl, ⟨hK, hP, hD⟩, hxo, hno⟩ := hv
  have hx := B.exec
  have hb := B.bytes
  have hr := B.returns
  have hts := atoms_spec (ws := .codeWith y_Lw_part b_Lw_part 8 (some .int) [(0, 16, 19, 13), (0, 16, 23, 15)] :: gBig) B.pre
  have hown : s.vm.findClass R_Lw = some m.cls := findClass_of_methodNamed B.named
  have hlocks := B.notSynchronized
  have hS : va_S A s.heap s.heap [] := va_S.rf
  have hl := lv_entry ([.ref (a 699), .int p0, .int p1, .int p2, .int p3, .int p4, .ref ao]) (n := 8) (Nat.le_of_ble_eq_true rfl)
  rw [lg_entry_eq]
  generalize (lg_sl ([.ref (a 699), .int p0, .int p1, .int p2, .int p3, .int p4, .ref ao]) ++ List.replicate (8 - (lg_sl ([.ref (a 699), .int p0, .int p1, .int p2, .int p3, .int p4, .ref ao])).length) Slot.unset).toArray = ls at hl ⊢
  have hl : lv_has ls 8 [(0, .ref (a 699)), (1, .int p0), (2, .int p1), (3, .int p2), (4, .int p3), (5, .int p4), (6, .ref ao)] := hl
  refine lv_aload hx hb d_Lw_part_0 (lv_at hl 6 rfl) ?_
  refine lv_iconst (v := 0) hx hb d_Lw_part_2 (by decide) ?_
  refine lv_aload_n hx hb d_Lw_part_3 rfl (lv_at hl 0 rfl) ?_
  refine lv_iload_n hx hb d_Lw_part_4 rfl (lv_at hl 1 rfl) ?_
  refine lv_iload_n hx hb d_Lw_part_5 rfl (lv_at hl 2 rfl) ?_
  refine lv_iload_n hx hb d_Lw_part_6 rfl (lv_at hl 3 rfl) ?_
  refine lv_iload hx hb d_Lw_part_7 (lv_at hl 4 rfl) ?_
  refine lv_iload hx hb d_Lw_part_9 (lv_at hl 5 rfl) ?_
  have htab := h_tab B (hts _ List.mem_cons_self)
  refine x_caught (k := 5) (As := [.int p0, .int p1, .int p2, .int p3, .int p4]) (rest := [.int 0, .ref ao]) (own := R_Lw) (C := R_Fb) (index := 17) (w1 := wFb t a σ) (w2 := [(ao, .inl (t 3, 1, .inr (.inl f)))]) ⟨hx, hb, hml, hown, hts⟩ hM (gg_Lw_17 _) (by decide +kernel) ⟨Nat.le_refl _, by show 8 + (6 + 11) + 40 * n ≤ 40 * (n + 1); omega⟩ rfl (va_recv hK.1 (gSplit hP).1 (ci := 6) (q0 := 0) rfl (wFb_o6 t a σ)) hK hP hD hS hxo hno hl.1 rfl (Nat.le_of_ble_eq_true rfl) ⟨Nat.le_refl _, Nat.le_refl _⟩ d_Lw_part_11 (pre := []) (x9 := ⟨0, 16, 19, 13⟩) (rest9 := [⟨0, 16, 23, 15⟩]) htab (fun y9 hy9 => nomatch hy9) (by decide) (by decide) (gIn k_386 (by decide +kernel)) (by decide) (hp9 := 19) rfl (fun v H hP hS => ?_)
  refine lv_astore hx hb d_Lw_part_19 hl (by decide) (lv' := ((7, .ref v) :: [(0, .ref (a 699)), (1, .int p0), (2, .int p1), (3, .int p2), (4, .int p3), (5, .int p4), (6, .ref ao)])) rfl (fun ls hl => ?_)
  refine lv_iconst (v := 1) hx hb d_Lw_part_21 (by decide) ?_
  exact W.iret (v := 1) hx hb hr (fun U hU hW => ⟨⟨1, (σ, f), rfl, ⟨rfl, rfl⟩, by rw [hU]; exact hP, hD⟩, hS.F hU⟩) hS.2.2 d_Lw_part_22
set_option maxHeartbeats 4000000 in
set_option maxRecDepth 100000 in
theorem x_Lw_part_ise (l : Launch) (D : va_G) (t : Nat → ClassId) (a : Nat → Nat) (ao : Nat) (σ : Nat → Nat → Int32) (f : Nat → Int64) (p0 p1 p2 p3 p4 : Int32) (n : Nat) (hM : gMx l D t y_Fb_part b_Fb_part 6 (some .int) n [.ref (a 699), .int p0, .int p1, .int p2, .int p3, .int p4] (wFb t a σ) "java/lang/IllegalStateException") : gMq l D t y_Lw_part b_Lw_part 8 [(0, 16, 19, 13), (0, 16, 23, 15)] (n + 1) [.ref (a 699), .int p0, .int p1, .int p2, .int p3, .int p4, .ref ao] (wLw t a ao σ f) (fun u : (Nat → Nat → Int32) × (Nat → Int64) => wLw t a ao u.1 u.2) (fun k u => k = 2 ∧ u = (σ, f)) := by
  intro A
  refine va_MetW (cc := b_Lw_part) (maxL := 8) (ret := (some .int)) (hh := [(0, 16, 19, 13), (0, 16, 23, 15)]) (by decide) rfl ?_
  intro p e s m args below meth c s₁ B hml hv
  obtain ⟨rfl, ⟨hK, hP, hD⟩, hxo, hno⟩ := hv
  have hx := B.exec
  have hb := B.bytes
  have hr := B.returns
  have hts := atoms_spec (ws := .codeWith y_Lw_part b_Lw_part 8 (some .int) [(0, 16, 19, 13), (0, 16, 23, 15)] :: gBig) B.pre
  have hown : s.vm.findClass R_Lw = some m.cls := findClass_of_methodNamed B.named
  have hlocks := B.notSynchronized
  have hS : va_S A s.heap s.heap [] := va_S.rf
  have hl := lv_entry ([.ref (a 699), .int p0, .int p1, .int p2, .int p3, .int p4, .ref ao]) (n := 8) (Nat.le_of_ble_eq_true rfl)
  rw [lg_entry_eq]
  generalize (lg_sl ([.ref (a 699), .int p0, .int p1, .int p2, .int p3, .int p4, .ref ao]) ++ List.replicate (8 - (lg_sl ([.ref (a 699), .int p0, .int p1, .int p2, .int p3, .int p4, .ref ao])).length) Slot.unset).toArray = ls at hl ⊢
  have hl : lv_has ls 8 [(0, .ref (a 699)), (1, .int p0), (2, .int p1), (3, .int p2), (4, .int p3), (5, .int p4), (6, .ref ao)] := hl
  refine lv_aload hx hb d_Lw_part_0 (lv_at hl 6 rfl) ?_
  refine lv_iconst (v := 0) hx hb d_Lw_part_2 (by decide) ?_
  refine lv_aload_n hx hb d_Lw_part_3 rfl (lv_at hl 0 rfl) ?_
  refine lv_iload_n hx hb d_Lw_part_4 rfl (lv_at hl 1 rfl) ?_
  refine lv_iload_n hx hb d_Lw_part_5 rfl (lv_at hl 2 rfl) ?_
  refine lv_iload_n hx hb d_Lw_part_6 rfl (lv_at hl 3 rfl) ?_
  refine lv_iload hx hb d_Lw_part_7 (lv_at hl 4 rfl) ?_
  refine lv_iload hx hb d_Lw_part_9 (lv_at hl 5 rfl) ?_
  have htab := h_tab B (hts _ List.mem_cons_self)
  refine x_caught (k := 5) (As := [.int p0, .int p1, .int p2, .int p3, .int p4]) (rest := [.int 0, .ref ao]) (own := R_Lw) (C := R_Fb) (index := 17) (w1 := wFb t a σ) (w2 := [(ao, .inl (t 3, 1, .inr (.inl f)))]) ⟨hx, hb, hml, hown, hts⟩ hM (gg_Lw_17 _) (by decide +kernel) ⟨Nat.le_refl _, by show 8 + (6 + 11) + 40 * n ≤ 40 * (n + 1); omega⟩ rfl (va_recv hK.1 (gSplit hP).1 (ci := 6) (q0 := 0) rfl (wFb_o6 t a σ)) hK hP hD hS hxo hno hl.1 rfl (Nat.le_of_ble_eq_true rfl) ⟨Nat.le_refl _, Nat.le_refl _⟩ d_Lw_part_11 (pre := [⟨0, 16, 19, 13⟩]) (x9 := ⟨0, 16, 23, 15⟩) (rest9 := []) htab (List.forall_mem_cons.mpr ⟨⟨"java/lang/IllegalArgumentException", by decide, gIn k_386 (by decide +kernel), by decide⟩, fun _ h9 => nomatch h9⟩) (by decide) (by decide) (gIn k_387 (by decide +kernel)) (by decide) (hp9 := 23) rfl (fun v H hP hS => ?_)
  refine lv_astore hx hb d_Lw_part_23 hl (by decide) (lv' := ((7, .ref v) :: [(0, .ref (a 699)), (1, .int p0), (2, .int p1), (3, .int p2), (4, .int p3), (5, .int p4), (6, .ref ao)])) rfl (fun ls hl => ?_)
  refine lv_iconst (v := 2) hx hb d_Lw_part_25 (by decide) ?_
  exact W.iret (v := 2) hx hb hr (fun U hU hW => ⟨⟨2, (σ, f), rfl, ⟨rfl, rfl⟩, by rw [hU]; exact hP, hD⟩, hS.F hU⟩) hS.2.2 d_Lw_part_26
set_option maxHeartbeats 4000000 in
set_option maxRecDepth 100000 in
theorem r_Lw_fragile (l : Launch) (D : va_G) (t : Nat → ClassId) (a : Nat → Nat) (ao : Nat) (σ : Nat → Nat → Int32) (f : Nat → Int64) (p0 p1 : Int32) (n : Nat) (Rv : Int32) (Uv : Nat → Nat → Int32) (hM : gMi l D t y_Fb_fragile b_Fb_fragile 3 (some .boolean) n [.ref (a 699), .int p0, .int p1] (wFb t a σ) (wFb t a) (fun r u => r = Rv ∧ u = Uv)) : gMq l D t y_Lw_fragile b_Lw_fragile 5 [(0, 17, 20, 24)] (n + 1) [.ref (a 699), .int p0, .int p1, .ref ao] (wLw t a ao σ f) (fun u : (Nat → Nat → Int32) × (Nat → Int64) => wLw t a ao u.1 u.2) (fun k u => k = 0 ∧ u = (Uv, vp_updL f 0 (if Rv = 0 then 0 else 1 : Int64))) := by
  intro A
  refine va_MetW (cc := b_Lw_fragile) (maxL := 5) (ret := (some .int)) (hh := [(0, 17, 20, 24)]) (by decide) rfl ?_
  intro p e s m args below meth c s₁ B hml hv
  obtain ⟨rfl, ⟨hK, hP, hD⟩, hxo, hno⟩ := hv
  have hx := B.exec
  have hb := B.bytes
  have hr := B.returns
  have hts := atoms_spec (ws := .codeWith y_Lw_fragile b_Lw_fragile 5 (some .int) [(0, 17, 20, 24)] :: gBig) B.pre
  have hown : s.vm.findClass R_Lw = some m.cls := findClass_of_methodNamed B.named
  have hlocks := B.notSynchronized
  have hS : va_S A s.heap s.heap [] := va_S.rf
  have hl := lv_entry ([.ref (a 699), .int p0, .int p1, .ref ao]) (n := 5) (Nat.le_of_ble_eq_true rfl)
  rw [lg_entry_eq]
  generalize (lg_sl ([.ref (a 699), .int p0, .int p1, .ref ao]) ++ List.replicate (5 - (lg_sl ([.ref (a 699), .int p0, .int p1, .ref ao])).length) Slot.unset).toArray = ls at hl ⊢
  have hl : lv_has ls 5 [(0, .ref (a 699)), (1, .int p0), (2, .int p1), (3, .ref ao)] := hl
  refine W.widen (k := 1) (n := 6) (Nat.zero_le _) (Nat.zero_le _) ?_
  refine lv_aload_n hx hb d_Lw_fragile_0 rfl (lv_at hl 3 rfl) ?_
  refine lv_iconst (v := 0) hx hb d_Lw_fragile_1 (by decide) ?_
  refine lv_aload_n hx hb d_Lw_fragile_2 rfl (lv_at hl 0 rfl) ?_
  refine lv_iload_n hx hb d_Lw_fragile_3 rfl (lv_at hl 1 rfl) ?_
  refine lv_iload_n hx hb d_Lw_fragile_4 rfl (lv_at hl 2 rfl) ?_
  refine g_viS (k := 2) (As := [.int p0, .int p1]) (rest := [.int 0, .ref ao]) (own := R_Lw) (C := R_Fb) (index := 20) (w1 := wFb t a σ) (w2 := [(ao, .inl (t 3, 1, .inr (.inl f)))]) ⟨hx, hb, hml, hown, hts⟩ hM (gg_Lw_20 _) (by decide +kernel) ⟨Nat.le_refl _, by show 8 + (3 + 11) + 40 * n ≤ 40 * (n + 1); omega⟩ rfl (va_recv hK.1 (gSplit hP).1 (ci := 6) (q0 := 0) rfl (wFb_o6 t a σ)) hK hP hD hS hl.1 rfl (Nat.le_of_ble_eq_true rfl) ⟨Nat.le_refl _, Nat.le_refl _⟩ d_Lw_fragile_5 (fun r_1 u_1 H locs q_1 hP hD hS => ?_)
  obtain ⟨hr_1, hu_1⟩ := q_1
  subst hr_1
  subst hu_1
  refine lv_if_eq (tgt := 15) hx hb d_Lw_fragile_8 (by decide) (fun c_1 => ?_) (fun c_1 => ?_)
  · refine lv_lconst (v := 0) hx hb d_Lw_fragile_15 (by decide) ?_
    refine va_last hx hb hK.1 hP hD hS 67 3 (a := ao) (cA := t 3) (n := 1) (f := f) rfl rfl (i := 0) (by unfold vp_in; decide) d_Lw_fragile_16 (fun H locs hP hD hS => ?_)
    have hP : va_P D gCl (wLw t a ao u_1 (vp_updL f 0 0)) H := hP
    have hD : va_D A (wLw t a ao u_1 (vp_updL f 0 0)) := hD
    refine lv_goto (tgt := 24) hx hb d_Lw_fragile_17 (by decide) ?_
    refine lv_iconst (v := 0) hx hb d_Lw_fragile_24 (by decide) ?_
    exact W.iret (v := 0) hx hb hr (fun U hU hW => ⟨⟨0, (u_1, vp_updL f 0 0), rfl, ⟨rfl, by rw [if_pos c_1]⟩, by rw [hU]; exact hP, hD⟩, hS.F hU⟩) hS.2.2 d_Lw_fragile_25
  · refine lv_lconst (v := 1) hx hb d_Lw_fragile_11 (by decide) ?_
    refine lv_goto (tgt := 16) hx hb d_Lw_fragile_12 (by decide) ?_
    refine va_last hx hb hK.1 hP hD hS 67 3 (a := ao) (cA := t 3) (n := 1) (f := f) rfl rfl (i := 0) (by unfold vp_in; decide) d_Lw_fragile_16 (fun H locs hP hD hS => ?_)
    have hP : va_P D gCl (wLw t a ao u_1 (vp_updL f 0 1)) H := hP
    have hD : va_D A (wLw t a ao u_1 (vp_updL f 0 1)) := hD
    refine lv_goto (tgt := 24) hx hb d_Lw_fragile_17 (by decide) ?_
    refine lv_iconst (v := 0) hx hb d_Lw_fragile_24 (by decide) ?_
    exact W.iret (v := 0) hx hb hr (fun U hU hW => ⟨⟨0, (u_1, vp_updL f 0 1), rfl, ⟨rfl, by rw [if_neg c_1]⟩, by rw [hU]; exact hP, hD⟩, hS.F hU⟩) hS.2.2 d_Lw_fragile_25
set_option maxHeartbeats 4000000 in
set_option maxRecDepth 100000 in
theorem x_Lw_fragile_iob (l : Launch) (D : va_G) (t : Nat → ClassId) (a : Nat → Nat) (ao : Nat) (σ : Nat → Nat → Int32) (f : Nat → Int64) (p0 p1 : Int32) (n : Nat) (hM : gMx l D t y_Fb_fragile b_Fb_fragile 3 (some .boolean) n [.ref (a 699), .int p0, .int p1] (wFb t a σ) "java/lang/IndexOutOfBoundsException") : gMq l D t y_Lw_fragile b_Lw_fragile 5 [(0, 17, 20, 24)] (n + 1) [.ref (a 699), .int p0, .int p1, .ref ao] (wLw t a ao σ f) (fun u : (Nat → Nat → Int32) × (Nat → Int64) => wLw t a ao u.1 u.2) (fun k u => k = 1 ∧ u = (σ, f)) := by
  intro A
  refine va_MetW (cc := b_Lw_fragile) (maxL := 5) (ret := (some .int)) (hh := [(0, 17, 20, 24)]) (by decide) rfl ?_
  intro p e s m args below meth c s₁ B hml hv
  obtain ⟨rfl, ⟨hK, hP, hD⟩, hxo, hno⟩ := hv
  have hx := B.exec
  have hb := B.bytes
  have hr := B.returns
  have hts := atoms_spec (ws := .codeWith y_Lw_fragile b_Lw_fragile 5 (some .int) [(0, 17, 20, 24)] :: gBig) B.pre
  have hown : s.vm.findClass R_Lw = some m.cls := findClass_of_methodNamed B.named
  have hlocks := B.notSynchronized
  have hS : va_S A s.heap s.heap [] := va_S.rf
  have hl := lv_entry ([.ref (a 699), .int p0, .int p1, .ref ao]) (n := 5) (Nat.le_of_ble_eq_true rfl)
  rw [lg_entry_eq]
  generalize (lg_sl ([.ref (a 699), .int p0, .int p1, .ref ao]) ++ List.replicate (5 - (lg_sl ([.ref (a 699), .int p0, .int p1, .ref ao])).length) Slot.unset).toArray = ls at hl ⊢
  have hl : lv_has ls 5 [(0, .ref (a 699)), (1, .int p0), (2, .int p1), (3, .ref ao)] := hl
  refine lv_aload_n hx hb d_Lw_fragile_0 rfl (lv_at hl 3 rfl) ?_
  refine lv_iconst (v := 0) hx hb d_Lw_fragile_1 (by decide) ?_
  refine lv_aload_n hx hb d_Lw_fragile_2 rfl (lv_at hl 0 rfl) ?_
  refine lv_iload_n hx hb d_Lw_fragile_3 rfl (lv_at hl 1 rfl) ?_
  refine lv_iload_n hx hb d_Lw_fragile_4 rfl (lv_at hl 2 rfl) ?_
  have htab := h_tab B (hts _ List.mem_cons_self)
  refine x_caught (k := 2) (As := [.int p0, .int p1]) (rest := [.int 0, .ref ao]) (own := R_Lw) (C := R_Fb) (index := 20) (w1 := wFb t a σ) (w2 := [(ao, .inl (t 3, 1, .inr (.inl f)))]) ⟨hx, hb, hml, hown, hts⟩ hM (gg_Lw_20 _) (by decide +kernel) ⟨Nat.le_refl _, by show 8 + (3 + 11) + 40 * n ≤ 40 * (n + 1); omega⟩ rfl (va_recv hK.1 (gSplit hP).1 (ci := 6) (q0 := 0) rfl (wFb_o6 t a σ)) hK hP hD hS hxo hno hl.1 rfl (Nat.le_of_ble_eq_true rfl) ⟨Nat.le_refl _, Nat.le_refl _⟩ d_Lw_fragile_5 (pre := []) (x9 := ⟨0, 17, 20, 24⟩) (rest9 := []) htab (fun y9 hy9 => nomatch hy9) (by decide) (by decide) (gIn k_517 (by decide +kernel)) (by decide) (hp9 := 20) rfl (fun v H hP hS => ?_)
  refine lv_astore hx hb d_Lw_fragile_20 hl (by decide) (lv' := ((4, .ref v) :: [(0, .ref (a 699)), (1, .int p0), (2, .int p1), (3, .ref ao)])) rfl (fun ls hl => ?_)
  refine lv_iconst (v := 1) hx hb d_Lw_fragile_22 (by decide) ?_
  exact W.iret (v := 1) hx hb hr (fun U hU hW => ⟨⟨1, (σ, f), rfl, ⟨rfl, rfl⟩, by rw [hU]; exact hP, hD⟩, hS.F hU⟩) hS.2.2 d_Lw_fragile_23
set_option maxHeartbeats 4000000 in
set_option maxRecDepth 100000 in
theorem r_Lw_fits (l : Launch) (D : va_G) (t : Nat → ClassId) (a : Nat → Nat) (ao : Nat) (σ : Nat → Nat → Int32) (f : Nat → Int64) (p0 p1 : Int32) (n : Nat) (Rv : Int32) (Uv : Nat → Nat → Int32) (hM : gMi l D t y_Fb_fits b_Fb_fits 3 (some .boolean) n [.ref (a 699), .int p0, .int p1] (wFb t a σ) (wFb t a) (fun r u => r = Rv ∧ u = Uv)) : gMq l D t y_Lw_fits b_Lw_fits 5 [(0, 17, 20, 24), (0, 17, 24, 13)] (n + 1) [.ref (a 699), .int p0, .int p1, .ref ao] (wLw t a ao σ f) (fun u : (Nat → Nat → Int32) × (Nat → Int64) => wLw t a ao u.1 u.2) (fun k u => k = 0 ∧ u = (Uv, vp_updL f 0 (if Rv = 0 then 0 else 1 : Int64))) := by
  intro A
  refine va_MetW (cc := b_Lw_fits) (maxL := 5) (ret := (some .int)) (hh := [(0, 17, 20, 24), (0, 17, 24, 13)]) (by decide) rfl ?_
  intro p e s m args below meth c s₁ B hml hv
  obtain ⟨rfl, ⟨hK, hP, hD⟩, hxo, hno⟩ := hv
  have hx := B.exec
  have hb := B.bytes
  have hr := B.returns
  have hts := atoms_spec (ws := .codeWith y_Lw_fits b_Lw_fits 5 (some .int) [(0, 17, 20, 24), (0, 17, 24, 13)] :: gBig) B.pre
  have hown : s.vm.findClass R_Lw = some m.cls := findClass_of_methodNamed B.named
  have hlocks := B.notSynchronized
  have hS : va_S A s.heap s.heap [] := va_S.rf
  have hl := lv_entry ([.ref (a 699), .int p0, .int p1, .ref ao]) (n := 5) (Nat.le_of_ble_eq_true rfl)
  rw [lg_entry_eq]
  generalize (lg_sl ([.ref (a 699), .int p0, .int p1, .ref ao]) ++ List.replicate (5 - (lg_sl ([.ref (a 699), .int p0, .int p1, .ref ao])).length) Slot.unset).toArray = ls at hl ⊢
  have hl : lv_has ls 5 [(0, .ref (a 699)), (1, .int p0), (2, .int p1), (3, .ref ao)] := hl
  refine W.widen (k := 1) (n := 6) (Nat.zero_le _) (Nat.zero_le _) ?_
  refine lv_aload_n hx hb d_Lw_fits_0 rfl (lv_at hl 3 rfl) ?_
  refine lv_iconst (v := 0) hx hb d_Lw_fits_1 (by decide) ?_
  refine lv_aload_n hx hb d_Lw_fits_2 rfl (lv_at hl 0 rfl) ?_
  refine lv_iload_n hx hb d_Lw_fits_3 rfl (lv_at hl 1 rfl) ?_
  refine lv_iload_n hx hb d_Lw_fits_4 rfl (lv_at hl 2 rfl) ?_
  refine g_viS (k := 2) (As := [.int p0, .int p1]) (rest := [.int 0, .ref ao]) (own := R_Lw) (C := R_Fb) (index := 26) (w1 := wFb t a σ) (w2 := [(ao, .inl (t 3, 1, .inr (.inl f)))]) ⟨hx, hb, hml, hown, hts⟩ hM (gg_Lw_26 _) (by decide +kernel) ⟨Nat.le_refl _, by show 8 + (3 + 11) + 40 * n ≤ 40 * (n + 1); omega⟩ rfl (va_recv hK.1 (gSplit hP).1 (ci := 6) (q0 := 0) rfl (wFb_o6 t a σ)) hK hP hD hS hl.1 rfl (Nat.le_of_ble_eq_true rfl) ⟨Nat.le_refl _, Nat.le_refl _⟩ d_Lw_fits_5 (fun r_1 u_1 H locs q_1 hP hD hS => ?_)
  obtain ⟨hr_1, hu_1⟩ := q_1
  subst hr_1
  subst hu_1
  refine lv_if_eq (tgt := 15) hx hb d_Lw_fits_8 (by decide) (fun c_1 => ?_) (fun c_1 => ?_)
  · refine lv_lconst (v := 0) hx hb d_Lw_fits_15 (by decide) ?_
    refine va_last hx hb hK.1 hP hD hS 67 3 (a := ao) (cA := t 3) (n := 1) (f := f) rfl rfl (i := 0) (by unfold vp_in; decide) d_Lw_fits_16 (fun H locs hP hD hS => ?_)
    have hP : va_P D gCl (wLw t a ao u_1 (vp_updL f 0 0)) H := hP
    have hD : va_D A (wLw t a ao u_1 (vp_updL f 0 0)) := hD
    refine lv_goto (tgt := 28) hx hb d_Lw_fits_17 (by decide) ?_
    refine lv_iconst (v := 0) hx hb d_Lw_fits_28 (by decide) ?_
    exact W.iret (v := 0) hx hb hr (fun U hU hW => ⟨⟨0, (u_1, vp_updL f 0 0), rfl, ⟨rfl, by rw [if_pos c_1]⟩, by rw [hU]; exact hP, hD⟩, hS.F hU⟩) hS.2.2 d_Lw_fits_29
  · refine lv_lconst (v := 1) hx hb d_Lw_fits_11 (by decide) ?_
    refine lv_goto (tgt := 16) hx hb d_Lw_fits_12 (by decide) ?_
    refine va_last hx hb hK.1 hP hD hS 67 3 (a := ao) (cA := t 3) (n := 1) (f := f) rfl rfl (i := 0) (by unfold vp_in; decide) d_Lw_fits_16 (fun H locs hP hD hS => ?_)
    have hP : va_P D gCl (wLw t a ao u_1 (vp_updL f 0 1)) H := hP
    have hD : va_D A (wLw t a ao u_1 (vp_updL f 0 1)) := hD
    refine lv_goto (tgt := 28) hx hb d_Lw_fits_17 (by decide) ?_
    refine lv_iconst (v := 0) hx hb d_Lw_fits_28 (by decide) ?_
    exact W.iret (v := 0) hx hb hr (fun U hU hW => ⟨⟨0, (u_1, vp_updL f 0 1), rfl, ⟨rfl, by rw [if_neg c_1]⟩, by rw [hU]; exact hP, hD⟩, hS.F hU⟩) hS.2.2 d_Lw_fits_29
set_option maxHeartbeats 4000000 in
set_option maxRecDepth 100000 in
theorem x_Lw_fits_iob (l : Launch) (D : va_G) (t : Nat → ClassId) (a : Nat → Nat) (ao : Nat) (σ : Nat → Nat → Int32) (f : Nat → Int64) (p0 p1 : Int32) (n : Nat) (hM : gMx l D t y_Fb_fits b_Fb_fits 3 (some .boolean) n [.ref (a 699), .int p0, .int p1] (wFb t a σ) "java/lang/IndexOutOfBoundsException") : gMq l D t y_Lw_fits b_Lw_fits 5 [(0, 17, 20, 24), (0, 17, 24, 13)] (n + 1) [.ref (a 699), .int p0, .int p1, .ref ao] (wLw t a ao σ f) (fun u : (Nat → Nat → Int32) × (Nat → Int64) => wLw t a ao u.1 u.2) (fun k u => k = 1 ∧ u = (σ, f)) := by
  intro A
  refine va_MetW (cc := b_Lw_fits) (maxL := 5) (ret := (some .int)) (hh := [(0, 17, 20, 24), (0, 17, 24, 13)]) (by decide) rfl ?_
  intro p e s m args below meth c s₁ B hml hv
  obtain ⟨rfl, ⟨hK, hP, hD⟩, hxo, hno⟩ := hv
  have hx := B.exec
  have hb := B.bytes
  have hr := B.returns
  have hts := atoms_spec (ws := .codeWith y_Lw_fits b_Lw_fits 5 (some .int) [(0, 17, 20, 24), (0, 17, 24, 13)] :: gBig) B.pre
  have hown : s.vm.findClass R_Lw = some m.cls := findClass_of_methodNamed B.named
  have hlocks := B.notSynchronized
  have hS : va_S A s.heap s.heap [] := va_S.rf
  have hl := lv_entry ([.ref (a 699), .int p0, .int p1, .ref ao]) (n := 5) (Nat.le_of_ble_eq_true rfl)
  rw [lg_entry_eq]
  generalize (lg_sl ([.ref (a 699), .int p0, .int p1, .ref ao]) ++ List.replicate (5 - (lg_sl ([.ref (a 699), .int p0, .int p1, .ref ao])).length) Slot.unset).toArray = ls at hl ⊢
  have hl : lv_has ls 5 [(0, .ref (a 699)), (1, .int p0), (2, .int p1), (3, .ref ao)] := hl
  refine lv_aload_n hx hb d_Lw_fits_0 rfl (lv_at hl 3 rfl) ?_
  refine lv_iconst (v := 0) hx hb d_Lw_fits_1 (by decide) ?_
  refine lv_aload_n hx hb d_Lw_fits_2 rfl (lv_at hl 0 rfl) ?_
  refine lv_iload_n hx hb d_Lw_fits_3 rfl (lv_at hl 1 rfl) ?_
  refine lv_iload_n hx hb d_Lw_fits_4 rfl (lv_at hl 2 rfl) ?_
  have htab := h_tab B (hts _ List.mem_cons_self)
  refine x_caught (k := 2) (As := [.int p0, .int p1]) (rest := [.int 0, .ref ao]) (own := R_Lw) (C := R_Fb) (index := 26) (w1 := wFb t a σ) (w2 := [(ao, .inl (t 3, 1, .inr (.inl f)))]) ⟨hx, hb, hml, hown, hts⟩ hM (gg_Lw_26 _) (by decide +kernel) ⟨Nat.le_refl _, by show 8 + (3 + 11) + 40 * n ≤ 40 * (n + 1); omega⟩ rfl (va_recv hK.1 (gSplit hP).1 (ci := 6) (q0 := 0) rfl (wFb_o6 t a σ)) hK hP hD hS hxo hno hl.1 rfl (Nat.le_of_ble_eq_true rfl) ⟨Nat.le_refl _, Nat.le_refl _⟩ d_Lw_fits_5 (pre := []) (x9 := ⟨0, 17, 20, 24⟩) (rest9 := [⟨0, 17, 24, 13⟩]) htab (fun y9 hy9 => nomatch hy9) (by decide) (by decide) (gIn k_517 (by decide +kernel)) (by decide) (hp9 := 20) rfl (fun v H hP hS => ?_)
  refine lv_astore hx hb d_Lw_fits_20 hl (by decide) (lv' := ((4, .ref v) :: [(0, .ref (a 699)), (1, .int p0), (2, .int p1), (3, .ref ao)])) rfl (fun ls hl => ?_)
  refine lv_iconst (v := 1) hx hb d_Lw_fits_22 (by decide) ?_
  exact W.iret (v := 1) hx hb hr (fun U hU hW => ⟨⟨1, (σ, f), rfl, ⟨rfl, rfl⟩, by rw [hU]; exact hP, hD⟩, hS.F hU⟩) hS.2.2 d_Lw_fits_23
set_option maxHeartbeats 4000000 in
set_option maxRecDepth 100000 in
theorem x_Lw_fits_iae (l : Launch) (D : va_G) (t : Nat → ClassId) (a : Nat → Nat) (ao : Nat) (σ : Nat → Nat → Int32) (f : Nat → Int64) (p0 p1 : Int32) (n : Nat) (hM : gMx l D t y_Fb_fits b_Fb_fits 3 (some .boolean) n [.ref (a 699), .int p0, .int p1] (wFb t a σ) "java/lang/IllegalArgumentException") : gMq l D t y_Lw_fits b_Lw_fits 5 [(0, 17, 20, 24), (0, 17, 24, 13)] (n + 1) [.ref (a 699), .int p0, .int p1, .ref ao] (wLw t a ao σ f) (fun u : (Nat → Nat → Int32) × (Nat → Int64) => wLw t a ao u.1 u.2) (fun k u => k = 2 ∧ u = (σ, f)) := by
  intro A
  refine va_MetW (cc := b_Lw_fits) (maxL := 5) (ret := (some .int)) (hh := [(0, 17, 20, 24), (0, 17, 24, 13)]) (by decide) rfl ?_
  intro p e s m args below meth c s₁ B hml hv
  obtain ⟨rfl, ⟨hK, hP, hD⟩, hxo, hno⟩ := hv
  have hx := B.exec
  have hb := B.bytes
  have hr := B.returns
  have hts := atoms_spec (ws := .codeWith y_Lw_fits b_Lw_fits 5 (some .int) [(0, 17, 20, 24), (0, 17, 24, 13)] :: gBig) B.pre
  have hown : s.vm.findClass R_Lw = some m.cls := findClass_of_methodNamed B.named
  have hlocks := B.notSynchronized
  have hS : va_S A s.heap s.heap [] := va_S.rf
  have hl := lv_entry ([.ref (a 699), .int p0, .int p1, .ref ao]) (n := 5) (Nat.le_of_ble_eq_true rfl)
  rw [lg_entry_eq]
  generalize (lg_sl ([.ref (a 699), .int p0, .int p1, .ref ao]) ++ List.replicate (5 - (lg_sl ([.ref (a 699), .int p0, .int p1, .ref ao])).length) Slot.unset).toArray = ls at hl ⊢
  have hl : lv_has ls 5 [(0, .ref (a 699)), (1, .int p0), (2, .int p1), (3, .ref ao)] := hl
  refine lv_aload_n hx hb d_Lw_fits_0 rfl (lv_at hl 3 rfl) ?_
  refine lv_iconst (v := 0) hx hb d_Lw_fits_1 (by decide) ?_
  refine lv_aload_n hx hb d_Lw_fits_2 rfl (lv_at hl 0 rfl) ?_
  refine lv_iload_n hx hb d_Lw_fits_3 rfl (lv_at hl 1 rfl) ?_
  refine lv_iload_n hx hb d_Lw_fits_4 rfl (lv_at hl 2 rfl) ?_
  have htab := h_tab B (hts _ List.mem_cons_self)
  refine x_caught (k := 2) (As := [.int p0, .int p1]) (rest := [.int 0, .ref ao]) (own := R_Lw) (C := R_Fb) (index := 26) (w1 := wFb t a σ) (w2 := [(ao, .inl (t 3, 1, .inr (.inl f)))]) ⟨hx, hb, hml, hown, hts⟩ hM (gg_Lw_26 _) (by decide +kernel) ⟨Nat.le_refl _, by show 8 + (3 + 11) + 40 * n ≤ 40 * (n + 1); omega⟩ rfl (va_recv hK.1 (gSplit hP).1 (ci := 6) (q0 := 0) rfl (wFb_o6 t a σ)) hK hP hD hS hxo hno hl.1 rfl (Nat.le_of_ble_eq_true rfl) ⟨Nat.le_refl _, Nat.le_refl _⟩ d_Lw_fits_5 (pre := [⟨0, 17, 20, 24⟩]) (x9 := ⟨0, 17, 24, 13⟩) (rest9 := []) htab (List.forall_mem_cons.mpr ⟨⟨"java/lang/IndexOutOfBoundsException", by decide, gIn k_517 (by decide +kernel), by decide⟩, fun _ h9 => nomatch h9⟩) (by decide) (by decide) (gIn k_386 (by decide +kernel)) (by decide) (hp9 := 24) rfl (fun v H hP hS => ?_)
  refine lv_astore hx hb d_Lw_fits_24 hl (by decide) (lv' := ((4, .ref v) :: [(0, .ref (a 699)), (1, .int p0), (2, .int p1), (3, .ref ao)])) rfl (fun ls hl => ?_)
  refine lv_iconst (v := 2) hx hb d_Lw_fits_26 (by decide) ?_
  exact W.iret (v := 2) hx hb hr (fun U hU hW => ⟨⟨2, (σ, f), rfl, ⟨rfl, rfl⟩, by rw [hU]; exact hP, hD⟩, hS.F hU⟩) hS.2.2 d_Lw_fits_27
set_option maxHeartbeats 4000000 in
set_option maxRecDepth 100000 in
theorem r_Lw_at (l : Launch) (D : va_G) (t : Nat → ClassId) (a : Nat → Nat) (ao : Nat) (σ : Nat → Nat → Int32) (f : Nat → Int64) (p0 p1 : Int32) (n : Nat) (Rv : Int32) (Uv : Nat → Nat → Int32) (hM : gMi l D t y_Fb_at b_Fb_at 3 (some .int) n [.ref (a 699), .int p0, .int p1] (wFb t a σ) (wFb t a) (fun r u => r = Rv ∧ u = Uv)) : gMq l D t y_Lw_at b_Lw_at 5 [(0, 10, 13, 15), (0, 10, 17, 24)] (n + 1) [.ref (a 699), .int p0, .int p1, .ref ao] (wLw t a ao σ f) (fun u : (Nat → Nat → Int32) × (Nat → Int64) => wLw t a ao u.1 u.2) (fun k u => k = 0 ∧ u = (Uv, vp_updL f 0 Rv.toInt64)) := by
  intro A
  refine va_MetW (cc := b_Lw_at) (maxL := 5) (ret := (some .int)) (hh := [(0, 10, 13, 15), (0, 10, 17, 24)]) (by decide) rfl ?_
  intro p e s m args below meth c s₁ B hml hv
  obtain ⟨rfl, ⟨hK, hP, hD⟩, hxo, hno⟩ := hv
  have hx := B.exec
  have hb := B.bytes
  have hr := B.returns
  have hts := atoms_spec (ws := .codeWith y_Lw_at b_Lw_at 5 (some .int) [(0, 10, 13, 15), (0, 10, 17, 24)] :: gBig) B.pre
  have hown : s.vm.findClass R_Lw = some m.cls := findClass_of_methodNamed B.named
  have hlocks := B.notSynchronized
  have hS : va_S A s.heap s.heap [] := va_S.rf
  have hl := lv_entry ([.ref (a 699), .int p0, .int p1, .ref ao]) (n := 5) (Nat.le_of_ble_eq_true rfl)
  rw [lg_entry_eq]
  generalize (lg_sl ([.ref (a 699), .int p0, .int p1, .ref ao]) ++ List.replicate (5 - (lg_sl ([.ref (a 699), .int p0, .int p1, .ref ao])).length) Slot.unset).toArray = ls at hl ⊢
  have hl : lv_has ls 5 [(0, .ref (a 699)), (1, .int p0), (2, .int p1), (3, .ref ao)] := hl
  refine W.widen (k := 1) (n := 6) (Nat.zero_le _) (Nat.zero_le _) ?_
  refine lv_aload_n hx hb d_Lw_at_0 rfl (lv_at hl 3 rfl) ?_
  refine lv_iconst (v := 0) hx hb d_Lw_at_1 (by decide) ?_
  refine lv_aload_n hx hb d_Lw_at_2 rfl (lv_at hl 0 rfl) ?_
  refine lv_iload_n hx hb d_Lw_at_3 rfl (lv_at hl 1 rfl) ?_
  refine lv_iload_n hx hb d_Lw_at_4 rfl (lv_at hl 2 rfl) ?_
  refine g_viS (k := 2) (As := [.int p0, .int p1]) (rest := [.int 0, .ref ao]) (own := R_Lw) (C := R_Fb) (index := 30) (w1 := wFb t a σ) (w2 := [(ao, .inl (t 3, 1, .inr (.inl f)))]) ⟨hx, hb, hml, hown, hts⟩ hM (gg_Lw_30 _) (by decide +kernel) ⟨Nat.le_refl _, by show 8 + (3 + 11) + 40 * n ≤ 40 * (n + 1); omega⟩ rfl (va_recv hK.1 (gSplit hP).1 (ci := 6) (q0 := 0) rfl (wFb_o6 t a σ)) hK hP hD hS hl.1 rfl (Nat.le_of_ble_eq_true rfl) ⟨Nat.le_refl _, Nat.le_refl _⟩ d_Lw_at_5 (fun r_1 u_1 H locs q_1 hP hD hS => ?_)
  obtain ⟨hr_1, hu_1⟩ := q_1
  subst hr_1
  subst hu_1
  refine lv_i2l (v := r_1.toInt64) hx hb d_Lw_at_8 rfl ?_
  refine va_last hx hb hK.1 hP hD hS 67 3 (a := ao) (cA := t 3) (n := 1) (f := f) rfl rfl (i := 0) (by unfold vp_in; decide) d_Lw_at_9 (fun H locs hP hD hS => ?_)
  have hP : va_P D gCl (wLw t a ao u_1 (vp_updL f 0 r_1.toInt64)) H := hP
  have hD : va_D A (wLw t a ao u_1 (vp_updL f 0 r_1.toInt64)) := hD
  refine lv_goto (tgt := 21) hx hb d_Lw_at_10 (by decide) ?_
  refine lv_iconst (v := 0) hx hb d_Lw_at_21 (by decide) ?_
  exact W.iret (v := 0) hx hb hr (fun U hU hW => ⟨⟨0, (u_1, vp_updL f 0 r_1.toInt64), rfl, ⟨rfl, rfl⟩, by rw [hU]; exact hP, hD⟩, hS.F hU⟩) hS.2.2 d_Lw_at_22
set_option maxHeartbeats 4000000 in
set_option maxRecDepth 100000 in
theorem x_Lw_at_ise (l : Launch) (D : va_G) (t : Nat → ClassId) (a : Nat → Nat) (ao : Nat) (σ : Nat → Nat → Int32) (f : Nat → Int64) (p0 p1 : Int32) (n : Nat) (hM : gMx l D t y_Fb_at b_Fb_at 3 (some .int) n [.ref (a 699), .int p0, .int p1] (wFb t a σ) "java/lang/IllegalStateException") : gMq l D t y_Lw_at b_Lw_at 5 [(0, 10, 13, 15), (0, 10, 17, 24)] (n + 1) [.ref (a 699), .int p0, .int p1, .ref ao] (wLw t a ao σ f) (fun u : (Nat → Nat → Int32) × (Nat → Int64) => wLw t a ao u.1 u.2) (fun k u => k = 1 ∧ u = (σ, f)) := by
  intro A
  refine va_MetW (cc := b_Lw_at) (maxL := 5) (ret := (some .int)) (hh := [(0, 10, 13, 15), (0, 10, 17, 24)]) (by decide) rfl ?_
  intro p e s m args below meth c s₁ B hml hv
  obtain ⟨rfl, ⟨hK, hP, hD⟩, hxo, hno⟩ := hv
  have hx := B.exec
  have hb := B.bytes
  have hr := B.returns
  have hts := atoms_spec (ws := .codeWith y_Lw_at b_Lw_at 5 (some .int) [(0, 10, 13, 15), (0, 10, 17, 24)] :: gBig) B.pre
  have hown : s.vm.findClass R_Lw = some m.cls := findClass_of_methodNamed B.named
  have hlocks := B.notSynchronized
  have hS : va_S A s.heap s.heap [] := va_S.rf
  have hl := lv_entry ([.ref (a 699), .int p0, .int p1, .ref ao]) (n := 5) (Nat.le_of_ble_eq_true rfl)
  rw [lg_entry_eq]
  generalize (lg_sl ([.ref (a 699), .int p0, .int p1, .ref ao]) ++ List.replicate (5 - (lg_sl ([.ref (a 699), .int p0, .int p1, .ref ao])).length) Slot.unset).toArray = ls at hl ⊢
  have hl : lv_has ls 5 [(0, .ref (a 699)), (1, .int p0), (2, .int p1), (3, .ref ao)] := hl
  refine lv_aload_n hx hb d_Lw_at_0 rfl (lv_at hl 3 rfl) ?_
  refine lv_iconst (v := 0) hx hb d_Lw_at_1 (by decide) ?_
  refine lv_aload_n hx hb d_Lw_at_2 rfl (lv_at hl 0 rfl) ?_
  refine lv_iload_n hx hb d_Lw_at_3 rfl (lv_at hl 1 rfl) ?_
  refine lv_iload_n hx hb d_Lw_at_4 rfl (lv_at hl 2 rfl) ?_
  have htab := h_tab B (hts _ List.mem_cons_self)
  refine x_caught (k := 2) (As := [.int p0, .int p1]) (rest := [.int 0, .ref ao]) (own := R_Lw) (C := R_Fb) (index := 30) (w1 := wFb t a σ) (w2 := [(ao, .inl (t 3, 1, .inr (.inl f)))]) ⟨hx, hb, hml, hown, hts⟩ hM (gg_Lw_30 _) (by decide +kernel) ⟨Nat.le_refl _, by show 8 + (3 + 11) + 40 * n ≤ 40 * (n + 1); omega⟩ rfl (va_recv hK.1 (gSplit hP).1 (ci := 6) (q0 := 0) rfl (wFb_o6 t a σ)) hK hP hD hS hxo hno hl.1 rfl (Nat.le_of_ble_eq_true rfl) ⟨Nat.le_refl _, Nat.le_refl _⟩ d_Lw_at_5 (pre := []) (x9 := ⟨0, 10, 13, 15⟩) (rest9 := [⟨0, 10, 17, 24⟩]) htab (fun y9 hy9 => nomatch hy9) (by decide) (by decide) (gIn k_387 (by decide +kernel)) (by decide) (hp9 := 13) rfl (fun v H hP hS => ?_)
  refine lv_astore hx hb d_Lw_at_13 hl (by decide) (lv' := ((4, .ref v) :: [(0, .ref (a 699)), (1, .int p0), (2, .int p1), (3, .ref ao)])) rfl (fun ls hl => ?_)
  refine lv_iconst (v := 1) hx hb d_Lw_at_15 (by decide) ?_
  exact W.iret (v := 1) hx hb hr (fun U hU hW => ⟨⟨1, (σ, f), rfl, ⟨rfl, rfl⟩, by rw [hU]; exact hP, hD⟩, hS.F hU⟩) hS.2.2 d_Lw_at_16
set_option maxHeartbeats 4000000 in
set_option maxRecDepth 100000 in
theorem x_Lw_at_iob (l : Launch) (D : va_G) (t : Nat → ClassId) (a : Nat → Nat) (ao : Nat) (σ : Nat → Nat → Int32) (f : Nat → Int64) (p0 p1 : Int32) (n : Nat) (hM : gMx l D t y_Fb_at b_Fb_at 3 (some .int) n [.ref (a 699), .int p0, .int p1] (wFb t a σ) "java/lang/IndexOutOfBoundsException") : gMq l D t y_Lw_at b_Lw_at 5 [(0, 10, 13, 15), (0, 10, 17, 24)] (n + 1) [.ref (a 699), .int p0, .int p1, .ref ao] (wLw t a ao σ f) (fun u : (Nat → Nat → Int32) × (Nat → Int64) => wLw t a ao u.1 u.2) (fun k u => k = 2 ∧ u = (σ, f)) := by
  intro A
  refine va_MetW (cc := b_Lw_at) (maxL := 5) (ret := (some .int)) (hh := [(0, 10, 13, 15), (0, 10, 17, 24)]) (by decide) rfl ?_
  intro p e s m args below meth c s₁ B hml hv
  obtain ⟨rfl, ⟨hK, hP, hD⟩, hxo, hno⟩ := hv
  have hx := B.exec
  have hb := B.bytes
  have hr := B.returns
  have hts := atoms_spec (ws := .codeWith y_Lw_at b_Lw_at 5 (some .int) [(0, 10, 13, 15), (0, 10, 17, 24)] :: gBig) B.pre
  have hown : s.vm.findClass R_Lw = some m.cls := findClass_of_methodNamed B.named
  have hlocks := B.notSynchronized
  have hS : va_S A s.heap s.heap [] := va_S.rf
  have hl := lv_entry ([.ref (a 699), .int p0, .int p1, .ref ao]) (n := 5) (Nat.le_of_ble_eq_true rfl)
  rw [lg_entry_eq]
  generalize (lg_sl ([.ref (a 699), .int p0, .int p1, .ref ao]) ++ List.replicate (5 - (lg_sl ([.ref (a 699), .int p0, .int p1, .ref ao])).length) Slot.unset).toArray = ls at hl ⊢
  have hl : lv_has ls 5 [(0, .ref (a 699)), (1, .int p0), (2, .int p1), (3, .ref ao)] := hl
  refine lv_aload_n hx hb d_Lw_at_0 rfl (lv_at hl 3 rfl) ?_
  refine lv_iconst (v := 0) hx hb d_Lw_at_1 (by decide) ?_
  refine lv_aload_n hx hb d_Lw_at_2 rfl (lv_at hl 0 rfl) ?_
  refine lv_iload_n hx hb d_Lw_at_3 rfl (lv_at hl 1 rfl) ?_
  refine lv_iload_n hx hb d_Lw_at_4 rfl (lv_at hl 2 rfl) ?_
  have htab := h_tab B (hts _ List.mem_cons_self)
  refine x_caught (k := 2) (As := [.int p0, .int p1]) (rest := [.int 0, .ref ao]) (own := R_Lw) (C := R_Fb) (index := 30) (w1 := wFb t a σ) (w2 := [(ao, .inl (t 3, 1, .inr (.inl f)))]) ⟨hx, hb, hml, hown, hts⟩ hM (gg_Lw_30 _) (by decide +kernel) ⟨Nat.le_refl _, by show 8 + (3 + 11) + 40 * n ≤ 40 * (n + 1); omega⟩ rfl (va_recv hK.1 (gSplit hP).1 (ci := 6) (q0 := 0) rfl (wFb_o6 t a σ)) hK hP hD hS hxo hno hl.1 rfl (Nat.le_of_ble_eq_true rfl) ⟨Nat.le_refl _, Nat.le_refl _⟩ d_Lw_at_5 (pre := [⟨0, 10, 13, 15⟩]) (x9 := ⟨0, 10, 17, 24⟩) (rest9 := []) htab (List.forall_mem_cons.mpr ⟨⟨"java/lang/IllegalStateException", by decide, gIn k_387 (by decide +kernel), by decide⟩, fun _ h9 => nomatch h9⟩) (by decide) (by decide) (gIn k_517 (by decide +kernel)) (by decide) (hp9 := 17) rfl (fun v H hP hS => ?_)
  refine lv_astore hx hb d_Lw_at_17 hl (by decide) (lv' := ((4, .ref v) :: [(0, .ref (a 699)), (1, .int p0), (2, .int p1), (3, .ref ao)])) rfl (fun ls hl => ?_)
  refine lv_iconst (v := 2) hx hb d_Lw_at_19 (by decide) ?_
  exact W.iret (v := 2) hx hb hr (fun U hU hW => ⟨⟨2, (σ, f), rfl, ⟨rfl, rfl⟩, by rw [hU]; exact hP, hD⟩, hS.F hU⟩) hS.2.2 d_Lw_at_20
set_option maxHeartbeats 4000000 in
set_option maxRecDepth 100000 in
theorem r_Lw_box (l : Launch) (D : va_G) (t : Nat → ClassId) (a : Nat → Nat) (ao : Nat) (σ : Nat → Nat → Int32) (f : Nat → Int64) (p0 p1 : Int32) (n : Nat) (Rv : Int32) (Uv : Nat → Nat → Int32) (hM : gMi l D t y_Fb_box b_Fb_box 3 (some .int) n [.ref (a 699), .int p0, .int p1] (wFb t a σ) (wFb t a) (fun r u => r = Rv ∧ u = Uv)) : gMq l D t y_Lw_box b_Lw_box 5 [(0, 10, 13, 15), (0, 10, 17, 24)] (n + 1) [.ref (a 699), .int p0, .int p1, .ref ao] (wLw t a ao σ f) (fun u : (Nat → Nat → Int32) × (Nat → Int64) => wLw t a ao u.1 u.2) (fun k u => k = 0 ∧ u = (Uv, vp_updL f 0 Rv.toInt64)) := by
  intro A
  refine va_MetW (cc := b_Lw_box) (maxL := 5) (ret := (some .int)) (hh := [(0, 10, 13, 15), (0, 10, 17, 24)]) (by decide) rfl ?_
  intro p e s m args below meth c s₁ B hml hv
  obtain ⟨rfl, ⟨hK, hP, hD⟩, hxo, hno⟩ := hv
  have hx := B.exec
  have hb := B.bytes
  have hr := B.returns
  have hts := atoms_spec (ws := .codeWith y_Lw_box b_Lw_box 5 (some .int) [(0, 10, 13, 15), (0, 10, 17, 24)] :: gBig) B.pre
  have hown : s.vm.findClass R_Lw = some m.cls := findClass_of_methodNamed B.named
  have hlocks := B.notSynchronized
  have hS : va_S A s.heap s.heap [] := va_S.rf
  have hl := lv_entry ([.ref (a 699), .int p0, .int p1, .ref ao]) (n := 5) (Nat.le_of_ble_eq_true rfl)
  rw [lg_entry_eq]
  generalize (lg_sl ([.ref (a 699), .int p0, .int p1, .ref ao]) ++ List.replicate (5 - (lg_sl ([.ref (a 699), .int p0, .int p1, .ref ao])).length) Slot.unset).toArray = ls at hl ⊢
  have hl : lv_has ls 5 [(0, .ref (a 699)), (1, .int p0), (2, .int p1), (3, .ref ao)] := hl
  refine W.widen (k := 1) (n := 6) (Nat.zero_le _) (Nat.zero_le _) ?_
  refine lv_aload_n hx hb d_Lw_box_0 rfl (lv_at hl 3 rfl) ?_
  refine lv_iconst (v := 0) hx hb d_Lw_box_1 (by decide) ?_
  refine lv_aload_n hx hb d_Lw_box_2 rfl (lv_at hl 0 rfl) ?_
  refine lv_iload_n hx hb d_Lw_box_3 rfl (lv_at hl 1 rfl) ?_
  refine lv_iload_n hx hb d_Lw_box_4 rfl (lv_at hl 2 rfl) ?_
  refine g_viS (k := 2) (As := [.int p0, .int p1]) (rest := [.int 0, .ref ao]) (own := R_Lw) (C := R_Fb) (index := 34) (w1 := wFb t a σ) (w2 := [(ao, .inl (t 3, 1, .inr (.inl f)))]) ⟨hx, hb, hml, hown, hts⟩ hM (gg_Lw_34 _) (by decide +kernel) ⟨Nat.le_refl _, by show 8 + (3 + 11) + 40 * n ≤ 40 * (n + 1); omega⟩ rfl (va_recv hK.1 (gSplit hP).1 (ci := 6) (q0 := 0) rfl (wFb_o6 t a σ)) hK hP hD hS hl.1 rfl (Nat.le_of_ble_eq_true rfl) ⟨Nat.le_refl _, Nat.le_refl _⟩ d_Lw_box_5 (fun r_1 u_1 H locs q_1 hP hD hS => ?_)
  obtain ⟨hr_1, hu_1⟩ := q_1
  subst hr_1
  subst hu_1
  refine lv_i2l (v := r_1.toInt64) hx hb d_Lw_box_8 rfl ?_
  refine va_last hx hb hK.1 hP hD hS 67 3 (a := ao) (cA := t 3) (n := 1) (f := f) rfl rfl (i := 0) (by unfold vp_in; decide) d_Lw_box_9 (fun H locs hP hD hS => ?_)
  have hP : va_P D gCl (wLw t a ao u_1 (vp_updL f 0 r_1.toInt64)) H := hP
  have hD : va_D A (wLw t a ao u_1 (vp_updL f 0 r_1.toInt64)) := hD
  refine lv_goto (tgt := 21) hx hb d_Lw_box_10 (by decide) ?_
  refine lv_iconst (v := 0) hx hb d_Lw_box_21 (by decide) ?_
  exact W.iret (v := 0) hx hb hr (fun U hU hW => ⟨⟨0, (u_1, vp_updL f 0 r_1.toInt64), rfl, ⟨rfl, rfl⟩, by rw [hU]; exact hP, hD⟩, hS.F hU⟩) hS.2.2 d_Lw_box_22
set_option maxHeartbeats 4000000 in
set_option maxRecDepth 100000 in
theorem x_Lw_box_ise (l : Launch) (D : va_G) (t : Nat → ClassId) (a : Nat → Nat) (ao : Nat) (σ : Nat → Nat → Int32) (f : Nat → Int64) (p0 p1 : Int32) (n : Nat) (hM : gMx l D t y_Fb_box b_Fb_box 3 (some .int) n [.ref (a 699), .int p0, .int p1] (wFb t a σ) "java/lang/IllegalStateException") : gMq l D t y_Lw_box b_Lw_box 5 [(0, 10, 13, 15), (0, 10, 17, 24)] (n + 1) [.ref (a 699), .int p0, .int p1, .ref ao] (wLw t a ao σ f) (fun u : (Nat → Nat → Int32) × (Nat → Int64) => wLw t a ao u.1 u.2) (fun k u => k = 1 ∧ u = (σ, f)) := by
  intro A
  refine va_MetW (cc := b_Lw_box) (maxL := 5) (ret := (some .int)) (hh := [(0, 10, 13, 15), (0, 10, 17, 24)]) (by decide) rfl ?_
  intro p e s m args below meth c s₁ B hml hv
  obtain ⟨rfl, ⟨hK, hP, hD⟩, hxo, hno⟩ := hv
  have hx := B.exec
  have hb := B.bytes
  have hr := B.returns
  have hts := atoms_spec (ws := .codeWith y_Lw_box b_Lw_box 5 (some .int) [(0, 10, 13, 15), (0, 10, 17, 24)] :: gBig) B.pre
  have hown : s.vm.findClass R_Lw = some m.cls := findClass_of_methodNamed B.named
  have hlocks := B.notSynchronized
  have hS : va_S A s.heap s.heap [] := va_S.rf
  have hl := lv_entry ([.ref (a 699), .int p0, .int p1, .ref ao]) (n := 5) (Nat.le_of_ble_eq_true rfl)
  rw [lg_entry_eq]
  generalize (lg_sl ([.ref (a 699), .int p0, .int p1, .ref ao]) ++ List.replicate (5 - (lg_sl ([.ref (a 699), .int p0, .int p1, .ref ao])).length) Slot.unset).toArray = ls at hl ⊢
  have hl : lv_has ls 5 [(0, .ref (a 699)), (1, .int p0), (2, .int p1), (3, .ref ao)] := hl
  refine lv_aload_n hx hb d_Lw_box_0 rfl (lv_at hl 3 rfl) ?_
  refine lv_iconst (v := 0) hx hb d_Lw_box_1 (by decide) ?_
  refine lv_aload_n hx hb d_Lw_box_2 rfl (lv_at hl 0 rfl) ?_
  refine lv_iload_n hx hb d_Lw_box_3 rfl (lv_at hl 1 rfl) ?_
  refine lv_iload_n hx hb d_Lw_box_4 rfl (lv_at hl 2 rfl) ?_
  have htab := h_tab B (hts _ List.mem_cons_self)
  refine x_caught (k := 2) (As := [.int p0, .int p1]) (rest := [.int 0, .ref ao]) (own := R_Lw) (C := R_Fb) (index := 34) (w1 := wFb t a σ) (w2 := [(ao, .inl (t 3, 1, .inr (.inl f)))]) ⟨hx, hb, hml, hown, hts⟩ hM (gg_Lw_34 _) (by decide +kernel) ⟨Nat.le_refl _, by show 8 + (3 + 11) + 40 * n ≤ 40 * (n + 1); omega⟩ rfl (va_recv hK.1 (gSplit hP).1 (ci := 6) (q0 := 0) rfl (wFb_o6 t a σ)) hK hP hD hS hxo hno hl.1 rfl (Nat.le_of_ble_eq_true rfl) ⟨Nat.le_refl _, Nat.le_refl _⟩ d_Lw_box_5 (pre := []) (x9 := ⟨0, 10, 13, 15⟩) (rest9 := [⟨0, 10, 17, 24⟩]) htab (fun y9 hy9 => nomatch hy9) (by decide) (by decide) (gIn k_387 (by decide +kernel)) (by decide) (hp9 := 13) rfl (fun v H hP hS => ?_)
  refine lv_astore hx hb d_Lw_box_13 hl (by decide) (lv' := ((4, .ref v) :: [(0, .ref (a 699)), (1, .int p0), (2, .int p1), (3, .ref ao)])) rfl (fun ls hl => ?_)
  refine lv_iconst (v := 1) hx hb d_Lw_box_15 (by decide) ?_
  exact W.iret (v := 1) hx hb hr (fun U hU hW => ⟨⟨1, (σ, f), rfl, ⟨rfl, rfl⟩, by rw [hU]; exact hP, hD⟩, hS.F hU⟩) hS.2.2 d_Lw_box_16
set_option maxHeartbeats 4000000 in
set_option maxRecDepth 100000 in
theorem x_Lw_box_iob (l : Launch) (D : va_G) (t : Nat → ClassId) (a : Nat → Nat) (ao : Nat) (σ : Nat → Nat → Int32) (f : Nat → Int64) (p0 p1 : Int32) (n : Nat) (hM : gMx l D t y_Fb_box b_Fb_box 3 (some .int) n [.ref (a 699), .int p0, .int p1] (wFb t a σ) "java/lang/IndexOutOfBoundsException") : gMq l D t y_Lw_box b_Lw_box 5 [(0, 10, 13, 15), (0, 10, 17, 24)] (n + 1) [.ref (a 699), .int p0, .int p1, .ref ao] (wLw t a ao σ f) (fun u : (Nat → Nat → Int32) × (Nat → Int64) => wLw t a ao u.1 u.2) (fun k u => k = 2 ∧ u = (σ, f)) := by
  intro A
  refine va_MetW (cc := b_Lw_box) (maxL := 5) (ret := (some .int)) (hh := [(0, 10, 13, 15), (0, 10, 17, 24)]) (by decide) rfl ?_
  intro p e s m args below meth c s₁ B hml hv
  obtain ⟨rfl, ⟨hK, hP, hD⟩, hxo, hno⟩ := hv
  have hx := B.exec
  have hb := B.bytes
  have hr := B.returns
  have hts := atoms_spec (ws := .codeWith y_Lw_box b_Lw_box 5 (some .int) [(0, 10, 13, 15), (0, 10, 17, 24)] :: gBig) B.pre
  have hown : s.vm.findClass R_Lw = some m.cls := findClass_of_methodNamed B.named
  have hlocks := B.notSynchronized
  have hS : va_S A s.heap s.heap [] := va_S.rf
  have hl := lv_entry ([.ref (a 699), .int p0, .int p1, .ref ao]) (n := 5) (Nat.le_of_ble_eq_true rfl)
  rw [lg_entry_eq]
  generalize (lg_sl ([.ref (a 699), .int p0, .int p1, .ref ao]) ++ List.replicate (5 - (lg_sl ([.ref (a 699), .int p0, .int p1, .ref ao])).length) Slot.unset).toArray = ls at hl ⊢
  have hl : lv_has ls 5 [(0, .ref (a 699)), (1, .int p0), (2, .int p1), (3, .ref ao)] := hl
  refine lv_aload_n hx hb d_Lw_box_0 rfl (lv_at hl 3 rfl) ?_
  refine lv_iconst (v := 0) hx hb d_Lw_box_1 (by decide) ?_
  refine lv_aload_n hx hb d_Lw_box_2 rfl (lv_at hl 0 rfl) ?_
  refine lv_iload_n hx hb d_Lw_box_3 rfl (lv_at hl 1 rfl) ?_
  refine lv_iload_n hx hb d_Lw_box_4 rfl (lv_at hl 2 rfl) ?_
  have htab := h_tab B (hts _ List.mem_cons_self)
  refine x_caught (k := 2) (As := [.int p0, .int p1]) (rest := [.int 0, .ref ao]) (own := R_Lw) (C := R_Fb) (index := 34) (w1 := wFb t a σ) (w2 := [(ao, .inl (t 3, 1, .inr (.inl f)))]) ⟨hx, hb, hml, hown, hts⟩ hM (gg_Lw_34 _) (by decide +kernel) ⟨Nat.le_refl _, by show 8 + (3 + 11) + 40 * n ≤ 40 * (n + 1); omega⟩ rfl (va_recv hK.1 (gSplit hP).1 (ci := 6) (q0 := 0) rfl (wFb_o6 t a σ)) hK hP hD hS hxo hno hl.1 rfl (Nat.le_of_ble_eq_true rfl) ⟨Nat.le_refl _, Nat.le_refl _⟩ d_Lw_box_5 (pre := [⟨0, 10, 13, 15⟩]) (x9 := ⟨0, 10, 17, 24⟩) (rest9 := []) htab (List.forall_mem_cons.mpr ⟨⟨"java/lang/IllegalStateException", by decide, gIn k_387 (by decide +kernel), by decide⟩, fun _ h9 => nomatch h9⟩) (by decide) (by decide) (gIn k_517 (by decide +kernel)) (by decide) (hp9 := 17) rfl (fun v H hP hS => ?_)
  refine lv_astore hx hb d_Lw_box_17 hl (by decide) (lv' := ((4, .ref v) :: [(0, .ref (a 699)), (1, .int p0), (2, .int p1), (3, .ref ao)])) rfl (fun ls hl => ?_)
  refine lv_iconst (v := 2) hx hb d_Lw_box_19 (by decide) ?_
  exact W.iret (v := 2) hx hb hr (fun U hU hW => ⟨⟨2, (σ, f), rfl, ⟨rfl, rfl⟩, by rw [hU]; exact hP, hD⟩, hS.F hU⟩) hS.2.2 d_Lw_box_20
set_option maxHeartbeats 4000000 in
set_option maxRecDepth 100000 in
theorem r_Lw_cost (l : Launch) (D : va_G) (t : Nat → ClassId) (a : Nat → Nat) (ao : Nat) (σ : Nat → Nat → Int32) (f : Nat → Int64) (n : Nat) (Rv : Int32) (Uv : Nat → Nat → Int32) (hM : gMi l D t y_Fb_cost b_Fb_cost 1 (some .int) n [.ref (a 699)] (wFb t a σ) (wFb t a) (fun r u => r = Rv ∧ u = Uv)) : gMq l D t y_Lw_cost b_Lw_cost 3 [(0, 8, 11, 15)] (n + 1) [.ref (a 699), .ref ao] (wLw t a ao σ f) (fun u : (Nat → Nat → Int32) × (Nat → Int64) => wLw t a ao u.1 u.2) (fun k u => k = 0 ∧ u = (Uv, vp_updL f 0 Rv.toInt64)) := by
  intro A
  refine va_MetW (cc := b_Lw_cost) (maxL := 3) (ret := (some .int)) (hh := [(0, 8, 11, 15)]) (by decide) rfl ?_
  intro p e s m args below meth c s₁ B hml hv
  obtain ⟨rfl, ⟨hK, hP, hD⟩, hxo, hno⟩ := hv
  have hx := B.exec
  have hb := B.bytes
  have hr := B.returns
  have hts := atoms_spec (ws := .codeWith y_Lw_cost b_Lw_cost 3 (some .int) [(0, 8, 11, 15)] :: gBig) B.pre
  have hown : s.vm.findClass R_Lw = some m.cls := findClass_of_methodNamed B.named
  have hlocks := B.notSynchronized
  have hS : va_S A s.heap s.heap [] := va_S.rf
  have hl := lv_entry ([.ref (a 699), .ref ao]) (n := 3) (Nat.le_of_ble_eq_true rfl)
  rw [lg_entry_eq]
  generalize (lg_sl ([.ref (a 699), .ref ao]) ++ List.replicate (3 - (lg_sl ([.ref (a 699), .ref ao])).length) Slot.unset).toArray = ls at hl ⊢
  have hl : lv_has ls 3 [(0, .ref (a 699)), (1, .ref ao)] := hl
  refine W.widen (k := 1) (n := 6) (Nat.zero_le _) (Nat.zero_le _) ?_
  refine lv_aload_n hx hb d_Lw_cost_0 rfl (lv_at hl 1 rfl) ?_
  refine lv_iconst (v := 0) hx hb d_Lw_cost_1 (by decide) ?_
  refine lv_aload_n hx hb d_Lw_cost_2 rfl (lv_at hl 0 rfl) ?_
  refine g_viS (k := 0) (As := []) (rest := [.int 0, .ref ao]) (own := R_Lw) (C := R_Fb) (index := 37) (w1 := wFb t a σ) (w2 := [(ao, .inl (t 3, 1, .inr (.inl f)))]) ⟨hx, hb, hml, hown, hts⟩ hM (gg_Lw_37 _) (by decide +kernel) ⟨Nat.le_refl _, by show 8 + (1 + 11) + 40 * n ≤ 40 * (n + 1); omega⟩ rfl (va_recv hK.1 (gSplit hP).1 (ci := 6) (q0 := 0) rfl (wFb_o6 t a σ)) hK hP hD hS hl.1 rfl (Nat.le_of_ble_eq_true rfl) ⟨Nat.le_refl _, Nat.le_refl _⟩ d_Lw_cost_3 (fun r_1 u_1 H locs q_1 hP hD hS => ?_)
  obtain ⟨hr_1, hu_1⟩ := q_1
  subst hr_1
  subst hu_1
  refine lv_i2l (v := r_1.toInt64) hx hb d_Lw_cost_6 rfl ?_
  refine va_last hx hb hK.1 hP hD hS 67 3 (a := ao) (cA := t 3) (n := 1) (f := f) rfl rfl (i := 0) (by unfold vp_in; decide) d_Lw_cost_7 (fun H locs hP hD hS => ?_)
  have hP : va_P D gCl (wLw t a ao u_1 (vp_updL f 0 r_1.toInt64)) H := hP
  have hD : va_D A (wLw t a ao u_1 (vp_updL f 0 r_1.toInt64)) := hD
  refine lv_goto (tgt := 14) hx hb d_Lw_cost_8 (by decide) ?_
  refine lv_iconst (v := 0) hx hb d_Lw_cost_14 (by decide) ?_
  exact W.iret (v := 0) hx hb hr (fun U hU hW => ⟨⟨0, (u_1, vp_updL f 0 r_1.toInt64), rfl, ⟨rfl, rfl⟩, by rw [hU]; exact hP, hD⟩, hS.F hU⟩) hS.2.2 d_Lw_cost_15
set_option maxHeartbeats 4000000 in
set_option maxRecDepth 100000 in
theorem x_Lw_cost_ise (l : Launch) (D : va_G) (t : Nat → ClassId) (a : Nat → Nat) (ao : Nat) (σ : Nat → Nat → Int32) (f : Nat → Int64) (n : Nat) (hM : gMx l D t y_Fb_cost b_Fb_cost 1 (some .int) n [.ref (a 699)] (wFb t a σ) "java/lang/IllegalStateException") : gMq l D t y_Lw_cost b_Lw_cost 3 [(0, 8, 11, 15)] (n + 1) [.ref (a 699), .ref ao] (wLw t a ao σ f) (fun u : (Nat → Nat → Int32) × (Nat → Int64) => wLw t a ao u.1 u.2) (fun k u => k = 1 ∧ u = (σ, f)) := by
  intro A
  refine va_MetW (cc := b_Lw_cost) (maxL := 3) (ret := (some .int)) (hh := [(0, 8, 11, 15)]) (by decide) rfl ?_
  intro p e s m args below meth c s₁ B hml hv
  obtain ⟨rfl, ⟨hK, hP, hD⟩, hxo, hno⟩ := hv
  have hx := B.exec
  have hb := B.bytes
  have hr := B.returns
  have hts := atoms_spec (ws := .codeWith y_Lw_cost b_Lw_cost 3 (some .int) [(0, 8, 11, 15)] :: gBig) B.pre
  have hown : s.vm.findClass R_Lw = some m.cls := findClass_of_methodNamed B.named
  have hlocks := B.notSynchronized
  have hS : va_S A s.heap s.heap [] := va_S.rf
  have hl := lv_entry ([.ref (a 699), .ref ao]) (n := 3) (Nat.le_of_ble_eq_true rfl)
  rw [lg_entry_eq]
  generalize (lg_sl ([.ref (a 699), .ref ao]) ++ List.replicate (3 - (lg_sl ([.ref (a 699), .ref ao])).length) Slot.unset).toArray = ls at hl ⊢
  have hl : lv_has ls 3 [(0, .ref (a 699)), (1, .ref ao)] := hl
  refine lv_aload_n hx hb d_Lw_cost_0 rfl (lv_at hl 1 rfl) ?_
  refine lv_iconst (v := 0) hx hb d_Lw_cost_1 (by decide) ?_
  refine lv_aload_n hx hb d_Lw_cost_2 rfl (lv_at hl 0 rfl) ?_
  have htab := h_tab B (hts _ List.mem_cons_self)
  refine x_caught (k := 0) (As := []) (rest := [.int 0, .ref ao]) (own := R_Lw) (C := R_Fb) (index := 37) (w1 := wFb t a σ) (w2 := [(ao, .inl (t 3, 1, .inr (.inl f)))]) ⟨hx, hb, hml, hown, hts⟩ hM (gg_Lw_37 _) (by decide +kernel) ⟨Nat.le_refl _, by show 8 + (1 + 11) + 40 * n ≤ 40 * (n + 1); omega⟩ rfl (va_recv hK.1 (gSplit hP).1 (ci := 6) (q0 := 0) rfl (wFb_o6 t a σ)) hK hP hD hS hxo hno hl.1 rfl (Nat.le_of_ble_eq_true rfl) ⟨Nat.le_refl _, Nat.le_refl _⟩ d_Lw_cost_3 (pre := []) (x9 := ⟨0, 8, 11, 15⟩) (rest9 := []) htab (fun y9 hy9 => nomatch hy9) (by decide) (by decide) (gIn k_387 (by decide +kernel)) (by decide) (hp9 := 11) rfl (fun v H hP hS => ?_)
  refine lv_astore_n hx hb d_Lw_cost_11 rfl hl (by decide) (lv' := ((2, .ref v) :: [(0, .ref (a 699)), (1, .ref ao)])) rfl (fun ls hl => ?_)
  refine lv_iconst (v := 1) hx hb d_Lw_cost_12 (by decide) ?_
  exact W.iret (v := 1) hx hb hr (fun U hU hW => ⟨⟨1, (σ, f), rfl, ⟨rfl, rfl⟩, by rw [hU]; exact hP, hD⟩, hS.F hU⟩) hS.2.2 d_Lw_cost_13
set_option maxHeartbeats 4000000 in
set_option maxRecDepth 100000 in
theorem r_Lw_manual (l : Launch) (D : va_G) (t : Nat → ClassId) (a : Nat → Nat) (ao : Nat) (σ : Nat → Nat → Int32) (f : Nat → Int64) (p0 : Int32) (n : Nat) (Rv : Int32) (Uv : Nat → Nat → Int32) (hM : gMi l D t y_Fb_manual b_Fb_manual 2 (some .int) n [.ref (a 699), .int p0] (wFb t a σ) (wFb t a) (fun r u => r = Rv ∧ u = Uv)) : gMq l D t y_Lw_manual b_Lw_manual 4 [(0, 9, 12, 24)] (n + 1) [.ref (a 699), .int p0, .ref ao] (wLw t a ao σ f) (fun u : (Nat → Nat → Int32) × (Nat → Int64) => wLw t a ao u.1 u.2) (fun k u => k = 0 ∧ u = (Uv, vp_updL f 0 Rv.toInt64)) := by
  intro A
  refine va_MetW (cc := b_Lw_manual) (maxL := 4) (ret := (some .int)) (hh := [(0, 9, 12, 24)]) (by decide) rfl ?_
  intro p e s m args below meth c s₁ B hml hv
  obtain ⟨rfl, ⟨hK, hP, hD⟩, hxo, hno⟩ := hv
  have hx := B.exec
  have hb := B.bytes
  have hr := B.returns
  have hts := atoms_spec (ws := .codeWith y_Lw_manual b_Lw_manual 4 (some .int) [(0, 9, 12, 24)] :: gBig) B.pre
  have hown : s.vm.findClass R_Lw = some m.cls := findClass_of_methodNamed B.named
  have hlocks := B.notSynchronized
  have hS : va_S A s.heap s.heap [] := va_S.rf
  have hl := lv_entry ([.ref (a 699), .int p0, .ref ao]) (n := 4) (Nat.le_of_ble_eq_true rfl)
  rw [lg_entry_eq]
  generalize (lg_sl ([.ref (a 699), .int p0, .ref ao]) ++ List.replicate (4 - (lg_sl ([.ref (a 699), .int p0, .ref ao])).length) Slot.unset).toArray = ls at hl ⊢
  have hl : lv_has ls 4 [(0, .ref (a 699)), (1, .int p0), (2, .ref ao)] := hl
  refine W.widen (k := 1) (n := 6) (Nat.zero_le _) (Nat.zero_le _) ?_
  refine lv_aload_n hx hb d_Lw_manual_0 rfl (lv_at hl 2 rfl) ?_
  refine lv_iconst (v := 0) hx hb d_Lw_manual_1 (by decide) ?_
  refine lv_aload_n hx hb d_Lw_manual_2 rfl (lv_at hl 0 rfl) ?_
  refine lv_iload_n hx hb d_Lw_manual_3 rfl (lv_at hl 1 rfl) ?_
  refine g_viS (k := 1) (As := [.int p0]) (rest := [.int 0, .ref ao]) (own := R_Lw) (C := R_Fb) (index := 41) (w1 := wFb t a σ) (w2 := [(ao, .inl (t 3, 1, .inr (.inl f)))]) ⟨hx, hb, hml, hown, hts⟩ hM (gg_Lw_41 _) (by decide +kernel) ⟨Nat.le_refl _, by show 8 + (2 + 11) + 40 * n ≤ 40 * (n + 1); omega⟩ rfl (va_recv hK.1 (gSplit hP).1 (ci := 6) (q0 := 0) rfl (wFb_o6 t a σ)) hK hP hD hS hl.1 rfl (Nat.le_of_ble_eq_true rfl) ⟨Nat.le_refl _, Nat.le_refl _⟩ d_Lw_manual_4 (fun r_1 u_1 H locs q_1 hP hD hS => ?_)
  obtain ⟨hr_1, hu_1⟩ := q_1
  subst hr_1
  subst hu_1
  refine lv_i2l (v := r_1.toInt64) hx hb d_Lw_manual_7 rfl ?_
  refine va_last hx hb hK.1 hP hD hS 67 3 (a := ao) (cA := t 3) (n := 1) (f := f) rfl rfl (i := 0) (by unfold vp_in; decide) d_Lw_manual_8 (fun H locs hP hD hS => ?_)
  have hP : va_P D gCl (wLw t a ao u_1 (vp_updL f 0 r_1.toInt64)) H := hP
  have hD : va_D A (wLw t a ao u_1 (vp_updL f 0 r_1.toInt64)) := hD
  refine lv_goto (tgt := 15) hx hb d_Lw_manual_9 (by decide) ?_
  refine lv_iconst (v := 0) hx hb d_Lw_manual_15 (by decide) ?_
  exact W.iret (v := 0) hx hb hr (fun U hU hW => ⟨⟨0, (u_1, vp_updL f 0 r_1.toInt64), rfl, ⟨rfl, rfl⟩, by rw [hU]; exact hP, hD⟩, hS.F hU⟩) hS.2.2 d_Lw_manual_16
set_option maxHeartbeats 4000000 in
set_option maxRecDepth 100000 in
theorem x_Lw_manual_iob (l : Launch) (D : va_G) (t : Nat → ClassId) (a : Nat → Nat) (ao : Nat) (σ : Nat → Nat → Int32) (f : Nat → Int64) (p0 : Int32) (n : Nat) (hM : gMx l D t y_Fb_manual b_Fb_manual 2 (some .int) n [.ref (a 699), .int p0] (wFb t a σ) "java/lang/IndexOutOfBoundsException") : gMq l D t y_Lw_manual b_Lw_manual 4 [(0, 9, 12, 24)] (n + 1) [.ref (a 699), .int p0, .ref ao] (wLw t a ao σ f) (fun u : (Nat → Nat → Int32) × (Nat → Int64) => wLw t a ao u.1 u.2) (fun k u => k = 1 ∧ u = (σ, f)) := by
  intro A
  refine va_MetW (cc := b_Lw_manual) (maxL := 4) (ret := (some .int)) (hh := [(0, 9, 12, 24)]) (by decide) rfl ?_
  intro p e s m args below meth c s₁ B hml hv
  obtain ⟨rfl, ⟨hK, hP, hD⟩, hxo, hno⟩ := hv
  have hx := B.exec
  have hb := B.bytes
  have hr := B.returns
  have hts := atoms_spec (ws := .codeWith y_Lw_manual b_Lw_manual 4 (some .int) [(0, 9, 12, 24)] :: gBig) B.pre
  have hown : s.vm.findClass R_Lw = some m.cls := findClass_of_methodNamed B.named
  have hlocks := B.notSynchronized
  have hS : va_S A s.heap s.heap [] := va_S.rf
  have hl := lv_entry ([.ref (a 699), .int p0, .ref ao]) (n := 4) (Nat.le_of_ble_eq_true rfl)
  rw [lg_entry_eq]
  generalize (lg_sl ([.ref (a 699), .int p0, .ref ao]) ++ List.replicate (4 - (lg_sl ([.ref (a 699), .int p0, .ref ao])).length) Slot.unset).toArray = ls at hl ⊢
  have hl : lv_has ls 4 [(0, .ref (a 699)), (1, .int p0), (2, .ref ao)] := hl
  refine lv_aload_n hx hb d_Lw_manual_0 rfl (lv_at hl 2 rfl) ?_
  refine lv_iconst (v := 0) hx hb d_Lw_manual_1 (by decide) ?_
  refine lv_aload_n hx hb d_Lw_manual_2 rfl (lv_at hl 0 rfl) ?_
  refine lv_iload_n hx hb d_Lw_manual_3 rfl (lv_at hl 1 rfl) ?_
  have htab := h_tab B (hts _ List.mem_cons_self)
  refine x_caught (k := 1) (As := [.int p0]) (rest := [.int 0, .ref ao]) (own := R_Lw) (C := R_Fb) (index := 41) (w1 := wFb t a σ) (w2 := [(ao, .inl (t 3, 1, .inr (.inl f)))]) ⟨hx, hb, hml, hown, hts⟩ hM (gg_Lw_41 _) (by decide +kernel) ⟨Nat.le_refl _, by show 8 + (2 + 11) + 40 * n ≤ 40 * (n + 1); omega⟩ rfl (va_recv hK.1 (gSplit hP).1 (ci := 6) (q0 := 0) rfl (wFb_o6 t a σ)) hK hP hD hS hxo hno hl.1 rfl (Nat.le_of_ble_eq_true rfl) ⟨Nat.le_refl _, Nat.le_refl _⟩ d_Lw_manual_4 (pre := []) (x9 := ⟨0, 9, 12, 24⟩) (rest9 := []) htab (fun y9 hy9 => nomatch hy9) (by decide) (by decide) (gIn k_517 (by decide +kernel)) (by decide) (hp9 := 12) rfl (fun v H hP hS => ?_)
  refine lv_astore_n hx hb d_Lw_manual_12 rfl hl (by decide) (lv' := ((3, .ref v) :: [(0, .ref (a 699)), (1, .int p0), (2, .ref ao)])) rfl (fun ls hl => ?_)
  refine lv_iconst (v := 1) hx hb d_Lw_manual_13 (by decide) ?_
  exact W.iret (v := 1) hx hb hr (fun U hU hW => ⟨⟨1, (σ, f), rfl, ⟨rfl, rfl⟩, by rw [hU]; exact hP, hD⟩, hS.F hU⟩) hS.2.2 d_Lw_manual_14
set_option maxHeartbeats 4000000 in
set_option maxRecDepth 100000 in
theorem r_Lw_bag (l : Launch) (D : va_G) (t : Nat → ClassId) (a : Nat → Nat) (ao : Nat) (σ : Nat → Nat → Int32) (f : Nat → Int64) (n : Nat) (Rv : Int32) (Uv : Nat → Nat → Int32) (hM : gMi l D t y_Fb_bag b_Fb_bag 1 (some .int) n [.ref (a 699)] (wFb t a σ) (wFb t a) (fun r u => r = Rv ∧ u = Uv)) : gMq l D t y_Lw_bag b_Lw_bag 3 [(0, 8, 11, 15)] (n + 1) [.ref (a 699), .ref ao] (wLw t a ao σ f) (fun u : (Nat → Nat → Int32) × (Nat → Int64) => wLw t a ao u.1 u.2) (fun k u => k = 0 ∧ u = (Uv, vp_updL f 0 Rv.toInt64)) := by
  intro A
  refine va_MetW (cc := b_Lw_bag) (maxL := 3) (ret := (some .int)) (hh := [(0, 8, 11, 15)]) (by decide) rfl ?_
  intro p e s m args below meth c s₁ B hml hv
  obtain ⟨rfl, ⟨hK, hP, hD⟩, hxo, hno⟩ := hv
  have hx := B.exec
  have hb := B.bytes
  have hr := B.returns
  have hts := atoms_spec (ws := .codeWith y_Lw_bag b_Lw_bag 3 (some .int) [(0, 8, 11, 15)] :: gBig) B.pre
  have hown : s.vm.findClass R_Lw = some m.cls := findClass_of_methodNamed B.named
  have hlocks := B.notSynchronized
  have hS : va_S A s.heap s.heap [] := va_S.rf
  have hl := lv_entry ([.ref (a 699), .ref ao]) (n := 3) (Nat.le_of_ble_eq_true rfl)
  rw [lg_entry_eq]
  generalize (lg_sl ([.ref (a 699), .ref ao]) ++ List.replicate (3 - (lg_sl ([.ref (a 699), .ref ao])).length) Slot.unset).toArray = ls at hl ⊢
  have hl : lv_has ls 3 [(0, .ref (a 699)), (1, .ref ao)] := hl
  refine W.widen (k := 1) (n := 6) (Nat.zero_le _) (Nat.zero_le _) ?_
  refine lv_aload_n hx hb d_Lw_bag_0 rfl (lv_at hl 1 rfl) ?_
  refine lv_iconst (v := 0) hx hb d_Lw_bag_1 (by decide) ?_
  refine lv_aload_n hx hb d_Lw_bag_2 rfl (lv_at hl 0 rfl) ?_
  refine g_viS (k := 0) (As := []) (rest := [.int 0, .ref ao]) (own := R_Lw) (C := R_Fb) (index := 45) (w1 := wFb t a σ) (w2 := [(ao, .inl (t 3, 1, .inr (.inl f)))]) ⟨hx, hb, hml, hown, hts⟩ hM (gg_Lw_45 _) (by decide +kernel) ⟨Nat.le_refl _, by show 8 + (1 + 11) + 40 * n ≤ 40 * (n + 1); omega⟩ rfl (va_recv hK.1 (gSplit hP).1 (ci := 6) (q0 := 0) rfl (wFb_o6 t a σ)) hK hP hD hS hl.1 rfl (Nat.le_of_ble_eq_true rfl) ⟨Nat.le_refl _, Nat.le_refl _⟩ d_Lw_bag_3 (fun r_1 u_1 H locs q_1 hP hD hS => ?_)
  obtain ⟨hr_1, hu_1⟩ := q_1
  subst hr_1
  subst hu_1
  refine lv_i2l (v := r_1.toInt64) hx hb d_Lw_bag_6 rfl ?_
  refine va_last hx hb hK.1 hP hD hS 67 3 (a := ao) (cA := t 3) (n := 1) (f := f) rfl rfl (i := 0) (by unfold vp_in; decide) d_Lw_bag_7 (fun H locs hP hD hS => ?_)
  have hP : va_P D gCl (wLw t a ao u_1 (vp_updL f 0 r_1.toInt64)) H := hP
  have hD : va_D A (wLw t a ao u_1 (vp_updL f 0 r_1.toInt64)) := hD
  refine lv_goto (tgt := 14) hx hb d_Lw_bag_8 (by decide) ?_
  refine lv_iconst (v := 0) hx hb d_Lw_bag_14 (by decide) ?_
  exact W.iret (v := 0) hx hb hr (fun U hU hW => ⟨⟨0, (u_1, vp_updL f 0 r_1.toInt64), rfl, ⟨rfl, rfl⟩, by rw [hU]; exact hP, hD⟩, hS.F hU⟩) hS.2.2 d_Lw_bag_15
set_option maxHeartbeats 4000000 in
set_option maxRecDepth 100000 in
theorem x_Lw_bag_ise (l : Launch) (D : va_G) (t : Nat → ClassId) (a : Nat → Nat) (ao : Nat) (σ : Nat → Nat → Int32) (f : Nat → Int64) (n : Nat) (hM : gMx l D t y_Fb_bag b_Fb_bag 1 (some .int) n [.ref (a 699)] (wFb t a σ) "java/lang/IllegalStateException") : gMq l D t y_Lw_bag b_Lw_bag 3 [(0, 8, 11, 15)] (n + 1) [.ref (a 699), .ref ao] (wLw t a ao σ f) (fun u : (Nat → Nat → Int32) × (Nat → Int64) => wLw t a ao u.1 u.2) (fun k u => k = 1 ∧ u = (σ, f)) := by
  intro A
  refine va_MetW (cc := b_Lw_bag) (maxL := 3) (ret := (some .int)) (hh := [(0, 8, 11, 15)]) (by decide) rfl ?_
  intro p e s m args below meth c s₁ B hml hv
  obtain ⟨rfl, ⟨hK, hP, hD⟩, hxo, hno⟩ := hv
  have hx := B.exec
  have hb := B.bytes
  have hr := B.returns
  have hts := atoms_spec (ws := .codeWith y_Lw_bag b_Lw_bag 3 (some .int) [(0, 8, 11, 15)] :: gBig) B.pre
  have hown : s.vm.findClass R_Lw = some m.cls := findClass_of_methodNamed B.named
  have hlocks := B.notSynchronized
  have hS : va_S A s.heap s.heap [] := va_S.rf
  have hl := lv_entry ([.ref (a 699), .ref ao]) (n := 3) (Nat.le_of_ble_eq_true rfl)
  rw [lg_entry_eq]
  generalize (lg_sl ([.ref (a 699), .ref ao]) ++ List.replicate (3 - (lg_sl ([.ref (a 699), .ref ao])).length) Slot.unset).toArray = ls at hl ⊢
  have hl : lv_has ls 3 [(0, .ref (a 699)), (1, .ref ao)] := hl
  refine lv_aload_n hx hb d_Lw_bag_0 rfl (lv_at hl 1 rfl) ?_
  refine lv_iconst (v := 0) hx hb d_Lw_bag_1 (by decide) ?_
  refine lv_aload_n hx hb d_Lw_bag_2 rfl (lv_at hl 0 rfl) ?_
  have htab := h_tab B (hts _ List.mem_cons_self)
  refine x_caught (k := 0) (As := []) (rest := [.int 0, .ref ao]) (own := R_Lw) (C := R_Fb) (index := 45) (w1 := wFb t a σ) (w2 := [(ao, .inl (t 3, 1, .inr (.inl f)))]) ⟨hx, hb, hml, hown, hts⟩ hM (gg_Lw_45 _) (by decide +kernel) ⟨Nat.le_refl _, by show 8 + (1 + 11) + 40 * n ≤ 40 * (n + 1); omega⟩ rfl (va_recv hK.1 (gSplit hP).1 (ci := 6) (q0 := 0) rfl (wFb_o6 t a σ)) hK hP hD hS hxo hno hl.1 rfl (Nat.le_of_ble_eq_true rfl) ⟨Nat.le_refl _, Nat.le_refl _⟩ d_Lw_bag_3 (pre := []) (x9 := ⟨0, 8, 11, 15⟩) (rest9 := []) htab (fun y9 hy9 => nomatch hy9) (by decide) (by decide) (gIn k_387 (by decide +kernel)) (by decide) (hp9 := 11) rfl (fun v H hP hS => ?_)
  refine lv_astore_n hx hb d_Lw_bag_11 rfl hl (by decide) (lv' := ((2, .ref v) :: [(0, .ref (a 699)), (1, .ref ao)])) rfl (fun ls hl => ?_)
  refine lv_iconst (v := 1) hx hb d_Lw_bag_12 (by decide) ?_
  exact W.iret (v := 1) hx hb hr (fun U hU hW => ⟨⟨1, (σ, f), rfl, ⟨rfl, rfl⟩, by rw [hU]; exact hP, hD⟩, hS.F hU⟩) hS.2.2 d_Lw_bag_13
set_option maxHeartbeats 4000000 in
set_option maxRecDepth 100000 in
theorem r_Lw_into (l : Launch) (D : va_G) (t : Nat → ClassId) (a : Nat → Nat) (ao : Nat) (σ : Nat → Nat → Int32) (f : Nat → Int64) (p0 p1 p2 p3 : Int32) (n : Nat) (Rv : Int32) (Uv : Nat → Nat → Int32) (hM : gMi l D t y_Fb_into b_Fb_into 5 (some .int) n [.ref (a 699), .int p0, .int p1, .int p2, .int p3] (wFb t a σ) (wFb t a) (fun r u => r = Rv ∧ u = Uv)) : gMq l D t y_Lw_into b_Lw_into 7 [(0, 14, 17, 24), (0, 14, 21, 13), (0, 14, 25, 15)] (n + 1) [.ref (a 699), .int p0, .int p1, .int p2, .int p3, .ref ao] (wLw t a ao σ f) (fun u : (Nat → Nat → Int32) × (Nat → Int64) => wLw t a ao u.1 u.2) (fun k u => k = 0 ∧ u = (Uv, vp_updL f 0 Rv.toInt64)) := by
  intro A
  refine va_MetW (cc := b_Lw_into) (maxL := 7) (ret := (some .int)) (hh := [(0, 14, 17, 24), (0, 14, 21, 13), (0, 14, 25, 15)]) (by decide) rfl ?_
  intro p e s m args below meth c s₁ B hml hv
  obtain ⟨rfl, ⟨hK, hP, hD⟩, hxo, hno⟩ := hv
  have hx := B.exec
  have hb := B.bytes
  have hr := B.returns
  have hts := atoms_spec (ws := .codeWith y_Lw_into b_Lw_into 7 (some .int) [(0, 14, 17, 24), (0, 14, 21, 13), (0, 14, 25, 15)] :: gBig) B.pre
  have hown : s.vm.findClass R_Lw = some m.cls := findClass_of_methodNamed B.named
  have hlocks := B.notSynchronized
  have hS : va_S A s.heap s.heap [] := va_S.rf
  have hl := lv_entry ([.ref (a 699), .int p0, .int p1, .int p2, .int p3, .ref ao]) (n := 7) (Nat.le_of_ble_eq_true rfl)
  rw [lg_entry_eq]
  generalize (lg_sl ([.ref (a 699), .int p0, .int p1, .int p2, .int p3, .ref ao]) ++ List.replicate (7 - (lg_sl ([.ref (a 699), .int p0, .int p1, .int p2, .int p3, .ref ao])).length) Slot.unset).toArray = ls at hl ⊢
  have hl : lv_has ls 7 [(0, .ref (a 699)), (1, .int p0), (2, .int p1), (3, .int p2), (4, .int p3), (5, .ref ao)] := hl
  refine W.widen (k := 1) (n := 6) (Nat.zero_le _) (Nat.zero_le _) ?_
  refine lv_aload hx hb d_Lw_into_0 (lv_at hl 5 rfl) ?_
  refine lv_iconst (v := 0) hx hb d_Lw_into_2 (by decide) ?_
  refine lv_aload_n hx hb d_Lw_into_3 rfl (lv_at hl 0 rfl) ?_
  refine lv_iload_n hx hb d_Lw_into_4 rfl (lv_at hl 1 rfl) ?_
  refine lv_iload_n hx hb d_Lw_into_5 rfl (lv_at hl 2 rfl) ?_
  refine lv_iload_n hx hb d_Lw_into_6 rfl (lv_at hl 3 rfl) ?_
  refine lv_iload hx hb d_Lw_into_7 (lv_at hl 4 rfl) ?_
  refine g_viS (k := 4) (As := [.int p0, .int p1, .int p2, .int p3]) (rest := [.int 0, .ref ao]) (own := R_Lw) (C := R_Fb) (index := 48) (w1 := wFb t a σ) (w2 := [(ao, .inl (t 3, 1, .inr (.inl f)))]) ⟨hx, hb, hml, hown, hts⟩ hM (gg_Lw_48 _) (by decide +kernel) ⟨Nat.le_refl _, by show 8 + (5 + 11) + 40 * n ≤ 40 * (n + 1); omega⟩ rfl (va_recv hK.1 (gSplit hP).1 (ci := 6) (q0 := 0) rfl (wFb_o6 t a σ)) hK hP hD hS hl.1 rfl (Nat.le_of_ble_eq_true rfl) ⟨Nat.le_refl _, Nat.le_refl _⟩ d_Lw_into_9 (fun r_1 u_1 H locs q_1 hP hD hS => ?_)
  obtain ⟨hr_1, hu_1⟩ := q_1
  subst hr_1
  subst hu_1
  refine lv_i2l (v := r_1.toInt64) hx hb d_Lw_into_12 rfl ?_
  refine va_last hx hb hK.1 hP hD hS 67 3 (a := ao) (cA := t 3) (n := 1) (f := f) rfl rfl (i := 0) (by unfold vp_in; decide) d_Lw_into_13 (fun H locs hP hD hS => ?_)
  have hP : va_P D gCl (wLw t a ao u_1 (vp_updL f 0 r_1.toInt64)) H := hP
  have hD : va_D A (wLw t a ao u_1 (vp_updL f 0 r_1.toInt64)) := hD
  refine lv_goto (tgt := 29) hx hb d_Lw_into_14 (by decide) ?_
  refine lv_iconst (v := 0) hx hb d_Lw_into_29 (by decide) ?_
  exact W.iret (v := 0) hx hb hr (fun U hU hW => ⟨⟨0, (u_1, vp_updL f 0 r_1.toInt64), rfl, ⟨rfl, rfl⟩, by rw [hU]; exact hP, hD⟩, hS.F hU⟩) hS.2.2 d_Lw_into_30
set_option maxHeartbeats 4000000 in
set_option maxRecDepth 100000 in
theorem x_Lw_into_iob (l : Launch) (D : va_G) (t : Nat → ClassId) (a : Nat → Nat) (ao : Nat) (σ : Nat → Nat → Int32) (f : Nat → Int64) (p0 p1 p2 p3 : Int32) (n : Nat) (hM : gMx l D t y_Fb_into b_Fb_into 5 (some .int) n [.ref (a 699), .int p0, .int p1, .int p2, .int p3] (wFb t a σ) "java/lang/IndexOutOfBoundsException") : gMq l D t y_Lw_into b_Lw_into 7 [(0, 14, 17, 24), (0, 14, 21, 13), (0, 14, 25, 15)] (n + 1) [.ref (a 699), .int p0, .int p1, .int p2, .int p3, .ref ao] (wLw t a ao σ f) (fun u : (Nat → Nat → Int32) × (Nat → Int64) => wLw t a ao u.1 u.2) (fun k u => k = 1 ∧ u = (σ, f)) := by
  intro A
  refine va_MetW (cc := b_Lw_into) (maxL := 7) (ret := (some .int)) (hh := [(0, 14, 17, 24), (0, 14, 21, 13), (0, 14, 25, 15)]) (by decide) rfl ?_
  intro p e s m args below meth c s₁ B hml hv
  obtain ⟨rfl, ⟨hK, hP, hD⟩, hxo, hno⟩ := hv
  have hx := B.exec
  have hb := B.bytes
  have hr := B.returns
  have hts := atoms_spec (ws := .codeWith y_Lw_into b_Lw_into 7 (some .int) [(0, 14, 17, 24), (0, 14, 21, 13), (0, 14, 25, 15)] :: gBig) B.pre
  have hown : s.vm.findClass R_Lw = some m.cls := findClass_of_methodNamed B.named
  have hlocks := B.notSynchronized
  have hS : va_S A s.heap s.heap [] := va_S.rf
  have hl := lv_entry ([.ref (a 699), .int p0, .int p1, .int p2, .int p3, .ref ao]) (n := 7) (Nat.le_of_ble_eq_true rfl)
  rw [lg_entry_eq]
  generalize (lg_sl ([.ref (a 699), .int p0, .int p1, .int p2, .int p3, .ref ao]) ++ List.replicate (7 - (lg_sl ([.ref (a 699), .int p0, .int p1, .int p2, .int p3, .ref ao])).length) Slot.unset).toArray = ls at hl ⊢
  have hl : lv_has ls 7 [(0, .ref (a 699)), (1, .int p0), (2, .int p1), (3, .int p2), (4, .int p3), (5, .ref ao)] := hl
  refine lv_aload hx hb d_Lw_into_0 (lv_at hl 5 rfl) ?_
  refine lv_iconst (v := 0) hx hb d_Lw_into_2 (by decide) ?_
  refine lv_aload_n hx hb d_Lw_into_3 rfl (lv_at hl 0 rfl) ?_
  refine lv_iload_n hx hb d_Lw_into_4 rfl (lv_at hl 1 rfl) ?_
  refine lv_iload_n hx hb d_Lw_into_5 rfl (lv_at hl 2 rfl) ?_
  refine lv_iload_n hx hb d_Lw_into_6 rfl (lv_at hl 3 rfl) ?_
  refine lv_iload hx hb d_Lw_into_7 (lv_at hl 4 rfl) ?_
  have htab := h_tab B (hts _ List.mem_cons_self)
  refine x_caught (k := 4) (As := [.int p0, .int p1, .int p2, .int p3]) (rest := [.int 0, .ref ao]) (own := R_Lw) (C := R_Fb) (index := 48) (w1 := wFb t a σ) (w2 := [(ao, .inl (t 3, 1, .inr (.inl f)))]) ⟨hx, hb, hml, hown, hts⟩ hM (gg_Lw_48 _) (by decide +kernel) ⟨Nat.le_refl _, by show 8 + (5 + 11) + 40 * n ≤ 40 * (n + 1); omega⟩ rfl (va_recv hK.1 (gSplit hP).1 (ci := 6) (q0 := 0) rfl (wFb_o6 t a σ)) hK hP hD hS hxo hno hl.1 rfl (Nat.le_of_ble_eq_true rfl) ⟨Nat.le_refl _, Nat.le_refl _⟩ d_Lw_into_9 (pre := []) (x9 := ⟨0, 14, 17, 24⟩) (rest9 := [⟨0, 14, 21, 13⟩, ⟨0, 14, 25, 15⟩]) htab (fun y9 hy9 => nomatch hy9) (by decide) (by decide) (gIn k_517 (by decide +kernel)) (by decide) (hp9 := 17) rfl (fun v H hP hS => ?_)
  refine lv_astore hx hb d_Lw_into_17 hl (by decide) (lv' := ((6, .ref v) :: [(0, .ref (a 699)), (1, .int p0), (2, .int p1), (3, .int p2), (4, .int p3), (5, .ref ao)])) rfl (fun ls hl => ?_)
  refine lv_iconst (v := 1) hx hb d_Lw_into_19 (by decide) ?_
  exact W.iret (v := 1) hx hb hr (fun U hU hW => ⟨⟨1, (σ, f), rfl, ⟨rfl, rfl⟩, by rw [hU]; exact hP, hD⟩, hS.F hU⟩) hS.2.2 d_Lw_into_20
set_option maxHeartbeats 4000000 in
set_option maxRecDepth 100000 in
theorem x_Lw_into_iae (l : Launch) (D : va_G) (t : Nat → ClassId) (a : Nat → Nat) (ao : Nat) (σ : Nat → Nat → Int32) (f : Nat → Int64) (p0 p1 p2 p3 : Int32) (n : Nat) (hM : gMx l D t y_Fb_into b_Fb_into 5 (some .int) n [.ref (a 699), .int p0, .int p1, .int p2, .int p3] (wFb t a σ) "java/lang/IllegalArgumentException") : gMq l D t y_Lw_into b_Lw_into 7 [(0, 14, 17, 24), (0, 14, 21, 13), (0, 14, 25, 15)] (n + 1) [.ref (a 699), .int p0, .int p1, .int p2, .int p3, .ref ao] (wLw t a ao σ f) (fun u : (Nat → Nat → Int32) × (Nat → Int64) => wLw t a ao u.1 u.2) (fun k u => k = 2 ∧ u = (σ, f)) := by
  intro A
  refine va_MetW (cc := b_Lw_into) (maxL := 7) (ret := (some .int)) (hh := [(0, 14, 17, 24), (0, 14, 21, 13), (0, 14, 25, 15)]) (by decide) rfl ?_
  intro p e s m args below meth c s₁ B hml hv
  obtain ⟨rfl, ⟨hK, hP, hD⟩, hxo, hno⟩ := hv
  have hx := B.exec
  have hb := B.bytes
  have hr := B.returns
  have hts := atoms_spec (ws := .codeWith y_Lw_into b_Lw_into 7 (some .int) [(0, 14, 17, 24), (0, 14, 21, 13), (0, 14, 25, 15)] :: gBig) B.pre
  have hown : s.vm.findClass R_Lw = some m.cls := findClass_of_methodNamed B.named
  have hlocks := B.notSynchronized
  have hS : va_S A s.heap s.heap [] := va_S.rf
  have hl := lv_entry ([.ref (a 699), .int p0, .int p1, .int p2, .int p3, .ref ao]) (n := 7) (Nat.le_of_ble_eq_true rfl)
  rw [lg_entry_eq]
  generalize (lg_sl ([.ref (a 699), .int p0, .int p1, .int p2, .int p3, .ref ao]) ++ List.replicate (7 - (lg_sl ([.ref (a 699), .int p0, .int p1, .int p2, .int p3, .ref ao])).length) Slot.unset).toArray = ls at hl ⊢
  have hl : lv_has ls 7 [(0, .ref (a 699)), (1, .int p0), (2, .int p1), (3, .int p2), (4, .int p3), (5, .ref ao)] := hl
  refine lv_aload hx hb d_Lw_into_0 (lv_at hl 5 rfl) ?_
  refine lv_iconst (v := 0) hx hb d_Lw_into_2 (by decide) ?_
  refine lv_aload_n hx hb d_Lw_into_3 rfl (lv_at hl 0 rfl) ?_
  refine lv_iload_n hx hb d_Lw_into_4 rfl (lv_at hl 1 rfl) ?_
  refine lv_iload_n hx hb d_Lw_into_5 rfl (lv_at hl 2 rfl) ?_
  refine lv_iload_n hx hb d_Lw_into_6 rfl (lv_at hl 3 rfl) ?_
  refine lv_iload hx hb d_Lw_into_7 (lv_at hl 4 rfl) ?_
  have htab := h_tab B (hts _ List.mem_cons_self)
  refine x_caught (k := 4) (As := [.int p0, .int p1, .int p2, .int p3]) (rest := [.int 0, .ref ao]) (own := R_Lw) (C := R_Fb) (index := 48) (w1 := wFb t a σ) (w2 := [(ao, .inl (t 3, 1, .inr (.inl f)))]) ⟨hx, hb, hml, hown, hts⟩ hM (gg_Lw_48 _) (by decide +kernel) ⟨Nat.le_refl _, by show 8 + (5 + 11) + 40 * n ≤ 40 * (n + 1); omega⟩ rfl (va_recv hK.1 (gSplit hP).1 (ci := 6) (q0 := 0) rfl (wFb_o6 t a σ)) hK hP hD hS hxo hno hl.1 rfl (Nat.le_of_ble_eq_true rfl) ⟨Nat.le_refl _, Nat.le_refl _⟩ d_Lw_into_9 (pre := [⟨0, 14, 17, 24⟩]) (x9 := ⟨0, 14, 21, 13⟩) (rest9 := [⟨0, 14, 25, 15⟩]) htab (List.forall_mem_cons.mpr ⟨⟨"java/lang/IndexOutOfBoundsException", by decide, gIn k_517 (by decide +kernel), by decide⟩, fun _ h9 => nomatch h9⟩) (by decide) (by decide) (gIn k_386 (by decide +kernel)) (by decide) (hp9 := 21) rfl (fun v H hP hS => ?_)
  refine lv_astore hx hb d_Lw_into_21 hl (by decide) (lv' := ((6, .ref v) :: [(0, .ref (a 699)), (1, .int p0), (2, .int p1), (3, .int p2), (4, .int p3), (5, .ref ao)])) rfl (fun ls hl => ?_)
  refine lv_iconst (v := 2) hx hb d_Lw_into_23 (by decide) ?_
  exact W.iret (v := 2) hx hb hr (fun U hU hW => ⟨⟨2, (σ, f), rfl, ⟨rfl, rfl⟩, by rw [hU]; exact hP, hD⟩, hS.F hU⟩) hS.2.2 d_Lw_into_24
set_option maxHeartbeats 4000000 in
set_option maxRecDepth 100000 in
theorem x_Lw_into_ise (l : Launch) (D : va_G) (t : Nat → ClassId) (a : Nat → Nat) (ao : Nat) (σ : Nat → Nat → Int32) (f : Nat → Int64) (p0 p1 p2 p3 : Int32) (n : Nat) (hM : gMx l D t y_Fb_into b_Fb_into 5 (some .int) n [.ref (a 699), .int p0, .int p1, .int p2, .int p3] (wFb t a σ) "java/lang/IllegalStateException") : gMq l D t y_Lw_into b_Lw_into 7 [(0, 14, 17, 24), (0, 14, 21, 13), (0, 14, 25, 15)] (n + 1) [.ref (a 699), .int p0, .int p1, .int p2, .int p3, .ref ao] (wLw t a ao σ f) (fun u : (Nat → Nat → Int32) × (Nat → Int64) => wLw t a ao u.1 u.2) (fun k u => k = 3 ∧ u = (σ, f)) := by
  intro A
  refine va_MetW (cc := b_Lw_into) (maxL := 7) (ret := (some .int)) (hh := [(0, 14, 17, 24), (0, 14, 21, 13), (0, 14, 25, 15)]) (by decide) rfl ?_
  intro p e s m args below meth c s₁ B hml hv
  obtain ⟨rfl, ⟨hK, hP, hD⟩, hxo, hno⟩ := hv
  have hx := B.exec
  have hb := B.bytes
  have hr := B.returns
  have hts := atoms_spec (ws := .codeWith y_Lw_into b_Lw_into 7 (some .int) [(0, 14, 17, 24), (0, 14, 21, 13), (0, 14, 25, 15)] :: gBig) B.pre
  have hown : s.vm.findClass R_Lw = some m.cls := findClass_of_methodNamed B.named
  have hlocks := B.notSynchronized
  have hS : va_S A s.heap s.heap [] := va_S.rf
  have hl := lv_entry ([.ref (a 699), .int p0, .int p1, .int p2, .int p3, .ref ao]) (n := 7) (Nat.le_of_ble_eq_true rfl)
  rw [lg_entry_eq]
  generalize (lg_sl ([.ref (a 699), .int p0, .int p1, .int p2, .int p3, .ref ao]) ++ List.replicate (7 - (lg_sl ([.ref (a 699), .int p0, .int p1, .int p2, .int p3, .ref ao])).length) Slot.unset).toArray = ls at hl ⊢
  have hl : lv_has ls 7 [(0, .ref (a 699)), (1, .int p0), (2, .int p1), (3, .int p2), (4, .int p3), (5, .ref ao)] := hl
  refine lv_aload hx hb d_Lw_into_0 (lv_at hl 5 rfl) ?_
  refine lv_iconst (v := 0) hx hb d_Lw_into_2 (by decide) ?_
  refine lv_aload_n hx hb d_Lw_into_3 rfl (lv_at hl 0 rfl) ?_
  refine lv_iload_n hx hb d_Lw_into_4 rfl (lv_at hl 1 rfl) ?_
  refine lv_iload_n hx hb d_Lw_into_5 rfl (lv_at hl 2 rfl) ?_
  refine lv_iload_n hx hb d_Lw_into_6 rfl (lv_at hl 3 rfl) ?_
  refine lv_iload hx hb d_Lw_into_7 (lv_at hl 4 rfl) ?_
  have htab := h_tab B (hts _ List.mem_cons_self)
  refine x_caught (k := 4) (As := [.int p0, .int p1, .int p2, .int p3]) (rest := [.int 0, .ref ao]) (own := R_Lw) (C := R_Fb) (index := 48) (w1 := wFb t a σ) (w2 := [(ao, .inl (t 3, 1, .inr (.inl f)))]) ⟨hx, hb, hml, hown, hts⟩ hM (gg_Lw_48 _) (by decide +kernel) ⟨Nat.le_refl _, by show 8 + (5 + 11) + 40 * n ≤ 40 * (n + 1); omega⟩ rfl (va_recv hK.1 (gSplit hP).1 (ci := 6) (q0 := 0) rfl (wFb_o6 t a σ)) hK hP hD hS hxo hno hl.1 rfl (Nat.le_of_ble_eq_true rfl) ⟨Nat.le_refl _, Nat.le_refl _⟩ d_Lw_into_9 (pre := [⟨0, 14, 17, 24⟩, ⟨0, 14, 21, 13⟩]) (x9 := ⟨0, 14, 25, 15⟩) (rest9 := []) htab (List.forall_mem_cons.mpr ⟨⟨"java/lang/IndexOutOfBoundsException", by decide, gIn k_517 (by decide +kernel), by decide⟩, List.forall_mem_cons.mpr ⟨⟨"java/lang/IllegalArgumentException", by decide, gIn k_386 (by decide +kernel), by decide⟩, fun _ h9 => nomatch h9⟩⟩) (by decide) (by decide) (gIn k_387 (by decide +kernel)) (by decide) (hp9 := 25) rfl (fun v H hP hS => ?_)
  refine lv_astore hx hb d_Lw_into_25 hl (by decide) (lv' := ((6, .ref v) :: [(0, .ref (a 699)), (1, .int p0), (2, .int p1), (3, .int p2), (4, .int p3), (5, .ref ao)])) rfl (fun ls hl => ?_)
  refine lv_iconst (v := 3) hx hb d_Lw_into_27 (by decide) ?_
  exact W.iret (v := 3) hx hb hr (fun U hU hW => ⟨⟨3, (σ, f), rfl, ⟨rfl, rfl⟩, by rw [hU]; exact hP, hD⟩, hS.F hU⟩) hS.2.2 d_Lw_into_28
set_option maxHeartbeats 4000000 in
set_option maxRecDepth 100000 in
theorem r_Lw_counted (l : Launch) (D : va_G) (t : Nat → ClassId) (a : Nat → Nat) (ao : Nat) (σ : Nat → Nat → Int32) (f : Nat → Int64) (p0 p1 : Int32) (n : Nat) (Rv : Int32) (Uv : Nat → Nat → Int32) (hM : gMi l D t y_Fb_counted b_Fb_counted 3 (some .int) n [.ref (a 699), .int p0, .int p1] (wFb t a σ) (wFb t a) (fun r u => r = Rv ∧ u = Uv)) : gMq l D t y_Lw_counted b_Lw_counted 5 [(0, 10, 13, 24), (0, 10, 17, 13)] (n + 1) [.ref (a 699), .int p0, .int p1, .ref ao] (wLw t a ao σ f) (fun u : (Nat → Nat → Int32) × (Nat → Int64) => wLw t a ao u.1 u.2) (fun k u => k = 0 ∧ u = (Uv, vp_updL f 0 Rv.toInt64)) := by
  intro A
  refine va_MetW (cc := b_Lw_counted) (maxL := 5) (ret := (some .int)) (hh := [(0, 10, 13, 24), (0, 10, 17, 13)]) (by decide) rfl ?_
  intro p e s m args below meth c s₁ B hml hv
  obtain ⟨rfl, ⟨hK, hP, hD⟩, hxo, hno⟩ := hv
  have hx := B.exec
  have hb := B.bytes
  have hr := B.returns
  have hts := atoms_spec (ws := .codeWith y_Lw_counted b_Lw_counted 5 (some .int) [(0, 10, 13, 24), (0, 10, 17, 13)] :: gBig) B.pre
  have hown : s.vm.findClass R_Lw = some m.cls := findClass_of_methodNamed B.named
  have hlocks := B.notSynchronized
  have hS : va_S A s.heap s.heap [] := va_S.rf
  have hl := lv_entry ([.ref (a 699), .int p0, .int p1, .ref ao]) (n := 5) (Nat.le_of_ble_eq_true rfl)
  rw [lg_entry_eq]
  generalize (lg_sl ([.ref (a 699), .int p0, .int p1, .ref ao]) ++ List.replicate (5 - (lg_sl ([.ref (a 699), .int p0, .int p1, .ref ao])).length) Slot.unset).toArray = ls at hl ⊢
  have hl : lv_has ls 5 [(0, .ref (a 699)), (1, .int p0), (2, .int p1), (3, .ref ao)] := hl
  refine W.widen (k := 1) (n := 6) (Nat.zero_le _) (Nat.zero_le _) ?_
  refine lv_aload_n hx hb d_Lw_counted_0 rfl (lv_at hl 3 rfl) ?_
  refine lv_iconst (v := 0) hx hb d_Lw_counted_1 (by decide) ?_
  refine lv_aload_n hx hb d_Lw_counted_2 rfl (lv_at hl 0 rfl) ?_
  refine lv_iload_n hx hb d_Lw_counted_3 rfl (lv_at hl 1 rfl) ?_
  refine lv_iload_n hx hb d_Lw_counted_4 rfl (lv_at hl 2 rfl) ?_
  refine g_viS (k := 2) (As := [.int p0, .int p1]) (rest := [.int 0, .ref ao]) (own := R_Lw) (C := R_Fb) (index := 52) (w1 := wFb t a σ) (w2 := [(ao, .inl (t 3, 1, .inr (.inl f)))]) ⟨hx, hb, hml, hown, hts⟩ hM (gg_Lw_52 _) (by decide +kernel) ⟨Nat.le_refl _, by show 8 + (3 + 11) + 40 * n ≤ 40 * (n + 1); omega⟩ rfl (va_recv hK.1 (gSplit hP).1 (ci := 6) (q0 := 0) rfl (wFb_o6 t a σ)) hK hP hD hS hl.1 rfl (Nat.le_of_ble_eq_true rfl) ⟨Nat.le_refl _, Nat.le_refl _⟩ d_Lw_counted_5 (fun r_1 u_1 H locs q_1 hP hD hS => ?_)
  obtain ⟨hr_1, hu_1⟩ := q_1
  subst hr_1
  subst hu_1
  refine lv_i2l (v := r_1.toInt64) hx hb d_Lw_counted_8 rfl ?_
  refine va_last hx hb hK.1 hP hD hS 67 3 (a := ao) (cA := t 3) (n := 1) (f := f) rfl rfl (i := 0) (by unfold vp_in; decide) d_Lw_counted_9 (fun H locs hP hD hS => ?_)
  have hP : va_P D gCl (wLw t a ao u_1 (vp_updL f 0 r_1.toInt64)) H := hP
  have hD : va_D A (wLw t a ao u_1 (vp_updL f 0 r_1.toInt64)) := hD
  refine lv_goto (tgt := 21) hx hb d_Lw_counted_10 (by decide) ?_
  refine lv_iconst (v := 0) hx hb d_Lw_counted_21 (by decide) ?_
  exact W.iret (v := 0) hx hb hr (fun U hU hW => ⟨⟨0, (u_1, vp_updL f 0 r_1.toInt64), rfl, ⟨rfl, rfl⟩, by rw [hU]; exact hP, hD⟩, hS.F hU⟩) hS.2.2 d_Lw_counted_22
set_option maxHeartbeats 4000000 in
set_option maxRecDepth 100000 in
theorem x_Lw_counted_iob (l : Launch) (D : va_G) (t : Nat → ClassId) (a : Nat → Nat) (ao : Nat) (σ : Nat → Nat → Int32) (f : Nat → Int64) (p0 p1 : Int32) (n : Nat) (hM : gMx l D t y_Fb_counted b_Fb_counted 3 (some .int) n [.ref (a 699), .int p0, .int p1] (wFb t a σ) "java/lang/IndexOutOfBoundsException") : gMq l D t y_Lw_counted b_Lw_counted 5 [(0, 10, 13, 24), (0, 10, 17, 13)] (n + 1) [.ref (a 699), .int p0, .int p1, .ref ao] (wLw t a ao σ f) (fun u : (Nat → Nat → Int32) × (Nat → Int64) => wLw t a ao u.1 u.2) (fun k u => k = 1 ∧ u = (σ, f)) := by
  intro A
  refine va_MetW (cc := b_Lw_counted) (maxL := 5) (ret := (some .int)) (hh := [(0, 10, 13, 24), (0, 10, 17, 13)]) (by decide) rfl ?_
  intro p e s m args below meth c s₁ B hml hv
  obtain ⟨rfl, ⟨hK, hP, hD⟩, hxo, hno⟩ := hv
  have hx := B.exec
  have hb := B.bytes
  have hr := B.returns
  have hts := atoms_spec (ws := .codeWith y_Lw_counted b_Lw_counted 5 (some .int) [(0, 10, 13, 24), (0, 10, 17, 13)] :: gBig) B.pre
  have hown : s.vm.findClass R_Lw = some m.cls := findClass_of_methodNamed B.named
  have hlocks := B.notSynchronized
  have hS : va_S A s.heap s.heap [] := va_S.rf
  have hl := lv_entry ([.ref (a 699), .int p0, .int p1, .ref ao]) (n := 5) (Nat.le_of_ble_eq_true rfl)
  rw [lg_entry_eq]
  generalize (lg_sl ([.ref (a 699), .int p0, .int p1, .ref ao]) ++ List.replicate (5 - (lg_sl ([.ref (a 699), .int p0, .int p1, .ref ao])).length) Slot.unset).toArray = ls at hl ⊢
  have hl : lv_has ls 5 [(0, .ref (a 699)), (1, .int p0), (2, .int p1), (3, .ref ao)] := hl
  refine lv_aload_n hx hb d_Lw_counted_0 rfl (lv_at hl 3 rfl) ?_
  refine lv_iconst (v := 0) hx hb d_Lw_counted_1 (by decide) ?_
  refine lv_aload_n hx hb d_Lw_counted_2 rfl (lv_at hl 0 rfl) ?_
  refine lv_iload_n hx hb d_Lw_counted_3 rfl (lv_at hl 1 rfl) ?_
  refine lv_iload_n hx hb d_Lw_counted_4 rfl (lv_at hl 2 rfl) ?_
  have htab := h_tab B (hts _ List.mem_cons_self)
  refine x_caught (k := 2) (As := [.int p0, .int p1]) (rest := [.int 0, .ref ao]) (own := R_Lw) (C := R_Fb) (index := 52) (w1 := wFb t a σ) (w2 := [(ao, .inl (t 3, 1, .inr (.inl f)))]) ⟨hx, hb, hml, hown, hts⟩ hM (gg_Lw_52 _) (by decide +kernel) ⟨Nat.le_refl _, by show 8 + (3 + 11) + 40 * n ≤ 40 * (n + 1); omega⟩ rfl (va_recv hK.1 (gSplit hP).1 (ci := 6) (q0 := 0) rfl (wFb_o6 t a σ)) hK hP hD hS hxo hno hl.1 rfl (Nat.le_of_ble_eq_true rfl) ⟨Nat.le_refl _, Nat.le_refl _⟩ d_Lw_counted_5 (pre := []) (x9 := ⟨0, 10, 13, 24⟩) (rest9 := [⟨0, 10, 17, 13⟩]) htab (fun y9 hy9 => nomatch hy9) (by decide) (by decide) (gIn k_517 (by decide +kernel)) (by decide) (hp9 := 13) rfl (fun v H hP hS => ?_)
  refine lv_astore hx hb d_Lw_counted_13 hl (by decide) (lv' := ((4, .ref v) :: [(0, .ref (a 699)), (1, .int p0), (2, .int p1), (3, .ref ao)])) rfl (fun ls hl => ?_)
  refine lv_iconst (v := 1) hx hb d_Lw_counted_15 (by decide) ?_
  exact W.iret (v := 1) hx hb hr (fun U hU hW => ⟨⟨1, (σ, f), rfl, ⟨rfl, rfl⟩, by rw [hU]; exact hP, hD⟩, hS.F hU⟩) hS.2.2 d_Lw_counted_16
set_option maxHeartbeats 4000000 in
set_option maxRecDepth 100000 in
theorem x_Lw_counted_iae (l : Launch) (D : va_G) (t : Nat → ClassId) (a : Nat → Nat) (ao : Nat) (σ : Nat → Nat → Int32) (f : Nat → Int64) (p0 p1 : Int32) (n : Nat) (hM : gMx l D t y_Fb_counted b_Fb_counted 3 (some .int) n [.ref (a 699), .int p0, .int p1] (wFb t a σ) "java/lang/IllegalArgumentException") : gMq l D t y_Lw_counted b_Lw_counted 5 [(0, 10, 13, 24), (0, 10, 17, 13)] (n + 1) [.ref (a 699), .int p0, .int p1, .ref ao] (wLw t a ao σ f) (fun u : (Nat → Nat → Int32) × (Nat → Int64) => wLw t a ao u.1 u.2) (fun k u => k = 2 ∧ u = (σ, f)) := by
  intro A
  refine va_MetW (cc := b_Lw_counted) (maxL := 5) (ret := (some .int)) (hh := [(0, 10, 13, 24), (0, 10, 17, 13)]) (by decide) rfl ?_
  intro p e s m args below meth c s₁ B hml hv
  obtain ⟨rfl, ⟨hK, hP, hD⟩, hxo, hno⟩ := hv
  have hx := B.exec
  have hb := B.bytes
  have hr := B.returns
  have hts := atoms_spec (ws := .codeWith y_Lw_counted b_Lw_counted 5 (some .int) [(0, 10, 13, 24), (0, 10, 17, 13)] :: gBig) B.pre
  have hown : s.vm.findClass R_Lw = some m.cls := findClass_of_methodNamed B.named
  have hlocks := B.notSynchronized
  have hS : va_S A s.heap s.heap [] := va_S.rf
  have hl := lv_entry ([.ref (a 699), .int p0, .int p1, .ref ao]) (n := 5) (Nat.le_of_ble_eq_true rfl)
  rw [lg_entry_eq]
  generalize (lg_sl ([.ref (a 699), .int p0, .int p1, .ref ao]) ++ List.replicate (5 - (lg_sl ([.ref (a 699), .int p0, .int p1, .ref ao])).length) Slot.unset).toArray = ls at hl ⊢
  have hl : lv_has ls 5 [(0, .ref (a 699)), (1, .int p0), (2, .int p1), (3, .ref ao)] := hl
  refine lv_aload_n hx hb d_Lw_counted_0 rfl (lv_at hl 3 rfl) ?_
  refine lv_iconst (v := 0) hx hb d_Lw_counted_1 (by decide) ?_
  refine lv_aload_n hx hb d_Lw_counted_2 rfl (lv_at hl 0 rfl) ?_
  refine lv_iload_n hx hb d_Lw_counted_3 rfl (lv_at hl 1 rfl) ?_
  refine lv_iload_n hx hb d_Lw_counted_4 rfl (lv_at hl 2 rfl) ?_
  have htab := h_tab B (hts _ List.mem_cons_self)
  refine x_caught (k := 2) (As := [.int p0, .int p1]) (rest := [.int 0, .ref ao]) (own := R_Lw) (C := R_Fb) (index := 52) (w1 := wFb t a σ) (w2 := [(ao, .inl (t 3, 1, .inr (.inl f)))]) ⟨hx, hb, hml, hown, hts⟩ hM (gg_Lw_52 _) (by decide +kernel) ⟨Nat.le_refl _, by show 8 + (3 + 11) + 40 * n ≤ 40 * (n + 1); omega⟩ rfl (va_recv hK.1 (gSplit hP).1 (ci := 6) (q0 := 0) rfl (wFb_o6 t a σ)) hK hP hD hS hxo hno hl.1 rfl (Nat.le_of_ble_eq_true rfl) ⟨Nat.le_refl _, Nat.le_refl _⟩ d_Lw_counted_5 (pre := [⟨0, 10, 13, 24⟩]) (x9 := ⟨0, 10, 17, 13⟩) (rest9 := []) htab (List.forall_mem_cons.mpr ⟨⟨"java/lang/IndexOutOfBoundsException", by decide, gIn k_517 (by decide +kernel), by decide⟩, fun _ h9 => nomatch h9⟩) (by decide) (by decide) (gIn k_386 (by decide +kernel)) (by decide) (hp9 := 17) rfl (fun v H hP hS => ?_)
  refine lv_astore hx hb d_Lw_counted_17 hl (by decide) (lv' := ((4, .ref v) :: [(0, .ref (a 699)), (1, .int p0), (2, .int p1), (3, .ref ao)])) rfl (fun ls hl => ?_)
  refine lv_iconst (v := 2) hx hb d_Lw_counted_19 (by decide) ?_
  exact W.iret (v := 2) hx hb hr (fun U hU hW => ⟨⟨2, (σ, f), rfl, ⟨rfl, rfl⟩, by rw [hU]; exact hP, hD⟩, hS.F hU⟩) hS.2.2 d_Lw_counted_20
set_option maxHeartbeats 4000000 in
set_option maxRecDepth 100000 in
theorem r_Lw_raised (l : Launch) (D : va_G) (t : Nat → ClassId) (a : Nat → Nat) (ao : Nat) (σ : Nat → Nat → Int32) (f : Nat → Int64) (p0 p1 : Int32) (n : Nat) (Rv : Int32) (Uv : Nat → Nat → Int32) (hM : gMi l D t y_Fb_raised b_Fb_raised 6 (some .boolean) n [.ref (a 699), .int p0, .int p1] (wFb t a σ) (wFb t a) (fun r u => r = Rv ∧ u = Uv)) : gMq l D t y_Lw_raised b_Lw_raised 5 [(0, 17, 20, 15), (0, 17, 24, 24), (0, 17, 28, 13)] (n + 1) [.ref (a 699), .int p0, .int p1, .ref ao] (wLw t a ao σ f) (fun u : (Nat → Nat → Int32) × (Nat → Int64) => wLw t a ao u.1 u.2) (fun k u => k = 0 ∧ u = (Uv, vp_updL f 0 (if Rv = 0 then 0 else 1 : Int64))) := by
  intro A
  refine va_MetW (cc := b_Lw_raised) (maxL := 5) (ret := (some .int)) (hh := [(0, 17, 20, 15), (0, 17, 24, 24), (0, 17, 28, 13)]) (by decide) rfl ?_
  intro p e s m args below meth c s₁ B hml hv
  obtain ⟨rfl, ⟨hK, hP, hD⟩, hxo, hno⟩ := hv
  have hx := B.exec
  have hb := B.bytes
  have hr := B.returns
  have hts := atoms_spec (ws := .codeWith y_Lw_raised b_Lw_raised 5 (some .int) [(0, 17, 20, 15), (0, 17, 24, 24), (0, 17, 28, 13)] :: gBig) B.pre
  have hown : s.vm.findClass R_Lw = some m.cls := findClass_of_methodNamed B.named
  have hlocks := B.notSynchronized
  have hS : va_S A s.heap s.heap [] := va_S.rf
  have hl := lv_entry ([.ref (a 699), .int p0, .int p1, .ref ao]) (n := 5) (Nat.le_of_ble_eq_true rfl)
  rw [lg_entry_eq]
  generalize (lg_sl ([.ref (a 699), .int p0, .int p1, .ref ao]) ++ List.replicate (5 - (lg_sl ([.ref (a 699), .int p0, .int p1, .ref ao])).length) Slot.unset).toArray = ls at hl ⊢
  have hl : lv_has ls 5 [(0, .ref (a 699)), (1, .int p0), (2, .int p1), (3, .ref ao)] := hl
  refine W.widen (k := 1) (n := 6) (Nat.zero_le _) (Nat.zero_le _) ?_
  refine lv_aload_n hx hb d_Lw_raised_0 rfl (lv_at hl 3 rfl) ?_
  refine lv_iconst (v := 0) hx hb d_Lw_raised_1 (by decide) ?_
  refine lv_aload_n hx hb d_Lw_raised_2 rfl (lv_at hl 0 rfl) ?_
  refine lv_iload_n hx hb d_Lw_raised_3 rfl (lv_at hl 1 rfl) ?_
  refine lv_iload_n hx hb d_Lw_raised_4 rfl (lv_at hl 2 rfl) ?_
  refine g_viS (k := 2) (As := [.int p0, .int p1]) (rest := [.int 0, .ref ao]) (own := R_Lw) (C := R_Fb) (index := 55) (w1 := wFb t a σ) (w2 := [(ao, .inl (t 3, 1, .inr (.inl f)))]) ⟨hx, hb, hml, hown, hts⟩ hM (gg_Lw_55 _) (by decide +kernel) ⟨Nat.le_refl _, by show 8 + (6 + 11) + 40 * n ≤ 40 * (n + 1); omega⟩ rfl (va_recv hK.1 (gSplit hP).1 (ci := 6) (q0 := 0) rfl (wFb_o6 t a σ)) hK hP hD hS hl.1 rfl (Nat.le_of_ble_eq_true rfl) ⟨Nat.le_refl _, Nat.le_refl _⟩ d_Lw_raised_5 (fun r_1 u_1 H locs q_1 hP hD hS => ?_)
  obtain ⟨hr_1, hu_1⟩ := q_1
  subst hr_1
  subst hu_1
  refine lv_if_eq (tgt := 15) hx hb d_Lw_raised_8 (by decide) (fun c_1 => ?_) (fun c_1 => ?_)
  · refine lv_lconst (v := 0) hx hb d_Lw_raised_15 (by decide) ?_
    refine va_last hx hb hK.1 hP hD hS 67 3 (a := ao) (cA := t 3) (n := 1) (f := f) rfl rfl (i := 0) (by unfold vp_in; decide) d_Lw_raised_16 (fun H locs hP hD hS => ?_)
    have hP : va_P D gCl (wLw t a ao u_1 (vp_updL f 0 0)) H := hP
    have hD : va_D A (wLw t a ao u_1 (vp_updL f 0 0)) := hD
    refine lv_goto (tgt := 32) hx hb d_Lw_raised_17 (by decide) ?_
    refine lv_iconst (v := 0) hx hb d_Lw_raised_32 (by decide) ?_
    exact W.iret (v := 0) hx hb hr (fun U hU hW => ⟨⟨0, (u_1, vp_updL f 0 0), rfl, ⟨rfl, by rw [if_pos c_1]⟩, by rw [hU]; exact hP, hD⟩, hS.F hU⟩) hS.2.2 d_Lw_raised_33
  · refine lv_lconst (v := 1) hx hb d_Lw_raised_11 (by decide) ?_
    refine lv_goto (tgt := 16) hx hb d_Lw_raised_12 (by decide) ?_
    refine va_last hx hb hK.1 hP hD hS 67 3 (a := ao) (cA := t 3) (n := 1) (f := f) rfl rfl (i := 0) (by unfold vp_in; decide) d_Lw_raised_16 (fun H locs hP hD hS => ?_)
    have hP : va_P D gCl (wLw t a ao u_1 (vp_updL f 0 1)) H := hP
    have hD : va_D A (wLw t a ao u_1 (vp_updL f 0 1)) := hD
    refine lv_goto (tgt := 32) hx hb d_Lw_raised_17 (by decide) ?_
    refine lv_iconst (v := 0) hx hb d_Lw_raised_32 (by decide) ?_
    exact W.iret (v := 0) hx hb hr (fun U hU hW => ⟨⟨0, (u_1, vp_updL f 0 1), rfl, ⟨rfl, by rw [if_neg c_1]⟩, by rw [hU]; exact hP, hD⟩, hS.F hU⟩) hS.2.2 d_Lw_raised_33
set_option maxHeartbeats 4000000 in
set_option maxRecDepth 100000 in
theorem x_Lw_raised_ise (l : Launch) (D : va_G) (t : Nat → ClassId) (a : Nat → Nat) (ao : Nat) (σ : Nat → Nat → Int32) (f : Nat → Int64) (p0 p1 : Int32) (n : Nat) (hM : gMx l D t y_Fb_raised b_Fb_raised 6 (some .boolean) n [.ref (a 699), .int p0, .int p1] (wFb t a σ) "java/lang/IllegalStateException") : gMq l D t y_Lw_raised b_Lw_raised 5 [(0, 17, 20, 15), (0, 17, 24, 24), (0, 17, 28, 13)] (n + 1) [.ref (a 699), .int p0, .int p1, .ref ao] (wLw t a ao σ f) (fun u : (Nat → Nat → Int32) × (Nat → Int64) => wLw t a ao u.1 u.2) (fun k u => k = 1 ∧ u = (σ, f)) := by
  intro A
  refine va_MetW (cc := b_Lw_raised) (maxL := 5) (ret := (some .int)) (hh := [(0, 17, 20, 15), (0, 17, 24, 24), (0, 17, 28, 13)]) (by decide) rfl ?_
  intro p e s m args below meth c s₁ B hml hv
  obtain ⟨rfl, ⟨hK, hP, hD⟩, hxo, hno⟩ := hv
  have hx := B.exec
  have hb := B.bytes
  have hr := B.returns
  have hts := atoms_spec (ws := .codeWith y_Lw_raised b_Lw_raised 5 (some .int) [(0, 17, 20, 15), (0, 17, 24, 24), (0, 17, 28, 13)] :: gBig) B.pre
  have hown : s.vm.findClass R_Lw = some m.cls := findClass_of_methodNamed B.named
  have hlocks := B.notSynchronized
  have hS : va_S A s.heap s.heap [] := va_S.rf
  have hl := lv_entry ([.ref (a 699), .int p0, .int p1, .ref ao]) (n := 5) (Nat.le_of_ble_eq_true rfl)
  rw [lg_entry_eq]
  generalize (lg_sl ([.ref (a 699), .int p0, .int p1, .ref ao]) ++ List.replicate (5 - (lg_sl ([.ref (a 699), .int p0, .int p1, .ref ao])).length) Slot.unset).toArray = ls at hl ⊢
  have hl : lv_has ls 5 [(0, .ref (a 699)), (1, .int p0), (2, .int p1), (3, .ref ao)] := hl
  refine lv_aload_n hx hb d_Lw_raised_0 rfl (lv_at hl 3 rfl) ?_
  refine lv_iconst (v := 0) hx hb d_Lw_raised_1 (by decide) ?_
  refine lv_aload_n hx hb d_Lw_raised_2 rfl (lv_at hl 0 rfl) ?_
  refine lv_iload_n hx hb d_Lw_raised_3 rfl (lv_at hl 1 rfl) ?_
  refine lv_iload_n hx hb d_Lw_raised_4 rfl (lv_at hl 2 rfl) ?_
  have htab := h_tab B (hts _ List.mem_cons_self)
  refine x_caught (k := 2) (As := [.int p0, .int p1]) (rest := [.int 0, .ref ao]) (own := R_Lw) (C := R_Fb) (index := 55) (w1 := wFb t a σ) (w2 := [(ao, .inl (t 3, 1, .inr (.inl f)))]) ⟨hx, hb, hml, hown, hts⟩ hM (gg_Lw_55 _) (by decide +kernel) ⟨Nat.le_refl _, by show 8 + (6 + 11) + 40 * n ≤ 40 * (n + 1); omega⟩ rfl (va_recv hK.1 (gSplit hP).1 (ci := 6) (q0 := 0) rfl (wFb_o6 t a σ)) hK hP hD hS hxo hno hl.1 rfl (Nat.le_of_ble_eq_true rfl) ⟨Nat.le_refl _, Nat.le_refl _⟩ d_Lw_raised_5 (pre := []) (x9 := ⟨0, 17, 20, 15⟩) (rest9 := [⟨0, 17, 24, 24⟩, ⟨0, 17, 28, 13⟩]) htab (fun y9 hy9 => nomatch hy9) (by decide) (by decide) (gIn k_387 (by decide +kernel)) (by decide) (hp9 := 20) rfl (fun v H hP hS => ?_)
  refine lv_astore hx hb d_Lw_raised_20 hl (by decide) (lv' := ((4, .ref v) :: [(0, .ref (a 699)), (1, .int p0), (2, .int p1), (3, .ref ao)])) rfl (fun ls hl => ?_)
  refine lv_iconst (v := 1) hx hb d_Lw_raised_22 (by decide) ?_
  exact W.iret (v := 1) hx hb hr (fun U hU hW => ⟨⟨1, (σ, f), rfl, ⟨rfl, rfl⟩, by rw [hU]; exact hP, hD⟩, hS.F hU⟩) hS.2.2 d_Lw_raised_23
set_option maxHeartbeats 4000000 in
set_option maxRecDepth 100000 in
theorem x_Lw_raised_iob (l : Launch) (D : va_G) (t : Nat → ClassId) (a : Nat → Nat) (ao : Nat) (σ : Nat → Nat → Int32) (f : Nat → Int64) (p0 p1 : Int32) (n : Nat) (hM : gMx l D t y_Fb_raised b_Fb_raised 6 (some .boolean) n [.ref (a 699), .int p0, .int p1] (wFb t a σ) "java/lang/IndexOutOfBoundsException") : gMq l D t y_Lw_raised b_Lw_raised 5 [(0, 17, 20, 15), (0, 17, 24, 24), (0, 17, 28, 13)] (n + 1) [.ref (a 699), .int p0, .int p1, .ref ao] (wLw t a ao σ f) (fun u : (Nat → Nat → Int32) × (Nat → Int64) => wLw t a ao u.1 u.2) (fun k u => k = 2 ∧ u = (σ, f)) := by
  intro A
  refine va_MetW (cc := b_Lw_raised) (maxL := 5) (ret := (some .int)) (hh := [(0, 17, 20, 15), (0, 17, 24, 24), (0, 17, 28, 13)]) (by decide) rfl ?_
  intro p e s m args below meth c s₁ B hml hv
  obtain ⟨rfl, ⟨hK, hP, hD⟩, hxo, hno⟩ := hv
  have hx := B.exec
  have hb := B.bytes
  have hr := B.returns
  have hts := atoms_spec (ws := .codeWith y_Lw_raised b_Lw_raised 5 (some .int) [(0, 17, 20, 15), (0, 17, 24, 24), (0, 17, 28, 13)] :: gBig) B.pre
  have hown : s.vm.findClass R_Lw = some m.cls := findClass_of_methodNamed B.named
  have hlocks := B.notSynchronized
  have hS : va_S A s.heap s.heap [] := va_S.rf
  have hl := lv_entry ([.ref (a 699), .int p0, .int p1, .ref ao]) (n := 5) (Nat.le_of_ble_eq_true rfl)
  rw [lg_entry_eq]
  generalize (lg_sl ([.ref (a 699), .int p0, .int p1, .ref ao]) ++ List.replicate (5 - (lg_sl ([.ref (a 699), .int p0, .int p1, .ref ao])).length) Slot.unset).toArray = ls at hl ⊢
  have hl : lv_has ls 5 [(0, .ref (a 699)), (1, .int p0), (2, .int p1), (3, .ref ao)] := hl
  refine lv_aload_n hx hb d_Lw_raised_0 rfl (lv_at hl 3 rfl) ?_
  refine lv_iconst (v := 0) hx hb d_Lw_raised_1 (by decide) ?_
  refine lv_aload_n hx hb d_Lw_raised_2 rfl (lv_at hl 0 rfl) ?_
  refine lv_iload_n hx hb d_Lw_raised_3 rfl (lv_at hl 1 rfl) ?_
  refine lv_iload_n hx hb d_Lw_raised_4 rfl (lv_at hl 2 rfl) ?_
  have htab := h_tab B (hts _ List.mem_cons_self)
  refine x_caught (k := 2) (As := [.int p0, .int p1]) (rest := [.int 0, .ref ao]) (own := R_Lw) (C := R_Fb) (index := 55) (w1 := wFb t a σ) (w2 := [(ao, .inl (t 3, 1, .inr (.inl f)))]) ⟨hx, hb, hml, hown, hts⟩ hM (gg_Lw_55 _) (by decide +kernel) ⟨Nat.le_refl _, by show 8 + (6 + 11) + 40 * n ≤ 40 * (n + 1); omega⟩ rfl (va_recv hK.1 (gSplit hP).1 (ci := 6) (q0 := 0) rfl (wFb_o6 t a σ)) hK hP hD hS hxo hno hl.1 rfl (Nat.le_of_ble_eq_true rfl) ⟨Nat.le_refl _, Nat.le_refl _⟩ d_Lw_raised_5 (pre := [⟨0, 17, 20, 15⟩]) (x9 := ⟨0, 17, 24, 24⟩) (rest9 := [⟨0, 17, 28, 13⟩]) htab (List.forall_mem_cons.mpr ⟨⟨"java/lang/IllegalStateException", by decide, gIn k_387 (by decide +kernel), by decide⟩, fun _ h9 => nomatch h9⟩) (by decide) (by decide) (gIn k_517 (by decide +kernel)) (by decide) (hp9 := 24) rfl (fun v H hP hS => ?_)
  refine lv_astore hx hb d_Lw_raised_24 hl (by decide) (lv' := ((4, .ref v) :: [(0, .ref (a 699)), (1, .int p0), (2, .int p1), (3, .ref ao)])) rfl (fun ls hl => ?_)
  refine lv_iconst (v := 2) hx hb d_Lw_raised_26 (by decide) ?_
  exact W.iret (v := 2) hx hb hr (fun U hU hW => ⟨⟨2, (σ, f), rfl, ⟨rfl, rfl⟩, by rw [hU]; exact hP, hD⟩, hS.F hU⟩) hS.2.2 d_Lw_raised_27
set_option maxHeartbeats 4000000 in
set_option maxRecDepth 100000 in
theorem x_Lw_raised_iae (l : Launch) (D : va_G) (t : Nat → ClassId) (a : Nat → Nat) (ao : Nat) (σ : Nat → Nat → Int32) (f : Nat → Int64) (p0 p1 : Int32) (n : Nat) (hM : gMx l D t y_Fb_raised b_Fb_raised 6 (some .boolean) n [.ref (a 699), .int p0, .int p1] (wFb t a σ) "java/lang/IllegalArgumentException") : gMq l D t y_Lw_raised b_Lw_raised 5 [(0, 17, 20, 15), (0, 17, 24, 24), (0, 17, 28, 13)] (n + 1) [.ref (a 699), .int p0, .int p1, .ref ao] (wLw t a ao σ f) (fun u : (Nat → Nat → Int32) × (Nat → Int64) => wLw t a ao u.1 u.2) (fun k u => k = 3 ∧ u = (σ, f)) := by
  intro A
  refine va_MetW (cc := b_Lw_raised) (maxL := 5) (ret := (some .int)) (hh := [(0, 17, 20, 15), (0, 17, 24, 24), (0, 17, 28, 13)]) (by decide) rfl ?_
  intro p e s m args below meth c s₁ B hml hv
  obtain ⟨rfl, ⟨hK, hP, hD⟩, hxo, hno⟩ := hv
  have hx := B.exec
  have hb := B.bytes
  have hr := B.returns
  have hts := atoms_spec (ws := .codeWith y_Lw_raised b_Lw_raised 5 (some .int) [(0, 17, 20, 15), (0, 17, 24, 24), (0, 17, 28, 13)] :: gBig) B.pre
  have hown : s.vm.findClass R_Lw = some m.cls := findClass_of_methodNamed B.named
  have hlocks := B.notSynchronized
  have hS : va_S A s.heap s.heap [] := va_S.rf
  have hl := lv_entry ([.ref (a 699), .int p0, .int p1, .ref ao]) (n := 5) (Nat.le_of_ble_eq_true rfl)
  rw [lg_entry_eq]
  generalize (lg_sl ([.ref (a 699), .int p0, .int p1, .ref ao]) ++ List.replicate (5 - (lg_sl ([.ref (a 699), .int p0, .int p1, .ref ao])).length) Slot.unset).toArray = ls at hl ⊢
  have hl : lv_has ls 5 [(0, .ref (a 699)), (1, .int p0), (2, .int p1), (3, .ref ao)] := hl
  refine lv_aload_n hx hb d_Lw_raised_0 rfl (lv_at hl 3 rfl) ?_
  refine lv_iconst (v := 0) hx hb d_Lw_raised_1 (by decide) ?_
  refine lv_aload_n hx hb d_Lw_raised_2 rfl (lv_at hl 0 rfl) ?_
  refine lv_iload_n hx hb d_Lw_raised_3 rfl (lv_at hl 1 rfl) ?_
  refine lv_iload_n hx hb d_Lw_raised_4 rfl (lv_at hl 2 rfl) ?_
  have htab := h_tab B (hts _ List.mem_cons_self)
  refine x_caught (k := 2) (As := [.int p0, .int p1]) (rest := [.int 0, .ref ao]) (own := R_Lw) (C := R_Fb) (index := 55) (w1 := wFb t a σ) (w2 := [(ao, .inl (t 3, 1, .inr (.inl f)))]) ⟨hx, hb, hml, hown, hts⟩ hM (gg_Lw_55 _) (by decide +kernel) ⟨Nat.le_refl _, by show 8 + (6 + 11) + 40 * n ≤ 40 * (n + 1); omega⟩ rfl (va_recv hK.1 (gSplit hP).1 (ci := 6) (q0 := 0) rfl (wFb_o6 t a σ)) hK hP hD hS hxo hno hl.1 rfl (Nat.le_of_ble_eq_true rfl) ⟨Nat.le_refl _, Nat.le_refl _⟩ d_Lw_raised_5 (pre := [⟨0, 17, 20, 15⟩, ⟨0, 17, 24, 24⟩]) (x9 := ⟨0, 17, 28, 13⟩) (rest9 := []) htab (List.forall_mem_cons.mpr ⟨⟨"java/lang/IllegalStateException", by decide, gIn k_387 (by decide +kernel), by decide⟩, List.forall_mem_cons.mpr ⟨⟨"java/lang/IndexOutOfBoundsException", by decide, gIn k_517 (by decide +kernel), by decide⟩, fun _ h9 => nomatch h9⟩⟩) (by decide) (by decide) (gIn k_386 (by decide +kernel)) (by decide) (hp9 := 28) rfl (fun v H hP hS => ?_)
  refine lv_astore hx hb d_Lw_raised_28 hl (by decide) (lv' := ((4, .ref v) :: [(0, .ref (a 699)), (1, .int p0), (2, .int p1), (3, .ref ao)])) rfl (fun ls hl => ?_)
  refine lv_iconst (v := 3) hx hb d_Lw_raised_30 (by decide) ?_
  exact W.iret (v := 3) hx hb hr (fun U hU hW => ⟨⟨3, (σ, f), rfl, ⟨rfl, rfl⟩, by rw [hU]; exact hP, hD⟩, hS.F hU⟩) hS.2.2 d_Lw_raised_31
set_option maxHeartbeats 4000000 in
set_option maxRecDepth 100000 in
theorem r_Lw_pallets (l : Launch) (D : va_G) (t : Nat → ClassId) (a : Nat → Nat) (ao : Nat) (σ : Nat → Nat → Int32) (f : Nat → Int64) (p0 : Int32) (n : Nat) (Rv : Int32) (Uv : Nat → Nat → Int32) (hM : gMi l D t y_Fb_pallets b_Fb_pallets 2 (some .int) n [.ref (a 699), .int p0] (wFb t a σ) (wFb t a) (fun r u => r = Rv ∧ u = Uv)) : gMq l D t y_Lw_pallets b_Lw_pallets 4 [(0, 9, 12, 15), (0, 9, 15, 13)] (n + 1) [.ref (a 699), .int p0, .ref ao] (wLw t a ao σ f) (fun u : (Nat → Nat → Int32) × (Nat → Int64) => wLw t a ao u.1 u.2) (fun k u => k = 0 ∧ u = (Uv, vp_updL f 0 Rv.toInt64)) := by
  intro A
  refine va_MetW (cc := b_Lw_pallets) (maxL := 4) (ret := (some .int)) (hh := [(0, 9, 12, 15), (0, 9, 15, 13)]) (by decide) rfl ?_
  intro p e s m args below meth c s₁ B hml hv
  obtain ⟨rfl, ⟨hK, hP, hD⟩, hxo, hno⟩ := hv
  have hx := B.exec
  have hb := B.bytes
  have hr := B.returns
  have hts := atoms_spec (ws := .codeWith y_Lw_pallets b_Lw_pallets 4 (some .int) [(0, 9, 12, 15), (0, 9, 15, 13)] :: gBig) B.pre
  have hown : s.vm.findClass R_Lw = some m.cls := findClass_of_methodNamed B.named
  have hlocks := B.notSynchronized
  have hS : va_S A s.heap s.heap [] := va_S.rf
  have hl := lv_entry ([.ref (a 699), .int p0, .ref ao]) (n := 4) (Nat.le_of_ble_eq_true rfl)
  rw [lg_entry_eq]
  generalize (lg_sl ([.ref (a 699), .int p0, .ref ao]) ++ List.replicate (4 - (lg_sl ([.ref (a 699), .int p0, .ref ao])).length) Slot.unset).toArray = ls at hl ⊢
  have hl : lv_has ls 4 [(0, .ref (a 699)), (1, .int p0), (2, .ref ao)] := hl
  refine W.widen (k := 1) (n := 6) (Nat.zero_le _) (Nat.zero_le _) ?_
  refine lv_aload_n hx hb d_Lw_pallets_0 rfl (lv_at hl 2 rfl) ?_
  refine lv_iconst (v := 0) hx hb d_Lw_pallets_1 (by decide) ?_
  refine lv_aload_n hx hb d_Lw_pallets_2 rfl (lv_at hl 0 rfl) ?_
  refine lv_iload_n hx hb d_Lw_pallets_3 rfl (lv_at hl 1 rfl) ?_
  refine g_viS (k := 1) (As := [.int p0]) (rest := [.int 0, .ref ao]) (own := R_Lw) (C := R_Fb) (index := 58) (w1 := wFb t a σ) (w2 := [(ao, .inl (t 3, 1, .inr (.inl f)))]) ⟨hx, hb, hml, hown, hts⟩ hM (gg_Lw_58 _) (by decide +kernel) ⟨Nat.le_refl _, by show 8 + (2 + 11) + 40 * n ≤ 40 * (n + 1); omega⟩ rfl (va_recv hK.1 (gSplit hP).1 (ci := 6) (q0 := 0) rfl (wFb_o6 t a σ)) hK hP hD hS hl.1 rfl (Nat.le_of_ble_eq_true rfl) ⟨Nat.le_refl _, Nat.le_refl _⟩ d_Lw_pallets_4 (fun r_1 u_1 H locs q_1 hP hD hS => ?_)
  obtain ⟨hr_1, hu_1⟩ := q_1
  subst hr_1
  subst hu_1
  refine lv_i2l (v := r_1.toInt64) hx hb d_Lw_pallets_7 rfl ?_
  refine va_last hx hb hK.1 hP hD hS 67 3 (a := ao) (cA := t 3) (n := 1) (f := f) rfl rfl (i := 0) (by unfold vp_in; decide) d_Lw_pallets_8 (fun H locs hP hD hS => ?_)
  have hP : va_P D gCl (wLw t a ao u_1 (vp_updL f 0 r_1.toInt64)) H := hP
  have hD : va_D A (wLw t a ao u_1 (vp_updL f 0 r_1.toInt64)) := hD
  refine lv_goto (tgt := 18) hx hb d_Lw_pallets_9 (by decide) ?_
  refine lv_iconst (v := 0) hx hb d_Lw_pallets_18 (by decide) ?_
  exact W.iret (v := 0) hx hb hr (fun U hU hW => ⟨⟨0, (u_1, vp_updL f 0 r_1.toInt64), rfl, ⟨rfl, rfl⟩, by rw [hU]; exact hP, hD⟩, hS.F hU⟩) hS.2.2 d_Lw_pallets_19
set_option maxHeartbeats 4000000 in
set_option maxRecDepth 100000 in
theorem x_Lw_pallets_ise (l : Launch) (D : va_G) (t : Nat → ClassId) (a : Nat → Nat) (ao : Nat) (σ : Nat → Nat → Int32) (f : Nat → Int64) (p0 : Int32) (n : Nat) (hM : gMx l D t y_Fb_pallets b_Fb_pallets 2 (some .int) n [.ref (a 699), .int p0] (wFb t a σ) "java/lang/IllegalStateException") : gMq l D t y_Lw_pallets b_Lw_pallets 4 [(0, 9, 12, 15), (0, 9, 15, 13)] (n + 1) [.ref (a 699), .int p0, .ref ao] (wLw t a ao σ f) (fun u : (Nat → Nat → Int32) × (Nat → Int64) => wLw t a ao u.1 u.2) (fun k u => k = 1 ∧ u = (σ, f)) := by
  intro A
  refine va_MetW (cc := b_Lw_pallets) (maxL := 4) (ret := (some .int)) (hh := [(0, 9, 12, 15), (0, 9, 15, 13)]) (by decide) rfl ?_
  intro p e s m args below meth c s₁ B hml hv
  obtain ⟨rfl, ⟨hK, hP, hD⟩, hxo, hno⟩ := hv
  have hx := B.exec
  have hb := B.bytes
  have hr := B.returns
  have hts := atoms_spec (ws := .codeWith y_Lw_pallets b_Lw_pallets 4 (some .int) [(0, 9, 12, 15), (0, 9, 15, 13)] :: gBig) B.pre
  have hown : s.vm.findClass R_Lw = some m.cls := findClass_of_methodNamed B.named
  have hlocks := B.notSynchronized
  have hS : va_S A s.heap s.heap [] := va_S.rf
  have hl := lv_entry ([.ref (a 699), .int p0, .ref ao]) (n := 4) (Nat.le_of_ble_eq_true rfl)
  rw [lg_entry_eq]
  generalize (lg_sl ([.ref (a 699), .int p0, .ref ao]) ++ List.replicate (4 - (lg_sl ([.ref (a 699), .int p0, .ref ao])).length) Slot.unset).toArray = ls at hl ⊢
  have hl : lv_has ls 4 [(0, .ref (a 699)), (1, .int p0), (2, .ref ao)] := hl
  refine lv_aload_n hx hb d_Lw_pallets_0 rfl (lv_at hl 2 rfl) ?_
  refine lv_iconst (v := 0) hx hb d_Lw_pallets_1 (by decide) ?_
  refine lv_aload_n hx hb d_Lw_pallets_2 rfl (lv_at hl 0 rfl) ?_
  refine lv_iload_n hx hb d_Lw_pallets_3 rfl (lv_at hl 1 rfl) ?_
  have htab := h_tab B (hts _ List.mem_cons_self)
  refine x_caught (k := 1) (As := [.int p0]) (rest := [.int 0, .ref ao]) (own := R_Lw) (C := R_Fb) (index := 58) (w1 := wFb t a σ) (w2 := [(ao, .inl (t 3, 1, .inr (.inl f)))]) ⟨hx, hb, hml, hown, hts⟩ hM (gg_Lw_58 _) (by decide +kernel) ⟨Nat.le_refl _, by show 8 + (2 + 11) + 40 * n ≤ 40 * (n + 1); omega⟩ rfl (va_recv hK.1 (gSplit hP).1 (ci := 6) (q0 := 0) rfl (wFb_o6 t a σ)) hK hP hD hS hxo hno hl.1 rfl (Nat.le_of_ble_eq_true rfl) ⟨Nat.le_refl _, Nat.le_refl _⟩ d_Lw_pallets_4 (pre := []) (x9 := ⟨0, 9, 12, 15⟩) (rest9 := [⟨0, 9, 15, 13⟩]) htab (fun y9 hy9 => nomatch hy9) (by decide) (by decide) (gIn k_387 (by decide +kernel)) (by decide) (hp9 := 12) rfl (fun v H hP hS => ?_)
  refine lv_astore_n hx hb d_Lw_pallets_12 rfl hl (by decide) (lv' := ((3, .ref v) :: [(0, .ref (a 699)), (1, .int p0), (2, .ref ao)])) rfl (fun ls hl => ?_)
  refine lv_iconst (v := 1) hx hb d_Lw_pallets_13 (by decide) ?_
  exact W.iret (v := 1) hx hb hr (fun U hU hW => ⟨⟨1, (σ, f), rfl, ⟨rfl, rfl⟩, by rw [hU]; exact hP, hD⟩, hS.F hU⟩) hS.2.2 d_Lw_pallets_14
set_option maxHeartbeats 4000000 in
set_option maxRecDepth 100000 in
theorem x_Lw_pallets_iae (l : Launch) (D : va_G) (t : Nat → ClassId) (a : Nat → Nat) (ao : Nat) (σ : Nat → Nat → Int32) (f : Nat → Int64) (p0 : Int32) (n : Nat) (hM : gMx l D t y_Fb_pallets b_Fb_pallets 2 (some .int) n [.ref (a 699), .int p0] (wFb t a σ) "java/lang/IllegalArgumentException") : gMq l D t y_Lw_pallets b_Lw_pallets 4 [(0, 9, 12, 15), (0, 9, 15, 13)] (n + 1) [.ref (a 699), .int p0, .ref ao] (wLw t a ao σ f) (fun u : (Nat → Nat → Int32) × (Nat → Int64) => wLw t a ao u.1 u.2) (fun k u => k = 2 ∧ u = (σ, f)) := by
  intro A
  refine va_MetW (cc := b_Lw_pallets) (maxL := 4) (ret := (some .int)) (hh := [(0, 9, 12, 15), (0, 9, 15, 13)]) (by decide) rfl ?_
  intro p e s m args below meth c s₁ B hml hv
  obtain ⟨rfl, ⟨hK, hP, hD⟩, hxo, hno⟩ := hv
  have hx := B.exec
  have hb := B.bytes
  have hr := B.returns
  have hts := atoms_spec (ws := .codeWith y_Lw_pallets b_Lw_pallets 4 (some .int) [(0, 9, 12, 15), (0, 9, 15, 13)] :: gBig) B.pre
  have hown : s.vm.findClass R_Lw = some m.cls := findClass_of_methodNamed B.named
  have hlocks := B.notSynchronized
  have hS : va_S A s.heap s.heap [] := va_S.rf
  have hl := lv_entry ([.ref (a 699), .int p0, .ref ao]) (n := 4) (Nat.le_of_ble_eq_true rfl)
  rw [lg_entry_eq]
  generalize (lg_sl ([.ref (a 699), .int p0, .ref ao]) ++ List.replicate (4 - (lg_sl ([.ref (a 699), .int p0, .ref ao])).length) Slot.unset).toArray = ls at hl ⊢
  have hl : lv_has ls 4 [(0, .ref (a 699)), (1, .int p0), (2, .ref ao)] := hl
  refine lv_aload_n hx hb d_Lw_pallets_0 rfl (lv_at hl 2 rfl) ?_
  refine lv_iconst (v := 0) hx hb d_Lw_pallets_1 (by decide) ?_
  refine lv_aload_n hx hb d_Lw_pallets_2 rfl (lv_at hl 0 rfl) ?_
  refine lv_iload_n hx hb d_Lw_pallets_3 rfl (lv_at hl 1 rfl) ?_
  have htab := h_tab B (hts _ List.mem_cons_self)
  refine x_caught (k := 1) (As := [.int p0]) (rest := [.int 0, .ref ao]) (own := R_Lw) (C := R_Fb) (index := 58) (w1 := wFb t a σ) (w2 := [(ao, .inl (t 3, 1, .inr (.inl f)))]) ⟨hx, hb, hml, hown, hts⟩ hM (gg_Lw_58 _) (by decide +kernel) ⟨Nat.le_refl _, by show 8 + (2 + 11) + 40 * n ≤ 40 * (n + 1); omega⟩ rfl (va_recv hK.1 (gSplit hP).1 (ci := 6) (q0 := 0) rfl (wFb_o6 t a σ)) hK hP hD hS hxo hno hl.1 rfl (Nat.le_of_ble_eq_true rfl) ⟨Nat.le_refl _, Nat.le_refl _⟩ d_Lw_pallets_4 (pre := [⟨0, 9, 12, 15⟩]) (x9 := ⟨0, 9, 15, 13⟩) (rest9 := []) htab (List.forall_mem_cons.mpr ⟨⟨"java/lang/IllegalStateException", by decide, gIn k_387 (by decide +kernel), by decide⟩, fun _ h9 => nomatch h9⟩) (by decide) (by decide) (gIn k_386 (by decide +kernel)) (by decide) (hp9 := 15) rfl (fun v H hP hS => ?_)
  refine lv_astore_n hx hb d_Lw_pallets_15 rfl hl (by decide) (lv' := ((3, .ref v) :: [(0, .ref (a 699)), (1, .int p0), (2, .ref ao)])) rfl (fun ls hl => ?_)
  refine lv_iconst (v := 2) hx hb d_Lw_pallets_16 (by decide) ?_
  exact W.iret (v := 2) hx hb hr (fun U hU hW => ⟨⟨2, (σ, f), rfl, ⟨rfl, rfl⟩, by rw [hU]; exact hP, hD⟩, hS.F hU⟩) hS.2.2 d_Lw_pallets_17
