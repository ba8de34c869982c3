section
theorem sgFb_0 (g : Int32) {i : Nat} (h1 : i ≠ 200) (h2 : i ≠ 503) (n : Nat) : sgFb g i n = 0 := by
  unfold sgFb
  split
  · exact absurd rfl h1
  · exact absurd rfl h2
  · rfl
theorem sgMd_0 (g : Int32) {i : Nat} (h1 : i ≠ 1) (n : Nat) : sgMd g i n = 0 := by
  unfold sgMd
  split
  · exact absurd rfl h1
  · rfl
def sc0 (L : Nat) (xs : Nat → Int32) : Int32 := if Int32.ofNat L ≤ 0 then 0 else xs 0
set_option maxHeartbeats 4000000 in
set_option maxRecDepth 100000 in
theorem r_Lw_cell (l : Launch) (b L : Nat) (xs : Nat → Int32) (hL : L ≤ 3073) : Met l y_Lw_cell (.code y_Lw_cell b_Lw_cell 2 (some .int) :: gBig) (gRm 0) (va_Pc [.ref b, .int 0] (fun U => va_X b L xs U U.heap)) (QcRead (sc0 L xs)) 0 0 (fun _ => False) := by
  refine Met.ofW (cc := b_Lw_cell) (maxL := 2) (ret := (some .int)) (by decide) rfl ?_
  intro p e s m args below meth c s₁ B hml hv
  obtain ⟨rfl, hX⟩ := hv
  have hx := B.exec
  have hb := B.bytes
  have hr := B.returns
  have hbl : b < s.heap.size := (Array.getElem?_eq_some_iff.mp hX.choose_spec.1).1
  have hS : va_S (fun _ => False) s.heap s.heap [] := va_S.rf
  have hl := lv_entry ([.ref b, .int 0]) (n := 2) (Nat.le_of_ble_eq_true rfl)
  rw [lg_entry_eq]
  generalize (lg_sl ([.ref b, .int 0]) ++ List.replicate (2 - (lg_sl ([.ref b, .int 0])).length) Slot.unset).toArray = ls at hl ⊢
  have hl : lv_has ls 2 [(0, .ref b), (1, .int 0)] := hl
  refine lv_iload_n hx hb d_Lw_cell_0 rfl (lv_at hl 1 rfl) ?_
  refine lv_aload_n hx hb d_Lw_cell_1 rfl (lv_at hl 0 rfl) ?_
  refine va_slen hx hb hX hbl (fun z => z) hS d_Lw_cell_2 ?_
  refine lv_icmp_ge (tgt := 12) hx hb d_Lw_cell_3 (by decide) (fun c_1 => ?_) (fun c_1 => ?_)
  · refine lv_iconst (v := 0) hx hb d_Lw_cell_12 (by decide) ?_
    exact W.iret (v := 0) hx hb hr (fun U hU hW => ⟨by unfold sc0; rw [if_pos c_1], hU⟩) (fun q hq => nomatch hq) d_Lw_cell_13
  · refine lv_aload_n hx hb d_Lw_cell_6 rfl (lv_at hl 0 rfl) ?_
    refine lv_iload_n hx hb d_Lw_cell_7 rfl (lv_at hl 1 rfl) ?_
    have h0 : 0 < L := by
      rcases Nat.eq_zero_or_pos L with z | z
      · subst z; exact absurd (by decide) c_1
      · exact z
    refine va_sld (i := 0) hx hb hX hbl (fun z => z) hS (vp_in_nI (n := 0) h0 (by omega)) d_Lw_cell_8 ?_
    refine lv_goto (tgt := 13) hx hb d_Lw_cell_9 (by decide) ?_
    exact W.iret (v := xs 0) hx hb hr (fun U hU hW => ⟨by unfold sc0; rw [if_neg c_1], hU⟩) (fun q hq => nomatch hq) d_Lw_cell_13

theorem gg_Lw_61 (w0 : Cond) : GoodIn (w0 :: gBig) (wsS R_Lw 61 y_Lw_cell (.code y_Lw_cell b_Lw_cell 2 (some .int) :: gBig)) := gGoodS (gIn k_380 (by decide +kernel)) (gIn k_381 (by decide +kernel)) (gIn k_0 (by decide +kernel)) (gIn k_382 (by decide +kernel))
theorem lw_xst {n d : String} {args : Array Value} {s : State} (h1 : (Cond.laysStatic xTN n d).before args s = true) (h2 : (Cond.isRef (.static xTN n d)).before args s = true) : xSt n d (lwA s) s s.heap := by
  obtain ⟨c, k, i, f, a, cell, g1, g2, g3, g4, g5, g6, g7, g8, g9⟩ := Cond.laysStatic_spec h1
  obtain ⟨v, hv, hr⟩ := Cond.isRef_spec h2
  have he : (Term.static xTN n d).eval args s none [] s = cell.slots[f.slot]? := by
    simp [Term.eval, State.fieldNamed?, g2, g3, g4, g5, g6]
  rw [he] at hv
  exact ⟨c, k, i, f, a, cell, v, g1, g2, g3, g4, g5, g6, g7, g8, g9, hv, hr, fun z => absurd (Array.getElem?_eq_some_iff.mp g5).1 (Nat.not_lt.mpr z)⟩
theorem lw_xnw : ∀ w ∈ xNw, w ∈ tables_1 := by
  intro w hw
  simp only [xNw, List.mem_cons, List.not_mem_nil, or_false] at hw
  rcases hw with rfl | rfl | rfl | rfl | rfl | rfl | rfl | rfl | rfl
  · exact k_400
  · exact k_401
  · exact k_402
  · exact k_403
  · exact k_404
  · exact k_405
  · exact k_406
  · exact k_470
  · exact k_527
theorem lw_xstr : ∀ q ∈ xStr, Cond.stringRef "FlatBoxes" q.1 q.2 ∈ tables_1 := by
  intro q hq
  simp only [xStr, List.mem_cons, List.not_mem_nil, or_false] at hq
  rcases hq with rfl | rfl | rfl | rfl | rfl | rfl | rfl | rfl | rfl | rfl | rfl | rfl | rfl | rfl | rfl | rfl | rfl | rfl | rfl | rfl | rfl
  · exact k_439
  · exact k_467
  · exact k_477
  · exact k_500
  · exact k_501
  · exact k_534
  · exact k_548
  · exact k_550
  · exact k_563
  · exact k_564
  · exact k_572
  · exact k_587
  · exact k_595
  · exact k_607
  · exact k_608
  · exact k_609
  · exact k_610
  · exact k_622
  · exact k_645
  · exact k_646
  · exact k_655
theorem lw_xok {b : Nat} {s : State} (h : ∀ w ∈ lw_tbl, w.before #[Value.ref b] s = true) (hgv : (Jvm.Cond.and given_1 narrow_1).before #[Value.ref b] s = true) : xOK (lwA s) s s.heap := by
  have hs := flat_of_before _ hgv
  obtain ⟨c6, k6, hf6, -⟩ := Cond.instantiable_spec (h (.instantiable R_Fb 6) (List.mem_append_right _ k_19))
  refine ⟨fun w hw => va_Nw.of (xNw_tab w hw) (h w (List.mem_append_right _ (lw_xnw w hw))), fun q hq => ?_, lw_xst (h (.laysStatic xTN "UNASSIGNED_STACK" xUS) (List.mem_append_right _ k_425)) (hs _ (by decide +kernel)), lw_xst (h (.laysStatic xTN "SUPPRESSED_SENTINEL" xLS) (List.mem_append_right _ k_427)) (hs _ (by decide +kernel))⟩
  have h1 := h _ (List.mem_append_right _ (lw_xstr q hq))
  obtain ⟨-, -, -, sa, -, -, -, -, -, hev⟩ := Cond.stringRef_spec hf6 h1
  exact ⟨sa, vk_R.of h1 hev⟩
theorem lw_xno {b : Nat} {s : State} (hgv : (Jvm.Cond.and given_1 narrow_1).before #[Value.ref b] s = true) : xNo s := by
  have hs := flat_of_before _ hgv
  intro q hq
  simp only [xNoL, List.mem_cons, List.not_mem_nil, or_false] at hq
  rcases hq with rfl | rfl | rfl | rfl | rfl | rfl <;> exact xNp.of (hs _ (by decide +kernel))
theorem lw_K {b : Nat} {s : State} (h : ∀ w ∈ lw_tbl, w.before #[Value.ref b] s = true) : ∃ (D : va_G) (t : Nat → ClassId), gK D t s := by
  have hin : ∀ w ∈ gBig, w.before #[Value.ref b] s = true := fun w hw => h w (List.mem_filter.mp hw).1
  obtain ⟨c0, i0, h0⟩ := u_known (C := R_Bg) (T := F_Bg) (N := 7) (n := 7) hin i_Bg (h (.instantiable R_Bg 7) (List.mem_append_right _ k_214))
  obtain ⟨c1, i1, h1⟩ := u_known (C := R_Ct) (T := F_Ct) (N := 6) (n := 6) hin i_Ct (h (.instantiable R_Ct 6) (List.mem_append_right _ k_27))
  obtain ⟨c2, i2, h2⟩ := u_known (C := R_Pk) (T := F_Pk) (N := 9) (n := 9) hin i_Pk (h (.instantiable R_Pk 9) (List.mem_append_right _ k_111))
  obtain ⟨c3, i3, h3⟩ := u_known (C := R_Pt) (T := F_Pt) (N := 9) (n := 9) hin i_Pt (h (.instantiable R_Pt 9) (List.mem_append_right _ k_64))
  obtain ⟨c4, i4, h4⟩ := u_known (C := R_Sr) (T := F_Sr) (N := 8) (n := 8) hin i_Sr (h (.instantiable R_Sr 8) (List.mem_append_right _ k_154))
  obtain ⟨c5, i5, h5⟩ := u_known (C := R_Sh) (T := F_Sh) (N := 5) (n := 5) hin i_Sh (h (.instantiable R_Sh 5) (List.mem_append_right _ k_185))
  obtain ⟨c6, i6, h6⟩ := u_known (C := R_Fb) (T := F_Fb) (N := 6) (n := 6) hin i_Fb (h (.instantiable R_Fb 6) (List.mem_append_right _ k_19))
  obtain ⟨c7, i7, h7⟩ := u_known (C := R_Md) (T := F_Md) (N := 34) (n := 34) hin i_Md (h (.instantiable R_Md 34) (List.mem_append_right _ k_661))
  obtain ⟨ca, ka, xa, a1, a2, a3⟩ := Cond.arrayClass_spec (h (.arrayClass .int) (List.mem_append_right _ k_62))
  obtain ⟨cb, kb, xb, b1, b2, b3⟩ := Cond.arrayClass_spec (h (.arrayClass .boolean) (List.mem_append_right _ k_109))
  obtain ⟨cl, kl, xl, l1, l2, l3⟩ := Cond.arrayClass_spec (h (.arrayClass .long) (List.mem_append_right _ k_889))
  obtain ⟨xo, co, ko, -, o2, o3, o4⟩ := gOvS (h (.arrayOver (.array .int)) (List.mem_append_right _ k_191))
  refine ⟨(fun k => match k with | 0 => c0 | 1 => c1 | 2 => c2 | 3 => c3 | 4 => c4 | 5 => c5 | 6 => c6 | _ => c7, fun k => match k with | 0 => i0 | 1 => i1 | 2 => i2 | 3 => i3 | 4 => i4 | 5 => i5 | 6 => i6 | _ => i7), fun k => match k with | 0 => ca | 1 => cb | 2 => co | _ => cl, ⟨?_, ?_⟩, ?_⟩
  · intro k q hq
    match k, hq with
    | 0, hq => cases hq; exact h0
    | 1, hq => cases hq; exact h1
    | 2, hq => cases hq; exact h2
    | 3, hq => cases hq; exact h3
    | 4, hq => cases hq; exact h4
    | 5, hq => cases hq; exact h5
    | 6, hq => cases hq; exact h6
    | 7, hq => cases hq; exact h7
    | k + 8, hq => simp [gCl] at hq
  · intro k q hq
    match k, hq with
    | 0, hq => cases hq; exact ⟨fun n z => ⟨fun k h => (by cases h), ka, a2, xa, a3⟩, a1⟩
    | 1, hq => cases hq; exact ⟨fun n z => ⟨fun k h => (by cases h), kb, b2, xb, b3⟩, b1⟩
    | 2, hq => cases hq; exact ⟨fun n z => ⟨fun k h => (by cases h), ko, o2, xo, o3⟩, o4⟩
    | 3, hq => cases hq; exact ⟨fun n z => ⟨fun k h => (by cases h), kl, l2, xl, l3⟩, l1⟩
    | k + 4, hq => simp at hq
  · intro q hq
    simp only [gNest, List.mem_cons, List.not_mem_nil, or_false] at hq
    rcases hq with rfl | rfl | rfl | rfl | rfl | rfl | rfl | rfl
    · exact va_Nw.of rfl (h _ (List.mem_append_right _ k_28))
    · exact va_Nw.of rfl (h _ (List.mem_append_right _ k_65))
    · exact va_Nw.of rfl (h _ (List.mem_append_right _ k_155))
    · exact va_Nw.of rfl (h _ (List.mem_append_right _ k_186))
    · exact va_Nw.of rfl (h _ (List.mem_append_right _ k_215))
    · exact va_Nw.of rfl (h _ (List.mem_append_right _ k_288))
    · exact va_Nw.of rfl (h _ (List.mem_append_right _ k_299))
    · exact va_Nw.of rfl (h _ (List.mem_append_right _ k_367))
set_option maxHeartbeats 8000000 in
set_option maxRecDepth 100000 in
/-- THE LAW, from its entry -/
theorem whole_start {p : Program} {e : Env} {s : State} {m : MethodId} {below : List Frame} {meth : Method} {c : Code} (l : Launch) (hl0 : l.stackTraces = false) {b L : Nat} {xs : Nat → Int32} (hL : L ≤ 3073) (C0 : lw_At p s m meth c b L xs) : W p l e room_1 s m #[Value.ref b] below meth c s.heap [] 0 0 (lw_Z below #[Value.ref b] s) (entryFrame m ([Value.ref b] : List Value).toArray 7) := by
  obtain ⟨hx, hb, hr, hml, hown, hts0, hX, hbl, hlocks, hgv⟩ := id C0
  have hts := lw_hts hts0
  have hbA : ¬ lwA s b := Nat.not_le.mpr hbl
  have hF : CallFix p m c code 7 s #[Value.ref b] (Cond.initialized R_Lw :: gBig) R_Lw := ⟨hx, hb, hml, hown, hts⟩
  have hA : ∀ q : Nat, s.heap.size ≤ q → lwA s q := fun _ h => h
  obtain ⟨D, t, hK⟩ := lw_K hts0
  have hO : gOv s := fun args => hts0 (.arrayOver (.array .int)) (List.mem_append_right _ k_191)
  have hxo := lw_xok hts0 hgv
  have hno := lw_xno hgv
  have hS : va_S (lwA s) s.heap s.heap [] := va_S.rf
  have hP : va_P D gCl [] s.heap := fun k q h => by simp at h
  have hD : va_D (lwA s) [] := ⟨fun i j p q h => by simp at h, fun k q h => by simp at h⟩
  have hl := lv_entry ([.ref b]) (n := 7) (Nat.le_of_ble_eq_true rfl)
  rw [lg_entry_eq]
  generalize (lg_sl ([.ref b]) ++ List.replicate (7 - (lg_sl ([.ref b])).length) Slot.unset).toArray = ls at hl ⊢
  have hl : lv_has ls 7 [(0, .ref b)] := hl
  have hcw : ∀ {H : Heap} {locs : List Loc}, va_S (lwA s) s.heap H locs → PreS s H (va_Pc [.ref b, .int 0] (fun U => va_X b L xs U U.heap)) [.ref b, .int 0] := fun {H} {locs} hS => ⟨fun a U g mk h => ⟨h.1, va_X.moved (u := U) (U := U.calling g mk a) (Vm.Alike.refl U.vm) h.2⟩, fun U hU hW => ⟨rfl, by show va_X b L xs U U.heap; rw [hU]; exact va_X.moved hW.alike (hX.kept (hS.2.1 b hbl hbA))⟩⟩
  refine va_new (D := D) (C := R_Fb) (T := F_Fb) (N := 6) (ci := 6) (fs := [.null, .null, .null, .null, .null, .null]) hx hb hts (fun w h => List.mem_cons_of_mem _ (i_Fb w h)) t_Fb t_Fb_ok hown (hts0 (.classLink R_Lw 8 R_Fb) (List.mem_append_right _ k_18)) (hts0 (.instantiable R_Fb 6) (List.mem_append_right _ k_19)) (hts0 (.initialized R_Fb) (List.mem_append_right _ k_1)) hK.1 hP hD hS hA rfl (by decide) (Nat.le_of_ble_eq_true rfl) (Nat.le_of_ble_eq_true rfl) d_law_0 (fun q1 H hP hD hS => ?_)
  have hP : va_P D gCl ([(q1, .inr (6, [.null, .null, .null, .null, .null, .null]))] ++ []) H := hP
  have hD : va_D (lwA s) ([(q1, .inr (6, [.null, .null, .null, .null, .null, .null]))] ++ []) := hD
  refine W.widen (k := 1) (n := 6) (Nat.le_of_ble_eq_true rfl) (Nat.le_of_ble_eq_true rfl) ?_
  refine lv_dup hx hb d_law_3 rfl ?_
  refine lv_aload_n hx hb d_law_4 rfl (lv_at hl 0 rfl) ?_
  refine lv_iconst (v := 0) hx hb d_law_5 (by decide) ?_
  refine W.callR (W.runS (As := [.ref b, .int 0]) (rest := [.ref q1, .ref q1]) hF (r_Lw_cell l b L xs hL) (cwS 2 hts (gg_Lw_61 _) rfl rfl rfl (by decide +kernel) ⟨Nat.le_of_ble_eq_true rfl, Nat.le_of_ble_eq_true rfl⟩) (hcw hS) rfl rfl hl.1 rfl (lv_room (Nat.le_of_ble_eq_true rfl)) d_law_6 ⟨Nat.le_of_ble_eq_true rfl, Nat.le_of_ble_eq_true rfl⟩) ?_
  refine c_im (k := 1) (As := [.int (sc0 L xs)]) (rest := [.ref q1]) (own := R_Lw) (index := 67) (w1 := [(q1, .inr (6, [.null, .null, .null, .null, .null, .null]))]) (w2 := []) hF (c_Fb_init l D t q1 (sc0 L xs)) (gIn k_20 (by decide +kernel)) (gIn k_21 (by decide +kernel)) (gIn k_1 (by decide +kernel)) (gIn k_22 (by decide +kernel)) rfl (by decide +kernel) ⟨Nat.le_of_ble_eq_true rfl, Nat.le_of_ble_eq_true rfl⟩ rfl hO hK hP hD hS hA hl.1 rfl (Nat.le_of_ble_eq_true rfl) ⟨Nat.le_of_ble_eq_true rfl, Nat.le_of_ble_eq_true rfl⟩ d_law_9 (fun a H locs e_a hP hD hS _ => ?_)
  have hPn := hP
  have hDn := hD
  subst e_a
  have hP := hPn
  have hD := hDn
  refine W.widen (k := 67) (n := 902) (Nat.le_of_ble_eq_true rfl) (Nat.le_of_ble_eq_true rfl) ?_
  have hP : va_P D gCl (wFb t a (sgFb (gapOf (sc0 L xs)))) H := by rw [← List.append_nil (wFb t a (sgFb (gapOf (sc0 L xs))))]; exact hP
  have hD : va_D (lwA s) (wFb t a (sgFb (gapOf (sc0 L xs)))) := by rw [← List.append_nil (wFb t a (sgFb (gapOf (sc0 L xs))))]; exact hD
  refine lv_astore_n (lv' := [(1, .ref (a 699)), (0, .ref b)]) hx hb d_law_12 rfl hl (by decide) rfl (fun ls hl => ?_)
  refine va_new (D := D) (C := R_Md) (T := F_Md) (N := 34) (ci := 7) (fs := [.int 0, .int 0, .int 0, .null, .null, .null, .null, .null, .int 0, .null, .null, .null, .null, .null, .null, .null, .null, .int 0, .null, .null, .null, .null, .null, .null, .int 0, .int 0, .null, .null, .null, .int 0, .null, .null, .null, .null]) hx hb hts (fun w h => List.mem_cons_of_mem _ (i_Md w h)) t_Md t_Md_ok hown (hts0 (.classLink R_Lw 70 R_Md) (List.mem_append_right _ k_660)) (hts0 (.instantiable R_Md 34) (List.mem_append_right _ k_661)) (hts0 (.initialized R_Md) (List.mem_append_right _ k_9)) hK.1 hP hD hS hA rfl (by decide) (Nat.le_of_ble_eq_true rfl) (Nat.le_of_ble_eq_true rfl) d_law_13 (fun q2 H hP hD hS => ?_)
  refine W.widen (k := 68) (n := 936) (Nat.le_of_ble_eq_true rfl) (Nat.le_of_ble_eq_true rfl) ?_
  have hP := gSwapP (w1 := wFb t a (sgFb (gapOf (sc0 L xs)))) (w2 := [(q2, .inr (7, [.int 0, .int 0, .int 0, .null, .null, .null, .null, .null, .int 0, .null, .null, .null, .null, .null, .null, .null, .null, .int 0, .null, .null, .null, .null, .null, .null, .int 0, .int 0, .null, .null, .null, .int 0, .null, .null, .null, .null]))]) hP
  have hD := gSwapD (w1 := wFb t a (sgFb (gapOf (sc0 L xs)))) (w2 := [(q2, .inr (7, [.int 0, .int 0, .int 0, .null, .null, .null, .null, .null, .int 0, .null, .null, .null, .null, .null, .null, .null, .null, .int 0, .null, .null, .null, .null, .null, .null, .int 0, .int 0, .null, .null, .null, .int 0, .null, .null, .null, .null]))]) hD
  refine lv_dup hx hb d_law_16 rfl ?_
  refine lv_aload_n hx hb d_law_17 rfl (lv_at hl 1 rfl) ?_
  refine lv_iconst (v := 0) hx hb d_law_18 (by decide) ?_
  refine W.callR (W.runS (As := [.ref b, .int 0]) (rest := [.ref q2, .ref q2]) hF (r_Lw_cell l b L xs hL) (cwS 2 hts (gg_Lw_61 _) rfl rfl rfl (by decide +kernel) ⟨Nat.le_of_ble_eq_true rfl, Nat.le_of_ble_eq_true rfl⟩) (hcw hS) rfl rfl hl.1 rfl (lv_room (Nat.le_of_ble_eq_true rfl)) d_law_19 ⟨Nat.le_of_ble_eq_true rfl, Nat.le_of_ble_eq_true rfl⟩) ?_
  refine c_im (k := 1) (As := [.int (sc0 L xs)]) (rest := [.ref q2]) (own := R_Lw) (index := 72) (w1 := [(q2, .inr (7, [.int 0, .int 0, .int 0, .null, .null, .null, .null, .null, .int 0, .null, .null, .null, .null, .null, .null, .null, .null, .int 0, .null, .null, .null, .null, .null, .null, .int 0, .int 0, .null, .null, .null, .int 0, .null, .null, .null, .null]))]) (w2 := wFb t a (sgFb (gapOf (sc0 L xs)))) hF (c_Md_init l D t q2 (sc0 L xs)) (gIn k_662 (by decide +kernel)) (gIn k_663 (by decide +kernel)) (gIn k_9 (by decide +kernel)) (gIn k_664 (by decide +kernel)) rfl (by decide +kernel) ⟨Nat.le_of_ble_eq_true rfl, Nat.le_of_ble_eq_true rfl⟩ rfl hO hK hP hD hS hA hl.1 rfl (Nat.le_of_ble_eq_true rfl) ⟨Nat.le_of_ble_eq_true rfl, Nat.le_of_ble_eq_true rfl⟩ d_law_22 (fun bm H locs e_bm hP hD hS _ => ?_)
  have hPn := hP
  have hDn := hD
  subst e_bm
  have hP := hPn
  have hD := hDn
  refine W.widen (k := 94) (n := 1416) (Nat.le_of_ble_eq_true rfl) (Nat.le_of_ble_eq_true rfl) ?_
  have hP := gSwapP (w1 := wMd t bm (sgMd (gapOf (sc0 L xs)))) (w2 := wFb t a (sgFb (gapOf (sc0 L xs)))) hP
  have hD := gSwapD (w1 := wMd t bm (sgMd (gapOf (sc0 L xs)))) (w2 := wFb t a (sgFb (gapOf (sc0 L xs)))) hD
  refine lv_astore_n (lv' := [(2, .ref (bm 0)), (1, .ref (a 699)), (0, .ref b)]) hx hb d_law_25 rfl hl (by decide) rfl (fun ls hl => ?_)
  refine lv_iconst (v := 1) hx hb d_law_26 (by decide) ?_
  refine g_newa (atype := .long) (ty := .long) (cA := t 3) (nm := "[J") (a0 := (1, .inr (.inl (fun _ => 0)))) (N' := 1) hx hb (hts (.arrayClass .long) (List.mem_cons_of_mem _ (gIn k_889 (by decide +kernel)))) rfl hK.1 hP hD hS hA 3 rfl (fun _ h9 => h9) (fun _ => rfl) (by decide) (by decide) (Nat.le_of_ble_eq_true rfl) (Nat.le_of_ble_eq_true rfl) (Nat.le_of_ble_eq_true rfl) d_law_27 (fun ao H hP hD hS => ?_)
  refine W.widen (k := 95) (n := 1417) (Nat.le_of_ble_eq_true rfl) (Nat.le_of_ble_eq_true rfl) ?_
  have hP : va_P D gCl (wLw t a ao (sgFb (gapOf (sc0 L xs))) (fun _ => 0) ++ wMd t bm (sgMd (gapOf (sc0 L xs)))) H := va_P.swap hP
  have hD : va_D (lwA s) (wLw t a ao (sgFb (gapOf (sc0 L xs))) (fun _ => 0) ++ wMd t bm (sgMd (gapOf (sc0 L xs)))) := va_D.swap hD
  refine lv_astore_n (lv' := [(3, .ref ao), (2, .ref (bm 0)), (1, .ref (a 699)), (0, .ref b)]) hx hb d_law_29 rfl hl (by decide) rfl (fun ls hl => ?_)
  refine lv_iconst (v := 1) hx hb d_law_30 (by decide) ?_
  refine lv_istore (lv' := [(4, .int 1), (3, .ref ao), (2, .ref (bm 0)), (1, .ref (a 699)), (0, .ref b)]) hx hb d_law_31 hl (by decide) rfl (fun ls hl => ?_)
  have hR : Rel (sgFb (gapOf (sc0 L xs))) (sgMd (gapOf (sc0 L xs))) := q_start (fun i n h1 h2 => sgFb_0 _ h1 h2 n) (fun i n h1 => sgMd_0 _ h1 n) rfl rfl
  exact law_loop l hl0 hL C0 hK hxo hno (c0 := 95) (s0 := 1417) (Nat.le_of_ble_eq_true rfl) (Nat.le_of_ble_eq_true rfl) 513 0 rfl (Nat.zero_le _) _ _ _ _ _ _ hR hP hD hS (lv_sub hl [4, 3, 2, 1, 0] rfl)
end
