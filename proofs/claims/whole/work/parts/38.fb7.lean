theorem c_Sr_share_any (l : Launch) (D : va_G) (t : Nat → ClassId) (a : Nat → Nat) : ∀ np : Nat, np ≤ 8 → ∃ lv, lv ≤ 12 ∧ ∀ τ : Nat → Nat → Int32, τ 404 0 = nI np → fSetsOK τ 0 → gMv l D t y_Sr_share b_Sr_share 4 lv [.ref (a 499), .int 0, .int 0] (wFb t a τ) (wFb t a) (fun u => u = fShr np 0 0 τ)
  | 0, _ => ⟨2, by omega, fun τ h1 h2 => c_Sr_share_0 l D t a τ 0 0 0 rfl (by omega) (Nat.le_refl _) h1 h2⟩
  | 1, _ => ⟨3, by omega, fun τ h1 h2 => c_Sr_share_1 l D t a τ 0 0 1 rfl (by omega) (Nat.le_refl _) h1 h2⟩
  | 2, _ => ⟨4, by omega, fun τ h1 h2 => c_Sr_share_2 l D t a τ 0 0 2 rfl (by omega) (Nat.le_refl _) h1 h2⟩
  | 3, _ => ⟨5, by omega, fun τ h1 h2 => c_Sr_share_3 l D t a τ 0 0 3 rfl (by omega) (Nat.le_refl _) h1 h2⟩
  | 4, _ => ⟨6, by omega, fun τ h1 h2 => c_Sr_share_4 l D t a τ 0 0 4 rfl (by omega) (Nat.le_refl _) h1 h2⟩
  | 5, _ => ⟨7, by omega, fun τ h1 h2 => c_Sr_share_5 l D t a τ 0 0 5 rfl (by omega) (Nat.le_refl _) h1 h2⟩
  | 6, _ => ⟨8, by omega, fun τ h1 h2 => c_Sr_share_6 l D t a τ 0 0 6 rfl (by omega) (Nat.le_refl _) h1 h2⟩
  | 7, _ => ⟨9, by omega, fun τ h1 h2 => c_Sr_share_7 l D t a τ 0 0 7 rfl (by omega) (Nat.le_refl _) h1 h2⟩
  | 8, _ => ⟨10, by omega, fun τ h1 h2 => c_Sr_share_8 l D t a τ 0 0 8 rfl (by omega) (Nat.le_refl _) h1 h2⟩
  | np + 9, h => absurd h (by omega)
def fRunZ (σ : Nat → Nat → Int32) (bt : Nat → Nat) (nc np M : Nat) : Nat → Nat → Int32 := fShr np 0 0 (fFind0 σ bt nc np M)
theorem c_Sr_find_any (l : Launch) (D : va_G) (t : Nat → ClassId) (a : Nat → Nat) (σ : Nat → Nat → Int32) (np : Nat) (hN : σ 308 0 = nI np) (hN8 : np ≤ 8) (bt : Nat → Nat) (hbt : ∀ k, k < np → σ 306 k = nI (bt k) ∧ bt k < 8) (nc M : Nat) (hC : σ 105 0 = nI nc) (hC4 : nc ≤ 4) (hM : (1 : Int32) <<< (nI np &&& 31) = nI (M + 1)) (hM8 : M ≤ 255) (hI : fSetsOK σ 0) : gMv l D t y_Sr_find b_Sr_find 5 16 [.ref (a 499), .ref (a 199), .ref (a 399), .ref (a 299)] (wFb t a σ) (wFb t a) (fun u => u = fRunZ σ bt nc np M) := by
  obtain ⟨lv, hlv, hsh⟩ := c_Sr_share_any l D t a np hN8
  exact c_Sr_find l D t a σ np hN hN8 bt hbt nc M lv hlv hC hC4 hM hM8 hI hsh
def fTakeU (σ : Nat → Nat → Int32) (bt sx cx : Nat → Nat) (np nbx : Nat) : Nat → Nat → Int32 := if σ 407 0 = -1 then gSt (gSt (gSt σ 502 0 1) 503 0 (-1)) 504 0 0 else fTake σ bt sx cx np nbx nbx
theorem nI_nm1 {n : Nat} (h : n ≤ 8) : ¬ nI n = -1 := fun e => by
  have h1 : (nI n).toInt = (n : Int) := nI_toInt (by omega)
  rw [e] at h1
  have h2 : (-1 : Int32).toInt = -1 := by decide
  rw [h2] at h1
  omega
theorem c_Sh_take_any (l : Launch) (D : va_G) (t : Nat → ClassId) (a : Nat → Nat) (σ : Nat → Nat → Int32) (np : Nat) (hN : σ 308 0 = nI np) (hN8 : np ≤ 8) (bt : Nat → Nat) (hbt : ∀ k, k < np → σ 306 k = nI (bt k) ∧ bt k < 8) (hsur : ∀ q, q < np → ∃ k, k < np ∧ bt k = q) (sx cx : Nat → Nat) (nbx : Nat) (hOK : σ 407 0 = -1 ∨ fTkOK σ sx cx nbx) (h205a : fB01 (σ 205)) : gMv l D t y_Sh_take b_Sh_take 8 3 [.ref (a 599), .ref (a 499), .ref (a 199), .ref (a 399), .ref (a 299)] (wFb t a σ) (wFb t a) (fun u => u = fTakeU σ bt sx cx np nbx) := by
  unfold fTakeU
  rcases hOK with h | h
  · rw [if_pos h]
    exact c_Sh_take_n l D t a σ h
  · rw [if_neg (by rw [h.1]; exact nI_nm1 h.2.1)]
    exact c_Sh_take_s l D t a σ np hN hN8 bt hbt hsur sx cx nbx h h205a
def fRunU (σ : Nat → Nat → Int32) (bt sx cx : Nat → Nat) (nc np M nbx : Nat) : Nat → Nat → Int32 := if σ 502 0 = 0 then fTakeU (fRunZ σ bt nc np M) bt sx cx np nbx else σ

theorem gg_Fb_131 (w0 : Cond) : GoodIn (w0 :: gBig) (wsV R_Fb 131 R_Sr y_Sr_find (.code y_Sr_find b_Sr_find 5 none :: gBig)) := gGoodV (gIn k_267 (by decide +kernel)) (gIn k_268 (by decide +kernel)) (gIn k_269 (by decide +kernel)) (gIn k_6 (by decide +kernel)) (gIn k_270 (by decide +kernel))
theorem gg_Fb_135 (w0 : Cond) : GoodIn (w0 :: gBig) (wsV R_Fb 135 R_Sh y_Sh_take (.code y_Sh_take b_Sh_take 8 none :: gBig)) := gGoodV (gIn k_334 (by decide +kernel)) (gIn k_335 (by decide +kernel)) (gIn k_336 (by decide +kernel)) (gIn k_7 (by decide +kernel)) (gIn k_337 (by decide +kernel))
set_option maxHeartbeats 4000000 in
set_option maxRecDepth 100000 in
theorem c_Fb_run (l : Launch) (D : va_G) (t : Nat → ClassId) (a : Nat → Nat) (σ : Nat → Nat → Int32) (np : Nat) (hN : σ 308 0 = nI np) (hN8 : np ≤ 8) (bt : Nat → Nat) (hbt : ∀ k, k < np → σ 306 k = nI (bt k) ∧ bt k < 8) (hsur : ∀ q, q < np → ∃ k, k < np ∧ bt k = q) (nc M nbx : Nat) (sx cx : Nat → Nat) (hC : σ 105 0 = nI nc) (hC4 : nc ≤ 4) (hM : (1 : Int32) <<< (nI np &&& 31) = nI (M + 1)) (hM8 : M ≤ 255) (hI : fSetsOK σ 0) (hz : σ 502 0 = 0 → (fRunZ σ bt nc np M 308 0 = nI np ∧ (∀ k, k < np → fRunZ σ bt nc np M 306 k = nI (bt k) ∧ bt k < 8) ∧ (fRunZ σ bt nc np M 407 0 = -1 ∨ fTkOK (fRunZ σ bt nc np M) sx cx nbx) ∧ fB01 (fRunZ σ bt nc np M 205))) : gMi l D t y_Fb_run b_Fb_run 1 (some .int) 17 [.ref (a 699)] (wFb t a σ) (wFb t a) (fun r u => r = fRunU σ bt sx cx nc np M nbx 503 0 ∧ u = fRunU σ bt sx cx nc np M nbx) := by
  intro A
  refine Met.ofW (cc := b_Fb_run) (maxL := 1) (ret := (some .int)) (by decide) rfl ?_
  intro p e s m args below meth c s₁ B hml hv
  obtain ⟨rfl, hK, hP, hD⟩ := hv
  have hx := B.exec
  have hb := B.bytes
  have hr := B.returns
  have hts := atoms_spec (ws := .code y_Fb_run b_Fb_run 1 (some .int) :: gBig) B.pre
  have hown : s.vm.findClass R_Fb = some m.cls := findClass_of_methodNamed B.named
  have hlocks := B.notSynchronized
  have hS : va_S A s.heap s.heap [] := va_S.rf
  have hl := lv_entry ([.ref (a 699)]) (n := 1) (Nat.le_of_ble_eq_true rfl)
  rw [lg_entry_eq]
  generalize (lg_sl ([.ref (a 699)]) ++ List.replicate (1 - (lg_sl ([.ref (a 699)])).length) Slot.unset).toArray = ls at hl ⊢
  have hl : lv_has ls 1 [(0, .ref (a 699))] := hl
  show gGo l p e s m below meth c D t A 17 [.ref (a 699)] (wFb t a) (fun r u => r = fRunU σ bt sx cx nc np M nbx 503 0 ∧ u = fRunU σ bt sx cx nc np M nbx) s.heap [] (F0 m 0 ls [])
  refine lv_aload_n hx hb d_Fb_run_0 rfl (lv_at hl 0 rfl) ?_
  refine va_get (D := D) (ci := 6) (v := .ref (a 599)) (C := R_Fb) (T := F_Fb) (N := 6) hx hb hts (fun w h => List.mem_cons_of_mem _ (i_Fb w h)) hown hK.1 hP 0 (wFb_o6 t a σ) rfl 4 (by decide) (hts (.fieldLink R_Fb 51 "FlatBoxes" "shares" "LFlatBoxes$Shares;") (List.mem_cons_of_mem _ (gIn k_248 (by decide +kernel)))) (fun _ h9 => h9) rfl d_Fb_run_1 ?_
  refine va_get (D := D) (ci := 5) (v := .int (σ 502 0)) (C := R_Sh) (T := F_Sh) (N := 5) hx hb hts (fun w h => List.mem_cons_of_mem _ (i_Sh w h)) hown hK.1 hP 5 (wFb_o5 t a σ) rfl 2 (by decide) (hts (.fieldLink R_Fb 127 "FlatBoxes$Shares" "areSought" "Z") (List.mem_cons_of_mem _ (gIn k_197 (by decide +kernel)))) (fun _ h9 => h9) rfl d_Fb_run_4 ?_
  refine lv_if_ne (tgt := 52) hx hb d_Fb_run_7 (by decide) (fun c_1 => ?_) (fun c_1 => ?_)
  · 
    refine lv_aload_n hx hb d_Fb_run_52 rfl (lv_at hl 0 rfl) ?_
    refine va_get (D := D) (ci := 6) (v := .ref (a 599)) (C := R_Fb) (T := F_Fb) (N := 6) hx hb hts (fun w h => List.mem_cons_of_mem _ (i_Fb w h)) hown hK.1 hP 0 (wFb_o6 t a σ) rfl 4 (by decide) (hts (.fieldLink R_Fb 51 "FlatBoxes" "shares" "LFlatBoxes$Shares;") (List.mem_cons_of_mem _ (gIn k_248 (by decide +kernel)))) (fun _ h9 => h9) rfl d_Fb_run_53 ?_
    refine va_get (D := D) (ci := 5) (v := .int (σ 503 0)) (C := R_Sh) (T := F_Sh) (N := 5) hx hb hts (fun w h => List.mem_cons_of_mem _ (i_Sh w h)) hown hK.1 hP 5 (wFb_o5 t a σ) rfl 3 (by decide) (hts (.fieldLink R_Fb 139 "FlatBoxes$Shares" "boxes" "I") (List.mem_cons_of_mem _ (gIn k_199 (by decide +kernel)))) (fun _ h9 => h9) rfl d_Fb_run_56 ?_
    exact W.iret (v := σ 503 0) hx hb hr (fun U hU hW => ⟨⟨σ 503 0, σ, rfl, by have e : fRunU σ bt sx cx nc np M nbx = σ := (by unfold fRunU; rw [if_neg (by assumption)]); exact ⟨by rw [e], e.symm⟩, by rw [hU]; exact hP, hD⟩, hS.F hU⟩) hS.2.2 d_Fb_run_59
  · 
    refine lv_aload_n hx hb d_Fb_run_10 rfl (lv_at hl 0 rfl) ?_
    refine va_get (D := D) (ci := 6) (v := .ref (a 499)) (C := R_Fb) (T := F_Fb) (N := 6) hx hb hts (fun w h => List.mem_cons_of_mem _ (i_Fb w h)) hown hK.1 hP 0 (wFb_o6 t a σ) rfl 3 (by decide) (hts (.fieldLink R_Fb 44 "FlatBoxes" "search" "LFlatBoxes$Search;") (List.mem_cons_of_mem _ (gIn k_247 (by decide +kernel)))) (fun _ h9 => h9) rfl d_Fb_run_11 ?_
    refine lv_aload_n hx hb d_Fb_run_14 rfl (lv_at hl 0 rfl) ?_
    refine va_get (D := D) (ci := 6) (v := .ref (a 199)) (C := R_Fb) (T := F_Fb) (N := 6) hx hb hts (fun w h => List.mem_cons_of_mem _ (i_Fb w h)) hown hK.1 hP 0 (wFb_o6 t a σ) rfl 0 (by decide) (hts (.fieldLink R_Fb 12 "FlatBoxes" "cartonRows" "LFlatBoxes$Cartons;") (List.mem_cons_of_mem _ (gIn k_244 (by decide +kernel)))) (fun _ h9 => h9) rfl d_Fb_run_15 ?_
    refine lv_aload_n hx hb d_Fb_run_18 rfl (lv_at hl 0 rfl) ?_
    refine va_get (D := D) (ci := 6) (v := .ref (a 399)) (C := R_Fb) (T := F_Fb) (N := 6) hx hb hts (fun w h => List.mem_cons_of_mem _ (i_Fb w h)) hown hK.1 hP 0 (wFb_o6 t a σ) rfl 1 (by decide) (hts (.fieldLink R_Fb 19 "FlatBoxes" "partRows" "LFlatBoxes$Parts;") (List.mem_cons_of_mem _ (gIn k_245 (by decide +kernel)))) (fun _ h9 => h9) rfl d_Fb_run_19 ?_
    refine lv_aload_n hx hb d_Fb_run_22 rfl (lv_at hl 0 rfl) ?_
    refine va_get (D := D) (ci := 6) (v := .ref (a 299)) (C := R_Fb) (T := F_Fb) (N := 6) hx hb hts (fun w h => List.mem_cons_of_mem _ (i_Fb w h)) hown hK.1 hP 0 (wFb_o6 t a σ) rfl 2 (by decide) (hts (.fieldLink R_Fb 37 "FlatBoxes" "packing" "LFlatBoxes$Packing;") (List.mem_cons_of_mem _ (gIn k_246 (by decide +kernel)))) (fun _ h9 => h9) rfl d_Fb_run_23 ?_
    refine g_vv (k := 3) (As := [.ref (a 199), .ref (a 399), .ref (a 299)]) (rest := []) (own := R_Fb) (C := R_Sr) (index := 131) ⟨hx, hb, hml, hown, hts⟩ (c_Sr_find_any l D t a σ np hN hN8 bt hbt nc M hC hC4 hM hM8 hI) (gg_Fb_131 _) (by decide +kernel) ⟨Nat.le_of_ble_eq_true rfl, Nat.le_of_ble_eq_true rfl⟩ rfl (va_recv hK.1 hP (ci := 4) (q0 := 4) rfl (wFb_o4 t a σ)) hK hP hD hS hl.1 rfl (Nat.le_of_ble_eq_true rfl) ⟨Nat.zero_le _, Nat.zero_le _⟩ d_Fb_run_26 (fun u_2 H locs q_2 hP hD hS => ?_)
    have hu_2 : u_2 = _ := q_2
    rw [hu_2] at hP hD
    refine lv_aload_n hx hb d_Fb_run_29 rfl (lv_at hl 0 rfl) ?_
    refine va_get (D := D) (ci := 6) (v := .ref (a 599)) (C := R_Fb) (T := F_Fb) (N := 6) hx hb hts (fun w h => List.mem_cons_of_mem _ (i_Fb w h)) hown hK.1 hP 0 (wFb_o6 t a (fRunZ σ bt nc np M)) rfl 4 (by decide) (hts (.fieldLink R_Fb 51 "FlatBoxes" "shares" "LFlatBoxes$Shares;") (List.mem_cons_of_mem _ (gIn k_248 (by decide +kernel)))) (fun _ h9 => h9) rfl d_Fb_run_30 ?_
    refine lv_aload_n hx hb d_Fb_run_33 rfl (lv_at hl 0 rfl) ?_
    refine va_get (D := D) (ci := 6) (v := .ref (a 499)) (C := R_Fb) (T := F_Fb) (N := 6) hx hb hts (fun w h => List.mem_cons_of_mem _ (i_Fb w h)) hown hK.1 hP 0 (wFb_o6 t a (fRunZ σ bt nc np M)) rfl 3 (by decide) (hts (.fieldLink R_Fb 44 "FlatBoxes" "search" "LFlatBoxes$Search;") (List.mem_cons_of_mem _ (gIn k_247 (by decide +kernel)))) (fun _ h9 => h9) rfl d_Fb_run_34 ?_
    refine lv_aload_n hx hb d_Fb_run_37 rfl (lv_at hl 0 rfl) ?_
    refine va_get (D := D) (ci := 6) (v := .ref (a 199)) (C := R_Fb) (T := F_Fb) (N := 6) hx hb hts (fun w h => List.mem_cons_of_mem _ (i_Fb w h)) hown hK.1 hP 0 (wFb_o6 t a (fRunZ σ bt nc np M)) rfl 0 (by decide) (hts (.fieldLink R_Fb 12 "FlatBoxes" "cartonRows" "LFlatBoxes$Cartons;") (List.mem_cons_of_mem _ (gIn k_244 (by decide +kernel)))) (fun _ h9 => h9) rfl d_Fb_run_38 ?_
    refine lv_aload_n hx hb d_Fb_run_41 rfl (lv_at hl 0 rfl) ?_
    refine va_get (D := D) (ci := 6) (v := .ref (a 399)) (C := R_Fb) (T := F_Fb) (N := 6) hx hb hts (fun w h => List.mem_cons_of_mem _ (i_Fb w h)) hown hK.1 hP 0 (wFb_o6 t a (fRunZ σ bt nc np M)) rfl 1 (by decide) (hts (.fieldLink R_Fb 19 "FlatBoxes" "partRows" "LFlatBoxes$Parts;") (List.mem_cons_of_mem _ (gIn k_245 (by decide +kernel)))) (fun _ h9 => h9) rfl d_Fb_run_42 ?_
    refine lv_aload_n hx hb d_Fb_run_45 rfl (lv_at hl 0 rfl) ?_
    refine va_get (D := D) (ci := 6) (v := .ref (a 299)) (C := R_Fb) (T := F_Fb) (N := 6) hx hb hts (fun w h => List.mem_cons_of_mem _ (i_Fb w h)) hown hK.1 hP 0 (wFb_o6 t a (fRunZ σ bt nc np M)) rfl 2 (by decide) (hts (.fieldLink R_Fb 37 "FlatBoxes" "packing" "LFlatBoxes$Packing;") (List.mem_cons_of_mem _ (gIn k_246 (by decide +kernel)))) (fun _ h9 => h9) rfl d_Fb_run_46 ?_
    refine g_vv (k := 4) (As := [.ref (a 499), .ref (a 199), .ref (a 399), .ref (a 299)]) (rest := []) (own := R_Fb) (C := R_Sh) (index := 135) ⟨hx, hb, hml, hown, hts⟩ (c_Sh_take_any l D t a (fRunZ σ bt nc np M) np (hz c_1).1 hN8 bt (hz c_1).2.1 hsur sx cx nbx (hz c_1).2.2.1 (hz c_1).2.2.2) (gg_Fb_135 _) (by decide +kernel) ⟨Nat.le_of_ble_eq_true rfl, Nat.le_of_ble_eq_true rfl⟩ rfl (va_recv hK.1 hP (ci := 5) (q0 := 5) rfl (wFb_o5 t a (fRunZ σ bt nc np M))) hK hP hD hS hl.1 rfl (Nat.le_of_ble_eq_true rfl) ⟨Nat.zero_le _, Nat.zero_le _⟩ d_Fb_run_49 (fun u_3 H locs q_3 hP hD hS => ?_)
    have hu_3 : u_3 = _ := q_3
    rw [hu_3] at hP hD
    refine lv_aload_n hx hb d_Fb_run_52 rfl (lv_at hl 0 rfl) ?_
    refine va_get (D := D) (ci := 6) (v := .ref (a 599)) (C := R_Fb) (T := F_Fb) (N := 6) hx hb hts (fun w h => List.mem_cons_of_mem _ (i_Fb w h)) hown hK.1 hP 0 (wFb_o6 t a (fTakeU (fRunZ σ bt nc np M) bt sx cx np nbx)) rfl 4 (by decide) (hts (.fieldLink R_Fb 51 "FlatBoxes" "shares" "LFlatBoxes$Shares;") (List.mem_cons_of_mem _ (gIn k_248 (by decide +kernel)))) (fun _ h9 => h9) rfl d_Fb_run_53 ?_
    refine va_get (D := D) (ci := 5) (v := .int ((fTakeU (fRunZ σ bt nc np M) bt sx cx np nbx) 503 0)) (C := R_Sh) (T := F_Sh) (N := 5) hx hb hts (fun w h => List.mem_cons_of_mem _ (i_Sh w h)) hown hK.1 hP 5 (wFb_o5 t a (fTakeU (fRunZ σ bt nc np M) bt sx cx np nbx)) rfl 3 (by decide) (hts (.fieldLink R_Fb 139 "FlatBoxes$Shares" "boxes" "I") (List.mem_cons_of_mem _ (gIn k_199 (by decide +kernel)))) (fun _ h9 => h9) rfl d_Fb_run_56 ?_
    exact W.iret (v := (fTakeU (fRunZ σ bt nc np M) bt sx cx np nbx) 503 0) hx hb hr (fun U hU hW => ⟨⟨(fTakeU (fRunZ σ bt nc np M) bt sx cx np nbx) 503 0, fTakeU (fRunZ σ bt nc np M) bt sx cx np nbx, rfl, by have e : fRunU σ bt sx cx nc np M nbx = fTakeU (fRunZ σ bt nc np M) bt sx cx np nbx := (by unfold fRunU; rw [if_pos (by assumption)]); exact ⟨by rw [e], e.symm⟩, by rw [hU]; exact hP, hD⟩, hS.F hU⟩) hS.2.2 d_Fb_run_59
