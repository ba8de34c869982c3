theorem fPlc_ok {q n : Nat} (h : q < n) (hn : n ≤ 1000) : fPlc (nI q) (nI n) = 1 := by
  unfold fPlc
  rw [if_neg (nI_pos (by omega)), if_neg (nI_ge h (by omega))]
theorem fHeldR01 (σ : Nat → Nat → Int32) (bt : Nat → Nat) (set : Int32) (cc np : Nat) : fHeldR σ bt set cc np = 0 ∨ fHeldR σ bt set cc np = 1 := by
  unfold fHeldR
  split
  · exact Or.inl rfl
  · split
    · exact Or.inl rfl
    · split
      · exact Or.inl rfl
      · split
        · exact Or.inl rfl
        · exact Or.inr rfl
def fForg (σ : Nat → Nat → Int32) : Nat → Nat → Int32 := gSt (gSt σ 502 0 0) 503 0 (-1)
def fFragU (σ : Nat → Nat → Int32) (q : Nat) (on : Int32) : Nat → Nat → Int32 := if ¬ σ 305 q = on then gSt (fForg σ) 305 q on else σ
def fFragR (σ : Nat → Nat → Int32) (q : Nat) (on : Int32) : Int32 := if ¬ σ 305 q = on then 1 else 0
def fRai (σ : Nat → Nat → Int32) (c1 : Nat) (rm : Int32) : Int32 := if rm * rm < σ 101 c1 * σ 101 c1 + σ 102 c1 * σ 102 c1 then 0 else 1

theorem gg_Fb_62 (w0 : Cond) : GoodIn (w0 :: gBig) (wsS R_Fb 62 y_Fb_areSides (.code y_Fb_areSides b_Fb_areSides 3 (some .boolean) :: gBig)) := gGoodS (gIn k_392 (by decide +kernel)) (gIn k_393 (by decide +kernel)) (gIn k_1 (by decide +kernel)) (gIn k_394 (by decide +kernel))
theorem gg_Fb_88 (w0 : Cond) : GoodIn (w0 :: gBig) (wsV R_Fb 88 R_Sh y_Sh_forget (.code y_Sh_forget b_Sh_forget 1 none :: gBig)) := gGoodV (gIn k_484 (by decide +kernel)) (gIn k_485 (by decide +kernel)) (gIn k_486 (by decide +kernel)) (gIn k_7 (by decide +kernel)) (gIn k_487 (by decide +kernel))
theorem gg_Fb_91 (w0 : Cond) : GoodIn (w0 :: gBig) (wsV R_Fb 91 R_Ct y_Ct_add (.code y_Ct_add b_Ct_add 7 (some .int) :: gBig)) := gGoodV (gIn k_488 (by decide +kernel)) (gIn k_489 (by decide +kernel)) (gIn k_490 (by decide +kernel)) (gIn k_2 (by decide +kernel)) (gIn k_491 (by decide +kernel))
theorem gg_Fb_101 (w0 : Cond) : GoodIn (w0 :: gBig) (wsV R_Fb 101 R_Pt y_Pt_add (.code y_Pt_add b_Pt_add 7 (some .int) :: gBig)) := gGoodV (gIn k_502 (by decide +kernel)) (gIn k_503 (by decide +kernel)) (gIn k_504 (by decide +kernel)) (gIn k_3 (by decide +kernel)) (gIn k_505 (by decide +kernel))
theorem gg_Fb_102 (w0 : Cond) : GoodIn (w0 :: gBig) (wsS R_Fb 102 y_Fb_isPlace (.code y_Fb_isPlace b_Fb_isPlace 2 (some .boolean) :: gBig)) := gGoodS (gIn k_522 (by decide +kernel)) (gIn k_523 (by decide +kernel)) (gIn k_1 (by decide +kernel)) (gIn k_524 (by decide +kernel))
theorem gg_Fb_117 (w0 : Cond) : GoodIn (w0 :: gBig) (wsV R_Fb 117 R_Pt y_Pt_everyPart (.code y_Pt_everyPart b_Pt_everyPart 1 (some .int) :: gBig)) := gGoodV (gIn k_549 (by decide +kernel)) (gIn k_273 (by decide +kernel)) (gIn k_274 (by decide +kernel)) (gIn k_3 (by decide +kernel)) (gIn k_275 (by decide +kernel))
theorem gg_Fb_123 (w0 : Cond) : GoodIn (w0 :: gBig) (wsV R_Fb 123 R_Pk y_Pk_isHeldBy (.code y_Pk_isHeldBy b_Pk_isHeldBy 5 (some .boolean) :: gBig)) := gGoodV (gIn k_551 (by decide +kernel)) (gIn k_281 (by decide +kernel)) (gIn k_282 (by decide +kernel)) (gIn k_4 (by decide +kernel)) (gIn k_283 (by decide +kernel))
theorem gg_Fb_142 (w0 : Cond) : GoodIn (w0 :: gBig) (wsV R_Fb 142 R_Fb y_Fb_needShares (.code y_Fb_needShares b_Fb_needShares 1 none :: gBig)) := gGoodV (gIn k_559 (by decide +kernel)) (gIn k_561 (by decide +kernel)) (gInP (List.mem_of_getElem? (i := 13) (by decide +kernel)) (by decide +kernel)) (gIn k_1 (by decide +kernel)) (gIn k_562 (by decide +kernel))
theorem gg_Fb_168 (w0 : Cond) : GoodIn (w0 :: gBig) (wsV R_Fb 168 R_Bg y_Bg_add (.code y_Bg_add b_Bg_add 2 (some .int) :: gBig)) := gGoodV (gIn k_596 (by decide +kernel)) (gIn k_597 (by decide +kernel)) (gIn k_598 (by decide +kernel)) (gIn k_8 (by decide +kernel)) (gIn k_599 (by decide +kernel))
theorem gg_Fb_181 (w0 : Cond) : GoodIn (w0 :: gBig) (wsV R_Fb 181 R_Bg y_Bg_addKind (.code y_Bg_addKind b_Bg_addKind 6 (some .int) :: gBig)) := gGoodV (gIn k_611 (by decide +kernel)) (gIn k_612 (by decide +kernel)) (gIn k_613 (by decide +kernel)) (gIn k_8 (by decide +kernel)) (gIn k_614 (by decide +kernel))
theorem gg_Fb_187 (w0 : Cond) : GoodIn (w0 :: gBig) (wsV R_Fb 187 R_Bg y_Bg_judge (.code y_Bg_judge b_Bg_judge 4 (some .int) :: gBig)) := gGoodV (gIn k_623 (by decide +kernel)) (gIn k_624 (by decide +kernel)) (gIn k_625 (by decide +kernel)) (gIn k_8 (by decide +kernel)) (gIn k_626 (by decide +kernel))
theorem gg_Fb_203 (w0 : Cond) : GoodIn (w0 :: gBig) (wsV R_Fb 203 R_Sh y_Sh_stackOnPallets (.code y_Sh_stackOnPallets b_Sh_stackOnPallets 6 (some .int) :: gBig)) := gGoodV (gIn k_656 (by decide +kernel)) (gIn k_657 (by decide +kernel)) (gIn k_658 (by decide +kernel)) (gIn k_7 (by decide +kernel)) (gIn k_659 (by decide +kernel))
set_option maxHeartbeats 4000000 in
set_option maxRecDepth 100000 in
theorem c_Fb_needShares (l : Launch) (D : va_G) (t : Nat → ClassId) (a : Nat → Nat) (σ : Nat → Nat → Int32) (hsh : ¬ σ 503 0 = -1)  : gMv l D t y_Fb_needShares b_Fb_needShares 1 0 [.ref (a 699)] (wFb t a σ) (wFb t a) (fun u => u = σ) := by
  intro A
  refine Met.ofW (cc := b_Fb_needShares) (maxL := 1) (ret := none) (by decide) rfl ?_
  intro p e s m args below meth c s₁ B hml hv
  obtain ⟨rfl, hK, hP, hD⟩ := hv
  have hx := B.exec
  have hb := B.bytes
  have hr := B.returns
  have hts := atoms_spec (ws := .code y_Fb_needShares b_Fb_needShares 1 none :: gBig) B.pre
  have hown : s.vm.findClass R_Fb = some m.cls := findClass_of_methodNamed B.named
  have hlocks := B.notSynchronized
  have hS : va_S A s.heap s.heap [] := va_S.rf
  have hl := lv_entry ([.ref (a 699)]) (n := 1) (Nat.le_of_ble_eq_true rfl)
  rw [lg_entry_eq]
  generalize (lg_sl ([.ref (a 699)]) ++ List.replicate (1 - (lg_sl ([.ref (a 699)])).length) Slot.unset).toArray = ls at hl ⊢
  have hl : lv_has ls 1 [(0, .ref (a 699))] := hl
  show gGov l p e s m below meth c D t A 0 [.ref (a 699)] (wFb t a) (fun u => u = σ) s.heap [] (F0 m 0 ls [])
  refine lv_aload_n hx hb d_Fb_needShares_0 rfl (lv_at hl 0 rfl) ?_
  refine va_get (D := D) (ci := 6) (v := .ref (a 599)) (C := R_Fb) (T := F_Fb) (N := 6) hx hb hts (fun w h => List.mem_cons_of_mem _ (i_Fb w h)) hown hK.1 hP 0 (wFb_o6 t a σ) rfl 4 (by decide) (hts (.fieldLink R_Fb 51 "FlatBoxes" "shares" "LFlatBoxes$Shares;") (List.mem_cons_of_mem _ (gIn k_248 (by decide +kernel)))) (fun _ h9 => h9) rfl d_Fb_needShares_1 ?_
  refine va_get (D := D) (ci := 5) (v := .int (σ 503 0)) (C := R_Sh) (T := F_Sh) (N := 5) hx hb hts (fun w h => List.mem_cons_of_mem _ (i_Sh w h)) hown hK.1 hP 5 (wFb_o5 t a σ) rfl 3 (by decide) (hts (.fieldLink R_Fb 139 "FlatBoxes$Shares" "boxes" "I") (List.mem_cons_of_mem _ (gIn k_199 (by decide +kernel)))) (fun _ h9 => h9) rfl d_Fb_needShares_4 ?_
  refine lv_iconst (v := -1) hx hb d_Fb_needShares_7 (by decide) ?_
  refine lv_icmp_ne (tgt := 21) hx hb d_Fb_needShares_8 (by decide) (fun c_1 => ?_) (fun c_1 => ?_)
  · 
    exact W.vret hx hb hr (fun U hU hW => ⟨⟨σ, rfl, by rfl, by rw [hU]; exact hP, hD⟩, hS.F hU⟩) hS.2.2 d_Fb_needShares_21
  · 
    exact absurd c_1 (hsh)
set_option maxHeartbeats 4000000 in
set_option maxRecDepth 100000 in
theorem c_Fb_carton (l : Launch) (D : va_G) (t : Nat → ClassId) (a : Nat → Nat) (σ : Nat → Nat → Int32) (wd dp ht ct gr : Int32) (nc : Nat) (hC : σ 105 0 = nI nc) (hC4 : nc < 4) (h1 : ¬ fSides wd dp ht = 0) (h2 : ¬ mIn ct 1 100000 = 0) (h3 : ¬ mIn gr 1 100000 = 0) : gMi l D t y_Fb_carton b_Fb_carton 6 (some .int) 2 [.ref (a 699), .int wd, .int dp, .int ht, .int ct, .int gr] (wFb t a σ) (wFb t a) (fun r u => r = nI nc ∧ u = fCartU (fForg σ) nc wd dp ht ct gr) := by
  intro A
  refine Met.ofW (cc := b_Fb_carton) (maxL := 6) (ret := (some .int)) (by decide) rfl ?_
  intro p e s m args below meth c s₁ B hml hv
  obtain ⟨rfl, hK, hP, hD⟩ := hv
  have hx := B.exec
  have hb := B.bytes
  have hr := B.returns
  have hts := atoms_spec (ws := .code y_Fb_carton b_Fb_carton 6 (some .int) :: gBig) B.pre
  have hown : s.vm.findClass R_Fb = some m.cls := findClass_of_methodNamed B.named
  have hlocks := B.notSynchronized
  have hS : va_S A s.heap s.heap [] := va_S.rf
  have hl := lv_entry ([.ref (a 699), .int wd, .int dp, .int ht, .int ct, .int gr]) (n := 6) (Nat.le_of_ble_eq_true rfl)
  rw [lg_entry_eq]
  generalize (lg_sl ([.ref (a 699), .int wd, .int dp, .int ht, .int ct, .int gr]) ++ List.replicate (6 - (lg_sl ([.ref (a 699), .int wd, .int dp, .int ht, .int ct, .int gr])).length) Slot.unset).toArray = ls at hl ⊢
  have hl : lv_has ls 6 [(0, .ref (a 699)), (1, .int wd), (2, .int dp), (3, .int ht), (4, .int ct), (5, .int gr)] := hl
  show gGo l p e s m below meth c D t A 2 [.ref (a 699), .int wd, .int dp, .int ht, .int ct, .int gr] (wFb t a) (fun r u => r = nI nc ∧ u = fCartU (fForg σ) nc wd dp ht ct gr) s.heap [] (F0 m 0 ls [])
  refine lv_iload_n hx hb d_Fb_carton_0 rfl (lv_at hl 1 rfl) ?_
  refine lv_iload_n hx hb d_Fb_carton_1 rfl (lv_at hl 2 rfl) ?_
  refine lv_iload_n hx hb d_Fb_carton_2 rfl (lv_at hl 3 rfl) ?_
  refine g_si (k := 3) (As := [.int wd, .int dp, .int ht]) (rest := []) (own := R_Fb) (index := 62) ⟨hx, hb, hml, hown, hts⟩ (c_Fb_areSides l D t a σ wd dp ht) (gg_Fb_62 _) (by decide +kernel) ⟨Nat.le_of_ble_eq_true rfl, Nat.le_of_ble_eq_true rfl⟩ rfl hK hP hD hS hl.1 rfl (Nat.le_of_ble_eq_true rfl) ⟨Nat.zero_le _, Nat.zero_le _⟩ d_Fb_carton_3 (fun r_1 u_1 H locs q_1 hP hD hS => ?_)
  obtain ⟨rfl, hu_1⟩ := q_1
  rw [hu_1] at hP hD
  refine lv_if_ne (tgt := 19) hx hb d_Fb_carton_6 (by decide) (fun c_2 => ?_) (fun c_2 => ?_)
  · 
    refine lv_iload hx hb d_Fb_carton_19 (lv_at hl 4 rfl) ?_
    refine lv_iconst (v := 1) hx hb d_Fb_carton_21 (by decide) ?_
    refine lv_ldc hx hb hown (hts (.constant R_Fb 73 100000) (List.mem_cons_of_mem _ (gIn k_466 (by decide +kernel)))) d_Fb_carton_22 ?_
    refine g_si (k := 3) (As := [.int ct, .int 1, .int 100000]) (rest := []) (own := R_Fb) (index := 74) ⟨hx, hb, hml, hown, hts⟩ (c_Fb_isWithin l D t a σ ct 1 100000) (gg_Fb_74 _) (by decide +kernel) ⟨Nat.le_of_ble_eq_true rfl, Nat.le_of_ble_eq_true rfl⟩ rfl hK hP hD hS hl.1 rfl (Nat.le_of_ble_eq_true rfl) ⟨Nat.zero_le _, Nat.zero_le _⟩ d_Fb_carton_24 (fun r_3 u_3 H locs q_3 hP hD hS => ?_)
    obtain ⟨rfl, hu_3⟩ := q_3
    rw [hu_3] at hP hD
    refine lv_if_eq (tgt := 41) hx hb d_Fb_carton_27 (by decide) (fun c_4 => ?_) (fun c_4 => ?_)
    · 
      exact absurd c_4 (h2)
    · 
      refine lv_iload hx hb d_Fb_carton_30 (lv_at hl 5 rfl) ?_
      refine lv_iconst (v := 1) hx hb d_Fb_carton_32 (by decide) ?_
      refine lv_ldc hx hb hown (hts (.constant R_Fb 73 100000) (List.mem_cons_of_mem _ (gIn k_466 (by decide +kernel)))) d_Fb_carton_33 ?_
      refine g_si (k := 3) (As := [.int gr, .int 1, .int 100000]) (rest := []) (own := R_Fb) (index := 74) ⟨hx, hb, hml, hown, hts⟩ (c_Fb_isWithin l D t a σ gr 1 100000) (gg_Fb_74 _) (by decide +kernel) ⟨Nat.le_of_ble_eq_true rfl, Nat.le_of_ble_eq_true rfl⟩ rfl hK hP hD hS hl.1 rfl (Nat.le_of_ble_eq_true rfl) ⟨Nat.zero_le _, Nat.zero_le _⟩ d_Fb_carton_35 (fun r_5 u_5 H locs q_5 hP hD hS => ?_)
      obtain ⟨rfl, hu_5⟩ := q_5
      rw [hu_5] at hP hD
      refine lv_if_ne (tgt := 51) hx hb d_Fb_carton_38 (by decide) (fun c_6 => ?_) (fun c_6 => ?_)
      · 
        refine lv_aload_n hx hb d_Fb_carton_51 rfl (lv_at hl 0 rfl) ?_
        refine va_get (D := D) (ci := 6) (v := .ref (a 199)) (C := R_Fb) (T := F_Fb) (N := 6) hx hb hts (fun w h => List.mem_cons_of_mem _ (i_Fb w h)) hown hK.1 hP 0 (wFb_o6 t a σ) rfl 0 (by decide) (hts (.fieldLink R_Fb 12 "FlatBoxes" "cartonRows" "LFlatBoxes$Cartons;") (List.mem_cons_of_mem _ (gIn k_244 (by decide +kernel)))) (fun _ h9 => h9) rfl d_Fb_carton_52 ?_
        refine va_get (D := D) (ci := 1) (v := .int (σ 105 0)) (C := R_Ct) (T := F_Ct) (N := 6) hx hb hts (fun w h => List.mem_cons_of_mem _ (i_Ct w h)) hown hK.1 hP 1 (wFb_o1 t a σ) rfl 5 (by decide) (hts (.fieldLink R_Fb 79 "FlatBoxes$Cartons" "count" "I") (List.mem_cons_of_mem _ (gIn k_47 (by decide +kernel)))) (fun _ h9 => h9) rfl d_Fb_carton_55 ?_
        refine lv_topi (fun v_7 e_7 => ?_)
        obtain rfl : nI nc = v_7 := (e_7.trans hC).symm
        refine lv_iconst (v := 4) hx hb d_Fb_carton_58 (by decide) ?_
        refine lv_icmp_lt (tgt := 72) hx hb d_Fb_carton_59 (by decide) (fun c_8 => ?_) (fun c_8 => ?_)
        · 
          have h_8 : nc < 4 := (nI_ltI (a := nc) (b := 4) (by omega) (by omega)).mp c_8
          refine lv_aload_n hx hb d_Fb_carton_72 rfl (lv_at hl 0 rfl) ?_
          refine va_get (D := D) (ci := 6) (v := .ref (a 599)) (C := R_Fb) (T := F_Fb) (N := 6) hx hb hts (fun w h => List.mem_cons_of_mem _ (i_Fb w h)) hown hK.1 hP 0 (wFb_o6 t a σ) rfl 4 (by decide) (hts (.fieldLink R_Fb 51 "FlatBoxes" "shares" "LFlatBoxes$Shares;") (List.mem_cons_of_mem _ (gIn k_248 (by decide +kernel)))) (fun _ h9 => h9) rfl d_Fb_carton_73 ?_
          refine g_vv (k := 0) (As := []) (rest := []) (own := R_Fb) (C := R_Sh) (index := 88) ⟨hx, hb, hml, hown, hts⟩ (c_Sh_forget l D t a σ) (gg_Fb_88 _) (by decide +kernel) ⟨Nat.le_of_ble_eq_true rfl, Nat.le_of_ble_eq_true rfl⟩ rfl (va_recv hK.1 hP (ci := 5) (q0 := 5) rfl (wFb_o5 t a σ)) hK hP hD hS hl.1 rfl (Nat.le_of_ble_eq_true rfl) ⟨Nat.zero_le _, Nat.zero_le _⟩ d_Fb_carton_76 (fun u_9 H locs q_9 hP hD hS => ?_)
          have hu_9 : u_9 = _ := q_9
          rw [hu_9] at hP hD
          have hP : va_P D gCl (wFb t a (fForg σ)) H := hP
          have hD : va_D A (wFb t a (fForg σ)) := hD
          refine lv_aload_n hx hb d_Fb_carton_79 rfl (lv_at hl 0 rfl) ?_
          refine va_get (D := D) (ci := 6) (v := .ref (a 199)) (C := R_Fb) (T := F_Fb) (N := 6) hx hb hts (fun w h => List.mem_cons_of_mem _ (i_Fb w h)) hown hK.1 hP 0 (wFb_o6 t a (fForg σ)) rfl 0 (by decide) (hts (.fieldLink R_Fb 12 "FlatBoxes" "cartonRows" "LFlatBoxes$Cartons;") (List.mem_cons_of_mem _ (gIn k_244 (by decide +kernel)))) (fun _ h9 => h9) rfl d_Fb_carton_80 ?_
          refine lv_iload_n hx hb d_Fb_carton_83 rfl (lv_at hl 1 rfl) ?_
          refine lv_iload_n hx hb d_Fb_carton_84 rfl (lv_at hl 2 rfl) ?_
          refine lv_iload_n hx hb d_Fb_carton_85 rfl (lv_at hl 3 rfl) ?_
          refine lv_iload hx hb d_Fb_carton_86 (lv_at hl 4 rfl) ?_
          refine lv_iload hx hb d_Fb_carton_88 (lv_at hl 5 rfl) ?_
          refine g_vi (k := 5) (As := [.int wd, .int dp, .int ht, .int ct, .int gr]) (rest := []) (own := R_Fb) (C := R_Ct) (index := 91) ⟨hx, hb, hml, hown, hts⟩ (c_Ct_add l D t a (fForg σ) wd dp ht ct gr nc hC (by omega)) (gg_Fb_91 _) (by decide +kernel) ⟨Nat.le_of_ble_eq_true rfl, Nat.le_of_ble_eq_true rfl⟩ rfl (va_recv hK.1 hP (ci := 1) (q0 := 1) rfl (wFb_o1 t a (fForg σ))) hK hP hD hS hl.1 rfl (Nat.le_of_ble_eq_true rfl) ⟨Nat.zero_le _, Nat.zero_le _⟩ d_Fb_carton_90 (fun r_10 u_10 H locs q_10 hP hD hS => ?_)
          obtain ⟨rfl, hu_10⟩ := q_10
          rw [hu_10] at hP hD
          exact W.iret (v := nI nc) hx hb hr (fun U hU hW => ⟨⟨nI nc, fCartU (fForg σ) nc wd dp ht ct gr, rfl, by exact ⟨rfl, rfl⟩, by rw [hU]; exact hP, hD⟩, hS.F hU⟩) hS.2.2 d_Fb_carton_93
        · 
          exact absurd c_8 ((fun h9 => h9 ((nI_ltI (a := nc) (b := 4) (by omega) (by omega)).mpr (by omega))))
      · 
        exact absurd c_6 (h3)
  · 
    exact absurd c_2 (h1)
set_option maxHeartbeats 4000000 in
set_option maxRecDepth 100000 in
theorem c_Fb_part (l : Launch) (D : va_G) (t : Nat → ClassId) (a : Nat → Nat) (σ : Nat → Nat → Int32) (wd dp ht gr sp : Int32) (np : Nat) (hN : σ 308 0 = nI np) (hN8 : np < 8) (bt bs : Nat → Nat) (hbt : ∀ k, k < np → σ 306 k = nI (bt k) ∧ bt k < 8) (hbs : ∀ k, k < np → σ 307 k = nI (bs k) ∧ bs k < 8) (h1 : ¬ fSides wd dp ht = 0) (h2 : ¬ mIn gr 1 50000 = 0) (h3 : ¬ mIn sp 0 50 = 0) : gMi l D t y_Fb_part b_Fb_part 6 (some .int) 2 [.ref (a 699), .int wd, .int dp, .int ht, .int gr, .int sp] (wFb t a σ) (wFb t a) (fun r u => r = nI np ∧ u = fPartU (fForg σ) np bt bs wd dp ht gr sp) := by
  intro A
  refine Met.ofW (cc := b_Fb_part) (maxL := 6) (ret := (some .int)) (by decide) rfl ?_
  intro p e s m args below meth c s₁ B hml hv
  obtain ⟨rfl, hK, hP, hD⟩ := hv
  have hx := B.exec
  have hb := B.bytes
  have hr := B.returns
  have hts := atoms_spec (ws := .code y_Fb_part b_Fb_part 6 (some .int) :: gBig) B.pre
  have hown : s.vm.findClass R_Fb = some m.cls := findClass_of_methodNamed B.named
  have hlocks := B.notSynchronized
  have hS : va_S A s.heap s.heap [] := va_S.rf
  have hl := lv_entry ([.ref (a 699), .int wd, .int dp, .int ht, .int gr, .int sp]) (n := 6) (Nat.le_of_ble_eq_true rfl)
  rw [lg_entry_eq]
  generalize (lg_sl ([.ref (a 699), .int wd, .int dp, .int ht, .int gr, .int sp]) ++ List.replicate (6 - (lg_sl ([.ref (a 699), .int wd, .int dp, .int ht, .int gr, .int sp])).length) Slot.unset).toArray = ls at hl ⊢
  have hl : lv_has ls 6 [(0, .ref (a 699)), (1, .int wd), (2, .int dp), (3, .int ht), (4, .int gr), (5, .int sp)] := hl
  show gGo l p e s m below meth c D t A 2 [.ref (a 699), .int wd, .int dp, .int ht, .int gr, .int sp] (wFb t a) (fun r u => r = nI np ∧ u = fPartU (fForg σ) np bt bs wd dp ht gr sp) s.heap [] (F0 m 0 ls [])
  refine lv_iload_n hx hb d_Fb_part_0 rfl (lv_at hl 1 rfl) ?_
  refine lv_iload_n hx hb d_Fb_part_1 rfl (lv_at hl 2 rfl) ?_
  refine lv_iload_n hx hb d_Fb_part_2 rfl (lv_at hl 3 rfl) ?_
  refine g_si (k := 3) (As := [.int wd, .int dp, .int ht]) (rest := []) (own := R_Fb) (index := 62) ⟨hx, hb, hml, hown, hts⟩ (c_Fb_areSides l D t a σ wd dp ht) (gg_Fb_62 _) (by decide +kernel) ⟨Nat.le_of_ble_eq_true rfl, Nat.le_of_ble_eq_true rfl⟩ rfl hK hP hD hS hl.1 rfl (Nat.le_of_ble_eq_true rfl) ⟨Nat.zero_le _, Nat.zero_le _⟩ d_Fb_part_3 (fun r_1 u_1 H locs q_1 hP hD hS => ?_)
  obtain ⟨rfl, hu_1⟩ := q_1
  rw [hu_1] at hP hD
  refine lv_if_ne (tgt := 19) hx hb d_Fb_part_6 (by decide) (fun c_2 => ?_) (fun c_2 => ?_)
  · 
    refine lv_iload hx hb d_Fb_part_19 (lv_at hl 4 rfl) ?_
    refine lv_iconst (v := 1) hx hb d_Fb_part_21 (by decide) ?_
    refine lv_ldc hx hb hown (hts (.constant R_Fb 95 50000) (List.mem_cons_of_mem _ (gIn k_499 (by decide +kernel)))) d_Fb_part_22 ?_
    refine g_si (k := 3) (As := [.int gr, .int 1, .int 50000]) (rest := []) (own := R_Fb) (index := 74) ⟨hx, hb, hml, hown, hts⟩ (c_Fb_isWithin l D t a σ gr 1 50000) (gg_Fb_74 _) (by decide +kernel) ⟨Nat.le_of_ble_eq_true rfl, Nat.le_of_ble_eq_true rfl⟩ rfl hK hP hD hS hl.1 rfl (Nat.le_of_ble_eq_true rfl) ⟨Nat.zero_le _, Nat.zero_le _⟩ d_Fb_part_24 (fun r_3 u_3 H locs q_3 hP hD hS => ?_)
    obtain ⟨rfl, hu_3⟩ := q_3
    rw [hu_3] at hP hD
    refine lv_if_eq (tgt := 41) hx hb d_Fb_part_27 (by decide) (fun c_4 => ?_) (fun c_4 => ?_)
    · 
      exact absurd c_4 (h2)
    · 
      refine lv_iload hx hb d_Fb_part_30 (lv_at hl 5 rfl) ?_
      refine lv_iconst (v := 0) hx hb d_Fb_part_32 (by decide) ?_
      refine lv_bipush (v := 50) hx hb d_Fb_part_33 (by decide) ?_
      refine g_si (k := 3) (As := [.int sp, .int 0, .int 50]) (rest := []) (own := R_Fb) (index := 74) ⟨hx, hb, hml, hown, hts⟩ (c_Fb_isWithin l D t a σ sp 0 50) (gg_Fb_74 _) (by decide +kernel) ⟨Nat.le_of_ble_eq_true rfl, Nat.le_of_ble_eq_true rfl⟩ rfl hK hP hD hS hl.1 rfl (Nat.le_of_ble_eq_true rfl) ⟨Nat.zero_le _, Nat.zero_le _⟩ d_Fb_part_35 (fun r_5 u_5 H locs q_5 hP hD hS => ?_)
      obtain ⟨rfl, hu_5⟩ := q_5
      rw [hu_5] at hP hD
      refine lv_if_ne (tgt := 51) hx hb d_Fb_part_38 (by decide) (fun c_6 => ?_) (fun c_6 => ?_)
      · 
        refine lv_aload_n hx hb d_Fb_part_51 rfl (lv_at hl 0 rfl) ?_
        refine va_get (D := D) (ci := 6) (v := .ref (a 399)) (C := R_Fb) (T := F_Fb) (N := 6) hx hb hts (fun w h => List.mem_cons_of_mem _ (i_Fb w h)) hown hK.1 hP 0 (wFb_o6 t a σ) rfl 1 (by decide) (hts (.fieldLink R_Fb 19 "FlatBoxes" "partRows" "LFlatBoxes$Parts;") (List.mem_cons_of_mem _ (gIn k_245 (by decide +kernel)))) (fun _ h9 => h9) rfl d_Fb_part_52 ?_
        refine va_get (D := D) (ci := 3) (v := .int (σ 308 0)) (C := R_Pt) (T := F_Pt) (N := 9) hx hb hts (fun w h => List.mem_cons_of_mem _ (i_Pt w h)) hown hK.1 hP 2 (wFb_o3 t a σ) rfl 8 (by decide) (hts (.fieldLink R_Fb 98 "FlatBoxes$Parts" "count" "I") (List.mem_cons_of_mem _ (gIn k_88 (by decide +kernel)))) (fun _ h9 => h9) rfl d_Fb_part_55 ?_
        refine lv_topi (fun v_7 e_7 => ?_)
        obtain rfl : nI np = v_7 := (e_7.trans hN).symm
        refine lv_bipush (v := 8) hx hb d_Fb_part_58 (by decide) ?_
        refine lv_icmp_lt (tgt := 73) hx hb d_Fb_part_60 (by decide) (fun c_8 => ?_) (fun c_8 => ?_)
        · 
          have h_8 : np < 8 := (nI_ltI (a := np) (b := 8) (by omega) (by omega)).mp c_8
          refine lv_aload_n hx hb d_Fb_part_73 rfl (lv_at hl 0 rfl) ?_
          refine va_get (D := D) (ci := 6) (v := .ref (a 599)) (C := R_Fb) (T := F_Fb) (N := 6) hx hb hts (fun w h => List.mem_cons_of_mem _ (i_Fb w h)) hown hK.1 hP 0 (wFb_o6 t a σ) rfl 4 (by decide) (hts (.fieldLink R_Fb 51 "FlatBoxes" "shares" "LFlatBoxes$Shares;") (List.mem_cons_of_mem _ (gIn k_248 (by decide +kernel)))) (fun _ h9 => h9) rfl d_Fb_part_74 ?_
          refine g_vv (k := 0) (As := []) (rest := []) (own := R_Fb) (C := R_Sh) (index := 88) ⟨hx, hb, hml, hown, hts⟩ (c_Sh_forget l D t a σ) (gg_Fb_88 _) (by decide +kernel) ⟨Nat.le_of_ble_eq_true rfl, Nat.le_of_ble_eq_true rfl⟩ rfl (va_recv hK.1 hP (ci := 5) (q0 := 5) rfl (wFb_o5 t a σ)) hK hP hD hS hl.1 rfl (Nat.le_of_ble_eq_true rfl) ⟨Nat.zero_le _, Nat.zero_le _⟩ d_Fb_part_77 (fun u_9 H locs q_9 hP hD hS => ?_)
          have hu_9 : u_9 = _ := q_9
          rw [hu_9] at hP hD
          have hP : va_P D gCl (wFb t a (fForg σ)) H := hP
          have hD : va_D A (wFb t a (fForg σ)) := hD
          refine lv_aload_n hx hb d_Fb_part_80 rfl (lv_at hl 0 rfl) ?_
          refine va_get (D := D) (ci := 6) (v := .ref (a 399)) (C := R_Fb) (T := F_Fb) (N := 6) hx hb hts (fun w h => List.mem_cons_of_mem _ (i_Fb w h)) hown hK.1 hP 0 (wFb_o6 t a (fForg σ)) rfl 1 (by decide) (hts (.fieldLink R_Fb 19 "FlatBoxes" "partRows" "LFlatBoxes$Parts;") (List.mem_cons_of_mem _ (gIn k_245 (by decide +kernel)))) (fun _ h9 => h9) rfl d_Fb_part_81 ?_
          refine lv_iload_n hx hb d_Fb_part_84 rfl (lv_at hl 1 rfl) ?_
          refine lv_iload_n hx hb d_Fb_part_85 rfl (lv_at hl 2 rfl) ?_
          refine lv_iload_n hx hb d_Fb_part_86 rfl (lv_at hl 3 rfl) ?_
          refine lv_iload hx hb d_Fb_part_87 (lv_at hl 4 rfl) ?_
          refine lv_iload hx hb d_Fb_part_89 (lv_at hl 5 rfl) ?_
          refine g_vi (k := 5) (As := [.int wd, .int dp, .int ht, .int gr, .int sp]) (rest := []) (own := R_Fb) (C := R_Pt) (index := 101) ⟨hx, hb, hml, hown, hts⟩ (c_Pt_add l D t a (fForg σ) wd dp ht gr sp np hN (by omega) bt bs hbt hbs) (gg_Fb_101 _) (by decide +kernel) ⟨Nat.le_of_ble_eq_true rfl, Nat.le_of_ble_eq_true rfl⟩ rfl (va_recv hK.1 hP (ci := 3) (q0 := 2) rfl (wFb_o3 t a (fForg σ))) hK hP hD hS hl.1 rfl (Nat.le_of_ble_eq_true rfl) ⟨Nat.zero_le _, Nat.zero_le _⟩ d_Fb_part_91 (fun r_10 u_10 H locs q_10 hP hD hS => ?_)
          obtain ⟨rfl, hu_10⟩ := q_10
          rw [hu_10] at hP hD
          exact W.iret (v := nI np) hx hb hr (fun U hU hW => ⟨⟨nI np, fPartU (fForg σ) np bt bs wd dp ht gr sp, rfl, by exact ⟨rfl, rfl⟩, by rw [hU]; exact hP, hD⟩, hS.F hU⟩) hS.2.2 d_Fb_part_94
        · 
          exact absurd c_8 ((fun h9 => h9 ((nI_ltI (a := np) (b := 8) (by omega) (by omega)).mpr (by omega))))
      · 
        exact absurd c_6 (h3)
  · 
    exact absurd c_2 (h1)
set_option maxHeartbeats 4000000 in
set_option maxRecDepth 100000 in
theorem c_Fb_fragile (l : Launch) (D : va_G) (t : Nat → ClassId) (a : Nat → Nat) (σ : Nat → Nat → Int32) (q : Nat) (on : Int32) (np : Nat) (hN : σ 308 0 = nI np) (hN8 : np ≤ 8) (hq : q < np) (hon : on = 0 ∨ on = 1) : gMi l D t y_Fb_fragile b_Fb_fragile 3 (some .boolean) 1 [.ref (a 699), .int (nI q), .int on] (wFb t a σ) (wFb t a) (fun r u => r = fFragR σ q on ∧ u = fFragU σ q on) := by
  intro A
  refine Met.ofW (cc := b_Fb_fragile) (maxL := 3) (ret := (some .boolean)) (by decide) rfl ?_
  intro p e s m args below meth c s₁ B hml hv
  obtain ⟨rfl, hK, hP, hD⟩ := hv
  have hx := B.exec
  have hb := B.bytes
  have hr := B.returns
  have hts := atoms_spec (ws := .code y_Fb_fragile b_Fb_fragile 3 (some .boolean) :: gBig) B.pre
  have hown : s.vm.findClass R_Fb = some m.cls := findClass_of_methodNamed B.named
  have hlocks := B.notSynchronized
  have hS : va_S A s.heap s.heap [] := va_S.rf
  have hl := lv_entry ([.ref (a 699), .int (nI q), .int on]) (n := 3) (Nat.le_of_ble_eq_true rfl)
  rw [lg_entry_eq]
  generalize (lg_sl ([.ref (a 699), .int (nI q), .int on]) ++ List.replicate (3 - (lg_sl ([.ref (a 699), .int (nI q), .int on])).length) Slot.unset).toArray = ls at hl ⊢
  have hl : lv_has ls 3 [(0, .ref (a 699)), (1, .int (nI q)), (2, .int on)] := hl
  show gGo l p e s m below meth c D t A 1 [.ref (a 699), .int (nI q), .int on] (wFb t a) (fun r u => r = fFragR σ q on ∧ u = fFragU σ q on) s.heap [] (F0 m 0 ls [])
  refine lv_iload_n hx hb d_Fb_fragile_0 rfl (lv_at hl 1 rfl) ?_
  refine lv_aload_n hx hb d_Fb_fragile_1 rfl (lv_at hl 0 rfl) ?_
  refine va_get (D := D) (ci := 6) (v := .ref (a 399)) (C := R_Fb) (T := F_Fb) (N := 6) hx hb hts (fun w h => List.mem_cons_of_mem _ (i_Fb w h)) hown hK.1 hP 0 (wFb_o6 t a σ) rfl 1 (by decide) (hts (.fieldLink R_Fb 19 "FlatBoxes" "partRows" "LFlatBoxes$Parts;") (List.mem_cons_of_mem _ (gIn k_245 (by decide +kernel)))) (fun _ h9 => h9) rfl d_Fb_fragile_2 ?_
  refine va_get (D := D) (ci := 3) (v := .int (σ 308 0)) (C := R_Pt) (T := F_Pt) (N := 9) hx hb hts (fun w h => List.mem_cons_of_mem _ (i_Pt w h)) hown hK.1 hP 2 (wFb_o3 t a σ) rfl 8 (by decide) (hts (.fieldLink R_Fb 98 "FlatBoxes$Parts" "count" "I") (List.mem_cons_of_mem _ (gIn k_88 (by decide +kernel)))) (fun _ h9 => h9) rfl d_Fb_fragile_5 ?_
  refine lv_topi (fun v_1 e_1 => ?_)
  obtain rfl : nI np = v_1 := (e_1.trans hN).symm
  refine g_si (k := 2) (As := [.int (nI q), .int (nI np)]) (rest := []) (own := R_Fb) (index := 102) ⟨hx, hb, hml, hown, hts⟩ (c_Fb_isPlace l D t a σ (nI q) (nI np)) (gg_Fb_102 _) (by decide +kernel) ⟨Nat.le_of_ble_eq_true rfl, Nat.le_of_ble_eq_true rfl⟩ rfl hK hP hD hS hl.1 rfl (Nat.le_of_ble_eq_true rfl) ⟨Nat.zero_le _, Nat.zero_le _⟩ d_Fb_fragile_8 (fun r_2 u_2 H locs q_2 hP hD hS => ?_)
  obtain ⟨rfl, hu_2⟩ := q_2
  rw [hu_2] at hP hD
  refine lv_if_ne (tgt := 24) hx hb d_Fb_fragile_11 (by decide) (fun c_3 => ?_) (fun c_3 => ?_)
  · 
    refine lv_aload_n hx hb d_Fb_fragile_24 rfl (lv_at hl 0 rfl) ?_
    refine va_get (D := D) (ci := 6) (v := .ref (a 399)) (C := R_Fb) (T := F_Fb) (N := 6) hx hb hts (fun w h => List.mem_cons_of_mem _ (i_Fb w h)) hown hK.1 hP 0 (wFb_o6 t a σ) rfl 1 (by decide) (hts (.fieldLink R_Fb 19 "FlatBoxes" "partRows" "LFlatBoxes$Parts;") (List.mem_cons_of_mem _ (gIn k_245 (by decide +kernel)))) (fun _ h9 => h9) rfl d_Fb_fragile_25 ?_
    refine va_get (D := D) (ci := 3) (v := .ref (a 305)) (C := R_Pt) (T := F_Pt) (N := 9) hx hb hts (fun w h => List.mem_cons_of_mem _ (i_Pt w h)) hown hK.1 hP 2 (wFb_o3 t a σ) rfl 5 (by decide) (hts (.fieldLink R_Fb 111 "FlatBoxes$Parts" "fragile" "[Z") (List.mem_cons_of_mem _ (gIn k_79 (by decide +kernel)))) (fun _ h9 => h9) rfl d_Fb_fragile_28 ?_
    refine lv_iload_n hx hb d_Fb_fragile_31 rfl (lv_at hl 1 rfl) ?_
    refine g_zald hx hb hK.1 hP 17 1 (wFb_305 t a σ) rfl q (rfl) (by omega) (by decide) d_Fb_fragile_32 ?_
    refine lv_iload_n hx hb d_Fb_fragile_33 rfl (lv_at hl 2 rfl) ?_
    refine lv_icmp_ne (tgt := 39) hx hb d_Fb_fragile_34 (by decide) (fun c_4 => ?_) (fun c_4 => ?_)
    · 
      refine lv_aload_n hx hb d_Fb_fragile_39 rfl (lv_at hl 0 rfl) ?_
      refine va_get (D := D) (ci := 6) (v := .ref (a 599)) (C := R_Fb) (T := F_Fb) (N := 6) hx hb hts (fun w h => List.mem_cons_of_mem _ (i_Fb w h)) hown hK.1 hP 0 (wFb_o6 t a σ) rfl 4 (by decide) (hts (.fieldLink R_Fb 51 "FlatBoxes" "shares" "LFlatBoxes$Shares;") (List.mem_cons_of_mem _ (gIn k_248 (by decide +kernel)))) (fun _ h9 => h9) rfl d_Fb_fragile_40 ?_
      refine g_vv (k := 0) (As := []) (rest := []) (own := R_Fb) (C := R_Sh) (index := 88) ⟨hx, hb, hml, hown, hts⟩ (c_Sh_forget l D t a σ) (gg_Fb_88 _) (by decide +kernel) ⟨Nat.le_of_ble_eq_true rfl, Nat.le_of_ble_eq_true rfl⟩ rfl (va_recv hK.1 hP (ci := 5) (q0 := 5) rfl (wFb_o5 t a σ)) hK hP hD hS hl.1 rfl (Nat.le_of_ble_eq_true rfl) ⟨Nat.zero_le _, Nat.zero_le _⟩ d_Fb_fragile_43 (fun u_5 H locs q_5 hP hD hS => ?_)
      have hu_5 : u_5 = _ := q_5
      rw [hu_5] at hP hD
      have hP : va_P D gCl (wFb t a (fForg σ)) H := hP
      have hD : va_D A (wFb t a (fForg σ)) := hD
      refine lv_aload_n hx hb d_Fb_fragile_46 rfl (lv_at hl 0 rfl) ?_
      refine va_get (D := D) (ci := 6) (v := .ref (a 399)) (C := R_Fb) (T := F_Fb) (N := 6) hx hb hts (fun w h => List.mem_cons_of_mem _ (i_Fb w h)) hown hK.1 hP 0 (wFb_o6 t a (fForg σ)) rfl 1 (by decide) (hts (.fieldLink R_Fb 19 "FlatBoxes" "partRows" "LFlatBoxes$Parts;") (List.mem_cons_of_mem _ (gIn k_245 (by decide +kernel)))) (fun _ h9 => h9) rfl d_Fb_fragile_47 ?_
      refine va_get (D := D) (ci := 3) (v := .ref (a 305)) (C := R_Pt) (T := F_Pt) (N := 9) hx hb hts (fun w h => List.mem_cons_of_mem _ (i_Pt w h)) hown hK.1 hP 2 (wFb_o3 t a (fForg σ)) rfl 5 (by decide) (hts (.fieldLink R_Fb 111 "FlatBoxes$Parts" "fragile" "[Z") (List.mem_cons_of_mem _ (gIn k_79 (by decide +kernel)))) (fun _ h9 => h9) rfl d_Fb_fragile_50 ?_
      refine lv_iload_n hx hb d_Fb_fragile_53 rfl (lv_at hl 1 rfl) ?_
      refine lv_iload_n hx hb d_Fb_fragile_54 rfl (lv_at hl 2 rfl) ?_
      refine g_zast hx hb hK.1 hP hD hS 17 1 (wFb_305 t a (fForg σ)) rfl (hon) q (rfl) (by omega) (by decide) (w' := wFb t a (gSt (fForg σ) 305 q on)) (sFb_305 t a (fForg σ) q on) d_Fb_fragile_55 (fun H locs hP hD hS => ?_)
      refine lv_iconst (v := 1) hx hb d_Fb_fragile_56 (by decide) ?_
      exact W.zret (v := 1) (ty := .boolean) hx hb hr (rfl) (fun U hU hW => ⟨⟨1, gSt (fForg σ) 305 q on, rfl, by exact ⟨by simp [fFragR, c_3, c_4], by simp [fFragU, c_3, c_4]⟩, by rw [hU]; exact hP, hD⟩, hS.F hU⟩) hS.2.2 d_Fb_fragile_57
    · 
      refine lv_iconst (v := 0) hx hb d_Fb_fragile_37 (by decide) ?_
      exact W.zret (v := 0) (ty := .boolean) hx hb hr (rfl) (fun U hU hW => ⟨⟨0, σ, rfl, by exact ⟨by simp [fFragR, c_3, c_4], by simp [fFragU, c_3, c_4]⟩, by rw [hU]; exact hP, hD⟩, hS.F hU⟩) hS.2.2 d_Fb_fragile_38
  · 
    exact absurd c_3 ((fun h9 => absurd (h9.symm.trans (fPlc_ok (q := q) (n := np) (by omega) (by omega))) (by decide)))
set_option maxHeartbeats 4000000 in
set_option maxRecDepth 100000 in
theorem c_Fb_fits (l : Launch) (D : va_G) (t : Nat → ClassId) (a : Nat → Nat) (σ : Nat → Nat → Int32) (cc nc : Nat) (set : Int32) (np : Nat) (hN : σ 308 0 = nI np) (hN8 : np ≤ 8) (bt : Nat → Nat) (hbt : ∀ k, k < np → σ 306 k = nI (bt k) ∧ bt k < 8) (hC : σ 105 0 = nI nc) (hC4 : nc ≤ 4) (hcc : cc < nc) (h2 : ¬ mIn set 1 (((1 : Int32) <<< (nI np &&& 31)) - 1) = 0) : gMi l D t y_Fb_fits b_Fb_fits 3 (some .boolean) 4 [.ref (a 699), .int (nI cc), .int set] (wFb t a σ) (wFb t a) (fun r u => r = fHeldR σ bt set cc np ∧ u = fHeldU σ bt set cc np) := by
  intro A
  refine Met.ofW (cc := b_Fb_fits) (maxL := 3) (ret := (some .boolean)) (by decide) rfl ?_
  intro p e s m args below meth c s₁ B hml hv
  obtain ⟨rfl, hK, hP, hD⟩ := hv
  have hx := B.exec
  have hb := B.bytes
  have hr := B.returns
  have hts := atoms_spec (ws := .code y_Fb_fits b_Fb_fits 3 (some .boolean) :: gBig) B.pre
  have hown : s.vm.findClass R_Fb = some m.cls := findClass_of_methodNamed B.named
  have hlocks := B.notSynchronized
  have hS : va_S A s.heap s.heap [] := va_S.rf
  have hl := lv_entry ([.ref (a 699), .int (nI cc), .int set]) (n := 3) (Nat.le_of_ble_eq_true rfl)
  rw [lg_entry_eq]
  generalize (lg_sl ([.ref (a 699), .int (nI cc), .int set]) ++ List.replicate (3 - (lg_sl ([.ref (a 699), .int (nI cc), .int set])).length) Slot.unset).toArray = ls at hl ⊢
  have hl : lv_has ls 3 [(0, .ref (a 699)), (1, .int (nI cc)), (2, .int set)] := hl
  show gGo l p e s m below meth c D t A 4 [.ref (a 699), .int (nI cc), .int set] (wFb t a) (fun r u => r = fHeldR σ bt set cc np ∧ u = fHeldU σ bt set cc np) s.heap [] (F0 m 0 ls [])
  refine lv_iload_n hx hb d_Fb_fits_0 rfl (lv_at hl 1 rfl) ?_
  refine lv_aload_n hx hb d_Fb_fits_1 rfl (lv_at hl 0 rfl) ?_
  refine va_get (D := D) (ci := 6) (v := .ref (a 199)) (C := R_Fb) (T := F_Fb) (N := 6) hx hb hts (fun w h => List.mem_cons_of_mem _ (i_Fb w h)) hown hK.1 hP 0 (wFb_o6 t a σ) rfl 0 (by decide) (hts (.fieldLink R_Fb 12 "FlatBoxes" "cartonRows" "LFlatBoxes$Cartons;") (List.mem_cons_of_mem _ (gIn k_244 (by decide +kernel)))) (fun _ h9 => h9) rfl d_Fb_fits_2 ?_
  refine va_get (D := D) (ci := 1) (v := .int (σ 105 0)) (C := R_Ct) (T := F_Ct) (N := 6) hx hb hts (fun w h => List.mem_cons_of_mem _ (i_Ct w h)) hown hK.1 hP 1 (wFb_o1 t a σ) rfl 5 (by decide) (hts (.fieldLink R_Fb 79 "FlatBoxes$Cartons" "count" "I") (List.mem_cons_of_mem _ (gIn k_47 (by decide +kernel)))) (fun _ h9 => h9) rfl d_Fb_fits_5 ?_
  refine lv_topi (fun v_1 e_1 => ?_)
  obtain rfl : nI nc = v_1 := (e_1.trans hC).symm
  refine g_si (k := 2) (As := [.int (nI cc), .int (nI nc)]) (rest := []) (own := R_Fb) (index := 102) ⟨hx, hb, hml, hown, hts⟩ (c_Fb_isPlace l D t a σ (nI cc) (nI nc)) (gg_Fb_102 _) (by decide +kernel) ⟨Nat.le_of_ble_eq_true rfl, Nat.le_of_ble_eq_true rfl⟩ rfl hK hP hD hS hl.1 rfl (Nat.le_of_ble_eq_true rfl) ⟨Nat.zero_le _, Nat.zero_le _⟩ d_Fb_fits_8 (fun r_2 u_2 H locs q_2 hP hD hS => ?_)
  obtain ⟨rfl, hu_2⟩ := q_2
  rw [hu_2] at hP hD
  refine lv_if_ne (tgt := 24) hx hb d_Fb_fits_11 (by decide) (fun c_3 => ?_) (fun c_3 => ?_)
  · 
    refine lv_iload_n hx hb d_Fb_fits_24 rfl (lv_at hl 2 rfl) ?_
    refine lv_iconst (v := 1) hx hb d_Fb_fits_25 (by decide) ?_
    refine lv_aload_n hx hb d_Fb_fits_26 rfl (lv_at hl 0 rfl) ?_
    refine va_get (D := D) (ci := 6) (v := .ref (a 399)) (C := R_Fb) (T := F_Fb) (N := 6) hx hb hts (fun w h => List.mem_cons_of_mem _ (i_Fb w h)) hown hK.1 hP 0 (wFb_o6 t a σ) rfl 1 (by decide) (hts (.fieldLink R_Fb 19 "FlatBoxes" "partRows" "LFlatBoxes$Parts;") (List.mem_cons_of_mem _ (gIn k_245 (by decide +kernel)))) (fun _ h9 => h9) rfl d_Fb_fits_27 ?_
    refine g_vi (k := 0) (As := []) (rest := [.int 1, .int set]) (own := R_Fb) (C := R_Pt) (index := 117) ⟨hx, hb, hml, hown, hts⟩ (c_Pt_everyPart l D t a σ np hN hN8) (gg_Fb_117 _) (by decide +kernel) ⟨Nat.le_of_ble_eq_true rfl, Nat.le_of_ble_eq_true rfl⟩ rfl (va_recv hK.1 hP (ci := 3) (q0 := 2) rfl (wFb_o3 t a σ)) hK hP hD hS hl.1 rfl (Nat.le_of_ble_eq_true rfl) ⟨Nat.zero_le _, Nat.zero_le _⟩ d_Fb_fits_30 (fun r_4 u_4 H locs q_4 hP hD hS => ?_)
    obtain ⟨rfl, hu_4⟩ := q_4
    rw [hu_4] at hP hD
    refine g_si (k := 3) (As := [.int set, .int 1, .int (((1 : Int32) <<< (nI np &&& 31)) - 1)]) (rest := []) (own := R_Fb) (index := 74) ⟨hx, hb, hml, hown, hts⟩ (c_Fb_isWithin l D t a σ set 1 (((1 : Int32) <<< (nI np &&& 31)) - 1)) (gg_Fb_74 _) (by decide +kernel) ⟨Nat.le_of_ble_eq_true rfl, Nat.le_of_ble_eq_true rfl⟩ rfl hK hP hD hS hl.1 rfl (Nat.le_of_ble_eq_true rfl) ⟨Nat.zero_le _, Nat.zero_le _⟩ d_Fb_fits_33 (fun r_5 u_5 H locs q_5 hP hD hS => ?_)
    obtain ⟨rfl, hu_5⟩ := q_5
    rw [hu_5] at hP hD
    refine lv_if_ne (tgt := 49) hx hb d_Fb_fits_36 (by decide) (fun c_6 => ?_) (fun c_6 => ?_)
    · 
      refine lv_aload_n hx hb d_Fb_fits_49 rfl (lv_at hl 0 rfl) ?_
      refine va_get (D := D) (ci := 6) (v := .ref (a 299)) (C := R_Fb) (T := F_Fb) (N := 6) hx hb hts (fun w h => List.mem_cons_of_mem _ (i_Fb w h)) hown hK.1 hP 0 (wFb_o6 t a σ) rfl 2 (by decide) (hts (.fieldLink R_Fb 37 "FlatBoxes" "packing" "LFlatBoxes$Packing;") (List.mem_cons_of_mem _ (gIn k_246 (by decide +kernel)))) (fun _ h9 => h9) rfl d_Fb_fits_50 ?_
      refine lv_aload_n hx hb d_Fb_fits_53 rfl (lv_at hl 0 rfl) ?_
      refine va_get (D := D) (ci := 6) (v := .ref (a 199)) (C := R_Fb) (T := F_Fb) (N := 6) hx hb hts (fun w h => List.mem_cons_of_mem _ (i_Fb w h)) hown hK.1 hP 0 (wFb_o6 t a σ) rfl 0 (by decide) (hts (.fieldLink R_Fb 12 "FlatBoxes" "cartonRows" "LFlatBoxes$Cartons;") (List.mem_cons_of_mem _ (gIn k_244 (by decide +kernel)))) (fun _ h9 => h9) rfl d_Fb_fits_54 ?_
      refine lv_iload_n hx hb d_Fb_fits_57 rfl (lv_at hl 1 rfl) ?_
      refine lv_aload_n hx hb d_Fb_fits_58 rfl (lv_at hl 0 rfl) ?_
      refine va_get (D := D) (ci := 6) (v := .ref (a 399)) (C := R_Fb) (T := F_Fb) (N := 6) hx hb hts (fun w h => List.mem_cons_of_mem _ (i_Fb w h)) hown hK.1 hP 0 (wFb_o6 t a σ) rfl 1 (by decide) (hts (.fieldLink R_Fb 19 "FlatBoxes" "partRows" "LFlatBoxes$Parts;") (List.mem_cons_of_mem _ (gIn k_245 (by decide +kernel)))) (fun _ h9 => h9) rfl d_Fb_fits_59 ?_
      refine lv_iload_n hx hb d_Fb_fits_62 rfl (lv_at hl 2 rfl) ?_
      refine g_vi (k := 4) (As := [.ref (a 199), .int (nI cc), .ref (a 399), .int set]) (rest := []) (own := R_Fb) (C := R_Pk) (index := 123) ⟨hx, hb, hml, hown, hts⟩ (c_Pk_isHeldBy l D t a σ set cc (by omega) np hN hN8 bt hbt) (gg_Fb_123 _) (by decide +kernel) ⟨Nat.le_of_ble_eq_true rfl, Nat.le_of_ble_eq_true rfl⟩ rfl (va_recv hK.1 hP (ci := 2) (q0 := 3) rfl (wFb_o2 t a σ)) hK hP hD hS hl.1 rfl (Nat.le_of_ble_eq_true rfl) ⟨Nat.zero_le _, Nat.zero_le _⟩ d_Fb_fits_63 (fun r_7 u_7 H locs q_7 hP hD hS => ?_)
      obtain ⟨rfl, hu_7⟩ := q_7
      rw [hu_7] at hP hD
      exact W.zret (v := fHeldR σ bt set cc np) (ty := .boolean) hx hb hr (gb_n (fHeldR01 _ _ _ _ _)) (fun U hU hW => ⟨⟨fHeldR σ bt set cc np, fHeldU σ bt set cc np, rfl, by exact ⟨rfl, rfl⟩, by rw [hU]; exact hP, hD⟩, hS.F hU⟩) hS.2.2 d_Fb_fits_66
    · 
      exact absurd c_6 (h2)
  · 
    exact absurd c_3 ((fun h9 => absurd (h9.symm.trans (fPlc_ok (q := cc) (n := nc) (by omega) (by omega))) (by decide)))
set_option maxHeartbeats 4000000 in
set_option maxRecDepth 100000 in
theorem c_Fb_at (l : Launch) (D : va_G) (t : Nat → ClassId) (a : Nat → Nat) (σ : Nat → Nat → Int32) (q w : Nat) (hsh : ¬ σ 503 0 = -1) (np : Nat) (hN : σ 308 0 = nI np) (hN8 : np ≤ 8) (hq : q < np) (hw : w < 4) : gMi l D t y_Fb_at b_Fb_at 3 (some .int) 1 [.ref (a 699), .int (nI q), .int (nI w)] (wFb t a σ) (wFb t a) (fun r u => r = σ (1000 + q) w ∧ u = σ) := by
  intro A
  refine Met.ofW (cc := b_Fb_at) (maxL := 3) (ret := (some .int)) (by decide) rfl ?_
  intro p e s m args below meth c s₁ B hml hv
  obtain ⟨rfl, hK, hP, hD⟩ := hv
  have hx := B.exec
  have hb := B.bytes
  have hr := B.returns
  have hts := atoms_spec (ws := .code y_Fb_at b_Fb_at 3 (some .int) :: gBig) B.pre
  have hown : s.vm.findClass R_Fb = some m.cls := findClass_of_methodNamed B.named
  have hlocks := B.notSynchronized
  have hS : va_S A s.heap s.heap [] := va_S.rf
  have hl := lv_entry ([.ref (a 699), .int (nI q), .int (nI w)]) (n := 3) (Nat.le_of_ble_eq_true rfl)
  rw [lg_entry_eq]
  generalize (lg_sl ([.ref (a 699), .int (nI q), .int (nI w)]) ++ List.replicate (3 - (lg_sl ([.ref (a 699), .int (nI q), .int (nI w)])).length) Slot.unset).toArray = ls at hl ⊢
  have hl : lv_has ls 3 [(0, .ref (a 699)), (1, .int (nI q)), (2, .int (nI w))] := hl
  show gGo l p e s m below meth c D t A 1 [.ref (a 699), .int (nI q), .int (nI w)] (wFb t a) (fun r u => r = σ (1000 + q) w ∧ u = σ) s.heap [] (F0 m 0 ls [])
  refine lv_aload_n hx hb d_Fb_at_0 rfl (lv_at hl 0 rfl) ?_
  refine g_vv (k := 0) (As := []) (rest := []) (own := R_Fb) (C := R_Fb) (index := 142) ⟨hx, hb, hml, hown, hts⟩ (c_Fb_needShares l D t a σ hsh) (gg_Fb_142 _) (by decide +kernel) ⟨Nat.le_of_ble_eq_true rfl, Nat.le_of_ble_eq_true rfl⟩ rfl (va_recv hK.1 hP (ci := 6) (q0 := 0) rfl (wFb_o6 t a σ)) hK hP hD hS hl.1 rfl (Nat.le_of_ble_eq_true rfl) ⟨Nat.zero_le _, Nat.zero_le _⟩ d_Fb_at_1 (fun u_1 H locs q_1 hP hD hS => ?_)
  have hu_1 : u_1 = _ := q_1
  rw [hu_1] at hP hD
  refine lv_iload_n hx hb d_Fb_at_4 rfl (lv_at hl 1 rfl) ?_
  refine lv_aload_n hx hb d_Fb_at_5 rfl (lv_at hl 0 rfl) ?_
  refine va_get (D := D) (ci := 6) (v := .ref (a 399)) (C := R_Fb) (T := F_Fb) (N := 6) hx hb hts (fun w h => List.mem_cons_of_mem _ (i_Fb w h)) hown hK.1 hP 0 (wFb_o6 t a σ) rfl 1 (by decide) (hts (.fieldLink R_Fb 19 "FlatBoxes" "partRows" "LFlatBoxes$Parts;") (List.mem_cons_of_mem _ (gIn k_245 (by decide +kernel)))) (fun _ h9 => h9) rfl d_Fb_at_6 ?_
  refine va_get (D := D) (ci := 3) (v := .int (σ 308 0)) (C := R_Pt) (T := F_Pt) (N := 9) hx hb hts (fun w h => List.mem_cons_of_mem _ (i_Pt w h)) hown hK.1 hP 2 (wFb_o3 t a σ) rfl 8 (by decide) (hts (.fieldLink R_Fb 98 "FlatBoxes$Parts" "count" "I") (List.mem_cons_of_mem _ (gIn k_88 (by decide +kernel)))) (fun _ h9 => h9) rfl d_Fb_at_9 ?_
  refine lv_topi (fun v_2 e_2 => ?_)
  obtain rfl : nI np = v_2 := (e_2.trans hN).symm
  refine g_si (k := 2) (As := [.int (nI q), .int (nI np)]) (rest := []) (own := R_Fb) (index := 102) ⟨hx, hb, hml, hown, hts⟩ (c_Fb_isPlace l D t a σ (nI q) (nI np)) (gg_Fb_102 _) (by decide +kernel) ⟨Nat.le_of_ble_eq_true rfl, Nat.le_of_ble_eq_true rfl⟩ rfl hK hP hD hS hl.1 rfl (Nat.le_of_ble_eq_true rfl) ⟨Nat.zero_le _, Nat.zero_le _⟩ d_Fb_at_12 (fun r_3 u_3 H locs q_3 hP hD hS => ?_)
  obtain ⟨rfl, hu_3⟩ := q_3
  rw [hu_3] at hP hD
  refine lv_if_eq (tgt := 26) hx hb d_Fb_at_15 (by decide) (fun c_4 => ?_) (fun c_4 => ?_)
  · 
    exact absurd c_4 ((fun h9 => absurd (h9.symm.trans (fPlc_ok (q := q) (n := np) (by omega) (by omega))) (by decide)))
  · 
    refine lv_iload_n hx hb d_Fb_at_18 rfl (lv_at hl 2 rfl) ?_
    refine lv_iconst (v := 4) hx hb d_Fb_at_19 (by decide) ?_
    refine g_si (k := 2) (As := [.int (nI w), .int 4]) (rest := []) (own := R_Fb) (index := 102) ⟨hx, hb, hml, hown, hts⟩ (c_Fb_isPlace l D t a σ (nI w) 4) (gg_Fb_102 _) (by decide +kernel) ⟨Nat.le_of_ble_eq_true rfl, Nat.le_of_ble_eq_true rfl⟩ rfl hK hP hD hS hl.1 rfl (Nat.le_of_ble_eq_true rfl) ⟨Nat.zero_le _, Nat.zero_le _⟩ d_Fb_at_20 (fun r_5 u_5 H locs q_5 hP hD hS => ?_)
    obtain ⟨rfl, hu_5⟩ := q_5
    rw [hu_5] at hP hD
    refine lv_if_ne (tgt := 36) hx hb d_Fb_at_23 (by decide) (fun c_6 => ?_) (fun c_6 => ?_)
    · 
      refine lv_aload_n hx hb d_Fb_at_36 rfl (lv_at hl 0 rfl) ?_
      refine va_get (D := D) (ci := 6) (v := .ref (a 599)) (C := R_Fb) (T := F_Fb) (N := 6) hx hb hts (fun w h => List.mem_cons_of_mem _ (i_Fb w h)) hown hK.1 hP 0 (wFb_o6 t a σ) rfl 4 (by decide) (hts (.fieldLink R_Fb 51 "FlatBoxes" "shares" "LFlatBoxes$Shares;") (List.mem_cons_of_mem _ (gIn k_248 (by decide +kernel)))) (fun _ h9 => h9) rfl d_Fb_at_37 ?_
      refine va_get (D := D) (ci := 5) (v := .ref (a 500)) (C := R_Sh) (T := F_Sh) (N := 5) hx hb hts (fun w h => List.mem_cons_of_mem _ (i_Sh w h)) hown hK.1 hP 5 (wFb_o5 t a σ) rfl 0 (by decide) (hts (.fieldLink R_Fb 147 "FlatBoxes$Shares" "ofPart" "[[I") (List.mem_cons_of_mem _ (gIn k_193 (by decide +kernel)))) (fun _ h9 => h9) rfl d_Fb_at_40 ?_
      refine lv_iload_n hx hb d_Fb_at_43 rfl (lv_at hl 1 rfl) ?_
      refine g_aald hx hb hK.1 hP 31 2 (wFb_500 t a σ) rfl q (rfl) (by omega) (by decide) rfl d_Fb_at_44 ?_
      refine lv_iload_n hx hb d_Fb_at_45 rfl (lv_at hl 2 rfl) ?_
      refine g_iald hx hb hK.1 hP (39 + q) 0 (wFb_r1000 t a σ q (by omega)) rfl w (rfl) (by omega) (by decide) d_Fb_at_46 ?_
      exact W.iret (v := σ (1000 + q) w) hx hb hr (fun U hU hW => ⟨⟨σ (1000 + q) w, σ, rfl, by exact ⟨rfl, rfl⟩, by rw [hU]; exact hP, hD⟩, hS.F hU⟩) hS.2.2 d_Fb_at_47
    · 
      exact absurd c_6 ((fun h9 => absurd (h9.symm.trans (fPlc_ok (q := w) (n := 4) (by omega) (by omega))) (by decide)))
set_option maxHeartbeats 4000000 in
set_option maxRecDepth 100000 in
theorem c_Fb_box (l : Launch) (D : va_G) (t : Nat → ClassId) (a : Nat → Nat) (σ : Nat → Nat → Int32) (b w nbx : Nat) (hsh : ¬ σ 503 0 = -1) (hB : σ 503 0 = nI nbx) (hB8 : nbx ≤ 8) (hb : b < nbx) (hw : w < 5) : gMi l D t y_Fb_box b_Fb_box 3 (some .int) 1 [.ref (a 699), .int (nI b), .int (nI w)] (wFb t a σ) (wFb t a) (fun r u => r = σ (1100 + b) w ∧ u = σ) := by
  intro A
  refine Met.ofW (cc := b_Fb_box) (maxL := 3) (ret := (some .int)) (by decide) rfl ?_
  intro p e s m args below meth c s₁ B hml hv
  obtain ⟨rfl, hK, hP, hD⟩ := hv
  have hx := B.exec
  have hb := B.bytes
  have hr := B.returns
  have hts := atoms_spec (ws := .code y_Fb_box b_Fb_box 3 (some .int) :: gBig) B.pre
  have hown : s.vm.findClass R_Fb = some m.cls := findClass_of_methodNamed B.named
  have hlocks := B.notSynchronized
  have hS : va_S A s.heap s.heap [] := va_S.rf
  have hl := lv_entry ([.ref (a 699), .int (nI b), .int (nI w)]) (n := 3) (Nat.le_of_ble_eq_true rfl)
  rw [lg_entry_eq]
  generalize (lg_sl ([.ref (a 699), .int (nI b), .int (nI w)]) ++ List.replicate (3 - (lg_sl ([.ref (a 699), .int (nI b), .int (nI w)])).length) Slot.unset).toArray = ls at hl ⊢
  have hl : lv_has ls 3 [(0, .ref (a 699)), (1, .int (nI b)), (2, .int (nI w))] := hl
  show gGo l p e s m below meth c D t A 1 [.ref (a 699), .int (nI b), .int (nI w)] (wFb t a) (fun r u => r = σ (1100 + b) w ∧ u = σ) s.heap [] (F0 m 0 ls [])
  refine lv_aload_n hx hb d_Fb_box_0 rfl (lv_at hl 0 rfl) ?_
  refine g_vv (k := 0) (As := []) (rest := []) (own := R_Fb) (C := R_Fb) (index := 142) ⟨hx, hb, hml, hown, hts⟩ (c_Fb_needShares l D t a σ hsh) (gg_Fb_142 _) (by decide +kernel) ⟨Nat.le_of_ble_eq_true rfl, Nat.le_of_ble_eq_true rfl⟩ rfl (va_recv hK.1 hP (ci := 6) (q0 := 0) rfl (wFb_o6 t a σ)) hK hP hD hS hl.1 rfl (Nat.le_of_ble_eq_true rfl) ⟨Nat.zero_le _, Nat.zero_le _⟩ d_Fb_box_1 (fun u_1 H locs q_1 hP hD hS => ?_)
  have hu_1 : u_1 = _ := q_1
  rw [hu_1] at hP hD
  refine lv_iload_n hx hb d_Fb_box_4 rfl (lv_at hl 1 rfl) ?_
  refine lv_aload_n hx hb d_Fb_box_5 rfl (lv_at hl 0 rfl) ?_
  refine va_get (D := D) (ci := 6) (v := .ref (a 599)) (C := R_Fb) (T := F_Fb) (N := 6) hx hb hts (fun w h => List.mem_cons_of_mem _ (i_Fb w h)) hown hK.1 hP 0 (wFb_o6 t a σ) rfl 4 (by decide) (hts (.fieldLink R_Fb 51 "FlatBoxes" "shares" "LFlatBoxes$Shares;") (List.mem_cons_of_mem _ (gIn k_248 (by decide +kernel)))) (fun _ h9 => h9) rfl d_Fb_box_6 ?_
  refine va_get (D := D) (ci := 5) (v := .int (σ 503 0)) (C := R_Sh) (T := F_Sh) (N := 5) hx hb hts (fun w h => List.mem_cons_of_mem _ (i_Sh w h)) hown hK.1 hP 5 (wFb_o5 t a σ) rfl 3 (by decide) (hts (.fieldLink R_Fb 139 "FlatBoxes$Shares" "boxes" "I") (List.mem_cons_of_mem _ (gIn k_199 (by decide +kernel)))) (fun _ h9 => h9) rfl d_Fb_box_9 ?_
  refine lv_topi (fun v_2 e_2 => ?_)
  obtain rfl : nI nbx = v_2 := (e_2.trans hB).symm
  refine g_si (k := 2) (As := [.int (nI b), .int (nI nbx)]) (rest := []) (own := R_Fb) (index := 102) ⟨hx, hb, hml, hown, hts⟩ (c_Fb_isPlace l D t a σ (nI b) (nI nbx)) (gg_Fb_102 _) (by decide +kernel) ⟨Nat.le_of_ble_eq_true rfl, Nat.le_of_ble_eq_true rfl⟩ rfl hK hP hD hS hl.1 rfl (Nat.le_of_ble_eq_true rfl) ⟨Nat.zero_le _, Nat.zero_le _⟩ d_Fb_box_12 (fun r_3 u_3 H locs q_3 hP hD hS => ?_)
  obtain ⟨rfl, hu_3⟩ := q_3
  rw [hu_3] at hP hD
  refine lv_if_eq (tgt := 26) hx hb d_Fb_box_15 (by decide) (fun c_4 => ?_) (fun c_4 => ?_)
  · 
    exact absurd c_4 ((fun h9 => absurd (h9.symm.trans (fPlc_ok (q := b) (n := nbx) (by omega) (by omega))) (by decide)))
  · 
    refine lv_iload_n hx hb d_Fb_box_18 rfl (lv_at hl 2 rfl) ?_
    refine lv_iconst (v := 5) hx hb d_Fb_box_19 (by decide) ?_
    refine g_si (k := 2) (As := [.int (nI w), .int 5]) (rest := []) (own := R_Fb) (index := 102) ⟨hx, hb, hml, hown, hts⟩ (c_Fb_isPlace l D t a σ (nI w) 5) (gg_Fb_102 _) (by decide +kernel) ⟨Nat.le_of_ble_eq_true rfl, Nat.le_of_ble_eq_true rfl⟩ rfl hK hP hD hS hl.1 rfl (Nat.le_of_ble_eq_true rfl) ⟨Nat.zero_le _, Nat.zero_le _⟩ d_Fb_box_20 (fun r_5 u_5 H locs q_5 hP hD hS => ?_)
    obtain ⟨rfl, hu_5⟩ := q_5
    rw [hu_5] at hP hD
    refine lv_if_ne (tgt := 36) hx hb d_Fb_box_23 (by decide) (fun c_6 => ?_) (fun c_6 => ?_)
    · 
      refine lv_aload_n hx hb d_Fb_box_36 rfl (lv_at hl 0 rfl) ?_
      refine va_get (D := D) (ci := 6) (v := .ref (a 599)) (C := R_Fb) (T := F_Fb) (N := 6) hx hb hts (fun w h => List.mem_cons_of_mem _ (i_Fb w h)) hown hK.1 hP 0 (wFb_o6 t a σ) rfl 4 (by decide) (hts (.fieldLink R_Fb 51 "FlatBoxes" "shares" "LFlatBoxes$Shares;") (List.mem_cons_of_mem _ (gIn k_248 (by decide +kernel)))) (fun _ h9 => h9) rfl d_Fb_box_37 ?_
      refine va_get (D := D) (ci := 5) (v := .ref (a 501)) (C := R_Sh) (T := F_Sh) (N := 5) hx hb hts (fun w h => List.mem_cons_of_mem _ (i_Sh w h)) hown hK.1 hP 5 (wFb_o5 t a σ) rfl 1 (by decide) (hts (.fieldLink R_Fb 153 "FlatBoxes$Shares" "ofBox" "[[I") (List.mem_cons_of_mem _ (gIn k_195 (by decide +kernel)))) (fun _ h9 => h9) rfl d_Fb_box_40 ?_
      refine lv_iload_n hx hb d_Fb_box_43 rfl (lv_at hl 1 rfl) ?_
      refine g_aald hx hb hK.1 hP 32 2 (wFb_501 t a σ) rfl b (rfl) (by omega) (by decide) rfl d_Fb_box_44 ?_
      refine lv_iload_n hx hb d_Fb_box_45 rfl (lv_at hl 2 rfl) ?_
      refine g_iald hx hb hK.1 hP (47 + b) 0 (wFb_r1100 t a σ b (by omega)) rfl w (rfl) (by omega) (by decide) d_Fb_box_46 ?_
      exact W.iret (v := σ (1100 + b) w) hx hb hr (fun U hU hW => ⟨⟨σ (1100 + b) w, σ, rfl, by exact ⟨rfl, rfl⟩, by rw [hU]; exact hP, hD⟩, hS.F hU⟩) hS.2.2 d_Fb_box_47
    · 
      exact absurd c_6 ((fun h9 => absurd (h9.symm.trans (fPlc_ok (q := w) (n := 5) (by omega) (by omega))) (by decide)))
set_option maxHeartbeats 4000000 in
set_option maxRecDepth 100000 in
theorem c_Fb_cost (l : Launch) (D : va_G) (t : Nat → ClassId) (a : Nat → Nat) (σ : Nat → Nat → Int32) (hsh : ¬ σ 503 0 = -1)  : gMi l D t y_Fb_cost b_Fb_cost 1 (some .int) 1 [.ref (a 699)] (wFb t a σ) (wFb t a) (fun r u => r = σ 504 0 ∧ u = σ) := by
  intro A
  refine Met.ofW (cc := b_Fb_cost) (maxL := 1) (ret := (some .int)) (by decide) rfl ?_
  intro p e s m args below meth c s₁ B hml hv
  obtain ⟨rfl, hK, hP, hD⟩ := hv
  have hx := B.exec
  have hb := B.bytes
  have hr := B.returns
  have hts := atoms_spec (ws := .code y_Fb_cost b_Fb_cost 1 (some .int) :: gBig) B.pre
  have hown : s.vm.findClass R_Fb = some m.cls := findClass_of_methodNamed B.named
  have hlocks := B.notSynchronized
  have hS : va_S A s.heap s.heap [] := va_S.rf
  have hl := lv_entry ([.ref (a 699)]) (n := 1) (Nat.le_of_ble_eq_true rfl)
  rw [lg_entry_eq]
  generalize (lg_sl ([.ref (a 699)]) ++ List.replicate (1 - (lg_sl ([.ref (a 699)])).length) Slot.unset).toArray = ls at hl ⊢
  have hl : lv_has ls 1 [(0, .ref (a 699))] := hl
  show gGo l p e s m below meth c D t A 1 [.ref (a 699)] (wFb t a) (fun r u => r = σ 504 0 ∧ u = σ) s.heap [] (F0 m 0 ls [])
  refine lv_aload_n hx hb d_Fb_cost_0 rfl (lv_at hl 0 rfl) ?_
  refine g_vv (k := 0) (As := []) (rest := []) (own := R_Fb) (C := R_Fb) (index := 142) ⟨hx, hb, hml, hown, hts⟩ (c_Fb_needShares l D t a σ hsh) (gg_Fb_142 _) (by decide +kernel) ⟨Nat.le_of_ble_eq_true rfl, Nat.le_of_ble_eq_true rfl⟩ rfl (va_recv hK.1 hP (ci := 6) (q0 := 0) rfl (wFb_o6 t a σ)) hK hP hD hS hl.1 rfl (Nat.le_of_ble_eq_true rfl) ⟨Nat.zero_le _, Nat.zero_le _⟩ d_Fb_cost_1 (fun u_1 H locs q_1 hP hD hS => ?_)
  have hu_1 : u_1 = _ := q_1
  rw [hu_1] at hP hD
  refine lv_aload_n hx hb d_Fb_cost_4 rfl (lv_at hl 0 rfl) ?_
  refine va_get (D := D) (ci := 6) (v := .ref (a 599)) (C := R_Fb) (T := F_Fb) (N := 6) hx hb hts (fun w h => List.mem_cons_of_mem _ (i_Fb w h)) hown hK.1 hP 0 (wFb_o6 t a σ) rfl 4 (by decide) (hts (.fieldLink R_Fb 51 "FlatBoxes" "shares" "LFlatBoxes$Shares;") (List.mem_cons_of_mem _ (gIn k_248 (by decide +kernel)))) (fun _ h9 => h9) rfl d_Fb_cost_5 ?_
  refine va_get (D := D) (ci := 5) (v := .int (σ 504 0)) (C := R_Sh) (T := F_Sh) (N := 5) hx hb hts (fun w h => List.mem_cons_of_mem _ (i_Sh w h)) hown hK.1 hP 5 (wFb_o5 t a σ) rfl 4 (by decide) (hts (.fieldLink R_Fb 156 "FlatBoxes$Shares" "cents" "I") (List.mem_cons_of_mem _ (gIn k_201 (by decide +kernel)))) (fun _ h9 => h9) rfl d_Fb_cost_8 ?_
  exact W.iret (v := σ 504 0) hx hb hr (fun U hU hW => ⟨⟨σ 504 0, σ, rfl, by exact ⟨rfl, rfl⟩, by rw [hU]; exact hP, hD⟩, hS.F hU⟩) hS.2.2 d_Fb_cost_11
set_option maxHeartbeats 4000000 in
set_option maxRecDepth 100000 in
theorem c_Fb_manual (l : Launch) (D : va_G) (t : Nat → ClassId) (a : Nat → Nat) (σ : Nat → Nat → Int32) (k : Nat) (np : Nat) (hN : σ 308 0 = nI np) (hN8 : np ≤ 8) (hk : k < np) : gMi l D t y_Fb_manual b_Fb_manual 2 (some .int) 1 [.ref (a 699), .int (nI k)] (wFb t a σ) (wFb t a) (fun r u => r = σ 307 k ∧ u = σ) := by
  intro A
  refine Met.ofW (cc := b_Fb_manual) (maxL := 2) (ret := (some .int)) (by decide) rfl ?_
  intro p e s m args below meth c s₁ B hml hv
  obtain ⟨rfl, hK, hP, hD⟩ := hv
  have hx := B.exec
  have hb := B.bytes
  have hr := B.returns
  have hts := atoms_spec (ws := .code y_Fb_manual b_Fb_manual 2 (some .int) :: gBig) B.pre
  have hown : s.vm.findClass R_Fb = some m.cls := findClass_of_methodNamed B.named
  have hlocks := B.notSynchronized
  have hS : va_S A s.heap s.heap [] := va_S.rf
  have hl := lv_entry ([.ref (a 699), .int (nI k)]) (n := 2) (Nat.le_of_ble_eq_true rfl)
  rw [lg_entry_eq]
  generalize (lg_sl ([.ref (a 699), .int (nI k)]) ++ List.replicate (2 - (lg_sl ([.ref (a 699), .int (nI k)])).length) Slot.unset).toArray = ls at hl ⊢
  have hl : lv_has ls 2 [(0, .ref (a 699)), (1, .int (nI k))] := hl
  show gGo l p e s m below meth c D t A 1 [.ref (a 699), .int (nI k)] (wFb t a) (fun r u => r = σ 307 k ∧ u = σ) s.heap [] (F0 m 0 ls [])
  refine lv_iload_n hx hb d_Fb_manual_0 rfl (lv_at hl 1 rfl) ?_
  refine lv_aload_n hx hb d_Fb_manual_1 rfl (lv_at hl 0 rfl) ?_
  refine va_get (D := D) (ci := 6) (v := .ref (a 399)) (C := R_Fb) (T := F_Fb) (N := 6) hx hb hts (fun w h => List.mem_cons_of_mem _ (i_Fb w h)) hown hK.1 hP 0 (wFb_o6 t a σ) rfl 1 (by decide) (hts (.fieldLink R_Fb 19 "FlatBoxes" "partRows" "LFlatBoxes$Parts;") (List.mem_cons_of_mem _ (gIn k_245 (by decide +kernel)))) (fun _ h9 => h9) rfl d_Fb_manual_2 ?_
  refine va_get (D := D) (ci := 3) (v := .int (σ 308 0)) (C := R_Pt) (T := F_Pt) (N := 9) hx hb hts (fun w h => List.mem_cons_of_mem _ (i_Pt w h)) hown hK.1 hP 2 (wFb_o3 t a σ) rfl 8 (by decide) (hts (.fieldLink R_Fb 98 "FlatBoxes$Parts" "count" "I") (List.mem_cons_of_mem _ (gIn k_88 (by decide +kernel)))) (fun _ h9 => h9) rfl d_Fb_manual_5 ?_
  refine lv_topi (fun v_1 e_1 => ?_)
  obtain rfl : nI np = v_1 := (e_1.trans hN).symm
  refine g_si (k := 2) (As := [.int (nI k), .int (nI np)]) (rest := []) (own := R_Fb) (index := 102) ⟨hx, hb, hml, hown, hts⟩ (c_Fb_isPlace l D t a σ (nI k) (nI np)) (gg_Fb_102 _) (by decide +kernel) ⟨Nat.le_of_ble_eq_true rfl, Nat.le_of_ble_eq_true rfl⟩ rfl hK hP hD hS hl.1 rfl (Nat.le_of_ble_eq_true rfl) ⟨Nat.zero_le _, Nat.zero_le _⟩ d_Fb_manual_8 (fun r_2 u_2 H locs q_2 hP hD hS => ?_)
  obtain ⟨rfl, hu_2⟩ := q_2
  rw [hu_2] at hP hD
  refine lv_if_ne (tgt := 24) hx hb d_Fb_manual_11 (by decide) (fun c_3 => ?_) (fun c_3 => ?_)
  · 
    refine lv_aload_n hx hb d_Fb_manual_24 rfl (lv_at hl 0 rfl) ?_
    refine va_get (D := D) (ci := 6) (v := .ref (a 399)) (C := R_Fb) (T := F_Fb) (N := 6) hx hb hts (fun w h => List.mem_cons_of_mem _ (i_Fb w h)) hown hK.1 hP 0 (wFb_o6 t a σ) rfl 1 (by decide) (hts (.fieldLink R_Fb 19 "FlatBoxes" "partRows" "LFlatBoxes$Parts;") (List.mem_cons_of_mem _ (gIn k_245 (by decide +kernel)))) (fun _ h9 => h9) rfl d_Fb_manual_25 ?_
    refine va_get (D := D) (ci := 3) (v := .ref (a 307)) (C := R_Pt) (T := F_Pt) (N := 9) hx hb hts (fun w h => List.mem_cons_of_mem _ (i_Pt w h)) hown hK.1 hP 2 (wFb_o3 t a σ) rfl 7 (by decide) (hts (.fieldLink R_Fb 161 "FlatBoxes$Parts" "byStep" "[I") (List.mem_cons_of_mem _ (gIn k_84 (by decide +kernel)))) (fun _ h9 => h9) rfl d_Fb_manual_28 ?_
    refine lv_iload_n hx hb d_Fb_manual_31 rfl (lv_at hl 1 rfl) ?_
    refine g_iald hx hb hK.1 hP 19 0 (wFb_307 t a σ) rfl k (rfl) (by omega) (by decide) d_Fb_manual_32 ?_
    exact W.iret (v := σ 307 k) hx hb hr (fun U hU hW => ⟨⟨σ 307 k, σ, rfl, by exact ⟨rfl, rfl⟩, by rw [hU]; exact hP, hD⟩, hS.F hU⟩) hS.2.2 d_Fb_manual_33
  · 
    exact absurd c_3 ((fun h9 => absurd (h9.symm.trans (fPlc_ok (q := k) (n := np) (by omega) (by omega))) (by decide)))
set_option maxHeartbeats 4000000 in
set_option maxRecDepth 100000 in
theorem c_Fb_bag (l : Launch) (D : va_G) (t : Nat → ClassId) (a : Nat → Nat) (σ : Nat → Nat → Int32) (nb : Nat) (hB : σ 6 0 = nI nb) (hB4 : nb < 4) : gMi l D t y_Fb_bag b_Fb_bag 1 (some .int) 1 [.ref (a 699)] (wFb t a σ) (wFb t a) (fun r u => r = nI nb ∧ u = gSt σ 6 0 (nI (nb + 1))) := by
  intro A
  refine Met.ofW (cc := b_Fb_bag) (maxL := 1) (ret := (some .int)) (by decide) rfl ?_
  intro p e s m args below meth c s₁ B hml hv
  obtain ⟨rfl, hK, hP, hD⟩ := hv
  have hx := B.exec
  have hb := B.bytes
  have hr := B.returns
  have hts := atoms_spec (ws := .code y_Fb_bag b_Fb_bag 1 (some .int) :: gBig) B.pre
  have hown : s.vm.findClass R_Fb = some m.cls := findClass_of_methodNamed B.named
  have hlocks := B.notSynchronized
  have hS : va_S A s.heap s.heap [] := va_S.rf
  have hl := lv_entry ([.ref (a 699)]) (n := 1) (Nat.le_of_ble_eq_true rfl)
  rw [lg_entry_eq]
  generalize (lg_sl ([.ref (a 699)]) ++ List.replicate (1 - (lg_sl ([.ref (a 699)])).length) Slot.unset).toArray = ls at hl ⊢
  have hl : lv_has ls 1 [(0, .ref (a 699))] := hl
  show gGo l p e s m below meth c D t A 1 [.ref (a 699)] (wFb t a) (fun r u => r = nI nb ∧ u = gSt σ 6 0 (nI (nb + 1))) s.heap [] (F0 m 0 ls [])
  refine lv_aload_n hx hb d_Fb_bag_0 rfl (lv_at hl 0 rfl) ?_
  refine va_get (D := D) (ci := 6) (v := .ref (a 99)) (C := R_Fb) (T := F_Fb) (N := 6) hx hb hts (fun w h => List.mem_cons_of_mem _ (i_Fb w h)) hown hK.1 hP 0 (wFb_o6 t a σ) rfl 5 (by decide) (hts (.fieldLink R_Fb 58 "FlatBoxes" "bagRows" "LFlatBoxes$Bags;") (List.mem_cons_of_mem _ (gIn k_249 (by decide +kernel)))) (fun _ h9 => h9) rfl d_Fb_bag_1 ?_
  refine va_get (D := D) (ci := 0) (v := .int (σ 6 0)) (C := R_Bg) (T := F_Bg) (N := 7) hx hb hts (fun w h => List.mem_cons_of_mem _ (i_Bg w h)) hown hK.1 hP 6 (wFb_o0 t a σ) rfl 6 (by decide) (hts (.fieldLink R_Fb 165 "FlatBoxes$Bags" "count" "I") (List.mem_cons_of_mem _ (gIn k_228 (by decide +kernel)))) (fun _ h9 => h9) rfl d_Fb_bag_4 ?_
  refine lv_topi (fun v_1 e_1 => ?_)
  obtain rfl : nI nb = v_1 := (e_1.trans hB).symm
  refine lv_iconst (v := 4) hx hb d_Fb_bag_7 (by decide) ?_
  refine lv_icmp_lt (tgt := 21) hx hb d_Fb_bag_8 (by decide) (fun c_2 => ?_) (fun c_2 => ?_)
  · 
    have h_2 : nb < 4 := (nI_ltI (a := nb) (b := 4) (by omega) (by omega)).mp c_2
    refine lv_aload_n hx hb d_Fb_bag_21 rfl (lv_at hl 0 rfl) ?_
    refine va_get (D := D) (ci := 6) (v := .ref (a 99)) (C := R_Fb) (T := F_Fb) (N := 6) hx hb hts (fun w h => List.mem_cons_of_mem _ (i_Fb w h)) hown hK.1 hP 0 (wFb_o6 t a σ) rfl 5 (by decide) (hts (.fieldLink R_Fb 58 "FlatBoxes" "bagRows" "LFlatBoxes$Bags;") (List.mem_cons_of_mem _ (gIn k_249 (by decide +kernel)))) (fun _ h9 => h9) rfl d_Fb_bag_22 ?_
    refine g_vi (k := 0) (As := []) (rest := []) (own := R_Fb) (C := R_Bg) (index := 168) ⟨hx, hb, hml, hown, hts⟩ (c_Bg_add l D t a σ nb hB) (gg_Fb_168 _) (by decide +kernel) ⟨Nat.le_of_ble_eq_true rfl, Nat.le_of_ble_eq_true rfl⟩ rfl (va_recv hK.1 hP (ci := 0) (q0 := 6) rfl (wFb_o0 t a σ)) hK hP hD hS hl.1 rfl (Nat.le_of_ble_eq_true rfl) ⟨Nat.zero_le _, Nat.zero_le _⟩ d_Fb_bag_25 (fun r_3 u_3 H locs q_3 hP hD hS => ?_)
    obtain ⟨rfl, hu_3⟩ := q_3
    rw [hu_3] at hP hD
    exact W.iret (v := nI nb) hx hb hr (fun U hU hW => ⟨⟨nI nb, gSt σ 6 0 (nI (nb + 1)), rfl, by exact ⟨rfl, rfl⟩, by rw [hU]; exact hP, hD⟩, hS.F hU⟩) hS.2.2 d_Fb_bag_28
  · 
    exact absurd c_2 ((fun h9 => h9 ((nI_ltI (a := nb) (b := 4) (by omega) (by omega)).mpr (by omega))))
set_option maxHeartbeats 4000000 in
set_option maxRecDepth 100000 in
theorem c_Fb_into (l : Launch) (D : va_G) (t : Nat → ClassId) (a : Nat → Nat) (σ : Nat → Nat → Int32) (b nb kc : Nat) (mn ec sp : Int32) (hB : σ 6 0 = nI nb) (hB4 : nb ≤ 4) (hb : b < nb) (hkc : σ 5 b = nI kc) (hk6 : kc < 6) (h1 : ¬ mIn mn 0 1000 = 0) (h2 : ¬ mIn ec 1 1000 = 0) (h3 : ¬ mIn sp 0 ec = 0) : gMi l D t y_Fb_into b_Fb_into 5 (some .int) 1 [.ref (a 699), .int (nI b), .int mn, .int ec, .int sp] (wFb t a σ) (wFb t a) (fun r u => r = nI (kc + 1) ∧ u = fAddK σ b kc mn ec sp) := by
  intro A
  refine Met.ofW (cc := b_Fb_into) (maxL := 5) (ret := (some .int)) (by decide) rfl ?_
  intro p e s m args below meth c s₁ B hml hv
  obtain ⟨rfl, hK, hP, hD⟩ := hv
  have hx := B.exec
  have hb := B.bytes
  have hr := B.returns
  have hts := atoms_spec (ws := .code y_Fb_into b_Fb_into 5 (some .int) :: gBig) B.pre
  have hown : s.vm.findClass R_Fb = some m.cls := findClass_of_methodNamed B.named
  have hlocks := B.notSynchronized
  have hS : va_S A s.heap s.heap [] := va_S.rf
  have hl := lv_entry ([.ref (a 699), .int (nI b), .int mn, .int ec, .int sp]) (n := 5) (Nat.le_of_ble_eq_true rfl)
  rw [lg_entry_eq]
  generalize (lg_sl ([.ref (a 699), .int (nI b), .int mn, .int ec, .int sp]) ++ List.replicate (5 - (lg_sl ([.ref (a 699), .int (nI b), .int mn, .int ec, .int sp])).length) Slot.unset).toArray = ls at hl ⊢
  have hl : lv_has ls 5 [(0, .ref (a 699)), (1, .int (nI b)), (2, .int mn), (3, .int ec), (4, .int sp)] := hl
  show gGo l p e s m below meth c D t A 1 [.ref (a 699), .int (nI b), .int mn, .int ec, .int sp] (wFb t a) (fun r u => r = nI (kc + 1) ∧ u = fAddK σ b kc mn ec sp) s.heap [] (F0 m 0 ls [])
  refine lv_iload_n hx hb d_Fb_into_0 rfl (lv_at hl 1 rfl) ?_
  refine lv_aload_n hx hb d_Fb_into_1 rfl (lv_at hl 0 rfl) ?_
  refine va_get (D := D) (ci := 6) (v := .ref (a 99)) (C := R_Fb) (T := F_Fb) (N := 6) hx hb hts (fun w h => List.mem_cons_of_mem _ (i_Fb w h)) hown hK.1 hP 0 (wFb_o6 t a σ) rfl 5 (by decide) (hts (.fieldLink R_Fb 58 "FlatBoxes" "bagRows" "LFlatBoxes$Bags;") (List.mem_cons_of_mem _ (gIn k_249 (by decide +kernel)))) (fun _ h9 => h9) rfl d_Fb_into_2 ?_
  refine va_get (D := D) (ci := 0) (v := .int (σ 6 0)) (C := R_Bg) (T := F_Bg) (N := 7) hx hb hts (fun w h => List.mem_cons_of_mem _ (i_Bg w h)) hown hK.1 hP 6 (wFb_o0 t a σ) rfl 6 (by decide) (hts (.fieldLink R_Fb 165 "FlatBoxes$Bags" "count" "I") (List.mem_cons_of_mem _ (gIn k_228 (by decide +kernel)))) (fun _ h9 => h9) rfl d_Fb_into_5 ?_
  refine lv_topi (fun v_1 e_1 => ?_)
  obtain rfl : nI nb = v_1 := (e_1.trans hB).symm
  refine g_si (k := 2) (As := [.int (nI b), .int (nI nb)]) (rest := []) (own := R_Fb) (index := 102) ⟨hx, hb, hml, hown, hts⟩ (c_Fb_isPlace l D t a σ (nI b) (nI nb)) (gg_Fb_102 _) (by decide +kernel) ⟨Nat.le_of_ble_eq_true rfl, Nat.le_of_ble_eq_true rfl⟩ rfl hK hP hD hS hl.1 rfl (Nat.le_of_ble_eq_true rfl) ⟨Nat.zero_le _, Nat.zero_le _⟩ d_Fb_into_8 (fun r_2 u_2 H locs q_2 hP hD hS => ?_)
  obtain ⟨rfl, hu_2⟩ := q_2
  rw [hu_2] at hP hD
  refine lv_if_ne (tgt := 24) hx hb d_Fb_into_11 (by decide) (fun c_3 => ?_) (fun c_3 => ?_)
  · 
    refine lv_iload_n hx hb d_Fb_into_24 rfl (lv_at hl 2 rfl) ?_
    refine lv_iconst (v := 0) hx hb d_Fb_into_25 (by decide) ?_
    refine lv_sipush (v := 1000) hx hb d_Fb_into_26 (by decide) ?_
    refine g_si (k := 3) (As := [.int mn, .int 0, .int 1000]) (rest := []) (own := R_Fb) (index := 74) ⟨hx, hb, hml, hown, hts⟩ (c_Fb_isWithin l D t a σ mn 0 1000) (gg_Fb_74 _) (by decide +kernel) ⟨Nat.le_of_ble_eq_true rfl, Nat.le_of_ble_eq_true rfl⟩ rfl hK hP hD hS hl.1 rfl (Nat.le_of_ble_eq_true rfl) ⟨Nat.zero_le _, Nat.zero_le _⟩ d_Fb_into_29 (fun r_4 u_4 H locs q_4 hP hD hS => ?_)
    obtain ⟨rfl, hu_4⟩ := q_4
    rw [hu_4] at hP hD
    refine lv_if_eq (tgt := 46) hx hb d_Fb_into_32 (by decide) (fun c_5 => ?_) (fun c_5 => ?_)
    · 
      exact absurd c_5 (h1)
    · 
      refine lv_iload_n hx hb d_Fb_into_35 rfl (lv_at hl 3 rfl) ?_
      refine lv_iconst (v := 1) hx hb d_Fb_into_36 (by decide) ?_
      refine lv_sipush (v := 1000) hx hb d_Fb_into_37 (by decide) ?_
      refine g_si (k := 3) (As := [.int ec, .int 1, .int 1000]) (rest := []) (own := R_Fb) (index := 74) ⟨hx, hb, hml, hown, hts⟩ (c_Fb_isWithin l D t a σ ec 1 1000) (gg_Fb_74 _) (by decide +kernel) ⟨Nat.le_of_ble_eq_true rfl, Nat.le_of_ble_eq_true rfl⟩ rfl hK hP hD hS hl.1 rfl (Nat.le_of_ble_eq_true rfl) ⟨Nat.zero_le _, Nat.zero_le _⟩ d_Fb_into_40 (fun r_6 u_6 H locs q_6 hP hD hS => ?_)
      obtain ⟨rfl, hu_6⟩ := q_6
      rw [hu_6] at hP hD
      refine lv_if_ne (tgt := 56) hx hb d_Fb_into_43 (by decide) (fun c_7 => ?_) (fun c_7 => ?_)
      · 
        refine lv_iload hx hb d_Fb_into_56 (lv_at hl 4 rfl) ?_
        refine lv_iconst (v := 0) hx hb d_Fb_into_58 (by decide) ?_
        refine lv_iload_n hx hb d_Fb_into_59 rfl (lv_at hl 3 rfl) ?_
        refine g_si (k := 3) (As := [.int sp, .int 0, .int ec]) (rest := []) (own := R_Fb) (index := 74) ⟨hx, hb, hml, hown, hts⟩ (c_Fb_isWithin l D t a σ sp 0 ec) (gg_Fb_74 _) (by decide +kernel) ⟨Nat.le_of_ble_eq_true rfl, Nat.le_of_ble_eq_true rfl⟩ rfl hK hP hD hS hl.1 rfl (Nat.le_of_ble_eq_true rfl) ⟨Nat.zero_le _, Nat.zero_le _⟩ d_Fb_into_60 (fun r_8 u_8 H locs q_8 hP hD hS => ?_)
        obtain ⟨rfl, hu_8⟩ := q_8
        rw [hu_8] at hP hD
        refine lv_if_ne (tgt := 76) hx hb d_Fb_into_63 (by decide) (fun c_9 => ?_) (fun c_9 => ?_)
        · 
          refine lv_aload_n hx hb d_Fb_into_76 rfl (lv_at hl 0 rfl) ?_
          refine va_get (D := D) (ci := 6) (v := .ref (a 99)) (C := R_Fb) (T := F_Fb) (N := 6) hx hb hts (fun w h => List.mem_cons_of_mem _ (i_Fb w h)) hown hK.1 hP 0 (wFb_o6 t a σ) rfl 5 (by decide) (hts (.fieldLink R_Fb 58 "FlatBoxes" "bagRows" "LFlatBoxes$Bags;") (List.mem_cons_of_mem _ (gIn k_249 (by decide +kernel)))) (fun _ h9 => h9) rfl d_Fb_into_77 ?_
          refine va_get (D := D) (ci := 0) (v := .ref (a 5)) (C := R_Bg) (T := F_Bg) (N := 7) hx hb hts (fun w h => List.mem_cons_of_mem _ (i_Bg w h)) hown hK.1 hP 6 (wFb_o0 t a σ) rfl 5 (by decide) (hts (.fieldLink R_Fb 176 "FlatBoxes$Bags" "kinds" "[I") (List.mem_cons_of_mem _ (gIn k_226 (by decide +kernel)))) (fun _ h9 => h9) rfl d_Fb_into_80 ?_
          refine lv_iload_n hx hb d_Fb_into_83 rfl (lv_at hl 1 rfl) ?_
          refine g_iald hx hb hK.1 hP 38 0 (wFb_5 t a σ) rfl b (rfl) (by omega) (by decide) d_Fb_into_84 ?_
          refine lv_topi (fun v_10 e_10 => ?_)
          obtain rfl : nI kc = v_10 := (e_10.trans (hkc)).symm
          refine lv_bipush (v := 6) hx hb d_Fb_into_85 (by decide) ?_
          refine lv_icmp_lt (tgt := 100) hx hb d_Fb_into_87 (by decide) (fun c_11 => ?_) (fun c_11 => ?_)
          · 
            have h_11 : kc < 6 := (nI_ltI (a := kc) (b := 6) (by omega) (by omega)).mp c_11
            refine lv_aload_n hx hb d_Fb_into_100 rfl (lv_at hl 0 rfl) ?_
            refine va_get (D := D) (ci := 6) (v := .ref (a 99)) (C := R_Fb) (T := F_Fb) (N := 6) hx hb hts (fun w h => List.mem_cons_of_mem _ (i_Fb w h)) hown hK.1 hP 0 (wFb_o6 t a σ) rfl 5 (by decide) (hts (.fieldLink R_Fb 58 "FlatBoxes" "bagRows" "LFlatBoxes$Bags;") (List.mem_cons_of_mem _ (gIn k_249 (by decide +kernel)))) (fun _ h9 => h9) rfl d_Fb_into_101 ?_
            refine lv_iload_n hx hb d_Fb_into_104 rfl (lv_at hl 1 rfl) ?_
            refine lv_iload_n hx hb d_Fb_into_105 rfl (lv_at hl 2 rfl) ?_
            refine lv_iload_n hx hb d_Fb_into_106 rfl (lv_at hl 3 rfl) ?_
            refine lv_iload hx hb d_Fb_into_107 (lv_at hl 4 rfl) ?_
            refine g_vi (k := 4) (As := [.int (nI b), .int mn, .int ec, .int sp]) (rest := []) (own := R_Fb) (C := R_Bg) (index := 181) ⟨hx, hb, hml, hown, hts⟩ (c_Bg_addKind l D t a σ b kc mn ec sp (by omega) hkc (by omega)) (gg_Fb_181 _) (by decide +kernel) ⟨Nat.le_of_ble_eq_true rfl, Nat.le_of_ble_eq_true rfl⟩ rfl (va_recv hK.1 hP (ci := 0) (q0 := 6) rfl (wFb_o0 t a σ)) hK hP hD hS hl.1 rfl (Nat.le_of_ble_eq_true rfl) ⟨Nat.zero_le _, Nat.zero_le _⟩ d_Fb_into_109 (fun r_12 u_12 H locs q_12 hP hD hS => ?_)
            obtain ⟨rfl, hu_12⟩ := q_12
            rw [hu_12] at hP hD
            exact W.iret (v := nI (kc + 1)) hx hb hr (fun U hU hW => ⟨⟨nI (kc + 1), fAddK σ b kc mn ec sp, rfl, by exact ⟨rfl, rfl⟩, by rw [hU]; exact hP, hD⟩, hS.F hU⟩) hS.2.2 d_Fb_into_112
          · 
            exact absurd c_11 ((fun h9 => h9 ((nI_ltI (a := kc) (b := 6) (by omega) (by omega)).mpr (by omega))))
        · 
          exact absurd c_9 (h3)
      · 
        exact absurd c_7 (h2)
  · 
    exact absurd c_3 ((fun h9 => absurd (h9.symm.trans (fPlc_ok (q := b) (n := nb) (by omega) (by omega))) (by decide)))
set_option maxHeartbeats 4000000 in
set_option maxRecDepth 100000 in
theorem c_Fb_counted (l : Launch) (D : va_G) (t : Nat → ClassId) (a : Nat → Nat) (σ : Nat → Nat → Int32) (b nb kc : Nat) (wt : Int32) (hB : σ 6 0 = nI nb) (hB4 : nb ≤ 4) (hb : b < nb) (hkc : σ 5 b = nI kc) (hk6 : kc ≤ 6) (h1 : 0 ≤ wt) : gMi l D t y_Fb_counted b_Fb_counted 3 (some .int) 3 [.ref (a 699), .int (nI b), .int wt] (wFb t a σ) (wFb t a) (fun r u => r = fJudge σ b kc wt ∧ u = σ) := by
  intro A
  refine Met.ofW (cc := b_Fb_counted) (maxL := 3) (ret := (some .int)) (by decide) rfl ?_
  intro p e s m args below meth c s₁ B hml hv
  obtain ⟨rfl, hK, hP, hD⟩ := hv
  have hx := B.exec
  have hb := B.bytes
  have hr := B.returns
  have hts := atoms_spec (ws := .code y_Fb_counted b_Fb_counted 3 (some .int) :: gBig) B.pre
  have hown : s.vm.findClass R_Fb = some m.cls := findClass_of_methodNamed B.named
  have hlocks := B.notSynchronized
  have hS : va_S A s.heap s.heap [] := va_S.rf
  have hl := lv_entry ([.ref (a 699), .int (nI b), .int wt]) (n := 3) (Nat.le_of_ble_eq_true rfl)
  rw [lg_entry_eq]
  generalize (lg_sl ([.ref (a 699), .int (nI b), .int wt]) ++ List.replicate (3 - (lg_sl ([.ref (a 699), .int (nI b), .int wt])).length) Slot.unset).toArray = ls at hl ⊢
  have hl : lv_has ls 3 [(0, .ref (a 699)), (1, .int (nI b)), (2, .int wt)] := hl
  show gGo l p e s m below meth c D t A 3 [.ref (a 699), .int (nI b), .int wt] (wFb t a) (fun r u => r = fJudge σ b kc wt ∧ u = σ) s.heap [] (F0 m 0 ls [])
  refine lv_iload_n hx hb d_Fb_counted_0 rfl (lv_at hl 1 rfl) ?_
  refine lv_aload_n hx hb d_Fb_counted_1 rfl (lv_at hl 0 rfl) ?_
  refine va_get (D := D) (ci := 6) (v := .ref (a 99)) (C := R_Fb) (T := F_Fb) (N := 6) hx hb hts (fun w h => List.mem_cons_of_mem _ (i_Fb w h)) hown hK.1 hP 0 (wFb_o6 t a σ) rfl 5 (by decide) (hts (.fieldLink R_Fb 58 "FlatBoxes" "bagRows" "LFlatBoxes$Bags;") (List.mem_cons_of_mem _ (gIn k_249 (by decide +kernel)))) (fun _ h9 => h9) rfl d_Fb_counted_2 ?_
  refine va_get (D := D) (ci := 0) (v := .int (σ 6 0)) (C := R_Bg) (T := F_Bg) (N := 7) hx hb hts (fun w h => List.mem_cons_of_mem _ (i_Bg w h)) hown hK.1 hP 6 (wFb_o0 t a σ) rfl 6 (by decide) (hts (.fieldLink R_Fb 165 "FlatBoxes$Bags" "count" "I") (List.mem_cons_of_mem _ (gIn k_228 (by decide +kernel)))) (fun _ h9 => h9) rfl d_Fb_counted_5 ?_
  refine lv_topi (fun v_1 e_1 => ?_)
  obtain rfl : nI nb = v_1 := (e_1.trans hB).symm
  refine g_si (k := 2) (As := [.int (nI b), .int (nI nb)]) (rest := []) (own := R_Fb) (index := 102) ⟨hx, hb, hml, hown, hts⟩ (c_Fb_isPlace l D t a σ (nI b) (nI nb)) (gg_Fb_102 _) (by decide +kernel) ⟨Nat.le_of_ble_eq_true rfl, Nat.le_of_ble_eq_true rfl⟩ rfl hK hP hD hS hl.1 rfl (Nat.le_of_ble_eq_true rfl) ⟨Nat.zero_le _, Nat.zero_le _⟩ d_Fb_counted_8 (fun r_2 u_2 H locs q_2 hP hD hS => ?_)
  obtain ⟨rfl, hu_2⟩ := q_2
  rw [hu_2] at hP hD
  refine lv_if_ne (tgt := 24) hx hb d_Fb_counted_11 (by decide) (fun c_3 => ?_) (fun c_3 => ?_)
  · 
    refine lv_iload_n hx hb d_Fb_counted_24 rfl (lv_at hl 2 rfl) ?_
    refine lv_if_ge (tgt := 38) hx hb d_Fb_counted_25 (by decide) (fun c_4 => ?_) (fun c_4 => ?_)
    · 
      refine lv_aload_n hx hb d_Fb_counted_38 rfl (lv_at hl 0 rfl) ?_
      refine va_get (D := D) (ci := 6) (v := .ref (a 99)) (C := R_Fb) (T := F_Fb) (N := 6) hx hb hts (fun w h => List.mem_cons_of_mem _ (i_Fb w h)) hown hK.1 hP 0 (wFb_o6 t a σ) rfl 5 (by decide) (hts (.fieldLink R_Fb 58 "FlatBoxes" "bagRows" "LFlatBoxes$Bags;") (List.mem_cons_of_mem _ (gIn k_249 (by decide +kernel)))) (fun _ h9 => h9) rfl d_Fb_counted_39 ?_
      refine lv_iload_n hx hb d_Fb_counted_42 rfl (lv_at hl 1 rfl) ?_
      refine lv_iload_n hx hb d_Fb_counted_43 rfl (lv_at hl 2 rfl) ?_
      refine g_vi (k := 2) (As := [.int (nI b), .int wt]) (rest := []) (own := R_Fb) (C := R_Bg) (index := 187) ⟨hx, hb, hml, hown, hts⟩ (c_Bg_judge l D t a σ b kc wt (by omega) hkc hk6) (gg_Fb_187 _) (by decide +kernel) ⟨Nat.le_of_ble_eq_true rfl, Nat.le_of_ble_eq_true rfl⟩ rfl (va_recv hK.1 hP (ci := 0) (q0 := 6) rfl (wFb_o0 t a σ)) hK hP hD hS hl.1 rfl (Nat.le_of_ble_eq_true rfl) ⟨Nat.zero_le _, Nat.zero_le _⟩ d_Fb_counted_44 (fun r_5 u_5 H locs q_5 hP hD hS => ?_)
      obtain ⟨rfl, hu_5⟩ := q_5
      rw [hu_5] at hP hD
      exact W.iret (v := fJudge σ b kc wt) hx hb hr (fun U hU hW => ⟨⟨fJudge σ b kc wt, σ, rfl, by exact ⟨rfl, rfl⟩, by rw [hU]; exact hP, hD⟩, hS.F hU⟩) hS.2.2 d_Fb_counted_47
    · 
      exact absurd c_4 (fun h9 => h9 h1)
  · 
    exact absurd c_3 ((fun h9 => absurd (h9.symm.trans (fPlc_ok (q := b) (n := nb) (by omega) (by omega))) (by decide)))
set_option maxHeartbeats 4000000 in
set_option maxRecDepth 100000 in
theorem c_Fb_raised (l : Launch) (D : va_G) (t : Nat → ClassId) (a : Nat → Nat) (σ : Nat → Nat → Int32) (b nbx c1 : Nat) (rm : Int32) (hsh : ¬ σ 503 0 = -1) (hB : σ 503 0 = nI nbx) (hB8 : nbx ≤ 8) (hb : b < nbx) (h1 : ¬ mIn rm 1 1000 = 0) (hc1 : σ (1100 + b) 0 = nI c1) (hc4 : c1 < 4) : gMi l D t y_Fb_raised b_Fb_raised 6 (some .boolean) 1 [.ref (a 699), .int (nI b), .int rm] (wFb t a σ) (wFb t a) (fun r u => r = fRai σ c1 rm ∧ u = σ) := by
  intro A
  refine Met.ofW (cc := b_Fb_raised) (maxL := 6) (ret := (some .boolean)) (by decide) rfl ?_
  intro p e s m args below meth c s₁ B hml hv
  obtain ⟨rfl, hK, hP, hD⟩ := hv
  have hx := B.exec
  have hb := B.bytes
  have hr := B.returns
  have hts := atoms_spec (ws := .code y_Fb_raised b_Fb_raised 6 (some .boolean) :: gBig) B.pre
  have hown : s.vm.findClass R_Fb = some m.cls := findClass_of_methodNamed B.named
  have hlocks := B.notSynchronized
  have hS : va_S A s.heap s.heap [] := va_S.rf
  have hl := lv_entry ([.ref (a 699), .int (nI b), .int rm]) (n := 6) (Nat.le_of_ble_eq_true rfl)
  rw [lg_entry_eq]
  generalize (lg_sl ([.ref (a 699), .int (nI b), .int rm]) ++ List.replicate (6 - (lg_sl ([.ref (a 699), .int (nI b), .int rm])).length) Slot.unset).toArray = ls at hl ⊢
  have hl : lv_has ls 6 [(0, .ref (a 699)), (1, .int (nI b)), (2, .int rm)] := hl
  show gGo l p e s m below meth c D t A 1 [.ref (a 699), .int (nI b), .int rm] (wFb t a) (fun r u => r = fRai σ c1 rm ∧ u = σ) s.heap [] (F0 m 0 ls [])
  refine lv_aload_n hx hb d_Fb_raised_0 rfl (lv_at hl 0 rfl) ?_
  refine g_vv (k := 0) (As := []) (rest := []) (own := R_Fb) (C := R_Fb) (index := 142) ⟨hx, hb, hml, hown, hts⟩ (c_Fb_needShares l D t a σ hsh) (gg_Fb_142 _) (by decide +kernel) ⟨Nat.le_of_ble_eq_true rfl, Nat.le_of_ble_eq_true rfl⟩ rfl (va_recv hK.1 hP (ci := 6) (q0 := 0) rfl (wFb_o6 t a σ)) hK hP hD hS hl.1 rfl (Nat.le_of_ble_eq_true rfl) ⟨Nat.zero_le _, Nat.zero_le _⟩ d_Fb_raised_1 (fun u_1 H locs q_1 hP hD hS => ?_)
  have hu_1 : u_1 = _ := q_1
  rw [hu_1] at hP hD
  refine lv_iload_n hx hb d_Fb_raised_4 rfl (lv_at hl 1 rfl) ?_
  refine lv_aload_n hx hb d_Fb_raised_5 rfl (lv_at hl 0 rfl) ?_
  refine va_get (D := D) (ci := 6) (v := .ref (a 599)) (C := R_Fb) (T := F_Fb) (N := 6) hx hb hts (fun w h => List.mem_cons_of_mem _ (i_Fb w h)) hown hK.1 hP 0 (wFb_o6 t a σ) rfl 4 (by decide) (hts (.fieldLink R_Fb 51 "FlatBoxes" "shares" "LFlatBoxes$Shares;") (List.mem_cons_of_mem _ (gIn k_248 (by decide +kernel)))) (fun _ h9 => h9) rfl d_Fb_raised_6 ?_
  refine va_get (D := D) (ci := 5) (v := .int (σ 503 0)) (C := R_Sh) (T := F_Sh) (N := 5) hx hb hts (fun w h => List.mem_cons_of_mem _ (i_Sh w h)) hown hK.1 hP 5 (wFb_o5 t a σ) rfl 3 (by decide) (hts (.fieldLink R_Fb 139 "FlatBoxes$Shares" "boxes" "I") (List.mem_cons_of_mem _ (gIn k_199 (by decide +kernel)))) (fun _ h9 => h9) rfl d_Fb_raised_9 ?_
  refine lv_topi (fun v_2 e_2 => ?_)
  obtain rfl : nI nbx = v_2 := (e_2.trans hB).symm
  refine g_si (k := 2) (As := [.int (nI b), .int (nI nbx)]) (rest := []) (own := R_Fb) (index := 102) ⟨hx, hb, hml, hown, hts⟩ (c_Fb_isPlace l D t a σ (nI b) (nI nbx)) (gg_Fb_102 _) (by decide +kernel) ⟨Nat.le_of_ble_eq_true rfl, Nat.le_of_ble_eq_true rfl⟩ rfl hK hP hD hS hl.1 rfl (Nat.le_of_ble_eq_true rfl) ⟨Nat.zero_le _, Nat.zero_le _⟩ d_Fb_raised_12 (fun r_3 u_3 H locs q_3 hP hD hS => ?_)
  obtain ⟨rfl, hu_3⟩ := q_3
  rw [hu_3] at hP hD
  refine lv_if_ne (tgt := 28) hx hb d_Fb_raised_15 (by decide) (fun c_4 => ?_) (fun c_4 => ?_)
  · 
    refine lv_iload_n hx hb d_Fb_raised_28 rfl (lv_at hl 2 rfl) ?_
    refine lv_iconst (v := 1) hx hb d_Fb_raised_29 (by decide) ?_
    refine lv_sipush (v := 1000) hx hb d_Fb_raised_30 (by decide) ?_
    refine g_si (k := 3) (As := [.int rm, .int 1, .int 1000]) (rest := []) (own := R_Fb) (index := 74) ⟨hx, hb, hml, hown, hts⟩ (c_Fb_isWithin l D t a σ rm 1 1000) (gg_Fb_74 _) (by decide +kernel) ⟨Nat.le_of_ble_eq_true rfl, Nat.le_of_ble_eq_true rfl⟩ rfl hK hP hD hS hl.1 rfl (Nat.le_of_ble_eq_true rfl) ⟨Nat.zero_le _, Nat.zero_le _⟩ d_Fb_raised_33 (fun r_5 u_5 H locs q_5 hP hD hS => ?_)
    obtain ⟨rfl, hu_5⟩ := q_5
    rw [hu_5] at hP hD
    refine lv_if_ne (tgt := 49) hx hb d_Fb_raised_36 (by decide) (fun c_6 => ?_) (fun c_6 => ?_)
    · 
      refine lv_aload_n hx hb d_Fb_raised_49 rfl (lv_at hl 0 rfl) ?_
      refine va_get (D := D) (ci := 6) (v := .ref (a 599)) (C := R_Fb) (T := F_Fb) (N := 6) hx hb hts (fun w h => List.mem_cons_of_mem _ (i_Fb w h)) hown hK.1 hP 0 (wFb_o6 t a σ) rfl 4 (by decide) (hts (.fieldLink R_Fb 51 "FlatBoxes" "shares" "LFlatBoxes$Shares;") (List.mem_cons_of_mem _ (gIn k_248 (by decide +kernel)))) (fun _ h9 => h9) rfl d_Fb_raised_50 ?_
      refine va_get (D := D) (ci := 5) (v := .ref (a 501)) (C := R_Sh) (T := F_Sh) (N := 5) hx hb hts (fun w h => List.mem_cons_of_mem _ (i_Sh w h)) hown hK.1 hP 5 (wFb_o5 t a σ) rfl 1 (by decide) (hts (.fieldLink R_Fb 153 "FlatBoxes$Shares" "ofBox" "[[I") (List.mem_cons_of_mem _ (gIn k_195 (by decide +kernel)))) (fun _ h9 => h9) rfl d_Fb_raised_53 ?_
      refine lv_iload_n hx hb d_Fb_raised_56 rfl (lv_at hl 1 rfl) ?_
      refine g_aald hx hb hK.1 hP 32 2 (wFb_501 t a σ) rfl b (rfl) (by omega) (by decide) rfl d_Fb_raised_57 ?_
      refine lv_iconst (v := 0) hx hb d_Fb_raised_58 (by decide) ?_
      refine g_iald hx hb hK.1 hP (47 + b) 0 (wFb_r1100 t a σ b (by omega)) rfl 0 (rfl) (by omega) (by decide) d_Fb_raised_59 ?_
      refine lv_topi (fun v_7 e_7 => ?_)
      obtain rfl : nI c1 = v_7 := (e_7.trans (hc1)).symm
      refine lv_istore_n (lv' := [(3, .int (nI c1)), (0, .ref (a 699)), (1, .int (nI b)), (2, .int rm)]) hx hb d_Fb_raised_60 rfl hl (by decide) rfl (fun ls hl => ?_)
      refine lv_aload_n hx hb d_Fb_raised_61 rfl (lv_at hl 1 rfl) ?_
      refine va_get (D := D) (ci := 6) (v := .ref (a 199)) (C := R_Fb) (T := F_Fb) (N := 6) hx hb hts (fun w h => List.mem_cons_of_mem _ (i_Fb w h)) hown hK.1 hP 0 (wFb_o6 t a σ) rfl 0 (by decide) (hts (.fieldLink R_Fb 12 "FlatBoxes" "cartonRows" "LFlatBoxes$Cartons;") (List.mem_cons_of_mem _ (gIn k_244 (by decide +kernel)))) (fun _ h9 => h9) rfl d_Fb_raised_62 ?_
      refine va_get (D := D) (ci := 1) (v := .ref (a 101)) (C := R_Ct) (T := F_Ct) (N := 6) hx hb hts (fun w h => List.mem_cons_of_mem _ (i_Ct w h)) hown hK.1 hP 1 (wFb_o1 t a σ) rfl 1 (by decide) (hts (.fieldLink R_Fb 194 "FlatBoxes$Cartons" "depth" "[I") (List.mem_cons_of_mem _ (gIn k_37 (by decide +kernel)))) (fun _ h9 => h9) rfl d_Fb_raised_65 ?_
      refine lv_iload_n hx hb d_Fb_raised_68 rfl (lv_at hl 0 rfl) ?_
      refine g_iald hx hb hK.1 hP 8 0 (wFb_101 t a σ) rfl c1 (rfl) (by omega) (by decide) d_Fb_raised_69 ?_
      refine lv_istore (lv' := [(4, .int (σ 101 c1)), (3, .int (nI c1)), (0, .ref (a 699)), (1, .int (nI b)), (2, .int rm)]) hx hb d_Fb_raised_70 hl (by decide) rfl (fun ls hl => ?_)
      refine lv_aload_n hx hb d_Fb_raised_72 rfl (lv_at hl 2 rfl) ?_
      refine va_get (D := D) (ci := 6) (v := .ref (a 199)) (C := R_Fb) (T := F_Fb) (N := 6) hx hb hts (fun w h => List.mem_cons_of_mem _ (i_Fb w h)) hown hK.1 hP 0 (wFb_o6 t a σ) rfl 0 (by decide) (hts (.fieldLink R_Fb 12 "FlatBoxes" "cartonRows" "LFlatBoxes$Cartons;") (List.mem_cons_of_mem _ (gIn k_244 (by decide +kernel)))) (fun _ h9 => h9) rfl d_Fb_raised_73 ?_
      refine va_get (D := D) (ci := 1) (v := .ref (a 102)) (C := R_Ct) (T := F_Ct) (N := 6) hx hb hts (fun w h => List.mem_cons_of_mem _ (i_Ct w h)) hown hK.1 hP 1 (wFb_o1 t a σ) rfl 2 (by decide) (hts (.fieldLink R_Fb 197 "FlatBoxes$Cartons" "height" "[I") (List.mem_cons_of_mem _ (gIn k_40 (by decide +kernel)))) (fun _ h9 => h9) rfl d_Fb_raised_76 ?_
      refine lv_iload_n hx hb d_Fb_raised_79 rfl (lv_at hl 1 rfl) ?_
      refine g_iald hx hb hK.1 hP 9 0 (wFb_102 t a σ) rfl c1 (rfl) (by omega) (by decide) d_Fb_raised_80 ?_
      refine lv_istore (lv' := [(5, .int (σ 102 c1)), (4, .int (σ 101 c1)), (3, .int (nI c1)), (0, .ref (a 699)), (1, .int (nI b)), (2, .int rm)]) hx hb d_Fb_raised_81 hl (by decide) rfl (fun ls hl => ?_)
      refine lv_iload hx hb d_Fb_raised_83 (lv_at hl 1 rfl) ?_
      refine lv_iload hx hb d_Fb_raised_85 (lv_at hl 1 rfl) ?_
      refine lv_imul hx hb d_Fb_raised_87 ?_
      refine lv_iload hx hb d_Fb_raised_88 (lv_at hl 0 rfl) ?_
      refine lv_iload hx hb d_Fb_raised_90 (lv_at hl 0 rfl) ?_
      refine lv_imul hx hb d_Fb_raised_92 ?_
      refine lv_iadd hx hb d_Fb_raised_93 ?_
      refine lv_iload_n hx hb d_Fb_raised_94 rfl (lv_at hl 5 rfl) ?_
      refine lv_iload_n hx hb d_Fb_raised_95 rfl (lv_at hl 5 rfl) ?_
      refine lv_imul hx hb d_Fb_raised_96 ?_
      refine lv_icmp_gt (tgt := 104) hx hb d_Fb_raised_97 (by decide) (fun c_8 => ?_) (fun c_8 => ?_)
      · 
        refine lv_iconst (v := 0) hx hb d_Fb_raised_104 (by decide) ?_
        exact W.zret (v := 0) (ty := .boolean) hx hb hr (rfl) (fun U hU hW => ⟨⟨0, σ, rfl, by exact ⟨by simp [fRai, c_4, c_6, c_8], rfl⟩, by rw [hU]; exact hP, hD⟩, hS.F hU⟩) hS.2.2 d_Fb_raised_105
      · 
        refine lv_iconst (v := 1) hx hb d_Fb_raised_100 (by decide) ?_
        refine lv_goto (tgt := 105) hx hb d_Fb_raised_101 (by decide) ?_
        exact W.zret (v := 1) (ty := .boolean) hx hb hr (rfl) (fun U hU hW => ⟨⟨1, σ, rfl, by exact ⟨by simp [fRai, c_4, c_6, c_8], rfl⟩, by rw [hU]; exact hP, hD⟩, hS.F hU⟩) hS.2.2 d_Fb_raised_105
    · 
      exact absurd c_6 (h1)
  · 
    exact absurd c_4 ((fun h9 => absurd (h9.symm.trans (fPlc_ok (q := b) (n := nbx) (by omega) (by omega))) (by decide)))
set_option maxHeartbeats 4000000 in
set_option maxRecDepth 100000 in
theorem c_Fb_pallets (l : Launch) (D : va_G) (t : Nat → ClassId) (a : Nat → Nat) (σ : Nat → Nat → Int32) (lm : Int32) (nbx : Nat) (hsh : ¬ σ 503 0 = -1) (hB : σ 503 0 = nI nbx) (hB8 : nbx ≤ 8) (h1 : ¬ mIn lm 1 1000000 = 0) : gMi l D t y_Fb_pallets b_Fb_pallets 2 (some .int) 1 [.ref (a 699), .int lm] (wFb t a σ) (wFb t a) (fun r u => r = (fPal (fun b => σ (1100 + b) 2) lm nbx).1 ∧ u = σ) := by
  intro A
  refine Met.ofW (cc := b_Fb_pallets) (maxL := 2) (ret := (some .int)) (by decide) rfl ?_
  intro p e s m args below meth c s₁ B hml hv
  obtain ⟨rfl, hK, hP, hD⟩ := hv
  have hx := B.exec
  have hb := B.bytes
  have hr := B.returns
  have hts := atoms_spec (ws := .code y_Fb_pallets b_Fb_pallets 2 (some .int) :: gBig) B.pre
  have hown : s.vm.findClass R_Fb = some m.cls := findClass_of_methodNamed B.named
  have hlocks := B.notSynchronized
  have hS : va_S A s.heap s.heap [] := va_S.rf
  have hl := lv_entry ([.ref (a 699), .int lm]) (n := 2) (Nat.le_of_ble_eq_true rfl)
  rw [lg_entry_eq]
  generalize (lg_sl ([.ref (a 699), .int lm]) ++ List.replicate (2 - (lg_sl ([.ref (a 699), .int lm])).length) Slot.unset).toArray = ls at hl ⊢
  have hl : lv_has ls 2 [(0, .ref (a 699)), (1, .int lm)] := hl
  show gGo l p e s m below meth c D t A 1 [.ref (a 699), .int lm] (wFb t a) (fun r u => r = (fPal (fun b => σ (1100 + b) 2) lm nbx).1 ∧ u = σ) s.heap [] (F0 m 0 ls [])
  refine lv_aload_n hx hb d_Fb_pallets_0 rfl (lv_at hl 0 rfl) ?_
  refine g_vv (k := 0) (As := []) (rest := []) (own := R_Fb) (C := R_Fb) (index := 142) ⟨hx, hb, hml, hown, hts⟩ (c_Fb_needShares l D t a σ hsh) (gg_Fb_142 _) (by decide +kernel) ⟨Nat.le_of_ble_eq_true rfl, Nat.le_of_ble_eq_true rfl⟩ rfl (va_recv hK.1 hP (ci := 6) (q0 := 0) rfl (wFb_o6 t a σ)) hK hP hD hS hl.1 rfl (Nat.le_of_ble_eq_true rfl) ⟨Nat.zero_le _, Nat.zero_le _⟩ d_Fb_pallets_1 (fun u_1 H locs q_1 hP hD hS => ?_)
  have hu_1 : u_1 = _ := q_1
  rw [hu_1] at hP hD
  refine lv_iload_n hx hb d_Fb_pallets_4 rfl (lv_at hl 1 rfl) ?_
  refine lv_iconst (v := 1) hx hb d_Fb_pallets_5 (by decide) ?_
  refine lv_ldc hx hb hown (hts (.constant R_Fb 200 1000000) (List.mem_cons_of_mem _ (gIn k_654 (by decide +kernel)))) d_Fb_pallets_6 ?_
  refine g_si (k := 3) (As := [.int lm, .int 1, .int 1000000]) (rest := []) (own := R_Fb) (index := 74) ⟨hx, hb, hml, hown, hts⟩ (c_Fb_isWithin l D t a σ lm 1 1000000) (gg_Fb_74 _) (by decide +kernel) ⟨Nat.le_of_ble_eq_true rfl, Nat.le_of_ble_eq_true rfl⟩ rfl hK hP hD hS hl.1 rfl (Nat.le_of_ble_eq_true rfl) ⟨Nat.zero_le _, Nat.zero_le _⟩ d_Fb_pallets_8 (fun r_2 u_2 H locs q_2 hP hD hS => ?_)
  obtain ⟨rfl, hu_2⟩ := q_2
  rw [hu_2] at hP hD
  refine lv_if_ne (tgt := 24) hx hb d_Fb_pallets_11 (by decide) (fun c_3 => ?_) (fun c_3 => ?_)
  · 
    refine lv_aload_n hx hb d_Fb_pallets_24 rfl (lv_at hl 0 rfl) ?_
    refine va_get (D := D) (ci := 6) (v := .ref (a 599)) (C := R_Fb) (T := F_Fb) (N := 6) hx hb hts (fun w h => List.mem_cons_of_mem _ (i_Fb w h)) hown hK.1 hP 0 (wFb_o6 t a σ) rfl 4 (by decide) (hts (.fieldLink R_Fb 51 "FlatBoxes" "shares" "LFlatBoxes$Shares;") (List.mem_cons_of_mem _ (gIn k_248 (by decide +kernel)))) (fun _ h9 => h9) rfl d_Fb_pallets_25 ?_
    refine lv_iload_n hx hb d_Fb_pallets_28 rfl (lv_at hl 1 rfl) ?_
    refine g_vi (k := 1) (As := [.int lm]) (rest := []) (own := R_Fb) (C := R_Sh) (index := 203) ⟨hx, hb, hml, hown, hts⟩ (c_Sh_stackOnPallets l D t a σ lm nbx hB hB8) (gg_Fb_203 _) (by decide +kernel) ⟨Nat.le_of_ble_eq_true rfl, Nat.le_of_ble_eq_true rfl⟩ rfl (va_recv hK.1 hP (ci := 5) (q0 := 5) rfl (wFb_o5 t a σ)) hK hP hD hS hl.1 rfl (Nat.le_of_ble_eq_true rfl) ⟨Nat.zero_le _, Nat.zero_le _⟩ d_Fb_pallets_29 (fun r_4 u_4 H locs q_4 hP hD hS => ?_)
    obtain ⟨rfl, hu_4⟩ := q_4
    rw [hu_4] at hP hD
    exact W.iret (v := (fPal (fun b => σ (1100 + b) 2) lm nbx).1) hx hb hr (fun U hU hW => ⟨⟨(fPal (fun b => σ (1100 + b) 2) lm nbx).1, σ, rfl, by exact ⟨rfl, rfl⟩, by rw [hU]; exact hP, hD⟩, hS.F hU⟩) hS.2.2 d_Fb_pallets_32
  · 
    exact absurd c_3 (h1)
