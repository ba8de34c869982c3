theorem fPk_L (σ : Nat → Nat → Int32) (bt : Nat → Nat) (set wide : Int32) : ∀ k, k ≤ 8 → ∃ L, L ≤ k ∧ fPk σ bt set wide k 208 0 = nI L
  | 0, _ => ⟨0, Nat.le_refl _, rfl⟩
  | k + 1, hk => by
    obtain ⟨L, h1, h2⟩ := fPk_L σ bt set wide k (by omega)
    unfold fPk
    split
    · exact ⟨L, by omega, h2⟩
    · have e : fLn (fPk σ bt set wide k) = L := by unfold fLn; rw [h2, nI_clamp (by omega)]
      rw [e]
      exact ⟨fNewL (fPk σ bt set wide k) (bt k) wide L, by have := fNewL_le (fPk σ bt set wide k) (bt k) wide L; omega, fLay_L h2⟩
theorem fPk_fix (σ : Nat → Nat → Int32) (bt : Nat → Nat) (set wide : Int32) {i : Nat} (h : i ≤ 200 ∨ 208 < i) : ∀ k, fPk σ bt set wide k i = σ i
  | 0 => gSt_ne _ _ _ _ (by omega)
  | k + 1 => by
    unfold fPk
    split
    · exact fPk_fix σ bt set wide h k
    · rw [fLay_fix _ _ _ _ h]
      exact fPk_fix σ bt set wide h k
def fHeldT (σ : Nat → Nat → Int32) (bt : Nat → Nat) (set : Int32) (cc np : Nat) : Nat → Nat → Int32 := fPk σ bt set (σ 100 cc) np
def fHeldR (σ : Nat → Nat → Int32) (bt : Nat → Nat) (set : Int32) (cc np : Nat) : Int32 := if σ 104 cc < fGrams σ set np then 0 else if fAW σ set (σ 100 cc) (σ 101 cc) np 0 = 0 then 0 else if σ 102 cc < mSum (fHeldT σ bt set cc np 202) (fLn (fHeldT σ bt set cc np)) then 0 else if 1 < fCnt (fHeldT σ bt set cc np 205) (fLn (fHeldT σ bt set cc np)) then 0 else 1
def fHeldU (σ : Nat → Nat → Int32) (bt : Nat → Nat) (set : Int32) (cc np : Nat) : Nat → Nat → Int32 := if σ 104 cc < fGrams σ set np then σ else if fAW σ set (σ 100 cc) (σ 101 cc) np 0 = 0 then σ else fHeldT σ bt set cc np
def fBelow (σ : Nat → Nat → Int32) (x y : Nat) : Int32 := if σ 205 x = σ 205 y then (if σ 204 x = σ 204 y then (if σ 203 x = σ 203 y then (if y ≤ x then 0 else 1) else if σ 203 x ≤ σ 203 y then 0 else 1) else if σ 204 x ≤ σ 204 y then 0 else 1) else σ 205 y
def fLy (τ : Nat → Nat → Int32) (j : Nat) : Nat → Int32
  | 0 => 0
  | k + 1 => if fBelow τ k j = 0 then fLy τ j k else fLy τ j k + 1
def fLz (τ : Nat → Nat → Int32) (j : Nat) : Nat → Int32
  | 0 => 0
  | k + 1 => if fBelow τ k j = 0 then fLz τ j k else fLz τ j k + τ 202 k
def fAdd1 (σ : Nat → Nat → Int32) (b kc : Nat) (mn ec sp : Int32) : Nat → Nat → Int32 := gSt (gSt (gSt σ (1200 + b) kc mn) (1300 + b) kc ec) (1400 + b) kc sp
def fAdd2 (τ : Nat → Nat → Int32) (b : Nat) (mn ec : Int32) : Nat → Nat → Int32 := gSt τ 3 b (τ 3 b + mn * ec)
def fAdd3 (τ : Nat → Nat → Int32) (b : Nat) (mn sp : Int32) : Nat → Nat → Int32 := gSt τ 4 b (τ 4 b + mn * sp)
def fAddK (σ : Nat → Nat → Int32) (b kc : Nat) (mn ec sp : Int32) : Nat → Nat → Int32 := gSt (fAdd3 (fAdd2 (fAdd1 σ b kc mn ec sp) b mn ec) b mn sp) 5 b (nI (kc + 1))
def fMore (σ : Nat → Nat → Int32) (b k : Nat) (wt : Int32) : Int32 := mWithin wt (σ 3 b + σ (1300 + b) k) (σ 4 b + σ (1400 + b) k)
def fLess (σ : Nat → Nat → Int32) (b k : Nat) (wt : Int32) : Int32 := if σ (1200 + b) k ≤ 0 then 0 else if mWithin wt (σ 3 b - σ (1300 + b) k) (σ 4 b - σ (1400 + b) k) = 0 then 0 else 1
def fJ (σ : Nat → Nat → Int32) (b : Nat) (wt : Int32) : Nat → Nat → Int32
  | 0, _ => 1
  | d + 1, k => if ¬ fMore σ b k wt = 0 then 2 else if fLess σ b k wt = 0 then fJ σ b wt d (k + 1) else 2
def fJudge (σ : Nat → Nat → Int32) (b kc : Nat) (wt : Int32) : Int32 := if mWithin wt (σ 3 b) (σ 4 b) = 0 then 0 else fJ σ b wt kc 0
def fSrt (id pq : Nat) (bt : Nat → Nat) (gg : Nat → Bool) : Nat → (Nat → Nat → Int32) → (Nat → Nat → Int32)
  | 0, τ => gSt τ id 0 (nI pq)
  | k + 1, τ => if gg k then fSrt id pq bt gg k (gSt τ id (k + 1) (nI (bt k))) else gSt τ id (k + 1) (nI pq)
theorem fSrt_fix (id pq : Nat) (bt : Nat → Nat) (gg : Nat → Bool) {i : Nat} (h : i ≠ id) : ∀ k τ, fSrt id pq bt gg k τ i = τ i
  | 0, τ => gSt_ne _ _ _ _ h
  | k + 1, τ => by
    unfold fSrt
    split
    · exact (fSrt_fix id pq bt gg h k _).trans (gSt_ne _ _ _ _ h)
    · exact gSt_ne _ _ _ _ h
def fGo1 (σ : Nat → Nat → Int32) (bt : Nat → Nat) (pq : Nat) (k : Nat) : Bool := !decide (σ 302 pq ≤ σ 302 (bt k))
def fGo2 (σ : Nat → Nat → Int32) (bt : Nat → Nat) (pq : Nat) (k : Nat) : Bool := !decide (σ 304 (bt k) ≤ σ 304 pq)
def fPut5 (σ : Nat → Nat → Int32) (np : Nat) (wd dp th gr sp : Int32) : Nat → Nat → Int32 := gSt (gSt (gSt (gSt (gSt σ 300 np wd) 301 np dp) 302 np th) 303 np gr) 304 np sp
def fSor2 (τ : Nat → Nat → Int32) (np : Nat) (bt bs : Nat → Nat) : Nat → Nat → Int32 := fSrt 307 np bs (fGo2 (fSrt 306 np bt (fGo1 τ bt np) np τ) bs np) np (fSrt 306 np bt (fGo1 τ bt np) np τ)
def fPartU (σ : Nat → Nat → Int32) (np : Nat) (bt bs : Nat → Nat) (wd dp th gr sp : Int32) : Nat → Nat → Int32 := gSt (fSor2 (fPut5 σ np wd dp th gr sp) np bt bs) 308 0 (nI (np + 1))
def fCartU (σ : Nat → Nat → Int32) (nc : Nat) (wd dp ht ct gr : Int32) : Nat → Nat → Int32 := gSt (gSt (gSt (gSt (gSt (gSt σ 100 nc wd) 101 nc dp) 102 nc ht) 103 nc ct) 104 nc gr) 105 0 (nI (nc + 1))

theorem gg_Pk_38 (w0 : Cond) : GoodIn (w0 :: gBig) (wsV R_Pk 38 R_Pt y_Pt_gramsOf (.code y_Pt_gramsOf b_Pt_gramsOf 4 (some .int) :: gBig)) := gGoodV (gIn k_284 (by decide +kernel)) (gIn k_285 (by decide +kernel)) (gIn k_286 (by decide +kernel)) (gIn k_3 (by decide +kernel)) (gIn k_287 (by decide +kernel))
theorem gg_Pk_53 (w0 : Cond) : GoodIn (w0 :: gBig) (wsV R_Pk 53 R_Pt y_Pt_areWithin (.code y_Pt_areWithin b_Pt_areWithin 5 (some .boolean) :: gBig)) := gGoodV (gIn k_291 (by decide +kernel)) (gIn k_292 (by decide +kernel)) (gIn k_293 (by decide +kernel)) (gIn k_3 (by decide +kernel)) (gIn k_294 (by decide +kernel))
theorem gg_Pk_57 (w0 : Cond) : GoodIn (w0 :: gBig) (wsV R_Pk 57 R_Pk y_Pk_pack (.code y_Pk_pack b_Pk_pack 6 none :: gBig)) := gGoodV (gIn k_295 (by decide +kernel)) (gIn k_296 (by decide +kernel)) (gIn k_297 (by decide +kernel)) (gIn k_4 (by decide +kernel)) (gIn k_298 (by decide +kernel))
theorem gg_Pk_61 (w0 : Cond) : GoodIn (w0 :: gBig) (wsV R_Pk 61 R_Pk y_Pk_height (.code y_Pk_height b_Pk_height 3 (some .int) :: gBig)) := gGoodV (gIn k_313 (by decide +kernel)) (gIn k_314 (by decide +kernel)) (gIn k_315 (by decide +kernel)) (gIn k_4 (by decide +kernel)) (gIn k_316 (by decide +kernel))
theorem gg_Pk_67 (w0 : Cond) : GoodIn (w0 :: gBig) (wsV R_Pk 67 R_Pk y_Pk_fragileLayers (.code y_Pk_fragileLayers b_Pk_fragileLayers 3 (some .int) :: gBig)) := gGoodV (gIn k_317 (by decide +kernel)) (gIn k_319 (by decide +kernel)) (gInP (List.mem_of_getElem? (i := 4) (by decide +kernel)) (by decide +kernel)) (gIn k_4 (by decide +kernel)) (gIn k_320 (by decide +kernel))
theorem gg_Pk_106 (w0 : Cond) : GoodIn (w0 :: gBig) (wsV R_Pk 106 R_Pk y_Pk_isBelow (.code y_Pk_isBelow b_Pk_isBelow 3 (some .boolean) :: gBig)) := gGoodV (gIn k_372 (by decide +kernel)) (gIn k_374 (by decide +kernel)) (gInP (List.mem_of_getElem? (i := 9) (by decide +kernel)) (by decide +kernel)) (gIn k_4 (by decide +kernel)) (gIn k_375 (by decide +kernel))
theorem gg_Bg_36 (w0 : Cond) : GoodIn (w0 :: gBig) (wsS R_Bg 36 y_Bg_isNear (.code y_Bg_isNear b_Bg_isNear 3 (some .boolean) :: gBig)) := gGoodS (gIn k_627 (by decide +kernel)) (gIn k_628 (by decide +kernel)) (gIn k_8 (by decide +kernel)) (gIn k_629 (by decide +kernel))
theorem gg_Bg_40 (w0 : Cond) : GoodIn (w0 :: gBig) (wsV R_Bg 40 R_Bg y_Bg_couldHaveOneMore (.code y_Bg_couldHaveOneMore b_Bg_couldHaveOneMore 4 (some .boolean) :: gBig)) := gGoodV (gIn k_630 (by decide +kernel)) (gIn k_632 (by decide +kernel)) (gInP (List.mem_of_getElem? (i := 14) (by decide +kernel)) (by decide +kernel)) (gIn k_8 (by decide +kernel)) (gIn k_633 (by decide +kernel))
theorem gg_Bg_43 (w0 : Cond) : GoodIn (w0 :: gBig) (wsV R_Bg 43 R_Bg y_Bg_couldHaveOneLess (.code y_Bg_couldHaveOneLess b_Bg_couldHaveOneLess 4 (some .boolean) :: gBig)) := gGoodV (gIn k_634 (by decide +kernel)) (gIn k_636 (by decide +kernel)) (gInP (List.mem_of_getElem? (i := 15) (by decide +kernel)) (by decide +kernel)) (gIn k_8 (by decide +kernel)) (gIn k_637 (by decide +kernel))
set_option maxHeartbeats 4000000 in
set_option maxRecDepth 100000 in
theorem c_Pk_isHeldBy (l : Launch) (D : va_G) (t : Nat → ClassId) (a : Nat → Nat) (σ : Nat → Nat → Int32) (set : Int32) (cc : Nat) (hc : cc < 4) (np : Nat) (hN : σ 308 0 = nI np) (hN8 : np ≤ 8) (bt : Nat → Nat) (hbt : ∀ k, k < np → σ 306 k = nI (bt k) ∧ bt k < 8) : gMi l D t y_Pk_isHeldBy b_Pk_isHeldBy 5 (some .boolean) 3 [.ref (a 299), .ref (a 199), .int (nI cc), .ref (a 399), .int set] (wFb t a σ) (wFb t a) (fun r u => r = fHeldR σ bt set cc np ∧ u = fHeldU σ bt set cc np) := by
  intro A
  refine Met.ofW (cc := b_Pk_isHeldBy) (maxL := 5) (ret := (some .boolean)) (by decide) rfl ?_
  intro p e s m args below meth c s₁ B hml hv
  obtain ⟨rfl, hK, hP, hD⟩ := hv
  have hx := B.exec
  have hb := B.bytes
  have hr := B.returns
  have hts := atoms_spec (ws := .code y_Pk_isHeldBy b_Pk_isHeldBy 5 (some .boolean) :: gBig) B.pre
  have hown : s.vm.findClass R_Pk = some m.cls := findClass_of_methodNamed B.named
  have hlocks := B.notSynchronized
  have hS : va_S A s.heap s.heap [] := va_S.rf
  have hl := lv_entry ([.ref (a 299), .ref (a 199), .int (nI cc), .ref (a 399), .int set]) (n := 5) (Nat.le_of_ble_eq_true rfl)
  rw [lg_entry_eq]
  generalize (lg_sl ([.ref (a 299), .ref (a 199), .int (nI cc), .ref (a 399), .int set]) ++ List.replicate (5 - (lg_sl ([.ref (a 299), .ref (a 199), .int (nI cc), .ref (a 399), .int set])).length) Slot.unset).toArray = ls at hl ⊢
  have hl : lv_has ls 5 [(0, .ref (a 299)), (1, .ref (a 199)), (2, .int (nI cc)), (3, .ref (a 399)), (4, .int set)] := hl
  show gGo l p e s m below meth c D t A 3 [.ref (a 299), .ref (a 199), .int (nI cc), .ref (a 399), .int set] (wFb t a) (fun r u => r = fHeldR σ bt set cc np ∧ u = fHeldU σ bt set cc np) s.heap [] (F0 m 0 ls [])
  refine lv_aload_n hx hb d_Pk_isHeldBy_0 rfl (lv_at hl 3 rfl) ?_
  refine lv_iload hx hb d_Pk_isHeldBy_1 (lv_at hl 4 rfl) ?_
  refine g_vi (k := 1) (As := [.int set]) (rest := []) (own := R_Pk) (C := R_Pt) (index := 38) ⟨hx, hb, hml, hown, hts⟩ (c_Pt_gramsOf l D t a σ set np hN hN8) (gg_Pk_38 _) (by decide +kernel) ⟨Nat.le_of_ble_eq_true rfl, Nat.le_of_ble_eq_true rfl⟩ rfl (va_recv hK.1 hP (ci := 3) (q0 := 2) rfl (wFb_o3 t a σ)) hK hP hD hS hl.1 rfl (Nat.le_of_ble_eq_true rfl) ⟨Nat.zero_le _, Nat.zero_le _⟩ d_Pk_isHeldBy_3 (fun r_1 u_1 H locs q_1 hP hD hS => ?_)
  obtain ⟨rfl, hu_1⟩ := q_1
  rw [hu_1] at hP hD
  refine lv_aload_n hx hb d_Pk_isHeldBy_6 rfl (lv_at hl 1 rfl) ?_
  refine va_get (D := D) (ci := 1) (v := .ref (a 104)) (C := R_Ct) (T := F_Ct) (N := 6) hx hb hts (fun w h => List.mem_cons_of_mem _ (i_Ct w h)) hown hK.1 hP 1 (wFb_o1 t a σ) rfl 4 (by decide) (hts (.fieldLink R_Pk 44 "FlatBoxes$Cartons" "grams" "[I") (List.mem_cons_of_mem _ (gIn k_45 (by decide +kernel)))) (fun _ h9 => h9) rfl d_Pk_isHeldBy_7 ?_
  refine lv_iload_n hx hb d_Pk_isHeldBy_10 rfl (lv_at hl 2 rfl) ?_
  refine g_iald hx hb hK.1 hP 11 0 (wFb_104 t a σ) rfl cc (rfl) (by omega) (by decide) d_Pk_isHeldBy_11 ?_
  refine lv_icmp_gt (tgt := 36) hx hb d_Pk_isHeldBy_12 (by decide) (fun c_2 => ?_) (fun c_2 => ?_)
  · 
    refine lv_iconst (v := 0) hx hb d_Pk_isHeldBy_36 (by decide) ?_
    exact W.zret (v := 0) (ty := .boolean) hx hb hr (rfl) (fun U hU hW => ⟨⟨0, σ, rfl, by exact ⟨by simp [fHeldR, c_2], by simp [fHeldU, c_2]⟩, by rw [hU]; exact hP, hD⟩, hS.F hU⟩) hS.2.2 d_Pk_isHeldBy_37
  · 
    refine lv_aload_n hx hb d_Pk_isHeldBy_15 rfl (lv_at hl 3 rfl) ?_
    refine lv_iload hx hb d_Pk_isHeldBy_16 (lv_at hl 4 rfl) ?_
    refine lv_aload_n hx hb d_Pk_isHeldBy_18 rfl (lv_at hl 1 rfl) ?_
    refine va_get (D := D) (ci := 1) (v := .ref (a 100)) (C := R_Ct) (T := F_Ct) (N := 6) hx hb hts (fun w h => List.mem_cons_of_mem _ (i_Ct w h)) hown hK.1 hP 1 (wFb_o1 t a σ) rfl 0 (by decide) (hts (.fieldLink R_Pk 47 "FlatBoxes$Cartons" "width" "[I") (List.mem_cons_of_mem _ (gIn k_33 (by decide +kernel)))) (fun _ h9 => h9) rfl d_Pk_isHeldBy_19 ?_
    refine lv_iload_n hx hb d_Pk_isHeldBy_22 rfl (lv_at hl 2 rfl) ?_
    refine g_iald hx hb hK.1 hP 7 0 (wFb_100 t a σ) rfl cc (rfl) (by omega) (by decide) d_Pk_isHeldBy_23 ?_
    refine lv_aload_n hx hb d_Pk_isHeldBy_24 rfl (lv_at hl 1 rfl) ?_
    refine va_get (D := D) (ci := 1) (v := .ref (a 101)) (C := R_Ct) (T := F_Ct) (N := 6) hx hb hts (fun w h => List.mem_cons_of_mem _ (i_Ct w h)) hown hK.1 hP 1 (wFb_o1 t a σ) rfl 1 (by decide) (hts (.fieldLink R_Pk 50 "FlatBoxes$Cartons" "depth" "[I") (List.mem_cons_of_mem _ (gIn k_36 (by decide +kernel)))) (fun _ h9 => h9) rfl d_Pk_isHeldBy_25 ?_
    refine lv_iload_n hx hb d_Pk_isHeldBy_28 rfl (lv_at hl 2 rfl) ?_
    refine g_iald hx hb hK.1 hP 8 0 (wFb_101 t a σ) rfl cc (rfl) (by omega) (by decide) d_Pk_isHeldBy_29 ?_
    refine g_vi (k := 3) (As := [.int set, .int (σ 100 cc), .int (σ 101 cc)]) (rest := []) (own := R_Pk) (C := R_Pt) (index := 53) ⟨hx, hb, hml, hown, hts⟩ (c_Pt_areWithin l D t a σ set (σ 100 cc) (σ 101 cc) np hN hN8) (gg_Pk_53 _) (by decide +kernel) ⟨Nat.le_of_ble_eq_true rfl, Nat.le_of_ble_eq_true rfl⟩ rfl (va_recv hK.1 hP (ci := 3) (q0 := 2) rfl (wFb_o3 t a σ)) hK hP hD hS hl.1 rfl (Nat.le_of_ble_eq_true rfl) ⟨Nat.zero_le _, Nat.zero_le _⟩ d_Pk_isHeldBy_30 (fun r_3 u_3 H locs q_3 hP hD hS => ?_)
    obtain ⟨rfl, hu_3⟩ := q_3
    rw [hu_3] at hP hD
    refine lv_if_ne (tgt := 38) hx hb d_Pk_isHeldBy_33 (by decide) (fun c_4 => ?_) (fun c_4 => ?_)
    · 
      refine lv_aload_n hx hb d_Pk_isHeldBy_38 rfl (lv_at hl 0 rfl) ?_
      refine lv_aload_n hx hb d_Pk_isHeldBy_39 rfl (lv_at hl 3 rfl) ?_
      refine lv_iload hx hb d_Pk_isHeldBy_40 (lv_at hl 4 rfl) ?_
      refine lv_aload_n hx hb d_Pk_isHeldBy_42 rfl (lv_at hl 1 rfl) ?_
      refine va_get (D := D) (ci := 1) (v := .ref (a 100)) (C := R_Ct) (T := F_Ct) (N := 6) hx hb hts (fun w h => List.mem_cons_of_mem _ (i_Ct w h)) hown hK.1 hP 1 (wFb_o1 t a σ) rfl 0 (by decide) (hts (.fieldLink R_Pk 47 "FlatBoxes$Cartons" "width" "[I") (List.mem_cons_of_mem _ (gIn k_33 (by decide +kernel)))) (fun _ h9 => h9) rfl d_Pk_isHeldBy_43 ?_
      refine lv_iload_n hx hb d_Pk_isHeldBy_46 rfl (lv_at hl 2 rfl) ?_
      refine g_iald hx hb hK.1 hP 7 0 (wFb_100 t a σ) rfl cc (rfl) (by omega) (by decide) d_Pk_isHeldBy_47 ?_
      refine g_vv (k := 3) (As := [.ref (a 399), .int set, .int (σ 100 cc)]) (rest := []) (own := R_Pk) (C := R_Pk) (index := 57) ⟨hx, hb, hml, hown, hts⟩ (c_Pk_pack l D t a σ set (σ 100 cc) np hN hN8 bt hbt) (gg_Pk_57 _) (by decide +kernel) ⟨Nat.le_of_ble_eq_true rfl, Nat.le_of_ble_eq_true rfl⟩ rfl (va_recv hK.1 hP (ci := 2) (q0 := 3) rfl (wFb_o2 t a σ)) hK hP hD hS hl.1 rfl (Nat.le_of_ble_eq_true rfl) ⟨Nat.zero_le _, Nat.zero_le _⟩ d_Pk_isHeldBy_48 (fun u_5 H locs q_5 hP hD hS => ?_)
      have hu_5 : u_5 = _ := q_5
      rw [hu_5] at hP hD
      have hP : va_P D gCl (wFb t a (fHeldT σ bt set cc np)) H := hP
      have hD : va_D A (wFb t a (fHeldT σ bt set cc np)) := hD
      obtain ⟨L, hLk, hL1⟩ := fPk_L σ bt set (σ 100 cc) np hN8
      have hL1 : fHeldT σ bt set cc np 208 0 = nI L := hL1
      have hLn : fLn (fHeldT σ bt set cc np) = L := by unfold fLn; rw [hL1, nI_clamp (by omega)]
      refine lv_aload_n hx hb d_Pk_isHeldBy_51 rfl (lv_at hl 0 rfl) ?_
      refine g_vi (k := 0) (As := []) (rest := []) (own := R_Pk) (C := R_Pk) (index := 61) ⟨hx, hb, hml, hown, hts⟩ (c_Pk_height l D t a (fHeldT σ bt set cc np) L hL1 (by omega)) (gg_Pk_61 _) (by decide +kernel) ⟨Nat.le_of_ble_eq_true rfl, Nat.le_of_ble_eq_true rfl⟩ rfl (va_recv hK.1 hP (ci := 2) (q0 := 3) rfl (wFb_o2 t a (fHeldT σ bt set cc np))) hK hP hD hS hl.1 rfl (Nat.le_of_ble_eq_true rfl) ⟨Nat.zero_le _, Nat.zero_le _⟩ d_Pk_isHeldBy_52 (fun r_6 u_6 H locs q_6 hP hD hS => ?_)
      obtain ⟨rfl, hu_6⟩ := q_6
      rw [hu_6] at hP hD
      refine lv_aload_n hx hb d_Pk_isHeldBy_55 rfl (lv_at hl 1 rfl) ?_
      refine va_get (D := D) (ci := 1) (v := .ref (a 102)) (C := R_Ct) (T := F_Ct) (N := 6) hx hb hts (fun w h => List.mem_cons_of_mem _ (i_Ct w h)) hown hK.1 hP 1 (wFb_o1 t a (fHeldT σ bt set cc np)) rfl 2 (by decide) (hts (.fieldLink R_Pk 65 "FlatBoxes$Cartons" "height" "[I") (List.mem_cons_of_mem _ (gIn k_39 (by decide +kernel)))) (fun _ h9 => h9) rfl d_Pk_isHeldBy_56 ?_
      refine lv_iload_n hx hb d_Pk_isHeldBy_59 rfl (lv_at hl 2 rfl) ?_
      refine g_iald hx hb hK.1 hP 9 0 (wFb_102 t a (fHeldT σ bt set cc np)) rfl cc (rfl) (by omega) (by decide) d_Pk_isHeldBy_60 ?_
      refine lv_topi (fun v_7 e_7 => ?_)
      obtain rfl : σ 102 cc = v_7 := (e_7.trans (congrFun (fPk_fix σ bt set (σ 100 cc) (by omega) np) cc)).symm
      refine lv_icmp_gt (tgt := 76) hx hb d_Pk_isHeldBy_61 (by decide) (fun c_8 => ?_) (fun c_8 => ?_)
      · 
        refine lv_iconst (v := 0) hx hb d_Pk_isHeldBy_76 (by decide) ?_
        exact W.zret (v := 0) (ty := .boolean) hx hb hr (rfl) (fun U hU hW => ⟨⟨0, fHeldT σ bt set cc np, rfl, by exact ⟨by simp [fHeldR, hLn, c_2, c_4, c_8], by simp [fHeldU, c_2, c_4, c_8]⟩, by rw [hU]; exact hP, hD⟩, hS.F hU⟩) hS.2.2 d_Pk_isHeldBy_77
      · 
        refine lv_aload_n hx hb d_Pk_isHeldBy_64 rfl (lv_at hl 0 rfl) ?_
        refine g_vi (k := 0) (As := []) (rest := []) (own := R_Pk) (C := R_Pk) (index := 67) ⟨hx, hb, hml, hown, hts⟩ (c_Pk_fragileLayers l D t a (fHeldT σ bt set cc np) L hL1 (by omega)) (gg_Pk_67 _) (by decide +kernel) ⟨Nat.le_of_ble_eq_true rfl, Nat.le_of_ble_eq_true rfl⟩ rfl (va_recv hK.1 hP (ci := 2) (q0 := 3) rfl (wFb_o2 t a (fHeldT σ bt set cc np))) hK hP hD hS hl.1 rfl (Nat.le_of_ble_eq_true rfl) ⟨Nat.zero_le _, Nat.zero_le _⟩ d_Pk_isHeldBy_65 (fun r_9 u_9 H locs q_9 hP hD hS => ?_)
        obtain ⟨rfl, hu_9⟩ := q_9
        rw [hu_9] at hP hD
        refine lv_iconst (v := 1) hx hb d_Pk_isHeldBy_68 (by decide) ?_
        refine lv_icmp_gt (tgt := 76) hx hb d_Pk_isHeldBy_69 (by decide) (fun c_10 => ?_) (fun c_10 => ?_)
        · 
          refine lv_iconst (v := 0) hx hb d_Pk_isHeldBy_76 (by decide) ?_
          exact W.zret (v := 0) (ty := .boolean) hx hb hr (rfl) (fun U hU hW => ⟨⟨0, fHeldT σ bt set cc np, rfl, by exact ⟨by simp [fHeldR, hLn, c_2, c_4, c_8, c_10], by simp [fHeldU, c_2, c_4, c_8, c_10]⟩, by rw [hU]; exact hP, hD⟩, hS.F hU⟩) hS.2.2 d_Pk_isHeldBy_77
        · 
          refine lv_iconst (v := 1) hx hb d_Pk_isHeldBy_72 (by decide) ?_
          refine lv_goto (tgt := 77) hx hb d_Pk_isHeldBy_73 (by decide) ?_
          exact W.zret (v := 1) (ty := .boolean) hx hb hr (rfl) (fun U hU hW => ⟨⟨1, fHeldT σ bt set cc np, rfl, by exact ⟨by simp [fHeldR, hLn, c_2, c_4, c_8, c_10], by simp [fHeldU, c_2, c_4, c_8, c_10]⟩, by rw [hU]; exact hP, hD⟩, hS.F hU⟩) hS.2.2 d_Pk_isHeldBy_77
    · 
      refine lv_iconst (v := 0) hx hb d_Pk_isHeldBy_36 (by decide) ?_
      exact W.zret (v := 0) (ty := .boolean) hx hb hr (rfl) (fun U hU hW => ⟨⟨0, σ, rfl, by exact ⟨by simp [fHeldR, c_2, c_4], by simp [fHeldU, c_2, c_4]⟩, by rw [hU]; exact hP, hD⟩, hS.F hU⟩) hS.2.2 d_Pk_isHeldBy_37
set_option maxHeartbeats 4000000 in
set_option maxRecDepth 100000 in
theorem c_Pk_isBelow (l : Launch) (D : va_G) (t : Nat → ClassId) (a : Nat → Nat) (σ : Nat → Nat → Int32) (x y : Nat) (hx8 : x < 8) (hy8 : y < 8) (h205 : ∀ i, σ 205 i = 0 ∨ σ 205 i = 1) : gMi l D t y_Pk_isBelow b_Pk_isBelow 3 (some .boolean) 0 [.ref (a 299), .int (nI x), .int (nI y)] (wFb t a σ) (wFb t a) (fun r u => r = fBelow σ x y ∧ u = σ) := by
  intro A
  refine Met.ofW (cc := b_Pk_isBelow) (maxL := 3) (ret := (some .boolean)) (by decide) rfl ?_
  intro p e s m args below meth c s₁ B hml hv
  obtain ⟨rfl, hK, hP, hD⟩ := hv
  have hx := B.exec
  have hb := B.bytes
  have hr := B.returns
  have hts := atoms_spec (ws := .code y_Pk_isBelow b_Pk_isBelow 3 (some .boolean) :: gBig) B.pre
  have hown : s.vm.findClass R_Pk = some m.cls := findClass_of_methodNamed B.named
  have hlocks := B.notSynchronized
  have hS : va_S A s.heap s.heap [] := va_S.rf
  have hl := lv_entry ([.ref (a 299), .int (nI x), .int (nI y)]) (n := 3) (Nat.le_of_ble_eq_true rfl)
  rw [lg_entry_eq]
  generalize (lg_sl ([.ref (a 299), .int (nI x), .int (nI y)]) ++ List.replicate (3 - (lg_sl ([.ref (a 299), .int (nI x), .int (nI y)])).length) Slot.unset).toArray = ls at hl ⊢
  have hl : lv_has ls 3 [(0, .ref (a 299)), (1, .int (nI x)), (2, .int (nI y))] := hl
  show gGo l p e s m below meth c D t A 0 [.ref (a 299), .int (nI x), .int (nI y)] (wFb t a) (fun r u => r = fBelow σ x y ∧ u = σ) s.heap [] (F0 m 0 ls [])
  refine lv_aload_n hx hb d_Pk_isBelow_0 rfl (lv_at hl 0 rfl) ?_
  refine va_get (D := D) (ci := 2) (v := .ref (a 205)) (C := R_Pk) (T := F_Pk) (N := 9) hx hb hts (fun w h => List.mem_cons_of_mem _ (i_Pk w h)) hown hK.1 hP 3 (wFb_o2 t a σ) rfl 5 (by decide) (hts (.fieldLink R_Pk 24 "FlatBoxes$Packing" "fragile" "[Z") (List.mem_cons_of_mem _ (gIn k_127 (by decide +kernel)))) (fun _ h9 => h9) rfl d_Pk_isBelow_1 ?_
  refine lv_iload_n hx hb d_Pk_isBelow_4 rfl (lv_at hl 1 rfl) ?_
  refine g_zald hx hb hK.1 hP 24 1 (wFb_205 t a σ) rfl x (rfl) (by omega) (by decide) d_Pk_isBelow_5 ?_
  refine lv_aload_n hx hb d_Pk_isBelow_6 rfl (lv_at hl 0 rfl) ?_
  refine va_get (D := D) (ci := 2) (v := .ref (a 205)) (C := R_Pk) (T := F_Pk) (N := 9) hx hb hts (fun w h => List.mem_cons_of_mem _ (i_Pk w h)) hown hK.1 hP 3 (wFb_o2 t a σ) rfl 5 (by decide) (hts (.fieldLink R_Pk 24 "FlatBoxes$Packing" "fragile" "[Z") (List.mem_cons_of_mem _ (gIn k_127 (by decide +kernel)))) (fun _ h9 => h9) rfl d_Pk_isBelow_7 ?_
  refine lv_iload_n hx hb d_Pk_isBelow_10 rfl (lv_at hl 2 rfl) ?_
  refine g_zald hx hb hK.1 hP 24 1 (wFb_205 t a σ) rfl y (rfl) (by omega) (by decide) d_Pk_isBelow_11 ?_
  refine lv_icmp_eq (tgt := 22) hx hb d_Pk_isBelow_12 (by decide) (fun c_1 => ?_) (fun c_1 => ?_)
  · 
    refine lv_aload_n hx hb d_Pk_isBelow_22 rfl (lv_at hl 0 rfl) ?_
    refine va_get (D := D) (ci := 2) (v := .ref (a 204)) (C := R_Pk) (T := F_Pk) (N := 9) hx hb hts (fun w h => List.mem_cons_of_mem _ (i_Pk w h)) hown hK.1 hP 3 (wFb_o2 t a σ) rfl 4 (by decide) (hts (.fieldLink R_Pk 21 "FlatBoxes$Packing" "firstStep" "[I") (List.mem_cons_of_mem _ (gIn k_126 (by decide +kernel)))) (fun _ h9 => h9) rfl d_Pk_isBelow_23 ?_
    refine lv_iload_n hx hb d_Pk_isBelow_26 rfl (lv_at hl 1 rfl) ?_
    refine g_iald hx hb hK.1 hP 23 0 (wFb_204 t a σ) rfl x (rfl) (by omega) (by decide) d_Pk_isBelow_27 ?_
    refine lv_aload_n hx hb d_Pk_isBelow_28 rfl (lv_at hl 0 rfl) ?_
    refine va_get (D := D) (ci := 2) (v := .ref (a 204)) (C := R_Pk) (T := F_Pk) (N := 9) hx hb hts (fun w h => List.mem_cons_of_mem _ (i_Pk w h)) hown hK.1 hP 3 (wFb_o2 t a σ) rfl 4 (by decide) (hts (.fieldLink R_Pk 21 "FlatBoxes$Packing" "firstStep" "[I") (List.mem_cons_of_mem _ (gIn k_126 (by decide +kernel)))) (fun _ h9 => h9) rfl d_Pk_isBelow_29 ?_
    refine lv_iload_n hx hb d_Pk_isBelow_32 rfl (lv_at hl 2 rfl) ?_
    refine g_iald hx hb hK.1 hP 23 0 (wFb_204 t a σ) rfl y (rfl) (by omega) (by decide) d_Pk_isBelow_33 ?_
    refine lv_icmp_eq (tgt := 58) hx hb d_Pk_isBelow_34 (by decide) (fun c_2 => ?_) (fun c_2 => ?_)
    · 
      refine lv_aload_n hx hb d_Pk_isBelow_58 rfl (lv_at hl 0 rfl) ?_
      refine va_get (D := D) (ci := 2) (v := .ref (a 203)) (C := R_Pk) (T := F_Pk) (N := 9) hx hb hts (fun w h => List.mem_cons_of_mem _ (i_Pk w h)) hown hK.1 hP 3 (wFb_o2 t a σ) rfl 3 (by decide) (hts (.fieldLink R_Pk 18 "FlatBoxes$Packing" "grams" "[I") (List.mem_cons_of_mem _ (gIn k_125 (by decide +kernel)))) (fun _ h9 => h9) rfl d_Pk_isBelow_59 ?_
      refine lv_iload_n hx hb d_Pk_isBelow_62 rfl (lv_at hl 1 rfl) ?_
      refine g_iald hx hb hK.1 hP 22 0 (wFb_203 t a σ) rfl x (rfl) (by omega) (by decide) d_Pk_isBelow_63 ?_
      refine lv_aload_n hx hb d_Pk_isBelow_64 rfl (lv_at hl 0 rfl) ?_
      refine va_get (D := D) (ci := 2) (v := .ref (a 203)) (C := R_Pk) (T := F_Pk) (N := 9) hx hb hts (fun w h => List.mem_cons_of_mem _ (i_Pk w h)) hown hK.1 hP 3 (wFb_o2 t a σ) rfl 3 (by decide) (hts (.fieldLink R_Pk 18 "FlatBoxes$Packing" "grams" "[I") (List.mem_cons_of_mem _ (gIn k_125 (by decide +kernel)))) (fun _ h9 => h9) rfl d_Pk_isBelow_65 ?_
      refine lv_iload_n hx hb d_Pk_isBelow_68 rfl (lv_at hl 2 rfl) ?_
      refine g_iald hx hb hK.1 hP 22 0 (wFb_203 t a σ) rfl y (rfl) (by omega) (by decide) d_Pk_isBelow_69 ?_
      refine lv_icmp_eq (tgt := 94) hx hb d_Pk_isBelow_70 (by decide) (fun c_3 => ?_) (fun c_3 => ?_)
      · 
        refine lv_iload_n hx hb d_Pk_isBelow_94 rfl (lv_at hl 1 rfl) ?_
        refine lv_iload_n hx hb d_Pk_isBelow_95 rfl (lv_at hl 2 rfl) ?_
        refine lv_icmp_ge (tgt := 103) hx hb d_Pk_isBelow_96 (by decide) (fun c_4 => ?_) (fun c_4 => ?_)
        · 
          have h_4 : y ≤ x := (nI_leI (a := y) (b := x) (by omega) (by omega)).mp c_4
          refine lv_iconst (v := 0) hx hb d_Pk_isBelow_103 (by decide) ?_
          exact W.zret (v := 0) (ty := .boolean) hx hb hr (rfl) (fun U hU hW => ⟨⟨0, σ, rfl, by exact ⟨by simp [fBelow, c_1, c_2, c_3, c_4, h_4], rfl⟩, by rw [hU]; exact hP, hD⟩, hS.F hU⟩) hS.2.2 d_Pk_isBelow_104
        · 
          have h_4 : ¬ y ≤ x := fun q9 => c_4 ((nI_leI (a := y) (b := x) (by omega) (by omega)).mpr q9)
          refine lv_iconst (v := 1) hx hb d_Pk_isBelow_99 (by decide) ?_
          refine lv_goto (tgt := 104) hx hb d_Pk_isBelow_100 (by decide) ?_
          exact W.zret (v := 1) (ty := .boolean) hx hb hr (rfl) (fun U hU hW => ⟨⟨1, σ, rfl, by exact ⟨by simp [fBelow, c_1, c_2, c_3, c_4, h_4], rfl⟩, by rw [hU]; exact hP, hD⟩, hS.F hU⟩) hS.2.2 d_Pk_isBelow_104
      · 
        refine lv_aload_n hx hb d_Pk_isBelow_73 rfl (lv_at hl 0 rfl) ?_
        refine va_get (D := D) (ci := 2) (v := .ref (a 203)) (C := R_Pk) (T := F_Pk) (N := 9) hx hb hts (fun w h => List.mem_cons_of_mem _ (i_Pk w h)) hown hK.1 hP 3 (wFb_o2 t a σ) rfl 3 (by decide) (hts (.fieldLink R_Pk 18 "FlatBoxes$Packing" "grams" "[I") (List.mem_cons_of_mem _ (gIn k_125 (by decide +kernel)))) (fun _ h9 => h9) rfl d_Pk_isBelow_74 ?_
        refine lv_iload_n hx hb d_Pk_isBelow_77 rfl (lv_at hl 1 rfl) ?_
        refine g_iald hx hb hK.1 hP 22 0 (wFb_203 t a σ) rfl x (rfl) (by omega) (by decide) d_Pk_isBelow_78 ?_
        refine lv_aload_n hx hb d_Pk_isBelow_79 rfl (lv_at hl 0 rfl) ?_
        refine va_get (D := D) (ci := 2) (v := .ref (a 203)) (C := R_Pk) (T := F_Pk) (N := 9) hx hb hts (fun w h => List.mem_cons_of_mem _ (i_Pk w h)) hown hK.1 hP 3 (wFb_o2 t a σ) rfl 3 (by decide) (hts (.fieldLink R_Pk 18 "FlatBoxes$Packing" "grams" "[I") (List.mem_cons_of_mem _ (gIn k_125 (by decide +kernel)))) (fun _ h9 => h9) rfl d_Pk_isBelow_80 ?_
        refine lv_iload_n hx hb d_Pk_isBelow_83 rfl (lv_at hl 2 rfl) ?_
        refine g_iald hx hb hK.1 hP 22 0 (wFb_203 t a σ) rfl y (rfl) (by omega) (by decide) d_Pk_isBelow_84 ?_
        refine lv_icmp_le (tgt := 92) hx hb d_Pk_isBelow_85 (by decide) (fun c_5 => ?_) (fun c_5 => ?_)
        · 
          refine lv_iconst (v := 0) hx hb d_Pk_isBelow_92 (by decide) ?_
          exact W.zret (v := 0) (ty := .boolean) hx hb hr (rfl) (fun U hU hW => ⟨⟨0, σ, rfl, by exact ⟨by simp [fBelow, c_1, c_2, c_3, c_5], rfl⟩, by rw [hU]; exact hP, hD⟩, hS.F hU⟩) hS.2.2 d_Pk_isBelow_93
        · 
          refine lv_iconst (v := 1) hx hb d_Pk_isBelow_88 (by decide) ?_
          refine lv_goto (tgt := 93) hx hb d_Pk_isBelow_89 (by decide) ?_
          exact W.zret (v := 1) (ty := .boolean) hx hb hr (rfl) (fun U hU hW => ⟨⟨1, σ, rfl, by exact ⟨by simp [fBelow, c_1, c_2, c_3, c_5], rfl⟩, by rw [hU]; exact hP, hD⟩, hS.F hU⟩) hS.2.2 d_Pk_isBelow_93
    · 
      refine lv_aload_n hx hb d_Pk_isBelow_37 rfl (lv_at hl 0 rfl) ?_
      refine va_get (D := D) (ci := 2) (v := .ref (a 204)) (C := R_Pk) (T := F_Pk) (N := 9) hx hb hts (fun w h => List.mem_cons_of_mem _ (i_Pk w h)) hown hK.1 hP 3 (wFb_o2 t a σ) rfl 4 (by decide) (hts (.fieldLink R_Pk 21 "FlatBoxes$Packing" "firstStep" "[I") (List.mem_cons_of_mem _ (gIn k_126 (by decide +kernel)))) (fun _ h9 => h9) rfl d_Pk_isBelow_38 ?_
      refine lv_iload_n hx hb d_Pk_isBelow_41 rfl (lv_at hl 1 rfl) ?_
      refine g_iald hx hb hK.1 hP 23 0 (wFb_204 t a σ) rfl x (rfl) (by omega) (by decide) d_Pk_isBelow_42 ?_
      refine lv_aload_n hx hb d_Pk_isBelow_43 rfl (lv_at hl 0 rfl) ?_
      refine va_get (D := D) (ci := 2) (v := .ref (a 204)) (C := R_Pk) (T := F_Pk) (N := 9) hx hb hts (fun w h => List.mem_cons_of_mem _ (i_Pk w h)) hown hK.1 hP 3 (wFb_o2 t a σ) rfl 4 (by decide) (hts (.fieldLink R_Pk 21 "FlatBoxes$Packing" "firstStep" "[I") (List.mem_cons_of_mem _ (gIn k_126 (by decide +kernel)))) (fun _ h9 => h9) rfl d_Pk_isBelow_44 ?_
      refine lv_iload_n hx hb d_Pk_isBelow_47 rfl (lv_at hl 2 rfl) ?_
      refine g_iald hx hb hK.1 hP 23 0 (wFb_204 t a σ) rfl y (rfl) (by omega) (by decide) d_Pk_isBelow_48 ?_
      refine lv_icmp_le (tgt := 56) hx hb d_Pk_isBelow_49 (by decide) (fun c_6 => ?_) (fun c_6 => ?_)
      · 
        refine lv_iconst (v := 0) hx hb d_Pk_isBelow_56 (by decide) ?_
        exact W.zret (v := 0) (ty := .boolean) hx hb hr (rfl) (fun U hU hW => ⟨⟨0, σ, rfl, by exact ⟨by simp [fBelow, c_1, c_2, c_6], rfl⟩, by rw [hU]; exact hP, hD⟩, hS.F hU⟩) hS.2.2 d_Pk_isBelow_57
      · 
        refine lv_iconst (v := 1) hx hb d_Pk_isBelow_52 (by decide) ?_
        refine lv_goto (tgt := 57) hx hb d_Pk_isBelow_53 (by decide) ?_
        exact W.zret (v := 1) (ty := .boolean) hx hb hr (rfl) (fun U hU hW => ⟨⟨1, σ, rfl, by exact ⟨by simp [fBelow, c_1, c_2, c_6], rfl⟩, by rw [hU]; exact hP, hD⟩, hS.F hU⟩) hS.2.2 d_Pk_isBelow_57
  · 
    refine lv_aload_n hx hb d_Pk_isBelow_15 rfl (lv_at hl 0 rfl) ?_
    refine va_get (D := D) (ci := 2) (v := .ref (a 205)) (C := R_Pk) (T := F_Pk) (N := 9) hx hb hts (fun w h => List.mem_cons_of_mem _ (i_Pk w h)) hown hK.1 hP 3 (wFb_o2 t a σ) rfl 5 (by decide) (hts (.fieldLink R_Pk 24 "FlatBoxes$Packing" "fragile" "[Z") (List.mem_cons_of_mem _ (gIn k_127 (by decide +kernel)))) (fun _ h9 => h9) rfl d_Pk_isBelow_16 ?_
    refine lv_iload_n hx hb d_Pk_isBelow_19 rfl (lv_at hl 2 rfl) ?_
    refine g_zald hx hb hK.1 hP 24 1 (wFb_205 t a σ) rfl y (rfl) (by omega) (by decide) d_Pk_isBelow_20 ?_
    exact W.zret (v := σ 205 y) (ty := .boolean) hx hb hr (gb_n (h205 y)) (fun U hU hW => ⟨⟨σ 205 y, σ, rfl, by exact ⟨by simp [fBelow, c_1], rfl⟩, by rw [hU]; exact hP, hD⟩, hS.F hU⟩) hS.2.2 d_Pk_isBelow_21
set_option maxHeartbeats 4000000 in
set_option maxRecDepth 100000 in
theorem c_Pk_layersBelow (l : Launch) (D : va_G) (t : Nat → ClassId) (a : Nat → Nat) (σ : Nat → Nat → Int32) (j : Nat) (hj8 : j < 8) (h205 : ∀ i, σ 205 i = 0 ∨ σ 205 i = 1) (L : Nat) (hL : σ 208 0 = nI L) (hL8 : L ≤ 8) : gMi l D t y_Pk_layersBelow b_Pk_layersBelow 4 (some .int) 1 [.ref (a 299), .int (nI j)] (wFb t a σ) (wFb t a) (fun r u => r = fLy σ j L ∧ u = σ) := by
  intro A
  refine Met.ofW (cc := b_Pk_layersBelow) (maxL := 4) (ret := (some .int)) (by decide) rfl ?_
  intro p e s m args below meth c s₁ B hml hv
  obtain ⟨rfl, hK, hP, hD⟩ := hv
  have hx := B.exec
  have hb := B.bytes
  have hr := B.returns
  have hts := atoms_spec (ws := .code y_Pk_layersBelow b_Pk_layersBelow 4 (some .int) :: gBig) B.pre
  have hown : s.vm.findClass R_Pk = some m.cls := findClass_of_methodNamed B.named
  have hlocks := B.notSynchronized
  have hS : va_S A s.heap s.heap [] := va_S.rf
  have hl := lv_entry ([.ref (a 299), .int (nI j)]) (n := 4) (Nat.le_of_ble_eq_true rfl)
  rw [lg_entry_eq]
  generalize (lg_sl ([.ref (a 299), .int (nI j)]) ++ List.replicate (4 - (lg_sl ([.ref (a 299), .int (nI j)])).length) Slot.unset).toArray = ls at hl ⊢
  have hl : lv_has ls 4 [(0, .ref (a 299)), (1, .int (nI j))] := hl
  show gGo l p e s m below meth c D t A 1 [.ref (a 299), .int (nI j)] (wFb t a) (fun r u => r = fLy σ j L ∧ u = σ) s.heap [] (F0 m 0 ls [])
  have cut_4 : ∀ (n : Nat) (k : Nat) (sm : Int32) (H : Heap) (locs : List Loc) (ls : Array Slot), (k ≤ L) → (L + 1 ≤ k + n) → (sm = fLy σ j k) → va_P D gCl (wFb t a σ) H → va_D A (wFb t a σ) → va_S A s.heap H locs → lv_has ls 4 [(0, .ref (a 299)), (1, .int (nI j)), (2, .int sm), (3, .int (nI k))] → gGo l p e s m below meth c D t A 1 [.ref (a 299), .int (nI j)] (wFb t a) (fun r u => r = fLy σ j L ∧ u = σ) H locs (F0 m 4 ls []) := by
    intro n
    induction n with
    | zero =>
      intro k sm H locs ls hk hf hs hP hD hS hl
      exact absurd hf (by omega)
    | succ n ih =>
      intro k sm H locs ls hk hf hs hP hD hS hl
      refine lv_iload_n hx hb d_Pk_layersBelow_4 rfl (lv_at hl 3 rfl) ?_
      refine lv_aload_n hx hb d_Pk_layersBelow_5 rfl (lv_at hl 0 rfl) ?_
      refine va_get (D := D) (ci := 2) (v := .int (σ 208 0)) (C := R_Pk) (T := F_Pk) (N := 9) hx hb hts (fun w h => List.mem_cons_of_mem _ (i_Pk w h)) hown hK.1 hP 3 (wFb_o2 t a σ) rfl 8 (by decide) (hts (.fieldLink R_Pk 70 "FlatBoxes$Packing" "layers" "I") (List.mem_cons_of_mem _ (gIn k_132 (by decide +kernel)))) (fun _ h9 => h9) rfl d_Pk_layersBelow_6 ?_
      refine lv_topi (fun v_1 e_1 => ?_)
      obtain rfl : nI L = v_1 := (e_1.trans hL).symm
      refine lv_icmp_ge (tgt := 30) hx hb d_Pk_layersBelow_9 (by decide) (fun c_2 => ?_) (fun c_2 => ?_)
      · 
        have h_2 : L ≤ k := (nI_leI (a := L) (b := k) (by omega) (by omega)).mp c_2
        refine lv_iload_n hx hb d_Pk_layersBelow_30 rfl (lv_at hl 2 rfl) ?_
        exact W.iret (v := sm) hx hb hr (fun U hU hW => ⟨⟨sm, σ, rfl, by exact ⟨by rw [hs]; congr 1; omega, rfl⟩, by rw [hU]; exact hP, hD⟩, hS.F hU⟩) hS.2.2 d_Pk_layersBelow_31
      · 
        have h_2 : ¬ L ≤ k := fun q9 => c_2 ((nI_leI (a := L) (b := k) (by omega) (by omega)).mpr q9)
        refine lv_aload_n hx hb d_Pk_layersBelow_12 rfl (lv_at hl 0 rfl) ?_
        refine lv_iload_n hx hb d_Pk_layersBelow_13 rfl (lv_at hl 3 rfl) ?_
        refine lv_iload_n hx hb d_Pk_layersBelow_14 rfl (lv_at hl 1 rfl) ?_
        refine g_vi (k := 2) (As := [.int (nI k), .int (nI j)]) (rest := []) (own := R_Pk) (C := R_Pk) (index := 106) ⟨hx, hb, hml, hown, hts⟩ (c_Pk_isBelow l D t a σ k j (by omega) (by omega) h205) (gg_Pk_106 _) (by decide +kernel) ⟨Nat.le_of_ble_eq_true rfl, Nat.le_of_ble_eq_true rfl⟩ rfl (va_recv hK.1 hP (ci := 2) (q0 := 3) rfl (wFb_o2 t a σ)) hK hP hD hS hl.1 rfl (Nat.le_of_ble_eq_true rfl) ⟨Nat.zero_le _, Nat.zero_le _⟩ d_Pk_layersBelow_15 (fun r_3 u_3 H locs q_3 hP hD hS => ?_)
        obtain ⟨rfl, hu_3⟩ := q_3
        rw [hu_3] at hP hD
        refine lv_if_eq (tgt := 24) hx hb d_Pk_layersBelow_18 (by decide) (fun c_4 => ?_) (fun c_4 => ?_)
        · 
          refine lv_iinc (v := nI (k + 1)) (lv' := [(3, .int (nI (k + 1))), (0, .ref (a 299)), (1, .int (nI j)), (2, .int sm)]) hx hb d_Pk_layersBelow_24 hl (k := 3) rfl (nI_1 k) (by decide) rfl (fun ls hl => ?_)
          refine lv_goto (tgt := 4) hx hb d_Pk_layersBelow_27 (by decide) ?_
          exact ih (k + 1) sm _ _ _ (by omega) (by omega) (by rw [hs]; simp [fLy, c_2, h_2, c_4]) hP hD hS (lv_sub hl [1, 2, 3, 0] rfl)
        · 
          refine lv_iinc (v := sm + 1) (lv' := [(2, .int (sm + 1)), (0, .ref (a 299)), (1, .int (nI j)), (3, .int (nI k))]) hx hb d_Pk_layersBelow_21 hl (k := 2) rfl (rfl) (by decide) rfl (fun ls hl => ?_)
          refine lv_iinc (v := nI (k + 1)) (lv' := [(3, .int (nI (k + 1))), (2, .int (sm + 1)), (0, .ref (a 299)), (1, .int (nI j))]) hx hb d_Pk_layersBelow_24 hl (k := 3) rfl (nI_1 k) (by decide) rfl (fun ls hl => ?_)
          refine lv_goto (tgt := 4) hx hb d_Pk_layersBelow_27 (by decide) ?_
          exact ih (k + 1) (sm + 1) _ _ _ (by omega) (by omega) (by rw [hs]; simp [fLy, c_2, h_2, c_4]) hP hD hS (lv_sub hl [2, 3, 1, 0] rfl)
  refine lv_iconst (v := 0) hx hb d_Pk_layersBelow_0 (by decide) ?_
  refine lv_istore_n (lv' := [(2, .int 0), (0, .ref (a 299)), (1, .int (nI j))]) hx hb d_Pk_layersBelow_1 rfl hl (by decide) rfl (fun ls hl => ?_)
  refine lv_iconst (v := 0) hx hb d_Pk_layersBelow_2 (by decide) ?_
  refine lv_istore_n (lv' := [(3, .int 0), (2, .int 0), (0, .ref (a 299)), (1, .int (nI j))]) hx hb d_Pk_layersBelow_3 rfl hl (by decide) rfl (fun ls hl => ?_)
  exact cut_4 (L + 1) 0 0 _ _ _ (by omega) (by omega) (by rfl) hP hD hS (lv_sub hl [2, 3, 1, 0] rfl)
set_option maxHeartbeats 4000000 in
set_option maxRecDepth 100000 in
theorem c_Pk_heightBelow (l : Launch) (D : va_G) (t : Nat → ClassId) (a : Nat → Nat) (σ : Nat → Nat → Int32) (j : Nat) (hj8 : j < 8) (h205 : ∀ i, σ 205 i = 0 ∨ σ 205 i = 1) (L : Nat) (hL : σ 208 0 = nI L) (hL8 : L ≤ 8) : gMi l D t y_Pk_heightBelow b_Pk_heightBelow 4 (some .int) 1 [.ref (a 299), .int (nI j)] (wFb t a σ) (wFb t a) (fun r u => r = fLz σ j L ∧ u = σ) := by
  intro A
  refine Met.ofW (cc := b_Pk_heightBelow) (maxL := 4) (ret := (some .int)) (by decide) rfl ?_
  intro p e s m args below meth c s₁ B hml hv
  obtain ⟨rfl, hK, hP, hD⟩ := hv
  have hx := B.exec
  have hb := B.bytes
  have hr := B.returns
  have hts := atoms_spec (ws := .code y_Pk_heightBelow b_Pk_heightBelow 4 (some .int) :: gBig) B.pre
  have hown : s.vm.findClass R_Pk = some m.cls := findClass_of_methodNamed B.named
  have hlocks := B.notSynchronized
  have hS : va_S A s.heap s.heap [] := va_S.rf
  have hl := lv_entry ([.ref (a 299), .int (nI j)]) (n := 4) (Nat.le_of_ble_eq_true rfl)
  rw [lg_entry_eq]
  generalize (lg_sl ([.ref (a 299), .int (nI j)]) ++ List.replicate (4 - (lg_sl ([.ref (a 299), .int (nI j)])).length) Slot.unset).toArray = ls at hl ⊢
  have hl : lv_has ls 4 [(0, .ref (a 299)), (1, .int (nI j))] := hl
  show gGo l p e s m below meth c D t A 1 [.ref (a 299), .int (nI j)] (wFb t a) (fun r u => r = fLz σ j L ∧ u = σ) s.heap [] (F0 m 0 ls [])
  have cut_4 : ∀ (n : Nat) (k : Nat) (sm : Int32) (H : Heap) (locs : List Loc) (ls : Array Slot), (k ≤ L) → (L + 1 ≤ k + n) → (sm = fLz σ j k) → va_P D gCl (wFb t a σ) H → va_D A (wFb t a σ) → va_S A s.heap H locs → lv_has ls 4 [(0, .ref (a 299)), (1, .int (nI j)), (2, .int sm), (3, .int (nI k))] → gGo l p e s m below meth c D t A 1 [.ref (a 299), .int (nI j)] (wFb t a) (fun r u => r = fLz σ j L ∧ u = σ) H locs (F0 m 4 ls []) := by
    intro n
    induction n with
    | zero =>
      intro k sm H locs ls hk hf hs hP hD hS hl
      exact absurd hf (by omega)
    | succ n ih =>
      intro k sm H locs ls hk hf hs hP hD hS hl
      refine lv_iload_n hx hb d_Pk_heightBelow_4 rfl (lv_at hl 3 rfl) ?_
      refine lv_aload_n hx hb d_Pk_heightBelow_5 rfl (lv_at hl 0 rfl) ?_
      refine va_get (D := D) (ci := 2) (v := .int (σ 208 0)) (C := R_Pk) (T := F_Pk) (N := 9) hx hb hts (fun w h => List.mem_cons_of_mem _ (i_Pk w h)) hown hK.1 hP 3 (wFb_o2 t a σ) rfl 8 (by decide) (hts (.fieldLink R_Pk 70 "FlatBoxes$Packing" "layers" "I") (List.mem_cons_of_mem _ (gIn k_132 (by decide +kernel)))) (fun _ h9 => h9) rfl d_Pk_heightBelow_6 ?_
      refine lv_topi (fun v_1 e_1 => ?_)
      obtain rfl : nI L = v_1 := (e_1.trans hL).symm
      refine lv_icmp_ge (tgt := 36) hx hb d_Pk_heightBelow_9 (by decide) (fun c_2 => ?_) (fun c_2 => ?_)
      · 
        have h_2 : L ≤ k := (nI_leI (a := L) (b := k) (by omega) (by omega)).mp c_2
        refine lv_iload_n hx hb d_Pk_heightBelow_36 rfl (lv_at hl 2 rfl) ?_
        exact W.iret (v := sm) hx hb hr (fun U hU hW => ⟨⟨sm, σ, rfl, by exact ⟨by rw [hs]; congr 1; omega, rfl⟩, by rw [hU]; exact hP, hD⟩, hS.F hU⟩) hS.2.2 d_Pk_heightBelow_37
      · 
        have h_2 : ¬ L ≤ k := fun q9 => c_2 ((nI_leI (a := L) (b := k) (by omega) (by omega)).mpr q9)
        refine lv_aload_n hx hb d_Pk_heightBelow_12 rfl (lv_at hl 0 rfl) ?_
        refine lv_iload_n hx hb d_Pk_heightBelow_13 rfl (lv_at hl 3 rfl) ?_
        refine lv_iload_n hx hb d_Pk_heightBelow_14 rfl (lv_at hl 1 rfl) ?_
        refine g_vi (k := 2) (As := [.int (nI k), .int (nI j)]) (rest := []) (own := R_Pk) (C := R_Pk) (index := 106) ⟨hx, hb, hml, hown, hts⟩ (c_Pk_isBelow l D t a σ k j (by omega) (by omega) h205) (gg_Pk_106 _) (by decide +kernel) ⟨Nat.le_of_ble_eq_true rfl, Nat.le_of_ble_eq_true rfl⟩ rfl (va_recv hK.1 hP (ci := 2) (q0 := 3) rfl (wFb_o2 t a σ)) hK hP hD hS hl.1 rfl (Nat.le_of_ble_eq_true rfl) ⟨Nat.zero_le _, Nat.zero_le _⟩ d_Pk_heightBelow_15 (fun r_3 u_3 H locs q_3 hP hD hS => ?_)
        obtain ⟨rfl, hu_3⟩ := q_3
        rw [hu_3] at hP hD
        refine lv_if_eq (tgt := 30) hx hb d_Pk_heightBelow_18 (by decide) (fun c_4 => ?_) (fun c_4 => ?_)
        · 
          refine lv_iinc (v := nI (k + 1)) (lv' := [(3, .int (nI (k + 1))), (0, .ref (a 299)), (1, .int (nI j)), (2, .int sm)]) hx hb d_Pk_heightBelow_30 hl (k := 3) rfl (nI_1 k) (by decide) rfl (fun ls hl => ?_)
          refine lv_goto (tgt := 4) hx hb d_Pk_heightBelow_33 (by decide) ?_
          exact ih (k + 1) sm _ _ _ (by omega) (by omega) (by rw [hs]; simp [fLz, c_2, h_2, c_4]) hP hD hS (lv_sub hl [1, 2, 3, 0] rfl)
        · 
          refine lv_iload_n hx hb d_Pk_heightBelow_21 rfl (lv_at hl 2 rfl) ?_
          refine lv_aload_n hx hb d_Pk_heightBelow_22 rfl (lv_at hl 0 rfl) ?_
          refine va_get (D := D) (ci := 2) (v := .ref (a 202)) (C := R_Pk) (T := F_Pk) (N := 9) hx hb hts (fun w h => List.mem_cons_of_mem _ (i_Pk w h)) hown hK.1 hP 3 (wFb_o2 t a σ) rfl 2 (by decide) (hts (.fieldLink R_Pk 15 "FlatBoxes$Packing" "thick" "[I") (List.mem_cons_of_mem _ (gIn k_124 (by decide +kernel)))) (fun _ h9 => h9) rfl d_Pk_heightBelow_23 ?_
          refine lv_iload_n hx hb d_Pk_heightBelow_26 rfl (lv_at hl 3 rfl) ?_
          refine g_iald hx hb hK.1 hP 21 0 (wFb_202 t a σ) rfl k (rfl) (by omega) (by decide) d_Pk_heightBelow_27 ?_
          refine lv_iadd hx hb d_Pk_heightBelow_28 ?_
          refine lv_istore_n (lv' := [(2, .int (sm + (σ 202 k))), (0, .ref (a 299)), (1, .int (nI j)), (3, .int (nI k))]) hx hb d_Pk_heightBelow_29 rfl hl (by decide) rfl (fun ls hl => ?_)
          refine lv_iinc (v := nI (k + 1)) (lv' := [(3, .int (nI (k + 1))), (2, .int (sm + (σ 202 k))), (0, .ref (a 299)), (1, .int (nI j))]) hx hb d_Pk_heightBelow_30 hl (k := 3) rfl (nI_1 k) (by decide) rfl (fun ls hl => ?_)
          refine lv_goto (tgt := 4) hx hb d_Pk_heightBelow_33 (by decide) ?_
          exact ih (k + 1) (sm + (σ 202 k)) _ _ _ (by omega) (by omega) (by rw [hs]; simp [fLz, c_2, h_2, c_4]) hP hD hS (lv_sub hl [2, 3, 1, 0] rfl)
  refine lv_iconst (v := 0) hx hb d_Pk_heightBelow_0 (by decide) ?_
  refine lv_istore_n (lv' := [(2, .int 0), (0, .ref (a 299)), (1, .int (nI j))]) hx hb d_Pk_heightBelow_1 rfl hl (by decide) rfl (fun ls hl => ?_)
  refine lv_iconst (v := 0) hx hb d_Pk_heightBelow_2 (by decide) ?_
  refine lv_istore_n (lv' := [(3, .int 0), (2, .int 0), (0, .ref (a 299)), (1, .int (nI j))]) hx hb d_Pk_heightBelow_3 rfl hl (by decide) rfl (fun ls hl => ?_)
  exact cut_4 (L + 1) 0 0 _ _ _ (by omega) (by omega) (by rfl) hP hD hS (lv_sub hl [2, 3, 1, 0] rfl)
set_option maxHeartbeats 4000000 in
set_option maxRecDepth 100000 in
theorem c_Bg_isNear (l : Launch) (D : va_G) (t : Nat → ClassId) (a : Nat → Nat) (σ : Nat → Nat → Int32) (v sum spr : Int32) : gMi l D t y_Bg_isNear b_Bg_isNear 3 (some .boolean) 0 [.int v, .int sum, .int spr] (wFb t a σ) (wFb t a) (fun r u => r = mWithin v sum spr ∧ u = σ) := by
  intro A
  refine Met.ofW (cc := b_Bg_isNear) (maxL := 3) (ret := (some .boolean)) (by decide) rfl ?_
  intro p e s m args below meth c s₁ B hml hv
  obtain ⟨rfl, hK, hP, hD⟩ := hv
  have hx := B.exec
  have hb := B.bytes
  have hr := B.returns
  have hts := atoms_spec (ws := .code y_Bg_isNear b_Bg_isNear 3 (some .boolean) :: gBig) B.pre
  have hown : s.vm.findClass R_Bg = some m.cls := findClass_of_methodNamed B.named
  have hlocks := B.notSynchronized
  have hS : va_S A s.heap s.heap [] := va_S.rf
  have hl := lv_entry ([.int v, .int sum, .int spr]) (n := 3) (Nat.le_of_ble_eq_true rfl)
  rw [lg_entry_eq]
  generalize (lg_sl ([.int v, .int sum, .int spr]) ++ List.replicate (3 - (lg_sl ([.int v, .int sum, .int spr])).length) Slot.unset).toArray = ls at hl ⊢
  have hl : lv_has ls 3 [(0, .int v), (1, .int sum), (2, .int spr)] := hl
  show gGo l p e s m below meth c D t A 0 [.int v, .int sum, .int spr] (wFb t a) (fun r u => r = mWithin v sum spr ∧ u = σ) s.heap [] (F0 m 0 ls [])
  refine lv_iload_n hx hb d_Bg_isNear_0 rfl (lv_at hl 0 rfl) ?_
  refine lv_iload_n hx hb d_Bg_isNear_1 rfl (lv_at hl 1 rfl) ?_
  refine lv_iload_n hx hb d_Bg_isNear_2 rfl (lv_at hl 2 rfl) ?_
  refine lv_isub hx hb d_Bg_isNear_3 ?_
  refine lv_icmp_lt (tgt := 18) hx hb d_Bg_isNear_4 (by decide) (fun c_1 => ?_) (fun c_1 => ?_)
  · 
    refine lv_iconst (v := 0) hx hb d_Bg_isNear_18 (by decide) ?_
    exact W.zret (v := 0) (ty := .boolean) hx hb hr (rfl) (fun U hU hW => ⟨⟨0, σ, rfl, by exact ⟨by simp [mWithin, c_1], rfl⟩, by rw [hU]; exact hP, hD⟩, hS.F hU⟩) hS.2.2 d_Bg_isNear_19
  · 
    refine lv_iload_n hx hb d_Bg_isNear_7 rfl (lv_at hl 0 rfl) ?_
    refine lv_iload_n hx hb d_Bg_isNear_8 rfl (lv_at hl 1 rfl) ?_
    refine lv_iload_n hx hb d_Bg_isNear_9 rfl (lv_at hl 2 rfl) ?_
    refine lv_iadd hx hb d_Bg_isNear_10 ?_
    refine lv_icmp_gt (tgt := 18) hx hb d_Bg_isNear_11 (by decide) (fun c_2 => ?_) (fun c_2 => ?_)
    · 
      refine lv_iconst (v := 0) hx hb d_Bg_isNear_18 (by decide) ?_
      exact W.zret (v := 0) (ty := .boolean) hx hb hr (rfl) (fun U hU hW => ⟨⟨0, σ, rfl, by exact ⟨by simp [mWithin, c_1, c_2], rfl⟩, by rw [hU]; exact hP, hD⟩, hS.F hU⟩) hS.2.2 d_Bg_isNear_19
    · 
      refine lv_iconst (v := 1) hx hb d_Bg_isNear_14 (by decide) ?_
      refine lv_goto (tgt := 19) hx hb d_Bg_isNear_15 (by decide) ?_
      exact W.zret (v := 1) (ty := .boolean) hx hb hr (rfl) (fun U hU hW => ⟨⟨1, σ, rfl, by exact ⟨by simp [mWithin, c_1, c_2], rfl⟩, by rw [hU]; exact hP, hD⟩, hS.F hU⟩) hS.2.2 d_Bg_isNear_19
set_option maxHeartbeats 4000000 in
set_option maxRecDepth 100000 in
theorem c_Bg_add (l : Launch) (D : va_G) (t : Nat → ClassId) (a : Nat → Nat) (σ : Nat → Nat → Int32) (nb : Nat) (hB : σ 6 0 = nI nb) : gMi l D t y_Bg_add b_Bg_add 2 (some .int) 0 [.ref (a 99)] (wFb t a σ) (wFb t a) (fun r u => r = nI nb ∧ u = gSt σ 6 0 (nI (nb + 1))) := by
  intro A
  refine Met.ofW (cc := b_Bg_add) (maxL := 2) (ret := (some .int)) (by decide) rfl ?_
  intro p e s m args below meth c s₁ B hml hv
  obtain ⟨rfl, hK, hP, hD⟩ := hv
  have hx := B.exec
  have hb := B.bytes
  have hr := B.returns
  have hts := atoms_spec (ws := .code y_Bg_add b_Bg_add 2 (some .int) :: gBig) B.pre
  have hown : s.vm.findClass R_Bg = some m.cls := findClass_of_methodNamed B.named
  have hlocks := B.notSynchronized
  have hS : va_S A s.heap s.heap [] := va_S.rf
  have hl := lv_entry ([.ref (a 99)]) (n := 2) (Nat.le_of_ble_eq_true rfl)
  rw [lg_entry_eq]
  generalize (lg_sl ([.ref (a 99)]) ++ List.replicate (2 - (lg_sl ([.ref (a 99)])).length) Slot.unset).toArray = ls at hl ⊢
  have hl : lv_has ls 2 [(0, .ref (a 99))] := hl
  show gGo l p e s m below meth c D t A 0 [.ref (a 99)] (wFb t a) (fun r u => r = nI nb ∧ u = gSt σ 6 0 (nI (nb + 1))) s.heap [] (F0 m 0 ls [])
  refine lv_aload_n hx hb d_Bg_add_0 rfl (lv_at hl 0 rfl) ?_
  refine va_get (D := D) (ci := 0) (v := .int (σ 6 0)) (C := R_Bg) (T := F_Bg) (N := 7) hx hb hts (fun w h => List.mem_cons_of_mem _ (i_Bg w h)) hown hK.1 hP 6 (wFb_o0 t a σ) rfl 6 (by decide) (hts (.fieldLink R_Bg 32 "FlatBoxes$Bags" "count" "I") (List.mem_cons_of_mem _ (gIn k_227 (by decide +kernel)))) (fun _ h9 => h9) rfl d_Bg_add_1 ?_
  refine lv_topi (fun v_1 e_1 => ?_)
  obtain rfl : nI nb = v_1 := (e_1.trans hB).symm
  refine lv_istore_n (lv' := [(1, .int (nI nb)), (0, .ref (a 99))]) hx hb d_Bg_add_4 rfl hl (by decide) rfl (fun ls hl => ?_)
  refine lv_aload_n hx hb d_Bg_add_5 rfl (lv_at hl 1 rfl) ?_
  refine lv_iload_n hx hb d_Bg_add_6 rfl (lv_at hl 0 rfl) ?_
  refine lv_iconst (v := 1) hx hb d_Bg_add_7 (by decide) ?_
  refine lv_iadd hx hb d_Bg_add_8 ?_
  refine lv_topi (fun v_2 e_2 => ?_)
  obtain rfl : nI (nb + 1) = v_2 := (e_2.trans (nI_1 _)).symm
  refine va_put (D := D) (ci := 0) (v := .int (nI (nb + 1))) (ty := .int) (C := R_Bg) (T := F_Bg) (N := 7) hx hb hts (fun w h => List.mem_cons_of_mem _ (i_Bg w h)) t_Bg t_Bg_ok n_Bg hown hK.1 hP hD hS 6 (wFb_o0 t a σ) rfl 6 (by decide) (hts (.fieldLink R_Bg 32 "FlatBoxes$Bags" "count" "I") (List.mem_cons_of_mem _ (gIn k_227 (by decide +kernel)))) (fun _ h9 => h9) rfl (by decide +kernel) rfl rfl (Nat.le_of_ble_eq_true rfl) d_Bg_add_9 (fun H locs hP hD hS => ?_)
  have hP : va_P D gCl (wFb t a (gSt σ 6 0 (nI (nb + 1)))) H := hP
  have hD : va_D A (wFb t a (gSt σ 6 0 (nI (nb + 1)))) := hD
  refine lv_iload_n hx hb d_Bg_add_12 rfl (lv_at hl 0 rfl) ?_
  exact W.iret (v := nI nb) hx hb hr (fun U hU hW => ⟨⟨nI nb, gSt σ 6 0 (nI (nb + 1)), rfl, by exact ⟨rfl, rfl⟩, by rw [hU]; exact hP, hD⟩, hS.F hU⟩) hS.2.2 d_Bg_add_13
set_option maxHeartbeats 4000000 in
set_option maxRecDepth 100000 in
theorem c_Bg_addKind (l : Launch) (D : va_G) (t : Nat → ClassId) (a : Nat → Nat) (σ : Nat → Nat → Int32) (b kc : Nat) (mn ec sp : Int32) (hb4 : b < 4) (hkc : σ 5 b = nI kc) (hk6 : kc < 6) : gMi l D t y_Bg_addKind b_Bg_addKind 6 (some .int) 0 [.ref (a 99), .int (nI b), .int mn, .int ec, .int sp] (wFb t a σ) (wFb t a) (fun r u => r = nI (kc + 1) ∧ u = fAddK σ b kc mn ec sp) := by
  intro A
  refine Met.ofW (cc := b_Bg_addKind) (maxL := 6) (ret := (some .int)) (by decide) rfl ?_
  intro p e s m args below meth c s₁ B hml hv
  obtain ⟨rfl, hK, hP, hD⟩ := hv
  have hx := B.exec
  have hb := B.bytes
  have hr := B.returns
  have hts := atoms_spec (ws := .code y_Bg_addKind b_Bg_addKind 6 (some .int) :: gBig) B.pre
  have hown : s.vm.findClass R_Bg = some m.cls := findClass_of_methodNamed B.named
  have hlocks := B.notSynchronized
  have hS : va_S A s.heap s.heap [] := va_S.rf
  have hl := lv_entry ([.ref (a 99), .int (nI b), .int mn, .int ec, .int sp]) (n := 6) (Nat.le_of_ble_eq_true rfl)
  rw [lg_entry_eq]
  generalize (lg_sl ([.ref (a 99), .int (nI b), .int mn, .int ec, .int sp]) ++ List.replicate (6 - (lg_sl ([.ref (a 99), .int (nI b), .int mn, .int ec, .int sp])).length) Slot.unset).toArray = ls at hl ⊢
  have hl : lv_has ls 6 [(0, .ref (a 99)), (1, .int (nI b)), (2, .int mn), (3, .int ec), (4, .int sp)] := hl
  show gGo l p e s m below meth c D t A 0 [.ref (a 99), .int (nI b), .int mn, .int ec, .int sp] (wFb t a) (fun r u => r = nI (kc + 1) ∧ u = fAddK σ b kc mn ec sp) s.heap [] (F0 m 0 ls [])
  refine lv_aload_n hx hb d_Bg_addKind_0 rfl (lv_at hl 0 rfl) ?_
  refine va_get (D := D) (ci := 0) (v := .ref (a 5)) (C := R_Bg) (T := F_Bg) (N := 7) hx hb hts (fun w h => List.mem_cons_of_mem _ (i_Bg w h)) hown hK.1 hP 6 (wFb_o0 t a σ) rfl 5 (by decide) (hts (.fieldLink R_Bg 29 "FlatBoxes$Bags" "kinds" "[I") (List.mem_cons_of_mem _ (gIn k_225 (by decide +kernel)))) (fun _ h9 => h9) rfl d_Bg_addKind_1 ?_
  refine lv_iload_n hx hb d_Bg_addKind_4 rfl (lv_at hl 1 rfl) ?_
  refine g_iald hx hb hK.1 hP 38 0 (wFb_5 t a σ) rfl b (rfl) (by omega) (by decide) d_Bg_addKind_5 ?_
  refine lv_topi (fun v_1 e_1 => ?_)
  obtain rfl : nI kc = v_1 := (e_1.trans (hkc)).symm
  refine lv_istore (lv' := [(5, .int (nI kc)), (0, .ref (a 99)), (1, .int (nI b)), (2, .int mn), (3, .int ec), (4, .int sp)]) hx hb d_Bg_addKind_6 hl (by decide) rfl (fun ls hl => ?_)
  refine lv_aload_n hx hb d_Bg_addKind_8 rfl (lv_at hl 1 rfl) ?_
  refine va_get (D := D) (ci := 0) (v := .ref (a 0)) (C := R_Bg) (T := F_Bg) (N := 7) hx hb hts (fun w h => List.mem_cons_of_mem _ (i_Bg w h)) hown hK.1 hP 6 (wFb_o0 t a σ) rfl 0 (by decide) (hts (.fieldLink R_Bg 11 "FlatBoxes$Bags" "many" "[[I") (List.mem_cons_of_mem _ (gIn k_220 (by decide +kernel)))) (fun _ h9 => h9) rfl d_Bg_addKind_9 ?_
  refine lv_iload_n hx hb d_Bg_addKind_12 rfl (lv_at hl 2 rfl) ?_
  refine g_aald hx hb hK.1 hP 33 2 (wFb_0 t a σ) rfl b (rfl) (by omega) (by decide) rfl d_Bg_addKind_13 ?_
  refine lv_iload hx hb d_Bg_addKind_14 (lv_at hl 0 rfl) ?_
  refine lv_iload_n hx hb d_Bg_addKind_16 rfl (lv_at hl 3 rfl) ?_
  refine g_iast hx hb hK.1 hP hD hS (55 + b) 0 (wFb_r1200 t a σ b (by omega)) rfl kc (rfl) (by omega) (by decide) (w' := wFb t a (gSt σ (1200 + b) kc mn)) (sFb_r1200 t a σ kc mn b (by omega)) d_Bg_addKind_17 (fun H locs hP hD hS => ?_)
  refine lv_aload_n hx hb d_Bg_addKind_18 rfl (lv_at hl 1 rfl) ?_
  refine va_get (D := D) (ci := 0) (v := .ref (a 1)) (C := R_Bg) (T := F_Bg) (N := 7) hx hb hts (fun w h => List.mem_cons_of_mem _ (i_Bg w h)) hown hK.1 hP 6 (wFb_o0 t a (gSt σ (1200 + b) kc mn)) rfl 1 (by decide) (hts (.fieldLink R_Bg 16 "FlatBoxes$Bags" "each" "[[I") (List.mem_cons_of_mem _ (gIn k_221 (by decide +kernel)))) (fun _ h9 => h9) rfl d_Bg_addKind_19 ?_
  refine lv_iload_n hx hb d_Bg_addKind_22 rfl (lv_at hl 2 rfl) ?_
  refine g_aald hx hb hK.1 hP 34 2 (wFb_1 t a (gSt σ (1200 + b) kc mn)) rfl b (rfl) (by omega) (by decide) rfl d_Bg_addKind_23 ?_
  refine lv_iload hx hb d_Bg_addKind_24 (lv_at hl 0 rfl) ?_
  refine lv_iload_n hx hb d_Bg_addKind_26 rfl (lv_at hl 4 rfl) ?_
  refine g_iast hx hb hK.1 hP hD hS (59 + b) 0 (wFb_r1300 t a (gSt σ (1200 + b) kc mn) b (by omega)) rfl kc (rfl) (by omega) (by decide) (w' := wFb t a (gSt (gSt σ (1200 + b) kc mn) (1300 + b) kc ec)) (sFb_r1300 t a (gSt σ (1200 + b) kc mn) kc ec b (by omega)) d_Bg_addKind_27 (fun H locs hP hD hS => ?_)
  refine lv_aload_n hx hb d_Bg_addKind_28 rfl (lv_at hl 1 rfl) ?_
  refine va_get (D := D) (ci := 0) (v := .ref (a 2)) (C := R_Bg) (T := F_Bg) (N := 7) hx hb hts (fun w h => List.mem_cons_of_mem _ (i_Bg w h)) hown hK.1 hP 6 (wFb_o0 t a (gSt (gSt σ (1200 + b) kc mn) (1300 + b) kc ec)) rfl 2 (by decide) (hts (.fieldLink R_Bg 19 "FlatBoxes$Bags" "spread" "[[I") (List.mem_cons_of_mem _ (gIn k_222 (by decide +kernel)))) (fun _ h9 => h9) rfl d_Bg_addKind_29 ?_
  refine lv_iload_n hx hb d_Bg_addKind_32 rfl (lv_at hl 2 rfl) ?_
  refine g_aald hx hb hK.1 hP 35 2 (wFb_2 t a (gSt (gSt σ (1200 + b) kc mn) (1300 + b) kc ec)) rfl b (rfl) (by omega) (by decide) rfl d_Bg_addKind_33 ?_
  refine lv_iload hx hb d_Bg_addKind_34 (lv_at hl 0 rfl) ?_
  refine lv_iload hx hb d_Bg_addKind_36 (lv_at hl 5 rfl) ?_
  refine g_iast hx hb hK.1 hP hD hS (63 + b) 0 (wFb_r1400 t a (gSt (gSt σ (1200 + b) kc mn) (1300 + b) kc ec) b (by omega)) rfl kc (rfl) (by omega) (by decide) (w' := wFb t a (gSt (gSt (gSt σ (1200 + b) kc mn) (1300 + b) kc ec) (1400 + b) kc sp)) (sFb_r1400 t a (gSt (gSt σ (1200 + b) kc mn) (1300 + b) kc ec) kc sp b (by omega)) d_Bg_addKind_38 (fun H locs hP hD hS => ?_)
  refine lv_aload_n hx hb d_Bg_addKind_39 rfl (lv_at hl 1 rfl) ?_
  refine va_get (D := D) (ci := 0) (v := .ref (a 3)) (C := R_Bg) (T := F_Bg) (N := 7) hx hb hts (fun w h => List.mem_cons_of_mem _ (i_Bg w h)) hown hK.1 hP 6 (wFb_o0 t a (gSt (gSt (gSt σ (1200 + b) kc mn) (1300 + b) kc ec) (1400 + b) kc sp)) rfl 3 (by decide) (hts (.fieldLink R_Bg 22 "FlatBoxes$Bags" "sum" "[I") (List.mem_cons_of_mem _ (gIn k_223 (by decide +kernel)))) (fun _ h9 => h9) rfl d_Bg_addKind_40 ?_
  refine lv_iload_n hx hb d_Bg_addKind_43 rfl (lv_at hl 2 rfl) ?_
  refine lv_dup2_11 hx hb d_Bg_addKind_44 rfl rfl ?_
  refine g_iald hx hb hK.1 hP 36 0 (wFb_3 t a (gSt (gSt (gSt σ (1200 + b) kc mn) (1300 + b) kc ec) (1400 + b) kc sp)) rfl b (rfl) (by omega) (by decide) d_Bg_addKind_45 ?_
  refine lv_iload_n hx hb d_Bg_addKind_46 rfl (lv_at hl 3 rfl) ?_
  refine lv_iload_n hx hb d_Bg_addKind_47 rfl (lv_at hl 4 rfl) ?_
  refine lv_imul hx hb d_Bg_addKind_48 ?_
  refine lv_iadd hx hb d_Bg_addKind_49 ?_
  refine g_iast hx hb hK.1 hP hD hS 36 0 (wFb_3 t a (gSt (gSt (gSt σ (1200 + b) kc mn) (1300 + b) kc ec) (1400 + b) kc sp)) rfl b (rfl) (by omega) (by decide) (w' := wFb t a (gSt (gSt (gSt (gSt σ (1200 + b) kc mn) (1300 + b) kc ec) (1400 + b) kc sp) 3 b (((gSt (gSt (gSt σ (1200 + b) kc mn) (1300 + b) kc ec) (1400 + b) kc sp) 3 b) + (mn * ec)))) (sFb_3 t a (gSt (gSt (gSt σ (1200 + b) kc mn) (1300 + b) kc ec) (1400 + b) kc sp) b (((gSt (gSt (gSt σ (1200 + b) kc mn) (1300 + b) kc ec) (1400 + b) kc sp) 3 b) + (mn * ec))) d_Bg_addKind_50 (fun H locs hP hD hS => ?_)
  refine lv_aload_n hx hb d_Bg_addKind_51 rfl (lv_at hl 1 rfl) ?_
  refine va_get (D := D) (ci := 0) (v := .ref (a 4)) (C := R_Bg) (T := F_Bg) (N := 7) hx hb hts (fun w h => List.mem_cons_of_mem _ (i_Bg w h)) hown hK.1 hP 6 (wFb_o0 t a (gSt (gSt (gSt (gSt σ (1200 + b) kc mn) (1300 + b) kc ec) (1400 + b) kc sp) 3 b (((gSt (gSt (gSt σ (1200 + b) kc mn) (1300 + b) kc ec) (1400 + b) kc sp) 3 b) + (mn * ec)))) rfl 4 (by decide) (hts (.fieldLink R_Bg 26 "FlatBoxes$Bags" "spreads" "[I") (List.mem_cons_of_mem _ (gIn k_224 (by decide +kernel)))) (fun _ h9 => h9) rfl d_Bg_addKind_52 ?_
  refine lv_iload_n hx hb d_Bg_addKind_55 rfl (lv_at hl 2 rfl) ?_
  refine lv_dup2_11 hx hb d_Bg_addKind_56 rfl rfl ?_
  refine g_iald hx hb hK.1 hP 37 0 (wFb_4 t a (gSt (gSt (gSt (gSt σ (1200 + b) kc mn) (1300 + b) kc ec) (1400 + b) kc sp) 3 b (((gSt (gSt (gSt σ (1200 + b) kc mn) (1300 + b) kc ec) (1400 + b) kc sp) 3 b) + (mn * ec)))) rfl b (rfl) (by omega) (by decide) d_Bg_addKind_57 ?_
  refine lv_iload_n hx hb d_Bg_addKind_58 rfl (lv_at hl 3 rfl) ?_
  refine lv_iload hx hb d_Bg_addKind_59 (lv_at hl 5 rfl) ?_
  refine lv_imul hx hb d_Bg_addKind_61 ?_
  refine lv_iadd hx hb d_Bg_addKind_62 ?_
  refine g_iast hx hb hK.1 hP hD hS 37 0 (wFb_4 t a (gSt (gSt (gSt (gSt σ (1200 + b) kc mn) (1300 + b) kc ec) (1400 + b) kc sp) 3 b (((gSt (gSt (gSt σ (1200 + b) kc mn) (1300 + b) kc ec) (1400 + b) kc sp) 3 b) + (mn * ec)))) rfl b (rfl) (by omega) (by decide) (w' := wFb t a (gSt (gSt (gSt (gSt (gSt σ (1200 + b) kc mn) (1300 + b) kc ec) (1400 + b) kc sp) 3 b (((gSt (gSt (gSt σ (1200 + b) kc mn) (1300 + b) kc ec) (1400 + b) kc sp) 3 b) + (mn * ec))) 4 b (((gSt (gSt (gSt (gSt σ (1200 + b) kc mn) (1300 + b) kc ec) (1400 + b) kc sp) 3 b (((gSt (gSt (gSt σ (1200 + b) kc mn) (1300 + b) kc ec) (1400 + b) kc sp) 3 b) + (mn * ec))) 4 b) + (mn * sp)))) (sFb_4 t a (gSt (gSt (gSt (gSt σ (1200 + b) kc mn) (1300 + b) kc ec) (1400 + b) kc sp) 3 b (((gSt (gSt (gSt σ (1200 + b) kc mn) (1300 + b) kc ec) (1400 + b) kc sp) 3 b) + (mn * ec))) b (((gSt (gSt (gSt (gSt σ (1200 + b) kc mn) (1300 + b) kc ec) (1400 + b) kc sp) 3 b (((gSt (gSt (gSt σ (1200 + b) kc mn) (1300 + b) kc ec) (1400 + b) kc sp) 3 b) + (mn * ec))) 4 b) + (mn * sp))) d_Bg_addKind_63 (fun H locs hP hD hS => ?_)
  refine lv_aload_n hx hb d_Bg_addKind_64 rfl (lv_at hl 1 rfl) ?_
  refine va_get (D := D) (ci := 0) (v := .ref (a 5)) (C := R_Bg) (T := F_Bg) (N := 7) hx hb hts (fun w h => List.mem_cons_of_mem _ (i_Bg w h)) hown hK.1 hP 6 (wFb_o0 t a (gSt (gSt (gSt (gSt (gSt σ (1200 + b) kc mn) (1300 + b) kc ec) (1400 + b) kc sp) 3 b (((gSt (gSt (gSt σ (1200 + b) kc mn) (1300 + b) kc ec) (1400 + b) kc sp) 3 b) + (mn * ec))) 4 b (((gSt (gSt (gSt (gSt σ (1200 + b) kc mn) (1300 + b) kc ec) (1400 + b) kc sp) 3 b (((gSt (gSt (gSt σ (1200 + b) kc mn) (1300 + b) kc ec) (1400 + b) kc sp) 3 b) + (mn * ec))) 4 b) + (mn * sp)))) rfl 5 (by decide) (hts (.fieldLink R_Bg 29 "FlatBoxes$Bags" "kinds" "[I") (List.mem_cons_of_mem _ (gIn k_225 (by decide +kernel)))) (fun _ h9 => h9) rfl d_Bg_addKind_65 ?_
  refine lv_iload_n hx hb d_Bg_addKind_68 rfl (lv_at hl 2 rfl) ?_
  refine lv_iload hx hb d_Bg_addKind_69 (lv_at hl 0 rfl) ?_
  refine lv_iconst (v := 1) hx hb d_Bg_addKind_71 (by decide) ?_
  refine lv_iadd hx hb d_Bg_addKind_72 ?_
  refine lv_topi (fun v_2 e_2 => ?_)
  obtain rfl : nI (kc + 1) = v_2 := (e_2.trans (nI_1 _)).symm
  refine g_iast hx hb hK.1 hP hD hS 38 0 (wFb_5 t a (gSt (gSt (gSt (gSt (gSt σ (1200 + b) kc mn) (1300 + b) kc ec) (1400 + b) kc sp) 3 b (((gSt (gSt (gSt σ (1200 + b) kc mn) (1300 + b) kc ec) (1400 + b) kc sp) 3 b) + (mn * ec))) 4 b (((gSt (gSt (gSt (gSt σ (1200 + b) kc mn) (1300 + b) kc ec) (1400 + b) kc sp) 3 b (((gSt (gSt (gSt σ (1200 + b) kc mn) (1300 + b) kc ec) (1400 + b) kc sp) 3 b) + (mn * ec))) 4 b) + (mn * sp)))) rfl b (rfl) (by omega) (by decide) (w' := wFb t a (gSt (gSt (gSt (gSt (gSt (gSt σ (1200 + b) kc mn) (1300 + b) kc ec) (1400 + b) kc sp) 3 b (((gSt (gSt (gSt σ (1200 + b) kc mn) (1300 + b) kc ec) (1400 + b) kc sp) 3 b) + (mn * ec))) 4 b (((gSt (gSt (gSt (gSt σ (1200 + b) kc mn) (1300 + b) kc ec) (1400 + b) kc sp) 3 b (((gSt (gSt (gSt σ (1200 + b) kc mn) (1300 + b) kc ec) (1400 + b) kc sp) 3 b) + (mn * ec))) 4 b) + (mn * sp))) 5 b (nI (kc + 1)))) (sFb_5 t a (gSt (gSt (gSt (gSt (gSt σ (1200 + b) kc mn) (1300 + b) kc ec) (1400 + b) kc sp) 3 b (((gSt (gSt (gSt σ (1200 + b) kc mn) (1300 + b) kc ec) (1400 + b) kc sp) 3 b) + (mn * ec))) 4 b (((gSt (gSt (gSt (gSt σ (1200 + b) kc mn) (1300 + b) kc ec) (1400 + b) kc sp) 3 b (((gSt (gSt (gSt σ (1200 + b) kc mn) (1300 + b) kc ec) (1400 + b) kc sp) 3 b) + (mn * ec))) 4 b) + (mn * sp))) b (nI (kc + 1))) d_Bg_addKind_73 (fun H locs hP hD hS => ?_)
  refine lv_aload_n hx hb d_Bg_addKind_74 rfl (lv_at hl 1 rfl) ?_
  refine va_get (D := D) (ci := 0) (v := .ref (a 5)) (C := R_Bg) (T := F_Bg) (N := 7) hx hb hts (fun w h => List.mem_cons_of_mem _ (i_Bg w h)) hown hK.1 hP 6 (wFb_o0 t a (gSt (gSt (gSt (gSt (gSt (gSt σ (1200 + b) kc mn) (1300 + b) kc ec) (1400 + b) kc sp) 3 b (((gSt (gSt (gSt σ (1200 + b) kc mn) (1300 + b) kc ec) (1400 + b) kc sp) 3 b) + (mn * ec))) 4 b (((gSt (gSt (gSt (gSt σ (1200 + b) kc mn) (1300 + b) kc ec) (1400 + b) kc sp) 3 b (((gSt (gSt (gSt σ (1200 + b) kc mn) (1300 + b) kc ec) (1400 + b) kc sp) 3 b) + (mn * ec))) 4 b) + (mn * sp))) 5 b (nI (kc + 1)))) rfl 5 (by decide) (hts (.fieldLink R_Bg 29 "FlatBoxes$Bags" "kinds" "[I") (List.mem_cons_of_mem _ (gIn k_225 (by decide +kernel)))) (fun _ h9 => h9) rfl d_Bg_addKind_75 ?_
  refine lv_iload_n hx hb d_Bg_addKind_78 rfl (lv_at hl 2 rfl) ?_
  refine g_iald hx hb hK.1 hP 38 0 (wFb_5 t a (gSt (gSt (gSt (gSt (gSt (gSt σ (1200 + b) kc mn) (1300 + b) kc ec) (1400 + b) kc sp) 3 b (((gSt (gSt (gSt σ (1200 + b) kc mn) (1300 + b) kc ec) (1400 + b) kc sp) 3 b) + (mn * ec))) 4 b (((gSt (gSt (gSt (gSt σ (1200 + b) kc mn) (1300 + b) kc ec) (1400 + b) kc sp) 3 b (((gSt (gSt (gSt σ (1200 + b) kc mn) (1300 + b) kc ec) (1400 + b) kc sp) 3 b) + (mn * ec))) 4 b) + (mn * sp))) 5 b (nI (kc + 1)))) rfl b (rfl) (by omega) (by decide) d_Bg_addKind_79 ?_
  refine lv_topi (fun v_3 e_3 => ?_)
  obtain rfl : nI (kc + 1) = v_3 := (e_3.trans (pk_us)).symm
  exact W.iret (v := nI (kc + 1)) hx hb hr (fun U hU hW => ⟨⟨nI (kc + 1), gSt (gSt (gSt (gSt (gSt (gSt σ (1200 + b) kc mn) (1300 + b) kc ec) (1400 + b) kc sp) 3 b (((gSt (gSt (gSt σ (1200 + b) kc mn) (1300 + b) kc ec) (1400 + b) kc sp) 3 b) + (mn * ec))) 4 b (((gSt (gSt (gSt (gSt σ (1200 + b) kc mn) (1300 + b) kc ec) (1400 + b) kc sp) 3 b (((gSt (gSt (gSt σ (1200 + b) kc mn) (1300 + b) kc ec) (1400 + b) kc sp) 3 b) + (mn * ec))) 4 b) + (mn * sp))) 5 b (nI (kc + 1)), rfl, by exact ⟨rfl, rfl⟩, by rw [hU]; exact hP, hD⟩, hS.F hU⟩) hS.2.2 d_Bg_addKind_80
set_option maxHeartbeats 4000000 in
set_option maxRecDepth 100000 in
theorem c_Bg_couldHaveOneMore (l : Launch) (D : va_G) (t : Nat → ClassId) (a : Nat → Nat) (σ : Nat → Nat → Int32) (b k : Nat) (wt : Int32) (hb4 : b < 4) (hk6 : k < 6) : gMi l D t y_Bg_couldHaveOneMore b_Bg_couldHaveOneMore 4 (some .boolean) 1 [.ref (a 99), .int (nI b), .int (nI k), .int wt] (wFb t a σ) (wFb t a) (fun r u => r = fMore σ b k wt ∧ u = σ) := by
  intro A
  refine Met.ofW (cc := b_Bg_couldHaveOneMore) (maxL := 4) (ret := (some .boolean)) (by decide) rfl ?_
  intro p e s m args below meth c s₁ B hml hv
  obtain ⟨rfl, hK, hP, hD⟩ := hv
  have hx := B.exec
  have hb := B.bytes
  have hr := B.returns
  have hts := atoms_spec (ws := .code y_Bg_couldHaveOneMore b_Bg_couldHaveOneMore 4 (some .boolean) :: gBig) B.pre
  have hown : s.vm.findClass R_Bg = some m.cls := findClass_of_methodNamed B.named
  have hlocks := B.notSynchronized
  have hS : va_S A s.heap s.heap [] := va_S.rf
  have hl := lv_entry ([.ref (a 99), .int (nI b), .int (nI k), .int wt]) (n := 4) (Nat.le_of_ble_eq_true rfl)
  rw [lg_entry_eq]
  generalize (lg_sl ([.ref (a 99), .int (nI b), .int (nI k), .int wt]) ++ List.replicate (4 - (lg_sl ([.ref (a 99), .int (nI b), .int (nI k), .int wt])).length) Slot.unset).toArray = ls at hl ⊢
  have hl : lv_has ls 4 [(0, .ref (a 99)), (1, .int (nI b)), (2, .int (nI k)), (3, .int wt)] := hl
  show gGo l p e s m below meth c D t A 1 [.ref (a 99), .int (nI b), .int (nI k), .int wt] (wFb t a) (fun r u => r = fMore σ b k wt ∧ u = σ) s.heap [] (F0 m 0 ls [])
  refine lv_iload_n hx hb d_Bg_couldHaveOneMore_0 rfl (lv_at hl 3 rfl) ?_
  refine lv_aload_n hx hb d_Bg_couldHaveOneMore_1 rfl (lv_at hl 0 rfl) ?_
  refine va_get (D := D) (ci := 0) (v := .ref (a 3)) (C := R_Bg) (T := F_Bg) (N := 7) hx hb hts (fun w h => List.mem_cons_of_mem _ (i_Bg w h)) hown hK.1 hP 6 (wFb_o0 t a σ) rfl 3 (by decide) (hts (.fieldLink R_Bg 22 "FlatBoxes$Bags" "sum" "[I") (List.mem_cons_of_mem _ (gIn k_223 (by decide +kernel)))) (fun _ h9 => h9) rfl d_Bg_couldHaveOneMore_2 ?_
  refine lv_iload_n hx hb d_Bg_couldHaveOneMore_5 rfl (lv_at hl 1 rfl) ?_
  refine g_iald hx hb hK.1 hP 36 0 (wFb_3 t a σ) rfl b (rfl) (by omega) (by decide) d_Bg_couldHaveOneMore_6 ?_
  refine lv_aload_n hx hb d_Bg_couldHaveOneMore_7 rfl (lv_at hl 0 rfl) ?_
  refine va_get (D := D) (ci := 0) (v := .ref (a 1)) (C := R_Bg) (T := F_Bg) (N := 7) hx hb hts (fun w h => List.mem_cons_of_mem _ (i_Bg w h)) hown hK.1 hP 6 (wFb_o0 t a σ) rfl 1 (by decide) (hts (.fieldLink R_Bg 16 "FlatBoxes$Bags" "each" "[[I") (List.mem_cons_of_mem _ (gIn k_221 (by decide +kernel)))) (fun _ h9 => h9) rfl d_Bg_couldHaveOneMore_8 ?_
  refine lv_iload_n hx hb d_Bg_couldHaveOneMore_11 rfl (lv_at hl 1 rfl) ?_
  refine g_aald hx hb hK.1 hP 34 2 (wFb_1 t a σ) rfl b (rfl) (by omega) (by decide) rfl d_Bg_couldHaveOneMore_12 ?_
  refine lv_iload_n hx hb d_Bg_couldHaveOneMore_13 rfl (lv_at hl 2 rfl) ?_
  refine g_iald hx hb hK.1 hP (59 + b) 0 (wFb_r1300 t a σ b (by omega)) rfl k (rfl) (by omega) (by decide) d_Bg_couldHaveOneMore_14 ?_
  refine lv_iadd hx hb d_Bg_couldHaveOneMore_15 ?_
  refine lv_aload_n hx hb d_Bg_couldHaveOneMore_16 rfl (lv_at hl 0 rfl) ?_
  refine va_get (D := D) (ci := 0) (v := .ref (a 4)) (C := R_Bg) (T := F_Bg) (N := 7) hx hb hts (fun w h => List.mem_cons_of_mem _ (i_Bg w h)) hown hK.1 hP 6 (wFb_o0 t a σ) rfl 4 (by decide) (hts (.fieldLink R_Bg 26 "FlatBoxes$Bags" "spreads" "[I") (List.mem_cons_of_mem _ (gIn k_224 (by decide +kernel)))) (fun _ h9 => h9) rfl d_Bg_couldHaveOneMore_17 ?_
  refine lv_iload_n hx hb d_Bg_couldHaveOneMore_20 rfl (lv_at hl 1 rfl) ?_
  refine g_iald hx hb hK.1 hP 37 0 (wFb_4 t a σ) rfl b (rfl) (by omega) (by decide) d_Bg_couldHaveOneMore_21 ?_
  refine lv_aload_n hx hb d_Bg_couldHaveOneMore_22 rfl (lv_at hl 0 rfl) ?_
  refine va_get (D := D) (ci := 0) (v := .ref (a 2)) (C := R_Bg) (T := F_Bg) (N := 7) hx hb hts (fun w h => List.mem_cons_of_mem _ (i_Bg w h)) hown hK.1 hP 6 (wFb_o0 t a σ) rfl 2 (by decide) (hts (.fieldLink R_Bg 19 "FlatBoxes$Bags" "spread" "[[I") (List.mem_cons_of_mem _ (gIn k_222 (by decide +kernel)))) (fun _ h9 => h9) rfl d_Bg_couldHaveOneMore_23 ?_
  refine lv_iload_n hx hb d_Bg_couldHaveOneMore_26 rfl (lv_at hl 1 rfl) ?_
  refine g_aald hx hb hK.1 hP 35 2 (wFb_2 t a σ) rfl b (rfl) (by omega) (by decide) rfl d_Bg_couldHaveOneMore_27 ?_
  refine lv_iload_n hx hb d_Bg_couldHaveOneMore_28 rfl (lv_at hl 2 rfl) ?_
  refine g_iald hx hb hK.1 hP (63 + b) 0 (wFb_r1400 t a σ b (by omega)) rfl k (rfl) (by omega) (by decide) d_Bg_couldHaveOneMore_29 ?_
  refine lv_iadd hx hb d_Bg_couldHaveOneMore_30 ?_
  refine g_si (k := 3) (As := [.int wt, .int ((σ 3 b) + (σ (1300 + b) k)), .int ((σ 4 b) + (σ (1400 + b) k))]) (rest := []) (own := R_Bg) (index := 36) ⟨hx, hb, hml, hown, hts⟩ (c_Bg_isNear l D t a σ wt ((σ 3 b) + (σ (1300 + b) k)) ((σ 4 b) + (σ (1400 + b) k))) (gg_Bg_36 _) (by decide +kernel) ⟨Nat.le_of_ble_eq_true rfl, Nat.le_of_ble_eq_true rfl⟩ rfl hK hP hD hS hl.1 rfl (Nat.le_of_ble_eq_true rfl) ⟨Nat.zero_le _, Nat.zero_le _⟩ d_Bg_couldHaveOneMore_31 (fun r_1 u_1 H locs q_1 hP hD hS => ?_)
  obtain ⟨rfl, hu_1⟩ := q_1
  rw [hu_1] at hP hD
  exact W.zret (v := mWithin wt ((σ 3 b) + (σ (1300 + b) k)) ((σ 4 b) + (σ (1400 + b) k))) (ty := .boolean) hx hb hr (gb_n (mWithin01 _ _ _)) (fun U hU hW => ⟨⟨mWithin wt ((σ 3 b) + (σ (1300 + b) k)) ((σ 4 b) + (σ (1400 + b) k)), σ, rfl, by exact ⟨rfl, rfl⟩, by rw [hU]; exact hP, hD⟩, hS.F hU⟩) hS.2.2 d_Bg_couldHaveOneMore_34
set_option maxHeartbeats 4000000 in
set_option maxRecDepth 100000 in
theorem c_Bg_couldHaveOneLess (l : Launch) (D : va_G) (t : Nat → ClassId) (a : Nat → Nat) (σ : Nat → Nat → Int32) (b k : Nat) (wt : Int32) (hb4 : b < 4) (hk6 : k < 6) : gMi l D t y_Bg_couldHaveOneLess b_Bg_couldHaveOneLess 4 (some .boolean) 1 [.ref (a 99), .int (nI b), .int (nI k), .int wt] (wFb t a σ) (wFb t a) (fun r u => r = fLess σ b k wt ∧ u = σ) := by
  intro A
  refine Met.ofW (cc := b_Bg_couldHaveOneLess) (maxL := 4) (ret := (some .boolean)) (by decide) rfl ?_
  intro p e s m args below meth c s₁ B hml hv
  obtain ⟨rfl, hK, hP, hD⟩ := hv
  have hx := B.exec
  have hb := B.bytes
  have hr := B.returns
  have hts := atoms_spec (ws := .code y_Bg_couldHaveOneLess b_Bg_couldHaveOneLess 4 (some .boolean) :: gBig) B.pre
  have hown : s.vm.findClass R_Bg = some m.cls := findClass_of_methodNamed B.named
  have hlocks := B.notSynchronized
  have hS : va_S A s.heap s.heap [] := va_S.rf
  have hl := lv_entry ([.ref (a 99), .int (nI b), .int (nI k), .int wt]) (n := 4) (Nat.le_of_ble_eq_true rfl)
  rw [lg_entry_eq]
  generalize (lg_sl ([.ref (a 99), .int (nI b), .int (nI k), .int wt]) ++ List.replicate (4 - (lg_sl ([.ref (a 99), .int (nI b), .int (nI k), .int wt])).length) Slot.unset).toArray = ls at hl ⊢
  have hl : lv_has ls 4 [(0, .ref (a 99)), (1, .int (nI b)), (2, .int (nI k)), (3, .int wt)] := hl
  show gGo l p e s m below meth c D t A 1 [.ref (a 99), .int (nI b), .int (nI k), .int wt] (wFb t a) (fun r u => r = fLess σ b k wt ∧ u = σ) s.heap [] (F0 m 0 ls [])
  refine lv_aload_n hx hb d_Bg_couldHaveOneLess_0 rfl (lv_at hl 0 rfl) ?_
  refine va_get (D := D) (ci := 0) (v := .ref (a 0)) (C := R_Bg) (T := F_Bg) (N := 7) hx hb hts (fun w h => List.mem_cons_of_mem _ (i_Bg w h)) hown hK.1 hP 6 (wFb_o0 t a σ) rfl 0 (by decide) (hts (.fieldLink R_Bg 11 "FlatBoxes$Bags" "many" "[[I") (List.mem_cons_of_mem _ (gIn k_220 (by decide +kernel)))) (fun _ h9 => h9) rfl d_Bg_couldHaveOneLess_1 ?_
  refine lv_iload_n hx hb d_Bg_couldHaveOneLess_4 rfl (lv_at hl 1 rfl) ?_
  refine g_aald hx hb hK.1 hP 33 2 (wFb_0 t a σ) rfl b (rfl) (by omega) (by decide) rfl d_Bg_couldHaveOneLess_5 ?_
  refine lv_iload_n hx hb d_Bg_couldHaveOneLess_6 rfl (lv_at hl 2 rfl) ?_
  refine g_iald hx hb hK.1 hP (55 + b) 0 (wFb_r1200 t a σ b (by omega)) rfl k (rfl) (by omega) (by decide) d_Bg_couldHaveOneLess_7 ?_
  refine lv_if_le (tgt := 52) hx hb d_Bg_couldHaveOneLess_8 (by decide) (fun c_1 => ?_) (fun c_1 => ?_)
  · 
    refine lv_iconst (v := 0) hx hb d_Bg_couldHaveOneLess_52 (by decide) ?_
    exact W.zret (v := 0) (ty := .boolean) hx hb hr (rfl) (fun U hU hW => ⟨⟨0, σ, rfl, by exact ⟨by simp [fLess, c_1], rfl⟩, by rw [hU]; exact hP, hD⟩, hS.F hU⟩) hS.2.2 d_Bg_couldHaveOneLess_53
  · 
    refine lv_iload_n hx hb d_Bg_couldHaveOneLess_11 rfl (lv_at hl 3 rfl) ?_
    refine lv_aload_n hx hb d_Bg_couldHaveOneLess_12 rfl (lv_at hl 0 rfl) ?_
    refine va_get (D := D) (ci := 0) (v := .ref (a 3)) (C := R_Bg) (T := F_Bg) (N := 7) hx hb hts (fun w h => List.mem_cons_of_mem _ (i_Bg w h)) hown hK.1 hP 6 (wFb_o0 t a σ) rfl 3 (by decide) (hts (.fieldLink R_Bg 22 "FlatBoxes$Bags" "sum" "[I") (List.mem_cons_of_mem _ (gIn k_223 (by decide +kernel)))) (fun _ h9 => h9) rfl d_Bg_couldHaveOneLess_13 ?_
    refine lv_iload_n hx hb d_Bg_couldHaveOneLess_16 rfl (lv_at hl 1 rfl) ?_
    refine g_iald hx hb hK.1 hP 36 0 (wFb_3 t a σ) rfl b (rfl) (by omega) (by decide) d_Bg_couldHaveOneLess_17 ?_
    refine lv_aload_n hx hb d_Bg_couldHaveOneLess_18 rfl (lv_at hl 0 rfl) ?_
    refine va_get (D := D) (ci := 0) (v := .ref (a 1)) (C := R_Bg) (T := F_Bg) (N := 7) hx hb hts (fun w h => List.mem_cons_of_mem _ (i_Bg w h)) hown hK.1 hP 6 (wFb_o0 t a σ) rfl 1 (by decide) (hts (.fieldLink R_Bg 16 "FlatBoxes$Bags" "each" "[[I") (List.mem_cons_of_mem _ (gIn k_221 (by decide +kernel)))) (fun _ h9 => h9) rfl d_Bg_couldHaveOneLess_19 ?_
    refine lv_iload_n hx hb d_Bg_couldHaveOneLess_22 rfl (lv_at hl 1 rfl) ?_
    refine g_aald hx hb hK.1 hP 34 2 (wFb_1 t a σ) rfl b (rfl) (by omega) (by decide) rfl d_Bg_couldHaveOneLess_23 ?_
    refine lv_iload_n hx hb d_Bg_couldHaveOneLess_24 rfl (lv_at hl 2 rfl) ?_
    refine g_iald hx hb hK.1 hP (59 + b) 0 (wFb_r1300 t a σ b (by omega)) rfl k (rfl) (by omega) (by decide) d_Bg_couldHaveOneLess_25 ?_
    refine lv_isub hx hb d_Bg_couldHaveOneLess_26 ?_
    refine lv_aload_n hx hb d_Bg_couldHaveOneLess_27 rfl (lv_at hl 0 rfl) ?_
    refine va_get (D := D) (ci := 0) (v := .ref (a 4)) (C := R_Bg) (T := F_Bg) (N := 7) hx hb hts (fun w h => List.mem_cons_of_mem _ (i_Bg w h)) hown hK.1 hP 6 (wFb_o0 t a σ) rfl 4 (by decide) (hts (.fieldLink R_Bg 26 "FlatBoxes$Bags" "spreads" "[I") (List.mem_cons_of_mem _ (gIn k_224 (by decide +kernel)))) (fun _ h9 => h9) rfl d_Bg_couldHaveOneLess_28 ?_
    refine lv_iload_n hx hb d_Bg_couldHaveOneLess_31 rfl (lv_at hl 1 rfl) ?_
    refine g_iald hx hb hK.1 hP 37 0 (wFb_4 t a σ) rfl b (rfl) (by omega) (by decide) d_Bg_couldHaveOneLess_32 ?_
    refine lv_aload_n hx hb d_Bg_couldHaveOneLess_33 rfl (lv_at hl 0 rfl) ?_
    refine va_get (D := D) (ci := 0) (v := .ref (a 2)) (C := R_Bg) (T := F_Bg) (N := 7) hx hb hts (fun w h => List.mem_cons_of_mem _ (i_Bg w h)) hown hK.1 hP 6 (wFb_o0 t a σ) rfl 2 (by decide) (hts (.fieldLink R_Bg 19 "FlatBoxes$Bags" "spread" "[[I") (List.mem_cons_of_mem _ (gIn k_222 (by decide +kernel)))) (fun _ h9 => h9) rfl d_Bg_couldHaveOneLess_34 ?_
    refine lv_iload_n hx hb d_Bg_couldHaveOneLess_37 rfl (lv_at hl 1 rfl) ?_
    refine g_aald hx hb hK.1 hP 35 2 (wFb_2 t a σ) rfl b (rfl) (by omega) (by decide) rfl d_Bg_couldHaveOneLess_38 ?_
    refine lv_iload_n hx hb d_Bg_couldHaveOneLess_39 rfl (lv_at hl 2 rfl) ?_
    refine g_iald hx hb hK.1 hP (63 + b) 0 (wFb_r1400 t a σ b (by omega)) rfl k (rfl) (by omega) (by decide) d_Bg_couldHaveOneLess_40 ?_
    refine lv_isub hx hb d_Bg_couldHaveOneLess_41 ?_
    refine g_si (k := 3) (As := [.int wt, .int ((σ 3 b) - (σ (1300 + b) k)), .int ((σ 4 b) - (σ (1400 + b) k))]) (rest := []) (own := R_Bg) (index := 36) ⟨hx, hb, hml, hown, hts⟩ (c_Bg_isNear l D t a σ wt ((σ 3 b) - (σ (1300 + b) k)) ((σ 4 b) - (σ (1400 + b) k))) (gg_Bg_36 _) (by decide +kernel) ⟨Nat.le_of_ble_eq_true rfl, Nat.le_of_ble_eq_true rfl⟩ rfl hK hP hD hS hl.1 rfl (Nat.le_of_ble_eq_true rfl) ⟨Nat.zero_le _, Nat.zero_le _⟩ d_Bg_couldHaveOneLess_42 (fun r_2 u_2 H locs q_2 hP hD hS => ?_)
    obtain ⟨rfl, hu_2⟩ := q_2
    rw [hu_2] at hP hD
    refine lv_if_eq (tgt := 52) hx hb d_Bg_couldHaveOneLess_45 (by decide) (fun c_3 => ?_) (fun c_3 => ?_)
    · 
      refine lv_iconst (v := 0) hx hb d_Bg_couldHaveOneLess_52 (by decide) ?_
      exact W.zret (v := 0) (ty := .boolean) hx hb hr (rfl) (fun U hU hW => ⟨⟨0, σ, rfl, by exact ⟨by simp [fLess, c_1, c_3], rfl⟩, by rw [hU]; exact hP, hD⟩, hS.F hU⟩) hS.2.2 d_Bg_couldHaveOneLess_53
    · 
      refine lv_iconst (v := 1) hx hb d_Bg_couldHaveOneLess_48 (by decide) ?_
      refine lv_goto (tgt := 53) hx hb d_Bg_couldHaveOneLess_49 (by decide) ?_
      exact W.zret (v := 1) (ty := .boolean) hx hb hr (rfl) (fun U hU hW => ⟨⟨1, σ, rfl, by exact ⟨by simp [fLess, c_1, c_3], rfl⟩, by rw [hU]; exact hP, hD⟩, hS.F hU⟩) hS.2.2 d_Bg_couldHaveOneLess_53
set_option maxHeartbeats 4000000 in
set_option maxRecDepth 100000 in
theorem c_Bg_judge (l : Launch) (D : va_G) (t : Nat → ClassId) (a : Nat → Nat) (σ : Nat → Nat → Int32) (b kc : Nat) (wt : Int32) (hb4 : b < 4) (hkc : σ 5 b = nI kc) (hk6 : kc ≤ 6) : gMi l D t y_Bg_judge b_Bg_judge 4 (some .int) 2 [.ref (a 99), .int (nI b), .int wt] (wFb t a σ) (wFb t a) (fun r u => r = fJudge σ b kc wt ∧ u = σ) := by
  intro A
  refine Met.ofW (cc := b_Bg_judge) (maxL := 4) (ret := (some .int)) (by decide) rfl ?_
  intro p e s m args below meth c s₁ B hml hv
  obtain ⟨rfl, hK, hP, hD⟩ := hv
  have hx := B.exec
  have hb := B.bytes
  have hr := B.returns
  have hts := atoms_spec (ws := .code y_Bg_judge b_Bg_judge 4 (some .int) :: gBig) B.pre
  have hown : s.vm.findClass R_Bg = some m.cls := findClass_of_methodNamed B.named
  have hlocks := B.notSynchronized
  have hS : va_S A s.heap s.heap [] := va_S.rf
  have hl := lv_entry ([.ref (a 99), .int (nI b), .int wt]) (n := 4) (Nat.le_of_ble_eq_true rfl)
  rw [lg_entry_eq]
  generalize (lg_sl ([.ref (a 99), .int (nI b), .int wt]) ++ List.replicate (4 - (lg_sl ([.ref (a 99), .int (nI b), .int wt])).length) Slot.unset).toArray = ls at hl ⊢
  have hl : lv_has ls 4 [(0, .ref (a 99)), (1, .int (nI b)), (2, .int wt)] := hl
  show gGo l p e s m below meth c D t A 2 [.ref (a 99), .int (nI b), .int wt] (wFb t a) (fun r u => r = fJudge σ b kc wt ∧ u = σ) s.heap [] (F0 m 0 ls [])
  have cut_23 : ∀ (n : Nat) (d : Nat) (k : Nat) (H : Heap) (locs : List Loc) (ls : Array Slot), (k + d = kc) → (d + 1 ≤ n) → (fJudge σ b kc wt = fJ σ b wt d k) → va_P D gCl (wFb t a σ) H → va_D A (wFb t a σ) → va_S A s.heap H locs → lv_has ls 4 [(0, .ref (a 99)), (1, .int (nI b)), (2, .int wt), (3, .int (nI k))] → gGo l p e s m below meth c D t A 2 [.ref (a 99), .int (nI b), .int wt] (wFb t a) (fun r u => r = fJudge σ b kc wt ∧ u = σ) H locs (F0 m 23 ls []) := by
    intro n
    induction n with
    | zero =>
      intro d k H locs ls hd hf hs hP hD hS hl
      exact absurd hf (by omega)
    | succ n ih =>
      intro d k H locs ls hd hf hs hP hD hS hl
      refine lv_iload_n hx hb d_Bg_judge_23 rfl (lv_at hl 3 rfl) ?_
      refine lv_aload_n hx hb d_Bg_judge_24 rfl (lv_at hl 0 rfl) ?_
      refine va_get (D := D) (ci := 0) (v := .ref (a 5)) (C := R_Bg) (T := F_Bg) (N := 7) hx hb hts (fun w h => List.mem_cons_of_mem _ (i_Bg w h)) hown hK.1 hP 6 (wFb_o0 t a σ) rfl 5 (by decide) (hts (.fieldLink R_Bg 29 "FlatBoxes$Bags" "kinds" "[I") (List.mem_cons_of_mem _ (gIn k_225 (by decide +kernel)))) (fun _ h9 => h9) rfl d_Bg_judge_25 ?_
      refine lv_iload_n hx hb d_Bg_judge_28 rfl (lv_at hl 1 rfl) ?_
      refine g_iald hx hb hK.1 hP 38 0 (wFb_5 t a σ) rfl b (rfl) (by omega) (by decide) d_Bg_judge_29 ?_
      refine lv_topi (fun v_1 e_1 => ?_)
      obtain rfl : nI kc = v_1 := (e_1.trans (hkc)).symm
      refine lv_icmp_ge (tgt := 61) hx hb d_Bg_judge_30 (by decide) (fun c_2 => ?_) (fun c_2 => ?_)
      · 
        have h_2 : kc ≤ k := (nI_leI (a := kc) (b := k) (by omega) (by omega)).mp c_2
        refine lv_iconst (v := 1) hx hb d_Bg_judge_61 (by decide) ?_
        exact W.iret (v := 1) hx hb hr (fun U hU hW => ⟨⟨1, σ, rfl, by exact ⟨by rw [hs]; obtain rfl : d = 0 := (by omega); rfl, rfl⟩, by rw [hU]; exact hP, hD⟩, hS.F hU⟩) hS.2.2 d_Bg_judge_62
      · 
        have h_2 : ¬ kc ≤ k := fun q9 => c_2 ((nI_leI (a := kc) (b := k) (by omega) (by omega)).mpr q9)
        obtain ⟨d, rfl⟩ : ∃ d9, d = d9 + 1 := ⟨d - 1, by omega⟩
        refine lv_aload_n hx hb d_Bg_judge_33 rfl (lv_at hl 0 rfl) ?_
        refine lv_iload_n hx hb d_Bg_judge_34 rfl (lv_at hl 1 rfl) ?_
        refine lv_iload_n hx hb d_Bg_judge_35 rfl (lv_at hl 3 rfl) ?_
        refine lv_iload_n hx hb d_Bg_judge_36 rfl (lv_at hl 2 rfl) ?_
        refine g_vi (k := 3) (As := [.int (nI b), .int (nI k), .int wt]) (rest := []) (own := R_Bg) (C := R_Bg) (index := 40) ⟨hx, hb, hml, hown, hts⟩ (c_Bg_couldHaveOneMore l D t a σ b k wt (by omega) (by omega)) (gg_Bg_40 _) (by decide +kernel) ⟨Nat.le_of_ble_eq_true rfl, Nat.le_of_ble_eq_true rfl⟩ rfl (va_recv hK.1 hP (ci := 0) (q0 := 6) rfl (wFb_o0 t a σ)) hK hP hD hS hl.1 rfl (Nat.le_of_ble_eq_true rfl) ⟨Nat.zero_le _, Nat.zero_le _⟩ d_Bg_judge_37 (fun r_3 u_3 H locs q_3 hP hD hS => ?_)
        obtain ⟨rfl, hu_3⟩ := q_3
        rw [hu_3] at hP hD
        refine lv_if_ne (tgt := 53) hx hb d_Bg_judge_40 (by decide) (fun c_4 => ?_) (fun c_4 => ?_)
        · 
          refine lv_iconst (v := 2) hx hb d_Bg_judge_53 (by decide) ?_
          exact W.iret (v := 2) hx hb hr (fun U hU hW => ⟨⟨2, σ, rfl, by exact ⟨by rw [hs]; simp [fJ, c_2, h_2, c_4], rfl⟩, by rw [hU]; exact hP, hD⟩, hS.F hU⟩) hS.2.2 d_Bg_judge_54
        · 
          refine lv_aload_n hx hb d_Bg_judge_43 rfl (lv_at hl 0 rfl) ?_
          refine lv_iload_n hx hb d_Bg_judge_44 rfl (lv_at hl 1 rfl) ?_
          refine lv_iload_n hx hb d_Bg_judge_45 rfl (lv_at hl 3 rfl) ?_
          refine lv_iload_n hx hb d_Bg_judge_46 rfl (lv_at hl 2 rfl) ?_
          refine g_vi (k := 3) (As := [.int (nI b), .int (nI k), .int wt]) (rest := []) (own := R_Bg) (C := R_Bg) (index := 43) ⟨hx, hb, hml, hown, hts⟩ (c_Bg_couldHaveOneLess l D t a σ b k wt (by omega) (by omega)) (gg_Bg_43 _) (by decide +kernel) ⟨Nat.le_of_ble_eq_true rfl, Nat.le_of_ble_eq_true rfl⟩ rfl (va_recv hK.1 hP (ci := 0) (q0 := 6) rfl (wFb_o0 t a σ)) hK hP hD hS hl.1 rfl (Nat.le_of_ble_eq_true rfl) ⟨Nat.zero_le _, Nat.zero_le _⟩ d_Bg_judge_47 (fun r_5 u_5 H locs q_5 hP hD hS => ?_)
          obtain ⟨rfl, hu_5⟩ := q_5
          rw [hu_5] at hP hD
          refine lv_if_eq (tgt := 55) hx hb d_Bg_judge_50 (by decide) (fun c_6 => ?_) (fun c_6 => ?_)
          · 
            refine lv_iinc (v := nI (k + 1)) (lv' := [(3, .int (nI (k + 1))), (0, .ref (a 99)), (1, .int (nI b)), (2, .int wt)]) hx hb d_Bg_judge_55 hl (k := 3) rfl (nI_1 k) (by decide) rfl (fun ls hl => ?_)
            refine lv_goto (tgt := 23) hx hb d_Bg_judge_58 (by decide) ?_
            exact ih d (k + 1) _ _ _ (by omega) (by omega) (by rw [hs]; simp [fJ, c_2, h_2, c_4, c_6]) hP hD hS (lv_sub hl [1, 2, 3, 0] rfl)
          · 
            refine lv_iconst (v := 2) hx hb d_Bg_judge_53 (by decide) ?_
            exact W.iret (v := 2) hx hb hr (fun U hU hW => ⟨⟨2, σ, rfl, by exact ⟨by rw [hs]; simp [fJ, c_2, h_2, c_4, c_6], rfl⟩, by rw [hU]; exact hP, hD⟩, hS.F hU⟩) hS.2.2 d_Bg_judge_54
  refine lv_iload_n hx hb d_Bg_judge_0 rfl (lv_at hl 2 rfl) ?_
  refine lv_aload_n hx hb d_Bg_judge_1 rfl (lv_at hl 0 rfl) ?_
  refine va_get (D := D) (ci := 0) (v := .ref (a 3)) (C := R_Bg) (T := F_Bg) (N := 7) hx hb hts (fun w h => List.mem_cons_of_mem _ (i_Bg w h)) hown hK.1 hP 6 (wFb_o0 t a σ) rfl 3 (by decide) (hts (.fieldLink R_Bg 22 "FlatBoxes$Bags" "sum" "[I") (List.mem_cons_of_mem _ (gIn k_223 (by decide +kernel)))) (fun _ h9 => h9) rfl d_Bg_judge_2 ?_
  refine lv_iload_n hx hb d_Bg_judge_5 rfl (lv_at hl 1 rfl) ?_
  refine g_iald hx hb hK.1 hP 36 0 (wFb_3 t a σ) rfl b (rfl) (by omega) (by decide) d_Bg_judge_6 ?_
  refine lv_aload_n hx hb d_Bg_judge_7 rfl (lv_at hl 0 rfl) ?_
  refine va_get (D := D) (ci := 0) (v := .ref (a 4)) (C := R_Bg) (T := F_Bg) (N := 7) hx hb hts (fun w h => List.mem_cons_of_mem _ (i_Bg w h)) hown hK.1 hP 6 (wFb_o0 t a σ) rfl 4 (by decide) (hts (.fieldLink R_Bg 26 "FlatBoxes$Bags" "spreads" "[I") (List.mem_cons_of_mem _ (gIn k_224 (by decide +kernel)))) (fun _ h9 => h9) rfl d_Bg_judge_8 ?_
  refine lv_iload_n hx hb d_Bg_judge_11 rfl (lv_at hl 1 rfl) ?_
  refine g_iald hx hb hK.1 hP 37 0 (wFb_4 t a σ) rfl b (rfl) (by omega) (by decide) d_Bg_judge_12 ?_
  refine g_si (k := 3) (As := [.int wt, .int (σ 3 b), .int (σ 4 b)]) (rest := []) (own := R_Bg) (index := 36) ⟨hx, hb, hml, hown, hts⟩ (c_Bg_isNear l D t a σ wt (σ 3 b) (σ 4 b)) (gg_Bg_36 _) (by decide +kernel) ⟨Nat.le_of_ble_eq_true rfl, Nat.le_of_ble_eq_true rfl⟩ rfl hK hP hD hS hl.1 rfl (Nat.le_of_ble_eq_true rfl) ⟨Nat.zero_le _, Nat.zero_le _⟩ d_Bg_judge_13 (fun r_7 u_7 H locs q_7 hP hD hS => ?_)
  obtain ⟨rfl, hu_7⟩ := q_7
  rw [hu_7] at hP hD
  refine lv_if_ne (tgt := 21) hx hb d_Bg_judge_16 (by decide) (fun c_8 => ?_) (fun c_8 => ?_)
  · 
    refine lv_iconst (v := 0) hx hb d_Bg_judge_21 (by decide) ?_
    refine lv_istore_n (lv' := [(3, .int 0), (0, .ref (a 99)), (1, .int (nI b)), (2, .int wt)]) hx hb d_Bg_judge_22 rfl hl (by decide) rfl (fun ls hl => ?_)
    exact cut_23 (kc + 1) kc 0 _ _ _ (by omega) (by omega) (by simp [fJudge, c_8]) hP hD hS (lv_sub hl [1, 2, 3, 0] rfl)
  · 
    refine lv_iconst (v := 0) hx hb d_Bg_judge_19 (by decide) ?_
    exact W.iret (v := 0) hx hb hr (fun U hU hW => ⟨⟨0, σ, rfl, by exact ⟨by simp [fJudge, c_8], rfl⟩, by rw [hU]; exact hP, hD⟩, hS.F hU⟩) hS.2.2 d_Bg_judge_20
set_option maxHeartbeats 4000000 in
set_option maxRecDepth 100000 in
theorem c_Sh_forget (l : Launch) (D : va_G) (t : Nat → ClassId) (a : Nat → Nat) (σ : Nat → Nat → Int32)  : gMv l D t y_Sh_forget b_Sh_forget 1 0 [.ref (a 599)] (wFb t a σ) (wFb t a) (fun u => u = gSt (gSt σ 502 0 0) 503 0 (-1)) := by
  intro A
  refine Met.ofW (cc := b_Sh_forget) (maxL := 1) (ret := none) (by decide) rfl ?_
  intro p e s m args below meth c s₁ B hml hv
  obtain ⟨rfl, hK, hP, hD⟩ := hv
  have hx := B.exec
  have hb := B.bytes
  have hr := B.returns
  have hts := atoms_spec (ws := .code y_Sh_forget b_Sh_forget 1 none :: gBig) B.pre
  have hown : s.vm.findClass R_Sh = some m.cls := findClass_of_methodNamed B.named
  have hlocks := B.notSynchronized
  have hS : va_S A s.heap s.heap [] := va_S.rf
  have hl := lv_entry ([.ref (a 599)]) (n := 1) (Nat.le_of_ble_eq_true rfl)
  rw [lg_entry_eq]
  generalize (lg_sl ([.ref (a 599)]) ++ List.replicate (1 - (lg_sl ([.ref (a 599)])).length) Slot.unset).toArray = ls at hl ⊢
  have hl : lv_has ls 1 [(0, .ref (a 599))] := hl
  show gGov l p e s m below meth c D t A 0 [.ref (a 599)] (wFb t a) (fun u => u = gSt (gSt σ 502 0 0) 503 0 (-1)) s.heap [] (F0 m 0 ls [])
  refine lv_aload_n hx hb d_Sh_forget_0 rfl (lv_at hl 0 rfl) ?_
  refine lv_iconst (v := 0) hx hb d_Sh_forget_1 (by decide) ?_
  refine va_put (D := D) (ci := 5) (v := .int 0) (ty := .boolean) (C := R_Sh) (T := F_Sh) (N := 5) hx hb hts (fun w h => List.mem_cons_of_mem _ (i_Sh w h)) t_Sh t_Sh_ok n_Sh hown hK.1 hP hD hS 5 (wFb_o5 t a σ) rfl 2 (by decide) (hts (.fieldLink R_Sh 23 "FlatBoxes$Shares" "areSought" "Z") (List.mem_cons_of_mem _ (gIn k_196 (by decide +kernel)))) (fun _ h9 => h9) rfl (by decide +kernel) rfl rfl (Nat.le_of_ble_eq_true rfl) d_Sh_forget_2 (fun H locs hP hD hS => ?_)
  have hP : va_P D gCl (wFb t a (gSt σ 502 0 0)) H := hP
  have hD : va_D A (wFb t a (gSt σ 502 0 0)) := hD
  refine lv_aload_n hx hb d_Sh_forget_5 rfl (lv_at hl 0 rfl) ?_
  refine lv_iconst (v := -1) hx hb d_Sh_forget_6 (by decide) ?_
  refine va_put (D := D) (ci := 5) (v := .int (-1)) (ty := .int) (C := R_Sh) (T := F_Sh) (N := 5) hx hb hts (fun w h => List.mem_cons_of_mem _ (i_Sh w h)) t_Sh t_Sh_ok n_Sh hown hK.1 hP hD hS 5 (wFb_o5 t a (gSt σ 502 0 0)) rfl 3 (by decide) (hts (.fieldLink R_Sh 19 "FlatBoxes$Shares" "boxes" "I") (List.mem_cons_of_mem _ (gIn k_198 (by decide +kernel)))) (fun _ h9 => h9) rfl (by decide +kernel) rfl rfl (Nat.le_of_ble_eq_true rfl) d_Sh_forget_7 (fun H locs hP hD hS => ?_)
  have hP : va_P D gCl (wFb t a (gSt (gSt σ 502 0 0) 503 0 (-1))) H := hP
  have hD : va_D A (wFb t a (gSt (gSt σ 502 0 0) 503 0 (-1))) := hD
  exact W.vret hx hb hr (fun U hU hW => ⟨⟨gSt (gSt σ 502 0 0) 503 0 (-1), rfl, by rfl, by rw [hU]; exact hP, hD⟩, hS.F hU⟩) hS.2.2 d_Sh_forget_10
set_option maxHeartbeats 4000000 in
set_option maxRecDepth 100000 in
theorem c_Ct_add (l : Launch) (D : va_G) (t : Nat → ClassId) (a : Nat → Nat) (σ : Nat → Nat → Int32) (wd dp ht ct gr : Int32) (nc : Nat) (hC : σ 105 0 = nI nc) (hC4 : nc < 4) : gMi l D t y_Ct_add b_Ct_add 7 (some .int) 0 [.ref (a 199), .int wd, .int dp, .int ht, .int ct, .int gr] (wFb t a σ) (wFb t a) (fun r u => r = nI nc ∧ u = fCartU σ nc wd dp ht ct gr) := by
  intro A
  refine Met.ofW (cc := b_Ct_add) (maxL := 7) (ret := (some .int)) (by decide) rfl ?_
  intro p e s m args below meth c s₁ B hml hv
  obtain ⟨rfl, hK, hP, hD⟩ := hv
  have hx := B.exec
  have hb := B.bytes
  have hr := B.returns
  have hts := atoms_spec (ws := .code y_Ct_add b_Ct_add 7 (some .int) :: gBig) B.pre
  have hown : s.vm.findClass R_Ct = some m.cls := findClass_of_methodNamed B.named
  have hlocks := B.notSynchronized
  have hS : va_S A s.heap s.heap [] := va_S.rf
  have hl := lv_entry ([.ref (a 199), .int wd, .int dp, .int ht, .int ct, .int gr]) (n := 7) (Nat.le_of_ble_eq_true rfl)
  rw [lg_entry_eq]
  generalize (lg_sl ([.ref (a 199), .int wd, .int dp, .int ht, .int ct, .int gr]) ++ List.replicate (7 - (lg_sl ([.ref (a 199), .int wd, .int dp, .int ht, .int ct, .int gr])).length) Slot.unset).toArray = ls at hl ⊢
  have hl : lv_has ls 7 [(0, .ref (a 199)), (1, .int wd), (2, .int dp), (3, .int ht), (4, .int ct), (5, .int gr)] := hl
  show gGo l p e s m below meth c D t A 0 [.ref (a 199), .int wd, .int dp, .int ht, .int ct, .int gr] (wFb t a) (fun r u => r = nI nc ∧ u = fCartU σ nc wd dp ht ct gr) s.heap [] (F0 m 0 ls [])
  refine lv_aload_n hx hb d_Ct_add_0 rfl (lv_at hl 0 rfl) ?_
  refine va_get (D := D) (ci := 1) (v := .int (σ 105 0)) (C := R_Ct) (T := F_Ct) (N := 6) hx hb hts (fun w h => List.mem_cons_of_mem _ (i_Ct w h)) hown hK.1 hP 1 (wFb_o1 t a σ) rfl 5 (by decide) (hts (.fieldLink R_Ct 27 "FlatBoxes$Cartons" "count" "I") (List.mem_cons_of_mem _ (gIn k_46 (by decide +kernel)))) (fun _ h9 => h9) rfl d_Ct_add_1 ?_
  refine lv_topi (fun v_1 e_1 => ?_)
  obtain rfl : nI nc = v_1 := (e_1.trans hC).symm
  refine lv_istore (lv' := [(6, .int (nI nc)), (0, .ref (a 199)), (1, .int wd), (2, .int dp), (3, .int ht), (4, .int ct), (5, .int gr)]) hx hb d_Ct_add_4 hl (by decide) rfl (fun ls hl => ?_)
  refine lv_aload_n hx hb d_Ct_add_6 rfl (lv_at hl 1 rfl) ?_
  refine va_get (D := D) (ci := 1) (v := .ref (a 100)) (C := R_Ct) (T := F_Ct) (N := 6) hx hb hts (fun w h => List.mem_cons_of_mem _ (i_Ct w h)) hown hK.1 hP 1 (wFb_o1 t a σ) rfl 0 (by decide) (hts (.fieldLink R_Ct 9 "FlatBoxes$Cartons" "width" "[I") (List.mem_cons_of_mem _ (gIn k_32 (by decide +kernel)))) (fun _ h9 => h9) rfl d_Ct_add_7 ?_
  refine lv_iload hx hb d_Ct_add_10 (lv_at hl 0 rfl) ?_
  refine lv_iload_n hx hb d_Ct_add_12 rfl (lv_at hl 2 rfl) ?_
  refine g_iast hx hb hK.1 hP hD hS 7 0 (wFb_100 t a σ) rfl nc (rfl) (by omega) (by decide) (w' := wFb t a (gSt σ 100 nc wd)) (sFb_100 t a σ nc wd) d_Ct_add_13 (fun H locs hP hD hS => ?_)
  refine lv_aload_n hx hb d_Ct_add_14 rfl (lv_at hl 1 rfl) ?_
  refine va_get (D := D) (ci := 1) (v := .ref (a 101)) (C := R_Ct) (T := F_Ct) (N := 6) hx hb hts (fun w h => List.mem_cons_of_mem _ (i_Ct w h)) hown hK.1 hP 1 (wFb_o1 t a (gSt σ 100 nc wd)) rfl 1 (by decide) (hts (.fieldLink R_Ct 15 "FlatBoxes$Cartons" "depth" "[I") (List.mem_cons_of_mem _ (gIn k_35 (by decide +kernel)))) (fun _ h9 => h9) rfl d_Ct_add_15 ?_
  refine lv_iload hx hb d_Ct_add_18 (lv_at hl 0 rfl) ?_
  refine lv_iload_n hx hb d_Ct_add_20 rfl (lv_at hl 3 rfl) ?_
  refine g_iast hx hb hK.1 hP hD hS 8 0 (wFb_101 t a (gSt σ 100 nc wd)) rfl nc (rfl) (by omega) (by decide) (w' := wFb t a (gSt (gSt σ 100 nc wd) 101 nc dp)) (sFb_101 t a (gSt σ 100 nc wd) nc dp) d_Ct_add_21 (fun H locs hP hD hS => ?_)
  refine lv_aload_n hx hb d_Ct_add_22 rfl (lv_at hl 1 rfl) ?_
  refine va_get (D := D) (ci := 1) (v := .ref (a 102)) (C := R_Ct) (T := F_Ct) (N := 6) hx hb hts (fun w h => List.mem_cons_of_mem _ (i_Ct w h)) hown hK.1 hP 1 (wFb_o1 t a (gSt (gSt σ 100 nc wd) 101 nc dp)) rfl 2 (by decide) (hts (.fieldLink R_Ct 18 "FlatBoxes$Cartons" "height" "[I") (List.mem_cons_of_mem _ (gIn k_38 (by decide +kernel)))) (fun _ h9 => h9) rfl d_Ct_add_23 ?_
  refine lv_iload hx hb d_Ct_add_26 (lv_at hl 0 rfl) ?_
  refine lv_iload_n hx hb d_Ct_add_28 rfl (lv_at hl 4 rfl) ?_
  refine g_iast hx hb hK.1 hP hD hS 9 0 (wFb_102 t a (gSt (gSt σ 100 nc wd) 101 nc dp)) rfl nc (rfl) (by omega) (by decide) (w' := wFb t a (gSt (gSt (gSt σ 100 nc wd) 101 nc dp) 102 nc ht)) (sFb_102 t a (gSt (gSt σ 100 nc wd) 101 nc dp) nc ht) d_Ct_add_29 (fun H locs hP hD hS => ?_)
  refine lv_aload_n hx hb d_Ct_add_30 rfl (lv_at hl 1 rfl) ?_
  refine va_get (D := D) (ci := 1) (v := .ref (a 103)) (C := R_Ct) (T := F_Ct) (N := 6) hx hb hts (fun w h => List.mem_cons_of_mem _ (i_Ct w h)) hown hK.1 hP 1 (wFb_o1 t a (gSt (gSt (gSt σ 100 nc wd) 101 nc dp) 102 nc ht)) rfl 3 (by decide) (hts (.fieldLink R_Ct 21 "FlatBoxes$Cartons" "cents" "[I") (List.mem_cons_of_mem _ (gIn k_41 (by decide +kernel)))) (fun _ h9 => h9) rfl d_Ct_add_31 ?_
  refine lv_iload hx hb d_Ct_add_34 (lv_at hl 0 rfl) ?_
  refine lv_iload hx hb d_Ct_add_36 (lv_at hl 5 rfl) ?_
  refine g_iast hx hb hK.1 hP hD hS 10 0 (wFb_103 t a (gSt (gSt (gSt σ 100 nc wd) 101 nc dp) 102 nc ht)) rfl nc (rfl) (by omega) (by decide) (w' := wFb t a (gSt (gSt (gSt (gSt σ 100 nc wd) 101 nc dp) 102 nc ht) 103 nc ct)) (sFb_103 t a (gSt (gSt (gSt σ 100 nc wd) 101 nc dp) 102 nc ht) nc ct) d_Ct_add_38 (fun H locs hP hD hS => ?_)
  refine lv_aload_n hx hb d_Ct_add_39 rfl (lv_at hl 1 rfl) ?_
  refine va_get (D := D) (ci := 1) (v := .ref (a 104)) (C := R_Ct) (T := F_Ct) (N := 6) hx hb hts (fun w h => List.mem_cons_of_mem _ (i_Ct w h)) hown hK.1 hP 1 (wFb_o1 t a (gSt (gSt (gSt (gSt σ 100 nc wd) 101 nc dp) 102 nc ht) 103 nc ct)) rfl 4 (by decide) (hts (.fieldLink R_Ct 24 "FlatBoxes$Cartons" "grams" "[I") (List.mem_cons_of_mem _ (gIn k_44 (by decide +kernel)))) (fun _ h9 => h9) rfl d_Ct_add_40 ?_
  refine lv_iload hx hb d_Ct_add_43 (lv_at hl 0 rfl) ?_
  refine lv_iload hx hb d_Ct_add_45 (lv_at hl 6 rfl) ?_
  refine g_iast hx hb hK.1 hP hD hS 11 0 (wFb_104 t a (gSt (gSt (gSt (gSt σ 100 nc wd) 101 nc dp) 102 nc ht) 103 nc ct)) rfl nc (rfl) (by omega) (by decide) (w' := wFb t a (gSt (gSt (gSt (gSt (gSt σ 100 nc wd) 101 nc dp) 102 nc ht) 103 nc ct) 104 nc gr)) (sFb_104 t a (gSt (gSt (gSt (gSt σ 100 nc wd) 101 nc dp) 102 nc ht) 103 nc ct) nc gr) d_Ct_add_47 (fun H locs hP hD hS => ?_)
  refine lv_aload_n hx hb d_Ct_add_48 rfl (lv_at hl 1 rfl) ?_
  refine lv_iload hx hb d_Ct_add_49 (lv_at hl 0 rfl) ?_
  refine lv_iconst (v := 1) hx hb d_Ct_add_51 (by decide) ?_
  refine lv_iadd hx hb d_Ct_add_52 ?_
  refine lv_topi (fun v_2 e_2 => ?_)
  obtain rfl : nI (nc + 1) = v_2 := (e_2.trans (nI_1 _)).symm
  refine va_put (D := D) (ci := 1) (v := .int (nI (nc + 1))) (ty := .int) (C := R_Ct) (T := F_Ct) (N := 6) hx hb hts (fun w h => List.mem_cons_of_mem _ (i_Ct w h)) t_Ct t_Ct_ok n_Ct hown hK.1 hP hD hS 1 (wFb_o1 t a (gSt (gSt (gSt (gSt (gSt σ 100 nc wd) 101 nc dp) 102 nc ht) 103 nc ct) 104 nc gr)) rfl 5 (by decide) (hts (.fieldLink R_Ct 27 "FlatBoxes$Cartons" "count" "I") (List.mem_cons_of_mem _ (gIn k_46 (by decide +kernel)))) (fun _ h9 => h9) rfl (by decide +kernel) rfl rfl (Nat.le_of_ble_eq_true rfl) d_Ct_add_53 (fun H locs hP hD hS => ?_)
  have hP : va_P D gCl (wFb t a (gSt (gSt (gSt (gSt (gSt (gSt σ 100 nc wd) 101 nc dp) 102 nc ht) 103 nc ct) 104 nc gr) 105 0 (nI (nc + 1)))) H := hP
  have hD : va_D A (wFb t a (gSt (gSt (gSt (gSt (gSt (gSt σ 100 nc wd) 101 nc dp) 102 nc ht) 103 nc ct) 104 nc gr) 105 0 (nI (nc + 1)))) := hD
  refine lv_iload hx hb d_Ct_add_56 (lv_at hl 0 rfl) ?_
  exact W.iret (v := nI nc) hx hb hr (fun U hU hW => ⟨⟨nI nc, gSt (gSt (gSt (gSt (gSt (gSt σ 100 nc wd) 101 nc dp) 102 nc ht) 103 nc ct) 104 nc gr) 105 0 (nI (nc + 1)), rfl, by exact ⟨rfl, rfl⟩, by rw [hU]; exact hP, hD⟩, hS.F hU⟩) hS.2.2 d_Ct_add_58
set_option maxHeartbeats 4000000 in
set_option maxRecDepth 100000 in
theorem c_Pt_sortInByThickness (l : Launch) (D : va_G) (t : Nat → ClassId) (a : Nat → Nat) (σ : Nat → Nat → Int32) (pq : Nat) (hq8 : pq < 8) (bt : Nat → Nat) (hbt : ∀ k, k < pq → σ 306 k = nI (bt k) ∧ bt k < 8) : gMv l D t y_Pt_sortInByThickness b_Pt_sortInByThickness 3 0 [.ref (a 399), .int (nI pq)] (wFb t a σ) (wFb t a) (fun u => u = fSrt 306 pq bt (fGo1 σ bt pq) pq σ) := by
  intro A
  refine Met.ofW (cc := b_Pt_sortInByThickness) (maxL := 3) (ret := none) (by decide) rfl ?_
  intro p e s m args below meth c s₁ B hml hv
  obtain ⟨rfl, hK, hP, hD⟩ := hv
  have hx := B.exec
  have hb := B.bytes
  have hr := B.returns
  have hts := atoms_spec (ws := .code y_Pt_sortInByThickness b_Pt_sortInByThickness 3 none :: gBig) B.pre
  have hown : s.vm.findClass R_Pt = some m.cls := findClass_of_methodNamed B.named
  have hlocks := B.notSynchronized
  have hS : va_S A s.heap s.heap [] := va_S.rf
  have hl := lv_entry ([.ref (a 399), .int (nI pq)]) (n := 3) (Nat.le_of_ble_eq_true rfl)
  rw [lg_entry_eq]
  generalize (lg_sl ([.ref (a 399), .int (nI pq)]) ++ List.replicate (3 - (lg_sl ([.ref (a 399), .int (nI pq)])).length) Slot.unset).toArray = ls at hl ⊢
  have hl : lv_has ls 3 [(0, .ref (a 399)), (1, .int (nI pq))] := hl
  show gGov l p e s m below meth c D t A 0 [.ref (a 399), .int (nI pq)] (wFb t a) (fun u => u = fSrt 306 pq bt (fGo1 σ bt pq) pq σ) s.heap [] (F0 m 0 ls [])
  have cut_2 : ∀ (n : Nat) (pl : Nat) (τ : Nat → Nat → Int32) (H : Heap) (locs : List Loc) (ls : Array Slot), (pl ≤ pq) → (pl + 1 ≤ n) → (fSrt 306 pq bt (fGo1 σ bt pq) pq σ = fSrt 306 pq bt (fGo1 σ bt pq) pl τ) → (∀ k, k < pl → τ 306 k = nI (bt k)) → (τ 302 = σ 302) → va_P D gCl (wFb t a τ) H → va_D A (wFb t a τ) → va_S A s.heap H locs → lv_has ls 3 [(0, .ref (a 399)), (1, .int (nI pq)), (2, .int (nI pl))] → gGov l p e s m below meth c D t A 0 [.ref (a 399), .int (nI pq)] (wFb t a) (fun u => u = fSrt 306 pq bt (fGo1 σ bt pq) pq σ) H locs (F0 m 2 ls []) := by
    intro n
    induction n with
    | zero =>
      intro pl τ H locs ls hpl hf hs hlow hf9 hP hD hS hl
      exact absurd hf (by omega)
    | succ n ih =>
      intro pl τ H locs ls hpl hf hs hlow hf9 hP hD hS hl
      refine lv_iload_n hx hb d_Pt_sortInByThickness_2 rfl (lv_at hl 2 rfl) ?_
      refine lv_if_le (tgt := 48) hx hb d_Pt_sortInByThickness_3 (by decide) (fun c_1 => ?_) (fun c_1 => ?_)
      · 
        have h_1 : pl ≤ 0 := (nI_leI (a := pl) (b := 0) (by omega) (by omega)).mp c_1
        refine lv_aload_n hx hb d_Pt_sortInByThickness_48 rfl (lv_at hl 0 rfl) ?_
        refine va_get (D := D) (ci := 3) (v := .ref (a 306)) (C := R_Pt) (T := F_Pt) (N := 9) hx hb hts (fun w h => List.mem_cons_of_mem _ (i_Pt w h)) hown hK.1 hP 2 (wFb_o3 t a τ) rfl 6 (by decide) (hts (.fieldLink R_Pt 31 "FlatBoxes$Parts" "byThickness" "[I") (List.mem_cons_of_mem _ (gIn k_81 (by decide +kernel)))) (fun _ h9 => h9) rfl d_Pt_sortInByThickness_49 ?_
        refine lv_iload_n hx hb d_Pt_sortInByThickness_52 rfl (lv_at hl 2 rfl) ?_
        refine lv_iload_n hx hb d_Pt_sortInByThickness_53 rfl (lv_at hl 1 rfl) ?_
        refine g_iast hx hb hK.1 hP hD hS 18 0 (wFb_306 t a τ) rfl pl (rfl) (by omega) (by decide) (w' := wFb t a (gSt τ 306 pl (nI pq))) (sFb_306 t a τ pl (nI pq)) d_Pt_sortInByThickness_54 (fun H locs hP hD hS => ?_)
        exact W.vret hx hb hr (fun U hU hW => ⟨⟨gSt τ 306 pl (nI pq), rfl, by rw [hs]; obtain rfl : pl = 0 := (by omega); rfl, by rw [hU]; exact hP, hD⟩, hS.F hU⟩) hS.2.2 d_Pt_sortInByThickness_55
      · 
        have h_1 : ¬ pl ≤ 0 := fun q9 => c_1 ((nI_leI (a := pl) (b := 0) (by omega) (by omega)).mpr q9)
        obtain ⟨p9, rfl⟩ : ∃ p9, pl = p9 + 1 := ⟨pl - 1, by omega⟩
        have hb8 := (hbt p9 (by omega)).2
        refine lv_aload_n hx hb d_Pt_sortInByThickness_6 rfl (lv_at hl 0 rfl) ?_
        refine va_get (D := D) (ci := 3) (v := .ref (a 302)) (C := R_Pt) (T := F_Pt) (N := 9) hx hb hts (fun w h => List.mem_cons_of_mem _ (i_Pt w h)) hown hK.1 hP 2 (wFb_o3 t a τ) rfl 2 (by decide) (hts (.fieldLink R_Pt 18 "FlatBoxes$Parts" "thick" "[I") (List.mem_cons_of_mem _ (gIn k_72 (by decide +kernel)))) (fun _ h9 => h9) rfl d_Pt_sortInByThickness_7 ?_
        refine lv_aload_n hx hb d_Pt_sortInByThickness_10 rfl (lv_at hl 0 rfl) ?_
        refine va_get (D := D) (ci := 3) (v := .ref (a 306)) (C := R_Pt) (T := F_Pt) (N := 9) hx hb hts (fun w h => List.mem_cons_of_mem _ (i_Pt w h)) hown hK.1 hP 2 (wFb_o3 t a τ) rfl 6 (by decide) (hts (.fieldLink R_Pt 31 "FlatBoxes$Parts" "byThickness" "[I") (List.mem_cons_of_mem _ (gIn k_81 (by decide +kernel)))) (fun _ h9 => h9) rfl d_Pt_sortInByThickness_11 ?_
        refine lv_iload_n hx hb d_Pt_sortInByThickness_14 rfl (lv_at hl 2 rfl) ?_
        refine lv_iconst (v := 1) hx hb d_Pt_sortInByThickness_15 (by decide) ?_
        refine lv_isub hx hb d_Pt_sortInByThickness_16 ?_
        refine lv_topi (fun v_2 e_2 => ?_)
        obtain rfl : nI p9 = v_2 := (e_2.trans (nI_pred p9)).symm
        refine g_iald hx hb hK.1 hP 18 0 (wFb_306 t a τ) rfl p9 (rfl) (by omega) (by decide) d_Pt_sortInByThickness_17 ?_
        refine lv_topi (fun v_3 e_3 => ?_)
        obtain rfl : nI (bt p9) = v_3 := (e_3.trans (hlow p9 (by omega))).symm
        refine g_iald hx hb hK.1 hP 14 0 (wFb_302 t a τ) rfl (bt p9) (rfl) (by omega) (by decide) d_Pt_sortInByThickness_18 ?_
        refine lv_topi (fun v_4 e_4 => ?_)
        obtain rfl : σ 302 (bt p9) = v_4 := (e_4.trans (congrFun hf9 _)).symm
        refine lv_aload_n hx hb d_Pt_sortInByThickness_19 rfl (lv_at hl 0 rfl) ?_
        refine va_get (D := D) (ci := 3) (v := .ref (a 302)) (C := R_Pt) (T := F_Pt) (N := 9) hx hb hts (fun w h => List.mem_cons_of_mem _ (i_Pt w h)) hown hK.1 hP 2 (wFb_o3 t a τ) rfl 2 (by decide) (hts (.fieldLink R_Pt 18 "FlatBoxes$Parts" "thick" "[I") (List.mem_cons_of_mem _ (gIn k_72 (by decide +kernel)))) (fun _ h9 => h9) rfl d_Pt_sortInByThickness_20 ?_
        refine lv_iload_n hx hb d_Pt_sortInByThickness_23 rfl (lv_at hl 1 rfl) ?_
        refine g_iald hx hb hK.1 hP 14 0 (wFb_302 t a τ) rfl pq (rfl) (by omega) (by decide) d_Pt_sortInByThickness_24 ?_
        refine lv_topi (fun v_5 e_5 => ?_)
        obtain rfl : σ 302 pq = v_5 := (e_5.trans (congrFun hf9 _)).symm
        refine lv_icmp_ge (tgt := 48) hx hb d_Pt_sortInByThickness_25 (by decide) (fun c_6 => ?_) (fun c_6 => ?_)
        · 
          refine lv_aload_n hx hb d_Pt_sortInByThickness_48 rfl (lv_at hl 0 rfl) ?_
          refine va_get (D := D) (ci := 3) (v := .ref (a 306)) (C := R_Pt) (T := F_Pt) (N := 9) hx hb hts (fun w h => List.mem_cons_of_mem _ (i_Pt w h)) hown hK.1 hP 2 (wFb_o3 t a τ) rfl 6 (by decide) (hts (.fieldLink R_Pt 31 "FlatBoxes$Parts" "byThickness" "[I") (List.mem_cons_of_mem _ (gIn k_81 (by decide +kernel)))) (fun _ h9 => h9) rfl d_Pt_sortInByThickness_49 ?_
          refine lv_iload_n hx hb d_Pt_sortInByThickness_52 rfl (lv_at hl 2 rfl) ?_
          refine lv_iload_n hx hb d_Pt_sortInByThickness_53 rfl (lv_at hl 1 rfl) ?_
          refine g_iast hx hb hK.1 hP hD hS 18 0 (wFb_306 t a τ) rfl (p9 + 1) (rfl) (by omega) (by decide) (w' := wFb t a (gSt τ 306 (p9 + 1) (nI pq))) (sFb_306 t a τ (p9 + 1) (nI pq)) d_Pt_sortInByThickness_54 (fun H locs hP hD hS => ?_)
          exact W.vret hx hb hr (fun U hU hW => ⟨⟨gSt τ 306 (p9 + 1) (nI pq), rfl, by rw [hs]; simp [fSrt, fGo1, c_1, h_1, c_6], by rw [hU]; exact hP, hD⟩, hS.F hU⟩) hS.2.2 d_Pt_sortInByThickness_55
        · 
          refine lv_aload_n hx hb d_Pt_sortInByThickness_28 rfl (lv_at hl 0 rfl) ?_
          refine va_get (D := D) (ci := 3) (v := .ref (a 306)) (C := R_Pt) (T := F_Pt) (N := 9) hx hb hts (fun w h => List.mem_cons_of_mem _ (i_Pt w h)) hown hK.1 hP 2 (wFb_o3 t a τ) rfl 6 (by decide) (hts (.fieldLink R_Pt 31 "FlatBoxes$Parts" "byThickness" "[I") (List.mem_cons_of_mem _ (gIn k_81 (by decide +kernel)))) (fun _ h9 => h9) rfl d_Pt_sortInByThickness_29 ?_
          refine lv_iload_n hx hb d_Pt_sortInByThickness_32 rfl (lv_at hl 2 rfl) ?_
          refine lv_aload_n hx hb d_Pt_sortInByThickness_33 rfl (lv_at hl 0 rfl) ?_
          refine va_get (D := D) (ci := 3) (v := .ref (a 306)) (C := R_Pt) (T := F_Pt) (N := 9) hx hb hts (fun w h => List.mem_cons_of_mem _ (i_Pt w h)) hown hK.1 hP 2 (wFb_o3 t a τ) rfl 6 (by decide) (hts (.fieldLink R_Pt 31 "FlatBoxes$Parts" "byThickness" "[I") (List.mem_cons_of_mem _ (gIn k_81 (by decide +kernel)))) (fun _ h9 => h9) rfl d_Pt_sortInByThickness_34 ?_
          refine lv_iload_n hx hb d_Pt_sortInByThickness_37 rfl (lv_at hl 2 rfl) ?_
          refine lv_iconst (v := 1) hx hb d_Pt_sortInByThickness_38 (by decide) ?_
          refine lv_isub hx hb d_Pt_sortInByThickness_39 ?_
          refine lv_topi (fun v_7 e_7 => ?_)
          obtain rfl : nI p9 = v_7 := (e_7.trans (nI_pred p9)).symm
          refine g_iald hx hb hK.1 hP 18 0 (wFb_306 t a τ) rfl p9 (rfl) (by omega) (by decide) d_Pt_sortInByThickness_40 ?_
          refine lv_topi (fun v_8 e_8 => ?_)
          obtain rfl : nI (bt p9) = v_8 := (e_8.trans (hlow p9 (by omega))).symm
          refine g_iast hx hb hK.1 hP hD hS 18 0 (wFb_306 t a τ) rfl (p9 + 1) (rfl) (by omega) (by decide) (w' := wFb t a (gSt τ 306 (p9 + 1) (nI (bt p9)))) (sFb_306 t a τ (p9 + 1) (nI (bt p9))) d_Pt_sortInByThickness_41 (fun H locs hP hD hS => ?_)
          refine lv_iinc (v := nI p9) (lv' := [(2, .int (nI p9)), (0, .ref (a 399)), (1, .int (nI pq))]) hx hb d_Pt_sortInByThickness_42 hl (k := 2) rfl (by rw [gM1, nI_pred]) (by decide) rfl (fun ls hl => ?_)
          refine lv_goto (tgt := 2) hx hb d_Pt_sortInByThickness_45 (by decide) ?_
          exact ih p9 (gSt τ 306 (p9 + 1) (nI (bt p9))) _ _ _ (by omega) (by omega) (by rw [hs]; simp [fSrt, fGo1, c_1, h_1, c_6]) (fun k hk => by rw [gSt_eq, pk_un (by omega)]; exact hlow k (by omega)) (hf9) hP hD hS (lv_sub hl [1, 2, 0] rfl)
  refine lv_iload_n hx hb d_Pt_sortInByThickness_0 rfl (lv_at hl 1 rfl) ?_
  refine lv_istore_n (lv' := [(2, .int (nI pq)), (0, .ref (a 399)), (1, .int (nI pq))]) hx hb d_Pt_sortInByThickness_1 rfl hl (by decide) rfl (fun ls hl => ?_)
  exact cut_2 (pq + 1) pq σ _ _ _ (by omega) (by omega) (rfl) (fun k hk => (hbt k hk).1) (rfl) hP hD hS (lv_sub hl [1, 2, 0] rfl)
set_option maxHeartbeats 4000000 in
set_option maxRecDepth 100000 in
theorem c_Pt_sortInByStep (l : Launch) (D : va_G) (t : Nat → ClassId) (a : Nat → Nat) (σ : Nat → Nat → Int32) (pq : Nat) (hq8 : pq < 8) (bt : Nat → Nat) (hbt : ∀ k, k < pq → σ 307 k = nI (bt k) ∧ bt k < 8) : gMv l D t y_Pt_sortInByStep b_Pt_sortInByStep 3 0 [.ref (a 399), .int (nI pq)] (wFb t a σ) (wFb t a) (fun u => u = fSrt 307 pq bt (fGo2 σ bt pq) pq σ) := by
  intro A
  refine Met.ofW (cc := b_Pt_sortInByStep) (maxL := 3) (ret := none) (by decide) rfl ?_
  intro p e s m args below meth c s₁ B hml hv
  obtain ⟨rfl, hK, hP, hD⟩ := hv
  have hx := B.exec
  have hb := B.bytes
  have hr := B.returns
  have hts := atoms_spec (ws := .code y_Pt_sortInByStep b_Pt_sortInByStep 3 none :: gBig) B.pre
  have hown : s.vm.findClass R_Pt = some m.cls := findClass_of_methodNamed B.named
  have hlocks := B.notSynchronized
  have hS : va_S A s.heap s.heap [] := va_S.rf
  have hl := lv_entry ([.ref (a 399), .int (nI pq)]) (n := 3) (Nat.le_of_ble_eq_true rfl)
  rw [lg_entry_eq]
  generalize (lg_sl ([.ref (a 399), .int (nI pq)]) ++ List.replicate (3 - (lg_sl ([.ref (a 399), .int (nI pq)])).length) Slot.unset).toArray = ls at hl ⊢
  have hl : lv_has ls 3 [(0, .ref (a 399)), (1, .int (nI pq))] := hl
  show gGov l p e s m below meth c D t A 0 [.ref (a 399), .int (nI pq)] (wFb t a) (fun u => u = fSrt 307 pq bt (fGo2 σ bt pq) pq σ) s.heap [] (F0 m 0 ls [])
  have cut_2 : ∀ (n : Nat) (pl : Nat) (τ : Nat → Nat → Int32) (H : Heap) (locs : List Loc) (ls : Array Slot), (pl ≤ pq) → (pl + 1 ≤ n) → (fSrt 307 pq bt (fGo2 σ bt pq) pq σ = fSrt 307 pq bt (fGo2 σ bt pq) pl τ) → (∀ k, k < pl → τ 307 k = nI (bt k)) → (τ 304 = σ 304) → va_P D gCl (wFb t a τ) H → va_D A (wFb t a τ) → va_S A s.heap H locs → lv_has ls 3 [(0, .ref (a 399)), (1, .int (nI pq)), (2, .int (nI pl))] → gGov l p e s m below meth c D t A 0 [.ref (a 399), .int (nI pq)] (wFb t a) (fun u => u = fSrt 307 pq bt (fGo2 σ bt pq) pq σ) H locs (F0 m 2 ls []) := by
    intro n
    induction n with
    | zero =>
      intro pl τ H locs ls hpl hf hs hlow hf9 hP hD hS hl
      exact absurd hf (by omega)
    | succ n ih =>
      intro pl τ H locs ls hpl hf hs hlow hf9 hP hD hS hl
      refine lv_iload_n hx hb d_Pt_sortInByStep_2 rfl (lv_at hl 2 rfl) ?_
      refine lv_if_le (tgt := 48) hx hb d_Pt_sortInByStep_3 (by decide) (fun c_1 => ?_) (fun c_1 => ?_)
      · 
        have h_1 : pl ≤ 0 := (nI_leI (a := pl) (b := 0) (by omega) (by omega)).mp c_1
        refine lv_aload_n hx hb d_Pt_sortInByStep_48 rfl (lv_at hl 0 rfl) ?_
        refine va_get (D := D) (ci := 3) (v := .ref (a 307)) (C := R_Pt) (T := F_Pt) (N := 9) hx hb hts (fun w h => List.mem_cons_of_mem _ (i_Pt w h)) hown hK.1 hP 2 (wFb_o3 t a τ) rfl 7 (by decide) (hts (.fieldLink R_Pt 34 "FlatBoxes$Parts" "byStep" "[I") (List.mem_cons_of_mem _ (gIn k_83 (by decide +kernel)))) (fun _ h9 => h9) rfl d_Pt_sortInByStep_49 ?_
        refine lv_iload_n hx hb d_Pt_sortInByStep_52 rfl (lv_at hl 2 rfl) ?_
        refine lv_iload_n hx hb d_Pt_sortInByStep_53 rfl (lv_at hl 1 rfl) ?_
        refine g_iast hx hb hK.1 hP hD hS 19 0 (wFb_307 t a τ) rfl pl (rfl) (by omega) (by decide) (w' := wFb t a (gSt τ 307 pl (nI pq))) (sFb_307 t a τ pl (nI pq)) d_Pt_sortInByStep_54 (fun H locs hP hD hS => ?_)
        exact W.vret hx hb hr (fun U hU hW => ⟨⟨gSt τ 307 pl (nI pq), rfl, by rw [hs]; obtain rfl : pl = 0 := (by omega); rfl, by rw [hU]; exact hP, hD⟩, hS.F hU⟩) hS.2.2 d_Pt_sortInByStep_55
      · 
        have h_1 : ¬ pl ≤ 0 := fun q9 => c_1 ((nI_leI (a := pl) (b := 0) (by omega) (by omega)).mpr q9)
        obtain ⟨p9, rfl⟩ : ∃ p9, pl = p9 + 1 := ⟨pl - 1, by omega⟩
        have hb8 := (hbt p9 (by omega)).2
        refine lv_aload_n hx hb d_Pt_sortInByStep_6 rfl (lv_at hl 0 rfl) ?_
        refine va_get (D := D) (ci := 3) (v := .ref (a 304)) (C := R_Pt) (T := F_Pt) (N := 9) hx hb hts (fun w h => List.mem_cons_of_mem _ (i_Pt w h)) hown hK.1 hP 2 (wFb_o3 t a τ) rfl 4 (by decide) (hts (.fieldLink R_Pt 24 "FlatBoxes$Parts" "step" "[I") (List.mem_cons_of_mem _ (gIn k_76 (by decide +kernel)))) (fun _ h9 => h9) rfl d_Pt_sortInByStep_7 ?_
        refine lv_aload_n hx hb d_Pt_sortInByStep_10 rfl (lv_at hl 0 rfl) ?_
        refine va_get (D := D) (ci := 3) (v := .ref (a 307)) (C := R_Pt) (T := F_Pt) (N := 9) hx hb hts (fun w h => List.mem_cons_of_mem _ (i_Pt w h)) hown hK.1 hP 2 (wFb_o3 t a τ) rfl 7 (by decide) (hts (.fieldLink R_Pt 34 "FlatBoxes$Parts" "byStep" "[I") (List.mem_cons_of_mem _ (gIn k_83 (by decide +kernel)))) (fun _ h9 => h9) rfl d_Pt_sortInByStep_11 ?_
        refine lv_iload_n hx hb d_Pt_sortInByStep_14 rfl (lv_at hl 2 rfl) ?_
        refine lv_iconst (v := 1) hx hb d_Pt_sortInByStep_15 (by decide) ?_
        refine lv_isub hx hb d_Pt_sortInByStep_16 ?_
        refine lv_topi (fun v_2 e_2 => ?_)
        obtain rfl : nI p9 = v_2 := (e_2.trans (nI_pred p9)).symm
        refine g_iald hx hb hK.1 hP 19 0 (wFb_307 t a τ) rfl p9 (rfl) (by omega) (by decide) d_Pt_sortInByStep_17 ?_
        refine lv_topi (fun v_3 e_3 => ?_)
        obtain rfl : nI (bt p9) = v_3 := (e_3.trans (hlow p9 (by omega))).symm
        refine g_iald hx hb hK.1 hP 16 0 (wFb_304 t a τ) rfl (bt p9) (rfl) (by omega) (by decide) d_Pt_sortInByStep_18 ?_
        refine lv_topi (fun v_4 e_4 => ?_)
        obtain rfl : σ 304 (bt p9) = v_4 := (e_4.trans (congrFun hf9 _)).symm
        refine lv_aload_n hx hb d_Pt_sortInByStep_19 rfl (lv_at hl 0 rfl) ?_
        refine va_get (D := D) (ci := 3) (v := .ref (a 304)) (C := R_Pt) (T := F_Pt) (N := 9) hx hb hts (fun w h => List.mem_cons_of_mem _ (i_Pt w h)) hown hK.1 hP 2 (wFb_o3 t a τ) rfl 4 (by decide) (hts (.fieldLink R_Pt 24 "FlatBoxes$Parts" "step" "[I") (List.mem_cons_of_mem _ (gIn k_76 (by decide +kernel)))) (fun _ h9 => h9) rfl d_Pt_sortInByStep_20 ?_
        refine lv_iload_n hx hb d_Pt_sortInByStep_23 rfl (lv_at hl 1 rfl) ?_
        refine g_iald hx hb hK.1 hP 16 0 (wFb_304 t a τ) rfl pq (rfl) (by omega) (by decide) d_Pt_sortInByStep_24 ?_
        refine lv_topi (fun v_5 e_5 => ?_)
        obtain rfl : σ 304 pq = v_5 := (e_5.trans (congrFun hf9 _)).symm
        refine lv_icmp_le (tgt := 48) hx hb d_Pt_sortInByStep_25 (by decide) (fun c_6 => ?_) (fun c_6 => ?_)
        · 
          refine lv_aload_n hx hb d_Pt_sortInByStep_48 rfl (lv_at hl 0 rfl) ?_
          refine va_get (D := D) (ci := 3) (v := .ref (a 307)) (C := R_Pt) (T := F_Pt) (N := 9) hx hb hts (fun w h => List.mem_cons_of_mem _ (i_Pt w h)) hown hK.1 hP 2 (wFb_o3 t a τ) rfl 7 (by decide) (hts (.fieldLink R_Pt 34 "FlatBoxes$Parts" "byStep" "[I") (List.mem_cons_of_mem _ (gIn k_83 (by decide +kernel)))) (fun _ h9 => h9) rfl d_Pt_sortInByStep_49 ?_
          refine lv_iload_n hx hb d_Pt_sortInByStep_52 rfl (lv_at hl 2 rfl) ?_
          refine lv_iload_n hx hb d_Pt_sortInByStep_53 rfl (lv_at hl 1 rfl) ?_
          refine g_iast hx hb hK.1 hP hD hS 19 0 (wFb_307 t a τ) rfl (p9 + 1) (rfl) (by omega) (by decide) (w' := wFb t a (gSt τ 307 (p9 + 1) (nI pq))) (sFb_307 t a τ (p9 + 1) (nI pq)) d_Pt_sortInByStep_54 (fun H locs hP hD hS => ?_)
          exact W.vret hx hb hr (fun U hU hW => ⟨⟨gSt τ 307 (p9 + 1) (nI pq), rfl, by rw [hs]; simp [fSrt, fGo2, c_1, h_1, c_6], by rw [hU]; exact hP, hD⟩, hS.F hU⟩) hS.2.2 d_Pt_sortInByStep_55
        · 
          refine lv_aload_n hx hb d_Pt_sortInByStep_28 rfl (lv_at hl 0 rfl) ?_
          refine va_get (D := D) (ci := 3) (v := .ref (a 307)) (C := R_Pt) (T := F_Pt) (N := 9) hx hb hts (fun w h => List.mem_cons_of_mem _ (i_Pt w h)) hown hK.1 hP 2 (wFb_o3 t a τ) rfl 7 (by decide) (hts (.fieldLink R_Pt 34 "FlatBoxes$Parts" "byStep" "[I") (List.mem_cons_of_mem _ (gIn k_83 (by decide +kernel)))) (fun _ h9 => h9) rfl d_Pt_sortInByStep_29 ?_
          refine lv_iload_n hx hb d_Pt_sortInByStep_32 rfl (lv_at hl 2 rfl) ?_
          refine lv_aload_n hx hb d_Pt_sortInByStep_33 rfl (lv_at hl 0 rfl) ?_
          refine va_get (D := D) (ci := 3) (v := .ref (a 307)) (C := R_Pt) (T := F_Pt) (N := 9) hx hb hts (fun w h => List.mem_cons_of_mem _ (i_Pt w h)) hown hK.1 hP 2 (wFb_o3 t a τ) rfl 7 (by decide) (hts (.fieldLink R_Pt 34 "FlatBoxes$Parts" "byStep" "[I") (List.mem_cons_of_mem _ (gIn k_83 (by decide +kernel)))) (fun _ h9 => h9) rfl d_Pt_sortInByStep_34 ?_
          refine lv_iload_n hx hb d_Pt_sortInByStep_37 rfl (lv_at hl 2 rfl) ?_
          refine lv_iconst (v := 1) hx hb d_Pt_sortInByStep_38 (by decide) ?_
          refine lv_isub hx hb d_Pt_sortInByStep_39 ?_
          refine lv_topi (fun v_7 e_7 => ?_)
          obtain rfl : nI p9 = v_7 := (e_7.trans (nI_pred p9)).symm
          refine g_iald hx hb hK.1 hP 19 0 (wFb_307 t a τ) rfl p9 (rfl) (by omega) (by decide) d_Pt_sortInByStep_40 ?_
          refine lv_topi (fun v_8 e_8 => ?_)
          obtain rfl : nI (bt p9) = v_8 := (e_8.trans (hlow p9 (by omega))).symm
          refine g_iast hx hb hK.1 hP hD hS 19 0 (wFb_307 t a τ) rfl (p9 + 1) (rfl) (by omega) (by decide) (w' := wFb t a (gSt τ 307 (p9 + 1) (nI (bt p9)))) (sFb_307 t a τ (p9 + 1) (nI (bt p9))) d_Pt_sortInByStep_41 (fun H locs hP hD hS => ?_)
          refine lv_iinc (v := nI p9) (lv' := [(2, .int (nI p9)), (0, .ref (a 399)), (1, .int (nI pq))]) hx hb d_Pt_sortInByStep_42 hl (k := 2) rfl (by rw [gM1, nI_pred]) (by decide) rfl (fun ls hl => ?_)
          refine lv_goto (tgt := 2) hx hb d_Pt_sortInByStep_45 (by decide) ?_
          exact ih p9 (gSt τ 307 (p9 + 1) (nI (bt p9))) _ _ _ (by omega) (by omega) (by rw [hs]; simp [fSrt, fGo2, c_1, h_1, c_6]) (fun k hk => by rw [gSt_eq, pk_un (by omega)]; exact hlow k (by omega)) (hf9) hP hD hS (lv_sub hl [1, 2, 0] rfl)
  refine lv_iload_n hx hb d_Pt_sortInByStep_0 rfl (lv_at hl 1 rfl) ?_
  refine lv_istore_n (lv' := [(2, .int (nI pq)), (0, .ref (a 399)), (1, .int (nI pq))]) hx hb d_Pt_sortInByStep_1 rfl hl (by decide) rfl (fun ls hl => ?_)
  exact cut_2 (pq + 1) pq σ _ _ _ (by omega) (by omega) (rfl) (fun k hk => (hbt k hk).1) (rfl) hP hD hS (lv_sub hl [1, 2, 0] rfl)
