theorem fLay_206 (τ : Nat → Nat → Int32) (q j L : Nat) : fLay τ q j L 206 = upd (τ 206) q (nI j) := by
  unfold fLay fLay3 fLay1
  split
  · rw [gSt_ne _ _ _ _ (by decide), gSt_ne _ _ _ _ (by decide), gSt_ne _ _ _ _ (by decide), gSt_ne _ _ _ _ (by decide), gSt_ne _ _ _ _ (by decide), gSt_eq]
    rfl
  · rw [gSt_ne _ _ _ _ (by decide), gSt_ne _ _ _ _ (by decide), gSt_ne _ _ _ _ (by decide), gSt_ne _ _ _ _ (by decide), gSt_ne _ _ _ _ (by decide), gSt_eq]
def fB01 (f : Nat → Int32) : Prop := ∀ i, f i = 0 ∨ f i = 1
theorem fB01_upd {f : Nat → Int32} (h : fB01 f) (k : Nat) {x : Int32} (hx : x = 0 ∨ x = 1) : fB01 (upd f k x) := by
  intro i
  unfold upd
  split
  · exact hx
  · exact h i
theorem fLay3_205 (τ : Nat → Nat → Int32) (q j : Nat) (h : fB01 (τ 205)) : fB01 (fLay3 τ q j 205) := by
  unfold fLay3
  rw [gSt_eq]
  refine fB01_upd h j ?_
  split
  · exact Or.inr rfl
  · split
    · exact Or.inl rfl
    · exact Or.inr rfl
theorem fLay_205 (τ : Nat → Nat → Int32) (q j L : Nat) (h : fB01 (τ 205)) : fB01 (fLay τ q j L 205) := by
  have h1 : ∀ (T : Nat → Nat → Int32) (x : Int32), fLay1 T q j x 205 = T 205 := fun T x => by
    unfold fLay1
    repeat rw [gSt_ne _ _ _ _ (by decide)]
  unfold fLay
  split
  · refine fLay3_205 _ q j ?_
    rw [h1]
    have e : fOpen τ j (τ 302 q) 205 = upd (τ 205) j 0 := by
      unfold fOpen
      rw [gSt_ne _ _ _ _ (by decide), gSt_eq, gSt_ne _ _ _ _ (by decide), gSt_ne _ _ _ _ (by decide), gSt_ne _ _ _ _ (by decide)]
    rw [e]
    exact fB01_upd h j (Or.inl rfl)
  · refine fLay3_205 _ q j ?_
    rw [h1]
    exact h
theorem fPk_205 (σ : Nat → Nat → Int32) (bt : Nat → Nat) (set wide : Int32) (h : fB01 (σ 205)) : ∀ k, fB01 (fPk σ bt set wide k 205)
  | 0 => h
  | k + 1 => by
    unfold fPk
    split
    · exact fPk_205 σ bt set wide h k
    · exact fLay_205 _ _ _ _ (fPk_205 σ bt set wide h k)
theorem fPk_Ln (σ : Nat → Nat → Int32) (bt : Nat → Nat) (set wide : Int32) {k : Nat} (hk : k ≤ 8) : fPk σ bt set wide k 208 0 = nI (fLn (fPk σ bt set wide k)) ∧ fLn (fPk σ bt set wide k) ≤ k := by
  obtain ⟨L, h1, h2⟩ := fPk_L σ bt set wide k hk
  have e : fLn (fPk σ bt set wide k) = L := by unfold fLn; rw [h2, nI_clamp (by omega)]
  rw [e]
  exact ⟨h2, h1⟩
theorem fPk_lo (σ : Nat → Nat → Int32) (bt : Nat → Nat) (set wide : Int32) : ∀ k, k ≤ 8 → ∀ i, i < k → ¬ fIn set (nI (bt i)) = 0 → ∃ j, j < 8 ∧ fPk σ bt set wide k 206 (bt i) = nI j
  | 0, _, i, h, _ => absurd h (Nat.not_lt_zero i)
  | k + 1, hk, i, hi, hin => by
    unfold fPk
    split
    · next e =>
      rcases Nat.lt_or_ge i k with h | h
      · exact fPk_lo σ bt set wide k (by omega) i h hin
      · obtain rfl : i = k := by omega
        exact absurd e hin
    · obtain ⟨h1, h2⟩ := fPk_Ln σ bt set wide (k := k) (by omega)
      have h3 := fRm_le (fPk σ bt set wide k) (bt k) wide (fLn (fPk σ bt set wide k))
      rw [fLay_206]
      by_cases e : bt i = bt k
      · rw [e, pk_us]
        exact ⟨_, by omega, rfl⟩
      · rw [pk_un e]
        rcases Nat.lt_or_ge i k with h | h
        · exact fPk_lo σ bt set wide k (by omega) i h hin
        · obtain rfl : i = k := by omega
          exact absurd rfl e
theorem fTB_fix (τ : Nat → Nat → Int32) (bx : Nat) (set : Int32) (np L : Nat) {i : Nat} (h : i < 1000) : fTB τ bx set np L i = τ i := by
  unfold fTB fTB4 fTB3 fTB2 fTB1
  repeat rw [gSt_ne _ _ _ _ (by omega)]
theorem fTell_fix (σ : Nat → Nat → Int32) (bx : Nat) (set : Int32) (lo : Nat → Nat) (L : Nat) {i : Nat} (h : i < 1000) : ∀ q, fTell σ bx set lo L q i = σ i
  | 0 => rfl
  | q + 1 => by
    unfold fTell
    split
    · exact fTell_fix σ bx set lo L h q
    · unfold fT3 fT2 fT1
      rw [gSt_ne _ _ _ _ (by omega), gSt_ne _ _ _ _ (by omega), gSt_ne _ _ _ _ (by omega), gSt_ne _ _ _ _ (by omega)]
      exact fTell_fix σ bx set lo L h q
def fTkX (τ : Nat → Nat → Int32) (bt sx cx : Nat → Nat) (np b : Nat) : Nat → Nat → Int32 := fPk τ bt (nI (sx b)) (τ 100 (cx b)) np
def fTkZ (X : Nat → Nat → Int32) (cx : Nat → Nat) (b : Nat) : Nat → Nat → Int32 := gSt (gSt X 504 0 (X 504 0 + X 103 (cx b))) (1100 + b) 0 (nI (cx b))
theorem fTkZ_fix (X : Nat → Nat → Int32) (cx : Nat → Nat) (b : Nat) {i : Nat} (h : i < 1000) (h2 : i ≠ 504) : fTkZ X cx b i = X i := by
  unfold fTkZ
  rw [gSt_ne _ _ _ _ (by omega), gSt_ne _ _ _ _ h2]
def fTkW (τ : Nat → Nat → Int32) (bt sx cx : Nat → Nat) (np b : Nat) : Nat → Nat → Int32 := fTB (fTkZ (fTkX τ bt sx cx np b) cx b) b (nI (sx b)) np (fLn (fTkX τ bt sx cx np b))
theorem fTkW_fix (τ : Nat → Nat → Int32) (bt sx cx : Nat → Nat) (np b : Nat) {i : Nat} (h : i < 1000) (h2 : i ≠ 504) : fTkW τ bt sx cx np b i = fTkX τ bt sx cx np b i := (fTB_fix _ _ _ _ _ h).trans (fTkZ_fix _ _ _ h h2)
def fLo (τ : Nat → Nat → Int32) (q : Nat) : Nat := (τ 206 q).toNatClampNeg
def fTkV (τ : Nat → Nat → Int32) (bt sx cx : Nat → Nat) (np b : Nat) : Nat → Nat → Int32 := fTell (fTkW τ bt sx cx np b) b (nI (sx b)) (fLo (fTkW τ bt sx cx np b)) (fLn (fTkX τ bt sx cx np b)) np
theorem fTkV_fix (τ : Nat → Nat → Int32) (bt sx cx : Nat → Nat) (np b : Nat) {i : Nat} (h : i < 1000) (h2 : i ≠ 504) : fTkV τ bt sx cx np b i = fTkX τ bt sx cx np b i := (fTell_fix _ _ _ _ _ h _).trans (fTkW_fix τ bt sx cx np b h h2)
def fTake (σ : Nat → Nat → Int32) (bt sx cx : Nat → Nat) (np nbx : Nat) : Nat → (Nat → Nat → Int32)
  | 0 => gSt (gSt (gSt σ 502 0 1) 503 0 (nI nbx)) 504 0 0
  | b + 1 => fTkV (fTake σ bt sx cx np nbx b) bt sx cx np b
def fTkOK (σ : Nat → Nat → Int32) (sx cx : Nat → Nat) (nbx : Nat) : Prop := σ 407 0 = nI nbx ∧ nbx ≤ 8 ∧ ∀ b, b < nbx → σ 403 b = nI (sx b) ∧ sx b < 256 ∧ σ 400 (sx b) = nI (cx b) ∧ cx b < 4

theorem gg_Sh_27 (w0 : Cond) : GoodIn (w0 :: gBig) (wsV R_Sh 27 R_Sr y_Sr_boxes (.code y_Sr_boxes b_Sr_boxes 1 (some .int) :: gBig)) := gGoodV (gIn k_338 (by decide +kernel)) (gIn k_339 (by decide +kernel)) (gIn k_340 (by decide +kernel)) (gIn k_6 (by decide +kernel)) (gIn k_341 (by decide +kernel))
theorem gg_Sh_35 (w0 : Cond) : GoodIn (w0 :: gBig) (wsV R_Sh 35 R_Sr y_Sr_setOf (.code y_Sr_setOf b_Sr_setOf 2 (some .int) :: gBig)) := gGoodV (gIn k_342 (by decide +kernel)) (gIn k_343 (by decide +kernel)) (gIn k_344 (by decide +kernel)) (gIn k_6 (by decide +kernel)) (gIn k_345 (by decide +kernel))
theorem gg_Sh_39 (w0 : Cond) : GoodIn (w0 :: gBig) (wsV R_Sh 39 R_Sr y_Sr_cartonFor (.code y_Sr_cartonFor b_Sr_cartonFor 2 (some .int) :: gBig)) := gGoodV (gIn k_346 (by decide +kernel)) (gIn k_347 (by decide +kernel)) (gIn k_348 (by decide +kernel)) (gIn k_6 (by decide +kernel)) (gIn k_349 (by decide +kernel))
theorem gg_Sh_48 (w0 : Cond) : GoodIn (w0 :: gBig) (wsV R_Sh 48 R_Pk y_Pk_pack (.code y_Pk_pack b_Pk_pack 6 none :: gBig)) := gGoodV (gIn k_350 (by decide +kernel)) (gIn k_296 (by decide +kernel)) (gIn k_297 (by decide +kernel)) (gIn k_4 (by decide +kernel)) (gIn k_298 (by decide +kernel))
theorem gg_Sh_56 (w0 : Cond) : GoodIn (w0 :: gBig) (wsV R_Sh 56 R_Sh y_Sh_tellBox (.code y_Sh_tellBox b_Sh_tellBox 5 none :: gBig)) := gGoodV (gIn k_351 (by decide +kernel)) (gIn k_353 (by decide +kernel)) (gInP (List.mem_of_getElem? (i := 7) (by decide +kernel)) (by decide +kernel)) (gIn k_7 (by decide +kernel)) (gIn k_354 (by decide +kernel))
theorem gg_Sh_60 (w0 : Cond) : GoodIn (w0 :: gBig) (wsV R_Sh 60 R_Sh y_Sh_tellParts (.code y_Sh_tellParts b_Sh_tellParts 7 none :: gBig)) := gGoodV (gIn k_363 (by decide +kernel)) (gIn k_365 (by decide +kernel)) (gInP (List.mem_of_getElem? (i := 8) (by decide +kernel)) (by decide +kernel)) (gIn k_7 (by decide +kernel)) (gIn k_366 (by decide +kernel))
set_option maxHeartbeats 4000000 in
set_option maxRecDepth 100000 in
theorem c_Sh_take_n (l : Launch) (D : va_G) (t : Nat → ClassId) (a : Nat → Nat) (σ : Nat → Nat → Int32) (hB : σ 407 0 = -1) : gMv l D t y_Sh_take b_Sh_take 8 3 [.ref (a 599), .ref (a 499), .ref (a 199), .ref (a 399), .ref (a 299)] (wFb t a σ) (wFb t a) (fun u => u = gSt (gSt (gSt σ 502 0 1) 503 0 (-1)) 504 0 0) := by
  intro A
  refine Met.ofW (cc := b_Sh_take) (maxL := 8) (ret := none) (by decide) rfl ?_
  intro p e s m args below meth c s₁ B hml hv
  obtain ⟨rfl, hK, hP, hD⟩ := hv
  have hx := B.exec
  have hb := B.bytes
  have hr := B.returns
  have hts := atoms_spec (ws := .code y_Sh_take b_Sh_take 8 none :: gBig) B.pre
  have hown : s.vm.findClass R_Sh = some m.cls := findClass_of_methodNamed B.named
  have hlocks := B.notSynchronized
  have hS : va_S A s.heap s.heap [] := va_S.rf
  have hl := lv_entry ([.ref (a 599), .ref (a 499), .ref (a 199), .ref (a 399), .ref (a 299)]) (n := 8) (Nat.le_of_ble_eq_true rfl)
  rw [lg_entry_eq]
  generalize (lg_sl ([.ref (a 599), .ref (a 499), .ref (a 199), .ref (a 399), .ref (a 299)]) ++ List.replicate (8 - (lg_sl ([.ref (a 599), .ref (a 499), .ref (a 199), .ref (a 399), .ref (a 299)])).length) Slot.unset).toArray = ls at hl ⊢
  have hl : lv_has ls 8 [(0, .ref (a 599)), (1, .ref (a 499)), (2, .ref (a 199)), (3, .ref (a 399)), (4, .ref (a 299))] := hl
  show gGov l p e s m below meth c D t A 3 [.ref (a 599), .ref (a 499), .ref (a 199), .ref (a 399), .ref (a 299)] (wFb t a) (fun u => u = gSt (gSt (gSt σ 502 0 1) 503 0 (-1)) 504 0 0) s.heap [] (F0 m 0 ls [])
  refine lv_aload_n hx hb d_Sh_take_0 rfl (lv_at hl 0 rfl) ?_
  refine lv_iconst (v := 1) hx hb d_Sh_take_1 (by decide) ?_
  refine va_put (D := D) (ci := 5) (v := .int 1) (ty := .boolean) (C := R_Sh) (T := F_Sh) (N := 5) hx hb hts (fun w h => List.mem_cons_of_mem _ (i_Sh w h)) t_Sh t_Sh_ok n_Sh hown hK.1 hP hD hS 5 (wFb_o5 t a σ) rfl 2 (by decide) (hts (.fieldLink R_Sh 23 "FlatBoxes$Shares" "areSought" "Z") (List.mem_cons_of_mem _ (gIn k_196 (by decide +kernel)))) (fun _ h9 => h9) rfl (by decide +kernel) rfl rfl (Nat.le_of_ble_eq_true rfl) d_Sh_take_2 (fun H locs hP hD hS => ?_)
  have hP : va_P D gCl (wFb t a (gSt σ 502 0 1)) H := hP
  have hD : va_D A (wFb t a (gSt σ 502 0 1)) := hD
  refine lv_aload_n hx hb d_Sh_take_5 rfl (lv_at hl 0 rfl) ?_
  refine lv_aload_n hx hb d_Sh_take_6 rfl (lv_at hl 1 rfl) ?_
  refine g_vi (k := 0) (As := []) (rest := [.ref (a 599)]) (own := R_Sh) (C := R_Sr) (index := 27) ⟨hx, hb, hml, hown, hts⟩ (c_Sr_boxes l D t a (gSt σ 502 0 1)) (gg_Sh_27 _) (by decide +kernel) ⟨Nat.le_of_ble_eq_true rfl, Nat.le_of_ble_eq_true rfl⟩ rfl (va_recv hK.1 hP (ci := 4) (q0 := 4) rfl (wFb_o4 t a (gSt σ 502 0 1))) hK hP hD hS hl.1 rfl (Nat.le_of_ble_eq_true rfl) ⟨Nat.zero_le _, Nat.zero_le _⟩ d_Sh_take_7 (fun r_1 u_1 H locs q_1 hP hD hS => ?_)
  obtain ⟨rfl, hu_1⟩ := q_1
  rw [hu_1] at hP hD
  refine lv_topi (fun v_2 e_2 => ?_)
  obtain rfl : -1 = v_2 := (e_2.trans (hB)).symm
  refine va_put (D := D) (ci := 5) (v := .int (-1)) (ty := .int) (C := R_Sh) (T := F_Sh) (N := 5) hx hb hts (fun w h => List.mem_cons_of_mem _ (i_Sh w h)) t_Sh t_Sh_ok n_Sh hown hK.1 hP hD hS 5 (wFb_o5 t a (gSt σ 502 0 1)) rfl 3 (by decide) (hts (.fieldLink R_Sh 19 "FlatBoxes$Shares" "boxes" "I") (List.mem_cons_of_mem _ (gIn k_198 (by decide +kernel)))) (fun _ h9 => h9) rfl (by decide +kernel) rfl rfl (Nat.le_of_ble_eq_true rfl) d_Sh_take_10 (fun H locs hP hD hS => ?_)
  have hP : va_P D gCl (wFb t a (gSt (gSt σ 502 0 1) 503 0 (-1))) H := hP
  have hD : va_D A (wFb t a (gSt (gSt σ 502 0 1) 503 0 (-1))) := hD
  refine lv_aload_n hx hb d_Sh_take_13 rfl (lv_at hl 0 rfl) ?_
  refine lv_iconst (v := 0) hx hb d_Sh_take_14 (by decide) ?_
  refine va_put (D := D) (ci := 5) (v := .int 0) (ty := .int) (C := R_Sh) (T := F_Sh) (N := 5) hx hb hts (fun w h => List.mem_cons_of_mem _ (i_Sh w h)) t_Sh t_Sh_ok n_Sh hown hK.1 hP hD hS 5 (wFb_o5 t a (gSt (gSt σ 502 0 1) 503 0 (-1))) rfl 4 (by decide) (hts (.fieldLink R_Sh 32 "FlatBoxes$Shares" "cents" "I") (List.mem_cons_of_mem _ (gIn k_200 (by decide +kernel)))) (fun _ h9 => h9) rfl (by decide +kernel) rfl rfl (Nat.le_of_ble_eq_true rfl) d_Sh_take_15 (fun H locs hP hD hS => ?_)
  have hP : va_P D gCl (wFb t a (gSt (gSt (gSt σ 502 0 1) 503 0 (-1)) 504 0 0)) H := hP
  have hD : va_D A (wFb t a (gSt (gSt (gSt σ 502 0 1) 503 0 (-1)) 504 0 0)) := hD
  refine lv_iconst (v := 0) hx hb d_Sh_take_18 (by decide) ?_
  refine lv_istore (lv' := [(5, .int 0), (0, .ref (a 599)), (1, .ref (a 499)), (2, .ref (a 199)), (3, .ref (a 399)), (4, .ref (a 299))]) hx hb d_Sh_take_19 hl (by decide) rfl (fun ls hl => ?_)
  refine lv_iload hx hb d_Sh_take_21 (lv_at hl 0 rfl) ?_
  refine lv_aload_n hx hb d_Sh_take_23 rfl (lv_at hl 1 rfl) ?_
  refine va_get (D := D) (ci := 5) (v := .int ((gSt (gSt (gSt σ 502 0 1) 503 0 (-1)) 504 0 0) 503 0)) (C := R_Sh) (T := F_Sh) (N := 5) hx hb hts (fun w h => List.mem_cons_of_mem _ (i_Sh w h)) hown hK.1 hP 5 (wFb_o5 t a (gSt (gSt (gSt σ 502 0 1) 503 0 (-1)) 504 0 0)) rfl 3 (by decide) (hts (.fieldLink R_Sh 19 "FlatBoxes$Shares" "boxes" "I") (List.mem_cons_of_mem _ (gIn k_198 (by decide +kernel)))) (fun _ h9 => h9) rfl d_Sh_take_24 ?_
  refine lv_topi (fun v_3 e_3 => ?_)
  obtain rfl : -1 = v_3 := (e_3.trans (rfl)).symm
  refine lv_icmp_ge (tgt := 116) hx hb d_Sh_take_27 (by decide) (fun c_4 => ?_) (fun c_4 => ?_)
  · 
    exact W.vret hx hb hr (fun U hU hW => ⟨⟨gSt (gSt (gSt σ 502 0 1) 503 0 (-1)) 504 0 0, rfl, by rfl, by rw [hU]; exact hP, hD⟩, hS.F hU⟩) hS.2.2 d_Sh_take_116
  · 
    exact absurd c_4 (by decide)
set_option maxHeartbeats 4000000 in
set_option maxRecDepth 100000 in
theorem c_Sh_take_s (l : Launch) (D : va_G) (t : Nat → ClassId) (a : Nat → Nat) (σ : Nat → Nat → Int32) (np : Nat) (hN : σ 308 0 = nI np) (hN8 : np ≤ 8) (bt : Nat → Nat) (hbt : ∀ k, k < np → σ 306 k = nI (bt k) ∧ bt k < 8) (hsur : ∀ q, q < np → ∃ k, k < np ∧ bt k = q) (sx cx : Nat → Nat) (nbx : Nat) (hOK : fTkOK σ sx cx nbx) (h205a : fB01 (σ 205)) : gMv l D t y_Sh_take b_Sh_take 8 3 [.ref (a 599), .ref (a 499), .ref (a 199), .ref (a 399), .ref (a 299)] (wFb t a σ) (wFb t a) (fun u => u = fTake σ bt sx cx np nbx nbx) := by
  intro A
  refine Met.ofW (cc := b_Sh_take) (maxL := 8) (ret := none) (by decide) rfl ?_
  intro p e s m args below meth c s₁ B hml hv
  obtain ⟨rfl, hK, hP, hD⟩ := hv
  have hx := B.exec
  have hb := B.bytes
  have hr := B.returns
  have hts := atoms_spec (ws := .code y_Sh_take b_Sh_take 8 none :: gBig) B.pre
  have hown : s.vm.findClass R_Sh = some m.cls := findClass_of_methodNamed B.named
  have hlocks := B.notSynchronized
  have hS : va_S A s.heap s.heap [] := va_S.rf
  have hl := lv_entry ([.ref (a 599), .ref (a 499), .ref (a 199), .ref (a 399), .ref (a 299)]) (n := 8) (Nat.le_of_ble_eq_true rfl)
  rw [lg_entry_eq]
  generalize (lg_sl ([.ref (a 599), .ref (a 499), .ref (a 199), .ref (a 399), .ref (a 299)]) ++ List.replicate (8 - (lg_sl ([.ref (a 599), .ref (a 499), .ref (a 199), .ref (a 399), .ref (a 299)])).length) Slot.unset).toArray = ls at hl ⊢
  have hl : lv_has ls 8 [(0, .ref (a 599)), (1, .ref (a 499)), (2, .ref (a 199)), (3, .ref (a 399)), (4, .ref (a 299))] := hl
  show gGov l p e s m below meth c D t A 3 [.ref (a 599), .ref (a 499), .ref (a 199), .ref (a 399), .ref (a 299)] (wFb t a) (fun u => u = fTake σ bt sx cx np nbx nbx) s.heap [] (F0 m 0 ls [])
  have cut_21 : ∀ (n : Nat) (b : Nat) (τ : Nat → Nat → Int32) (H : Heap) (locs : List Loc) (ls : Array Slot), (b ≤ nbx) → (nbx + 1 ≤ b + n) → (fTake σ bt sx cx np nbx b = τ) → (∀ i, (i ≤ 200 ∨ (208 < i ∧ i < 502)) → τ i = σ i) → (τ 503 0 = nI nbx) → (fB01 (τ 205)) → va_P D gCl (wFb t a τ) H → va_D A (wFb t a τ) → va_S A s.heap H locs → lv_has ls 8 [(0, .ref (a 599)), (1, .ref (a 499)), (2, .ref (a 199)), (3, .ref (a 399)), (4, .ref (a 299)), (5, .int (nI b))] → gGov l p e s m below meth c D t A 3 [.ref (a 599), .ref (a 499), .ref (a 199), .ref (a 399), .ref (a 299)] (wFb t a) (fun u => u = fTake σ bt sx cx np nbx nbx) H locs (F0 m 21 ls []) := by
    intro n
    induction n with
    | zero =>
      intro b τ H locs ls hb1 hf hs hfix h503 h205 hP hD hS hl
      exact absurd hf (by omega)
    | succ n ih =>
      intro b τ H locs ls hb1 hf hs hfix h503 h205 hP hD hS hl
      have hnb := hOK.2.1
      refine lv_iload hx hb d_Sh_take_21 (lv_at hl 5 rfl) ?_
      refine lv_aload_n hx hb d_Sh_take_23 rfl (lv_at hl 0 rfl) ?_
      refine va_get (D := D) (ci := 5) (v := .int (τ 503 0)) (C := R_Sh) (T := F_Sh) (N := 5) hx hb hts (fun w h => List.mem_cons_of_mem _ (i_Sh w h)) hown hK.1 hP 5 (wFb_o5 t a τ) rfl 3 (by decide) (hts (.fieldLink R_Sh 19 "FlatBoxes$Shares" "boxes" "I") (List.mem_cons_of_mem _ (gIn k_198 (by decide +kernel)))) (fun _ h9 => h9) rfl d_Sh_take_24 ?_
      refine lv_topi (fun v_1 e_1 => ?_)
      obtain rfl : nI nbx = v_1 := (e_1.trans (h503)).symm
      refine lv_icmp_ge (tgt := 116) hx hb d_Sh_take_27 (by decide) (fun c_2 => ?_) (fun c_2 => ?_)
      · 
        have h_2 : nbx ≤ b := (nI_leI (a := nbx) (b := b) (by omega) (by omega)).mp c_2
        exact W.vret hx hb hr (fun U hU hW => ⟨⟨τ, rfl, by obtain rfl : b = nbx := (by omega); exact hs.symm, by rw [hU]; exact hP, hD⟩, hS.F hU⟩) hS.2.2 d_Sh_take_116
      · 
        have h_2 : ¬ nbx ≤ b := fun q9 => c_2 ((nI_leI (a := nbx) (b := b) (by omega) (by omega)).mpr q9)
        have hc4 := (hOK.2.2 b (by omega)).2.2.2
        refine lv_aload_n hx hb d_Sh_take_30 rfl (lv_at hl 1 rfl) ?_
        refine lv_iload hx hb d_Sh_take_31 (lv_at hl 5 rfl) ?_
        refine g_vi (k := 1) (As := [.int (nI b)]) (rest := []) (own := R_Sh) (C := R_Sr) (index := 35) ⟨hx, hb, hml, hown, hts⟩ (c_Sr_setOf l D t a τ b (by omega)) (gg_Sh_35 _) (by decide +kernel) ⟨Nat.le_of_ble_eq_true rfl, Nat.le_of_ble_eq_true rfl⟩ rfl (va_recv hK.1 hP (ci := 4) (q0 := 4) rfl (wFb_o4 t a τ)) hK hP hD hS hl.1 rfl (Nat.le_of_ble_eq_true rfl) ⟨Nat.zero_le _, Nat.zero_le _⟩ d_Sh_take_33 (fun r_3 u_3 H locs q_3 hP hD hS => ?_)
        obtain ⟨rfl, hu_3⟩ := q_3
        rw [hu_3] at hP hD
        refine lv_topi (fun v_4 e_4 => ?_)
        obtain rfl : nI (sx b) = v_4 := (e_4.trans ((congrFun (hfix 403 (by omega)) b).trans (hOK.2.2 b (by omega)).1)).symm
        refine lv_istore (lv' := [(6, .int (nI (sx b))), (0, .ref (a 599)), (1, .ref (a 499)), (2, .ref (a 199)), (3, .ref (a 399)), (4, .ref (a 299)), (5, .int (nI b))]) hx hb d_Sh_take_36 hl (by decide) rfl (fun ls hl => ?_)
        refine lv_aload_n hx hb d_Sh_take_38 rfl (lv_at hl 2 rfl) ?_
        refine lv_iload hx hb d_Sh_take_39 (lv_at hl 6 rfl) ?_
        refine g_vi (k := 1) (As := [.int (nI b)]) (rest := []) (own := R_Sh) (C := R_Sr) (index := 39) ⟨hx, hb, hml, hown, hts⟩ (c_Sr_cartonFor l D t a τ b (sx b) (by omega) ((congrFun (hfix 403 (by omega)) b).trans (hOK.2.2 b (by omega)).1) (hOK.2.2 b (by omega)).2.1) (gg_Sh_39 _) (by decide +kernel) ⟨Nat.le_of_ble_eq_true rfl, Nat.le_of_ble_eq_true rfl⟩ rfl (va_recv hK.1 hP (ci := 4) (q0 := 4) rfl (wFb_o4 t a τ)) hK hP hD hS hl.1 rfl (Nat.le_of_ble_eq_true rfl) ⟨Nat.zero_le _, Nat.zero_le _⟩ d_Sh_take_41 (fun r_5 u_5 H locs q_5 hP hD hS => ?_)
        obtain ⟨rfl, hu_5⟩ := q_5
        rw [hu_5] at hP hD
        refine lv_topi (fun v_6 e_6 => ?_)
        obtain rfl : nI (cx b) = v_6 := (e_6.trans ((congrFun (hfix 400 (by omega)) (sx b)).trans (hOK.2.2 b (by omega)).2.2.1)).symm
        refine lv_istore (lv' := [(7, .int (nI (cx b))), (6, .int (nI (sx b))), (0, .ref (a 599)), (1, .ref (a 499)), (2, .ref (a 199)), (3, .ref (a 399)), (4, .ref (a 299)), (5, .int (nI b))]) hx hb d_Sh_take_44 hl (by decide) rfl (fun ls hl => ?_)
        refine lv_aload hx hb d_Sh_take_46 (lv_at hl 6 rfl) ?_
        refine lv_aload_n hx hb d_Sh_take_48 rfl (lv_at hl 5 rfl) ?_
        refine lv_iload hx hb d_Sh_take_49 (lv_at hl 1 rfl) ?_
        refine lv_aload_n hx hb d_Sh_take_51 rfl (lv_at hl 4 rfl) ?_
        refine va_get (D := D) (ci := 1) (v := .ref (a 100)) (C := R_Ct) (T := F_Ct) (N := 6) hx hb hts (fun w h => List.mem_cons_of_mem _ (i_Ct w h)) hown hK.1 hP 1 (wFb_o1 t a τ) rfl 0 (by decide) (hts (.fieldLink R_Sh 42 "FlatBoxes$Cartons" "width" "[I") (List.mem_cons_of_mem _ (gIn k_34 (by decide +kernel)))) (fun _ h9 => h9) rfl d_Sh_take_52 ?_
        refine lv_iload hx hb d_Sh_take_55 (lv_at hl 0 rfl) ?_
        refine g_iald hx hb hK.1 hP 7 0 (wFb_100 t a τ) rfl (cx b) (rfl) (by omega) (by decide) d_Sh_take_57 ?_
        refine g_vv (k := 3) (As := [.ref (a 399), .int (nI (sx b)), .int (τ 100 (cx b))]) (rest := []) (own := R_Sh) (C := R_Pk) (index := 48) ⟨hx, hb, hml, hown, hts⟩ (c_Pk_pack l D t a τ (nI (sx b)) (τ 100 (cx b)) np ((congrFun (hfix 308 (by omega)) 0).trans hN) hN8 bt (fun k hk => ⟨(congrFun (hfix 306 (by omega)) k).trans (hbt k hk).1, (hbt k hk).2⟩)) (gg_Sh_48 _) (by decide +kernel) ⟨Nat.le_of_ble_eq_true rfl, Nat.le_of_ble_eq_true rfl⟩ rfl (va_recv hK.1 hP (ci := 2) (q0 := 3) rfl (wFb_o2 t a τ)) hK hP hD hS hl.1 rfl (Nat.le_of_ble_eq_true rfl) ⟨Nat.zero_le _, Nat.zero_le _⟩ d_Sh_take_58 (fun u_7 H locs q_7 hP hD hS => ?_)
        have hu_7 : u_7 = _ := q_7
        rw [hu_7] at hP hD
        have hP : va_P D gCl (wFb t a (fTkX τ bt sx cx np b)) H := hP
        have hD : va_D A (wFb t a (fTkX τ bt sx cx np b)) := hD
        obtain ⟨hL1, hL8⟩ := fPk_Ln τ bt (nI (sx b)) (τ 100 (cx b)) hN8
        have hL1 : fTkX τ bt sx cx np b 208 0 = nI (fLn (fTkX τ bt sx cx np b)) := hL1
        have hL8 : fLn (fTkX τ bt sx cx np b) ≤ 8 := Nat.le_trans hL8 hN8
        have hX8 : fTkX τ bt sx cx np b 308 0 = nI np := (congrFun (fPk_fix τ bt _ _ (by omega) np) 0).trans ((congrFun (hfix 308 (by omega)) 0).trans hN)
        have hX5 : fB01 (fTkX τ bt sx cx np b 205) := fPk_205 τ bt _ _ h205 np
        refine lv_aload_n hx hb d_Sh_take_61 rfl (lv_at hl 2 rfl) ?_
        refine lv_dup hx hb d_Sh_take_62 rfl ?_
        refine va_get (D := D) (ci := 5) (v := .int ((fTkX τ bt sx cx np b) 504 0)) (C := R_Sh) (T := F_Sh) (N := 5) hx hb hts (fun w h => List.mem_cons_of_mem _ (i_Sh w h)) hown hK.1 hP 5 (wFb_o5 t a (fTkX τ bt sx cx np b)) rfl 4 (by decide) (hts (.fieldLink R_Sh 32 "FlatBoxes$Shares" "cents" "I") (List.mem_cons_of_mem _ (gIn k_200 (by decide +kernel)))) (fun _ h9 => h9) rfl d_Sh_take_63 ?_
        refine lv_aload_n hx hb d_Sh_take_66 rfl (lv_at hl 4 rfl) ?_
        refine va_get (D := D) (ci := 1) (v := .ref (a 103)) (C := R_Ct) (T := F_Ct) (N := 6) hx hb hts (fun w h => List.mem_cons_of_mem _ (i_Ct w h)) hown hK.1 hP 1 (wFb_o1 t a (fTkX τ bt sx cx np b)) rfl 3 (by decide) (hts (.fieldLink R_Sh 54 "FlatBoxes$Cartons" "cents" "[I") (List.mem_cons_of_mem _ (gIn k_43 (by decide +kernel)))) (fun _ h9 => h9) rfl d_Sh_take_67 ?_
        refine lv_iload hx hb d_Sh_take_70 (lv_at hl 0 rfl) ?_
        refine g_iald hx hb hK.1 hP 10 0 (wFb_103 t a (fTkX τ bt sx cx np b)) rfl (cx b) (rfl) (by omega) (by decide) d_Sh_take_72 ?_
        refine lv_iadd hx hb d_Sh_take_73 ?_
        refine va_put (D := D) (ci := 5) (v := .int (((fTkX τ bt sx cx np b) 504 0) + ((fTkX τ bt sx cx np b) 103 (cx b)))) (ty := .int) (C := R_Sh) (T := F_Sh) (N := 5) hx hb hts (fun w h => List.mem_cons_of_mem _ (i_Sh w h)) t_Sh t_Sh_ok n_Sh hown hK.1 hP hD hS 5 (wFb_o5 t a (fTkX τ bt sx cx np b)) rfl 4 (by decide) (hts (.fieldLink R_Sh 32 "FlatBoxes$Shares" "cents" "I") (List.mem_cons_of_mem _ (gIn k_200 (by decide +kernel)))) (fun _ h9 => h9) rfl (by decide +kernel) rfl rfl (Nat.le_of_ble_eq_true rfl) d_Sh_take_74 (fun H locs hP hD hS => ?_)
        have hP : va_P D gCl (wFb t a (gSt (fTkX τ bt sx cx np b) 504 0 (((fTkX τ bt sx cx np b) 504 0) + ((fTkX τ bt sx cx np b) 103 (cx b))))) H := hP
        have hD : va_D A (wFb t a (gSt (fTkX τ bt sx cx np b) 504 0 (((fTkX τ bt sx cx np b) 504 0) + ((fTkX τ bt sx cx np b) 103 (cx b))))) := hD
        refine lv_aload_n hx hb d_Sh_take_77 rfl (lv_at hl 2 rfl) ?_
        refine va_get (D := D) (ci := 5) (v := .ref (a 501)) (C := R_Sh) (T := F_Sh) (N := 5) hx hb hts (fun w h => List.mem_cons_of_mem _ (i_Sh w h)) hown hK.1 hP 5 (wFb_o5 t a (gSt (fTkX τ bt sx cx np b) 504 0 (((fTkX τ bt sx cx np b) 504 0) + ((fTkX τ bt sx cx np b) 103 (cx b))))) rfl 1 (by decide) (hts (.fieldLink R_Sh 16 "FlatBoxes$Shares" "ofBox" "[[I") (List.mem_cons_of_mem _ (gIn k_194 (by decide +kernel)))) (fun _ h9 => h9) rfl d_Sh_take_78 ?_
        refine lv_iload hx hb d_Sh_take_81 (lv_at hl 7 rfl) ?_
        refine g_aald hx hb hK.1 hP 32 2 (wFb_501 t a (gSt (fTkX τ bt sx cx np b) 504 0 (((fTkX τ bt sx cx np b) 504 0) + ((fTkX τ bt sx cx np b) 103 (cx b))))) rfl b (rfl) (by omega) (by decide) rfl d_Sh_take_83 ?_
        refine lv_iconst (v := 0) hx hb d_Sh_take_84 (by decide) ?_
        refine lv_iload hx hb d_Sh_take_85 (lv_at hl 0 rfl) ?_
        refine g_iast hx hb hK.1 hP hD hS (47 + b) 0 (wFb_r1100 t a (gSt (fTkX τ bt sx cx np b) 504 0 (((fTkX τ bt sx cx np b) 504 0) + ((fTkX τ bt sx cx np b) 103 (cx b)))) b (by omega)) rfl 0 (rfl) (by omega) (by decide) (w' := wFb t a (gSt (gSt (fTkX τ bt sx cx np b) 504 0 (((fTkX τ bt sx cx np b) 504 0) + ((fTkX τ bt sx cx np b) 103 (cx b)))) (1100 + b) 0 (nI (cx b)))) (sFb_r1100 t a (gSt (fTkX τ bt sx cx np b) 504 0 (((fTkX τ bt sx cx np b) 504 0) + ((fTkX τ bt sx cx np b) 103 (cx b)))) 0 (nI (cx b)) b (by omega)) d_Sh_take_87 (fun H locs hP hD hS => ?_)
        have hP : va_P D gCl (wFb t a (fTkZ (fTkX τ bt sx cx np b) cx b)) H := hP
        have hD : va_D A (wFb t a (fTkZ (fTkX τ bt sx cx np b) cx b)) := hD
        refine lv_aload_n hx hb d_Sh_take_88 rfl (lv_at hl 2 rfl) ?_
        refine lv_iload hx hb d_Sh_take_89 (lv_at hl 7 rfl) ?_
        refine lv_iload hx hb d_Sh_take_91 (lv_at hl 1 rfl) ?_
        refine lv_aload_n hx hb d_Sh_take_93 rfl (lv_at hl 5 rfl) ?_
        refine lv_aload hx hb d_Sh_take_94 (lv_at hl 6 rfl) ?_
        refine g_vv (k := 4) (As := [.int (nI b), .int (nI (sx b)), .ref (a 399), .ref (a 299)]) (rest := []) (own := R_Sh) (C := R_Sh) (index := 56) ⟨hx, hb, hml, hown, hts⟩ (c_Sh_tellBox l D t a (fTkZ (fTkX τ bt sx cx np b) cx b) b (nI (sx b)) (by omega) np ((congrFun (fTkZ_fix _ _ _ (by omega) (by omega)) 0).trans hX8) hN8 (fLn (fTkX τ bt sx cx np b)) ((congrFun (fTkZ_fix _ _ _ (by omega) (by omega)) 0).trans hL1) hL8) (gg_Sh_56 _) (by decide +kernel) ⟨Nat.le_of_ble_eq_true rfl, Nat.le_of_ble_eq_true rfl⟩ rfl (va_recv hK.1 hP (ci := 5) (q0 := 5) rfl (wFb_o5 t a (fTkZ (fTkX τ bt sx cx np b) cx b))) hK hP hD hS hl.1 rfl (Nat.le_of_ble_eq_true rfl) ⟨Nat.zero_le _, Nat.zero_le _⟩ d_Sh_take_96 (fun u_8 H locs q_8 hP hD hS => ?_)
        have hu_8 : u_8 = _ := q_8
        rw [hu_8] at hP hD
        have hP : va_P D gCl (wFb t a (fTkW τ bt sx cx np b)) H := hP
        have hD : va_D A (wFb t a (fTkW τ bt sx cx np b)) := hD
        refine lv_aload_n hx hb d_Sh_take_99 rfl (lv_at hl 2 rfl) ?_
        refine lv_iload hx hb d_Sh_take_100 (lv_at hl 7 rfl) ?_
        refine lv_iload hx hb d_Sh_take_102 (lv_at hl 1 rfl) ?_
        refine lv_aload_n hx hb d_Sh_take_104 rfl (lv_at hl 5 rfl) ?_
        refine lv_aload hx hb d_Sh_take_105 (lv_at hl 6 rfl) ?_
        refine g_vv (k := 4) (As := [.int (nI b), .int (nI (sx b)), .ref (a 399), .ref (a 299)]) (rest := []) (own := R_Sh) (C := R_Sh) (index := 60) ⟨hx, hb, hml, hown, hts⟩ (c_Sh_tellParts l D t a (fTkW τ bt sx cx np b) b (nI (sx b)) np ((congrFun (fTkW_fix τ bt sx cx np b (by omega) (by omega)) 0).trans hX8) hN8 (fLo (fTkW τ bt sx cx np b)) (fLn (fTkX τ bt sx cx np b)) ((congrFun (fTkW_fix τ bt sx cx np b (by omega) (by omega)) 0).trans hL1) hL8 (fun i => by rw [fTkW_fix τ bt sx cx np b (by omega) (by omega)]; exact hX5 i) (fun q hq hin => by obtain ⟨k, hk, rfl⟩ := hsur q hq; obtain ⟨j, hj, e⟩ := fPk_lo τ bt (nI (sx b)) (τ 100 (cx b)) np hN8 k hk hin; have e2 : fTkW τ bt sx cx np b 206 (bt k) = nI j := (congrFun (fTkW_fix τ bt sx cx np b (by omega) (by omega)) (bt k)).trans e; have e3 : fLo (fTkW τ bt sx cx np b) (bt k) = j := by { unfold fLo; rw [e2, nI_clamp (by omega)] }; rw [e3]; exact ⟨e2, hj⟩)) (gg_Sh_60 _) (by decide +kernel) ⟨Nat.le_of_ble_eq_true rfl, Nat.le_of_ble_eq_true rfl⟩ rfl (va_recv hK.1 hP (ci := 5) (q0 := 5) rfl (wFb_o5 t a (fTkW τ bt sx cx np b))) hK hP hD hS hl.1 rfl (Nat.le_of_ble_eq_true rfl) ⟨Nat.zero_le _, Nat.zero_le _⟩ d_Sh_take_107 (fun u_9 H locs q_9 hP hD hS => ?_)
        have hu_9 : u_9 = _ := q_9
        rw [hu_9] at hP hD
        have hP : va_P D gCl (wFb t a (fTkV τ bt sx cx np b)) H := hP
        have hD : va_D A (wFb t a (fTkV τ bt sx cx np b)) := hD
        refine lv_iinc (v := nI (b + 1)) (lv' := [(5, .int (nI (b + 1))), (7, .int (nI (cx b))), (6, .int (nI (sx b))), (0, .ref (a 599)), (1, .ref (a 499)), (2, .ref (a 199)), (3, .ref (a 399)), (4, .ref (a 299))]) hx hb d_Sh_take_110 hl (k := 7) rfl (nI_1 b) (by decide) rfl (fun ls hl => ?_)
        refine lv_goto (tgt := 21) hx hb d_Sh_take_113 (by decide) ?_
        exact ih (b + 1) (fTkV τ bt sx cx np b) _ _ _ (by omega) (by omega) (by rw [← hs]; rfl) (fun i hi => (fTkV_fix τ bt sx cx np b (by omega) (by omega)).trans ((fPk_fix τ bt _ _ (by omega) np).trans (hfix i hi))) ((congrFun ((fTkV_fix τ bt sx cx np b (by omega) (by omega)).trans (fPk_fix τ bt _ _ (by omega) np)) 0).trans h503) (by rw [fTkV_fix τ bt sx cx np b (by omega) (by omega)]; exact hX5) hP hD hS (lv_sub hl [3, 4, 5, 6, 7, 0] rfl)
  refine lv_aload_n hx hb d_Sh_take_0 rfl (lv_at hl 0 rfl) ?_
  refine lv_iconst (v := 1) hx hb d_Sh_take_1 (by decide) ?_
  refine va_put (D := D) (ci := 5) (v := .int 1) (ty := .boolean) (C := R_Sh) (T := F_Sh) (N := 5) hx hb hts (fun w h => List.mem_cons_of_mem _ (i_Sh w h)) t_Sh t_Sh_ok n_Sh hown hK.1 hP hD hS 5 (wFb_o5 t a σ) rfl 2 (by decide) (hts (.fieldLink R_Sh 23 "FlatBoxes$Shares" "areSought" "Z") (List.mem_cons_of_mem _ (gIn k_196 (by decide +kernel)))) (fun _ h9 => h9) rfl (by decide +kernel) rfl rfl (Nat.le_of_ble_eq_true rfl) d_Sh_take_2 (fun H locs hP hD hS => ?_)
  have hP : va_P D gCl (wFb t a (gSt σ 502 0 1)) H := hP
  have hD : va_D A (wFb t a (gSt σ 502 0 1)) := hD
  refine lv_aload_n hx hb d_Sh_take_5 rfl (lv_at hl 0 rfl) ?_
  refine lv_aload_n hx hb d_Sh_take_6 rfl (lv_at hl 1 rfl) ?_
  refine g_vi (k := 0) (As := []) (rest := [.ref (a 599)]) (own := R_Sh) (C := R_Sr) (index := 27) ⟨hx, hb, hml, hown, hts⟩ (c_Sr_boxes l D t a (gSt σ 502 0 1)) (gg_Sh_27 _) (by decide +kernel) ⟨Nat.le_of_ble_eq_true rfl, Nat.le_of_ble_eq_true rfl⟩ rfl (va_recv hK.1 hP (ci := 4) (q0 := 4) rfl (wFb_o4 t a (gSt σ 502 0 1))) hK hP hD hS hl.1 rfl (Nat.le_of_ble_eq_true rfl) ⟨Nat.zero_le _, Nat.zero_le _⟩ d_Sh_take_7 (fun r_10 u_10 H locs q_10 hP hD hS => ?_)
  obtain ⟨rfl, hu_10⟩ := q_10
  rw [hu_10] at hP hD
  refine lv_topi (fun v_11 e_11 => ?_)
  obtain rfl : nI nbx = v_11 := (e_11.trans (hOK.1)).symm
  refine va_put (D := D) (ci := 5) (v := .int (nI nbx)) (ty := .int) (C := R_Sh) (T := F_Sh) (N := 5) hx hb hts (fun w h => List.mem_cons_of_mem _ (i_Sh w h)) t_Sh t_Sh_ok n_Sh hown hK.1 hP hD hS 5 (wFb_o5 t a (gSt σ 502 0 1)) rfl 3 (by decide) (hts (.fieldLink R_Sh 19 "FlatBoxes$Shares" "boxes" "I") (List.mem_cons_of_mem _ (gIn k_198 (by decide +kernel)))) (fun _ h9 => h9) rfl (by decide +kernel) rfl rfl (Nat.le_of_ble_eq_true rfl) d_Sh_take_10 (fun H locs hP hD hS => ?_)
  have hP : va_P D gCl (wFb t a (gSt (gSt σ 502 0 1) 503 0 (nI nbx))) H := hP
  have hD : va_D A (wFb t a (gSt (gSt σ 502 0 1) 503 0 (nI nbx))) := hD
  refine lv_aload_n hx hb d_Sh_take_13 rfl (lv_at hl 0 rfl) ?_
  refine lv_iconst (v := 0) hx hb d_Sh_take_14 (by decide) ?_
  refine va_put (D := D) (ci := 5) (v := .int 0) (ty := .int) (C := R_Sh) (T := F_Sh) (N := 5) hx hb hts (fun w h => List.mem_cons_of_mem _ (i_Sh w h)) t_Sh t_Sh_ok n_Sh hown hK.1 hP hD hS 5 (wFb_o5 t a (gSt (gSt σ 502 0 1) 503 0 (nI nbx))) rfl 4 (by decide) (hts (.fieldLink R_Sh 32 "FlatBoxes$Shares" "cents" "I") (List.mem_cons_of_mem _ (gIn k_200 (by decide +kernel)))) (fun _ h9 => h9) rfl (by decide +kernel) rfl rfl (Nat.le_of_ble_eq_true rfl) d_Sh_take_15 (fun H locs hP hD hS => ?_)
  have hP : va_P D gCl (wFb t a (gSt (gSt (gSt σ 502 0 1) 503 0 (nI nbx)) 504 0 0)) H := hP
  have hD : va_D A (wFb t a (gSt (gSt (gSt σ 502 0 1) 503 0 (nI nbx)) 504 0 0)) := hD
  refine lv_iconst (v := 0) hx hb d_Sh_take_18 (by decide) ?_
  refine lv_istore (lv' := [(5, .int 0), (0, .ref (a 599)), (1, .ref (a 499)), (2, .ref (a 199)), (3, .ref (a 399)), (4, .ref (a 299))]) hx hb d_Sh_take_19 hl (by decide) rfl (fun ls hl => ?_)
  exact cut_21 (nbx + 1) 0 (gSt (gSt (gSt σ 502 0 1) 503 0 (nI nbx)) 504 0 0) _ _ _ (by omega) (by omega) (rfl) (fun i hi => (gSt_ne _ _ _ _ (by omega)).trans ((gSt_ne _ _ _ _ (by omega)).trans (gSt_ne _ _ _ _ (by omega)))) (rfl) (h205a) hP hD hS (lv_sub hl [1, 2, 3, 4, 5, 0] rfl)
