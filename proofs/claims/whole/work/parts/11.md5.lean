theorem gb1 {x : Int32} (h : x = 0 ∨ x = 1) (c : ¬ x = 0) : 1 = x := by rcases h with h | h; exact absurd h c; exact h.symm
theorem mIn_nat {v : Int32} {n : Nat} (hn : n ≤ 1000) (h : ¬ mIn v 0 (nI n - 1) = 0) : ∃ j : Nat, j < n ∧ v = nI j := by
  unfold mIn at h
  by_cases h1 : v < 0
  · simp [h1] at h
  · by_cases h2 : nI n - 1 < v
    · simp [h1, h2] at h
    · obtain ⟨j, hj, rfl⟩ := nI_of h1
      refine ⟨j, ?_, rfl⟩
      rw [Int32.not_lt, Int32.le_iff_toInt_le, nI_toInt hj] at h2
      rcases Nat.eq_zero_or_pos n with rfl | h3
      · have e : (nI 0 - 1).toInt = -1 := by decide
        rw [e] at h2
        omega
      · obtain ⟨q, rfl⟩ : ∃ q, n = q + 1 := ⟨n - 1, by omega⟩
        rw [nI_pred, nI_toInt (by omega)] at h2
        omega
theorem mPk_fix (σ : Nat → Nat → Int32) (ord : Nat → Nat) (set : Int32) (c : Nat) {i : Nat} (h : i < 15 ∨ 22 < i) : ∀ k, (mPk σ ord set c k).1 i = σ i
  | 0 => gSt_ne _ _ _ _ (by omega)
  | k + 1 => by
    unfold mPk
    split
    · exact mPk_fix σ ord set c h k
    · dsimp only
      rw [mPlace_fix _ _ _ _ h]
      exact mPk_fix σ ord set c h k
def mFitsCode (nc np : Nat) (carton set : Int32) : Int32 := if mIn carton 0 (nI nc - 1) = 0 then 1 else if set < 1 then 2 else if set < (1 : Int32) <<< (nI np &&& 31) then 0 else 2
def mFitsX (σ : Nat → Nat → Int32) (ord : Nat → Nat) (np : Nat) (carton set : Int32) : (Nat → Nat → Int32) × Int32 × Int32 := mPk (gSt σ 0 0 0) ord set carton.toNatClampNeg np
def mFitsR (σ : Nat → Nat → Int32) (ord : Nat → Nat) (nc np : Nat) (carton set : Int32) : Int32 := if mFitsCode nc np carton set = 0 then mPackR (mFitsX σ ord np carton set) carton.toNatClampNeg else 0
def mFitsU (σ : Nat → Nat → Int32) (ord : Nat → Nat) (nc np : Nat) (carton set : Int32) : Nat → Nat → Int32 := if mFitsCode nc np carton set = 0 then (mFitsX σ ord np carton set).1 else gSt σ 0 0 (mFitsCode nc np carton set)
def mFB (σ : Nat → Nat → Int32) (ord : Nat → Nat) (set : Int32) (np : Nat) : Nat → (Nat → Nat → Int32) × Int32
  | 0 => (σ, -1)
  | c + 1 => ((mPk (mFB σ ord set np c).1 ord set c np).1, if mPackR (mPk (mFB σ ord set np c).1 ord set c np) c = 0 then (mFB σ ord set np c).2 else if (mFB σ ord set np c).2 < 0 then nI c else if σ 6 (mFB σ ord set np c).2.toNatClampNeg ≤ σ 6 c then (mFB σ ord set np c).2 else nI c)
def mFBs (σ : Nat → Nat → Int32) (ord : Nat → Nat) (nc np : Nat) : Nat → (Nat → Nat → Int32)
  | 0 => σ
  | j + 1 => gSt (mFB (mFBs σ ord nc np j) ord (nI (j + 1)) np nc).1 23 (j + 1) (mFB (mFBs σ ord nc np j) ord (nI (j + 1)) np nc).2

theorem gg_Md_135 (w0 : Cond) : GoodIn (w0 :: gBig) (wsV R_Md 135 R_Md y_Md_pack (.code y_Md_pack b_Md_pack 7 (some .boolean) :: gBig)) := gGoodV (gIn k_797 (by decide +kernel)) (gIn k_799 (by decide +kernel)) (gInP (List.mem_of_getElem? (i := 16) (by decide +kernel)) (by decide +kernel)) (gIn k_9 (by decide +kernel)) (gIn k_800 (by decide +kernel))
set_option maxHeartbeats 4000000 in
set_option maxRecDepth 100000 in
theorem c_Md_fits (l : Launch) (D : va_G) (t : Nat → ClassId) (a : Nat → Nat) (σ : Nat → Nat → Int32) (carton set : Int32) (nc np : Nat) (ord : Nat → Nat) (hC : σ 2 0 = nI nc) (hC4 : nc ≤ 4) (hN : σ 8 0 = nI np) (hN8 : np ≤ 8) (hord : ∀ k, k < np → ord k < np ∧ mBT (σ 11) np (nI k) np 0 = nI (ord k)) : gMi l D t y_Md_fits b_Md_fits 3 (some .boolean) 2 [.ref (a 0), .int carton, .int set] (wMd t a σ) (wMd t a) (fun r u => r = mFitsR σ ord nc np carton set ∧ u = mFitsU σ ord nc np carton set) := by
  intro A
  refine Met.ofW (cc := b_Md_fits) (maxL := 3) (ret := (some .boolean)) (by decide) rfl ?_
  intro p e s m args below meth c s₁ B hml hv
  obtain ⟨rfl, hK, hP, hD⟩ := hv
  have hx := B.exec
  have hb := B.bytes
  have hr := B.returns
  have hts := atoms_spec (ws := .code y_Md_fits b_Md_fits 3 (some .boolean) :: gBig) B.pre
  have hown : s.vm.findClass R_Md = some m.cls := findClass_of_methodNamed B.named
  have hlocks := B.notSynchronized
  have hS : va_S A s.heap s.heap [] := va_S.rf
  have hl := lv_entry ([.ref (a 0), .int carton, .int set]) (n := 3) (Nat.le_of_ble_eq_true rfl)
  rw [lg_entry_eq]
  generalize (lg_sl ([.ref (a 0), .int carton, .int set]) ++ List.replicate (3 - (lg_sl ([.ref (a 0), .int carton, .int set])).length) Slot.unset).toArray = ls at hl ⊢
  have hl : lv_has ls 3 [(0, .ref (a 0)), (1, .int carton), (2, .int set)] := hl
  show gGo l p e s m below meth c D t A 2 [.ref (a 0), .int carton, .int set] (wMd t a) (fun r u => r = mFitsR σ ord nc np carton set ∧ u = mFitsU σ ord nc np carton set) s.heap [] (F0 m 0 ls [])
  refine lv_aload_n hx hb d_Md_fits_0 rfl (lv_at hl 0 rfl) ?_
  refine lv_iload_n hx hb d_Md_fits_1 rfl (lv_at hl 1 rfl) ?_
  refine lv_iconst (v := 0) hx hb d_Md_fits_2 (by decide) ?_
  refine lv_aload_n hx hb d_Md_fits_3 rfl (lv_at hl 0 rfl) ?_
  refine va_get (D := D) (ci := 7) (v := .int (σ 2 0)) (C := R_Md) (T := F_Md) (N := 34) hx hb hts (fun w h => List.mem_cons_of_mem _ (i_Md w h)) hown hK.1 hP 0 (wMd_0 t a σ) rfl 2 (by decide) (hts (.fieldLink R_Md 105 "FlatBoxesModel" "cartons" "I") (List.mem_cons_of_mem _ (gIn k_668 (by decide +kernel)))) (fun _ h9 => h9) rfl d_Md_fits_4 ?_
  refine lv_topi (fun v_1 e_1 => ?_)
  obtain rfl : v_1 = nI nc := e_1.trans hC
  refine lv_iconst (v := 1) hx hb d_Md_fits_7 (by decide) ?_
  refine lv_isub hx hb d_Md_fits_8 ?_
  refine g_si (k := 3) (As := [.int carton, .int 0, .int ((nI nc) - 1)]) (rest := [.ref (a 0)]) (own := R_Md) (index := 96) ⟨hx, hb, hml, hown, hts⟩ (c_Md_in l D t a σ carton 0 ((nI nc) - 1)) (gg_Md_96 _) (by decide +kernel) ⟨Nat.le_of_ble_eq_true rfl, Nat.le_of_ble_eq_true rfl⟩ rfl hK hP hD hS hl.1 rfl (Nat.le_of_ble_eq_true rfl) ⟨Nat.zero_le _, Nat.zero_le _⟩ d_Md_fits_9 (fun r_2 u_2 H locs q_2 hP hD hS => ?_)
  obtain ⟨rfl, hu_2⟩ := q_2
  rw [hu_2] at hP hD
  refine lv_if_ne (tgt := 19) hx hb d_Md_fits_12 (by decide) (fun c_3 => ?_) (fun c_3 => ?_)
  · 
    refine lv_iload_n hx hb d_Md_fits_19 rfl (lv_at hl 2 rfl) ?_
    refine lv_iconst (v := 1) hx hb d_Md_fits_20 (by decide) ?_
    refine lv_icmp_lt (tgt := 34) hx hb d_Md_fits_21 (by decide) (fun c_4 => ?_) (fun c_4 => ?_)
    · 
      refine lv_iconst (v := 2) hx hb d_Md_fits_34 (by decide) ?_
      refine lv_goto (tgt := 39) hx hb d_Md_fits_35 (by decide) ?_
      refine va_put (D := D) (ci := 7) (v := .int 2) (ty := .int) (C := R_Md) (T := F_Md) (N := 34) hx hb hts (fun w h => List.mem_cons_of_mem _ (i_Md w h)) t_Md t_Md_ok n_Md hown hK.1 hP hD hS 0 (wMd_0 t a σ) rfl 0 (by decide) (hts (.fieldLink R_Md 93 "FlatBoxesModel" "code" "I") (List.mem_cons_of_mem _ (gIn k_666 (by decide +kernel)))) (fun _ h9 => h9) rfl (by decide +kernel) rfl rfl (Nat.le_of_ble_eq_true rfl) d_Md_fits_39 (fun H locs hP hD hS => ?_)
      have hP : va_P D gCl (wMd t a (gSt σ 0 0 2)) H := hP
      have hD : va_D A (wMd t a (gSt σ 0 0 2)) := hD
      refine lv_aload_n hx hb d_Md_fits_42 rfl (lv_at hl 0 rfl) ?_
      refine va_get (D := D) (ci := 7) (v := .int ((gSt σ 0 0 2) 0 0)) (C := R_Md) (T := F_Md) (N := 34) hx hb hts (fun w h => List.mem_cons_of_mem _ (i_Md w h)) hown hK.1 hP 0 (wMd_0 t a (gSt σ 0 0 2)) rfl 0 (by decide) (hts (.fieldLink R_Md 93 "FlatBoxesModel" "code" "I") (List.mem_cons_of_mem _ (gIn k_666 (by decide +kernel)))) (fun _ h9 => h9) rfl d_Md_fits_43 ?_
      refine lv_topi (fun v_5 e_5 => ?_)
      obtain rfl : v_5 = 2 := e_5.trans (rfl)
      refine lv_if_ne (tgt := 62) hx hb d_Md_fits_46 (by decide) (fun c_6 => ?_) (fun c_6 => ?_)
      · 
        refine lv_iconst (v := 0) hx hb d_Md_fits_62 (by decide) ?_
        exact W.zret (v := 0) (ty := .boolean) hx hb hr (rfl) (fun U hU hW => ⟨⟨0, gSt σ 0 0 2, rfl, by exact ⟨by simp [mFitsR, mFitsCode, c_3, c_4, c_6], by simp [mFitsU, mFitsCode, c_3, c_4, c_6]⟩, by rw [hU]; exact hP, hD⟩, hS.F hU⟩) hS.2.2 d_Md_fits_63
      · 
        exact absurd c_6 (by decide)
    · 
      refine lv_iload_n hx hb d_Md_fits_24 rfl (lv_at hl 2 rfl) ?_
      refine lv_iconst (v := 1) hx hb d_Md_fits_25 (by decide) ?_
      refine lv_aload_n hx hb d_Md_fits_26 rfl (lv_at hl 0 rfl) ?_
      refine va_get (D := D) (ci := 7) (v := .int (σ 8 0)) (C := R_Md) (T := F_Md) (N := 34) hx hb hts (fun w h => List.mem_cons_of_mem _ (i_Md w h)) hown hK.1 hP 0 (wMd_0 t a σ) rfl 8 (by decide) (hts (.fieldLink R_Md 113 "FlatBoxesModel" "parts" "I") (List.mem_cons_of_mem _ (gIn k_674 (by decide +kernel)))) (fun _ h9 => h9) rfl d_Md_fits_27 ?_
      refine lv_topi (fun v_7 e_7 => ?_)
      obtain rfl : v_7 = nI np := e_7.trans hN
      refine lv_ishl hx hb d_Md_fits_30 ?_
      refine lv_icmp_lt (tgt := 38) hx hb d_Md_fits_31 (by decide) (fun c_8 => ?_) (fun c_8 => ?_)
      · 
        refine lv_iconst (v := 0) hx hb d_Md_fits_38 (by decide) ?_
        refine va_put (D := D) (ci := 7) (v := .int 0) (ty := .int) (C := R_Md) (T := F_Md) (N := 34) hx hb hts (fun w h => List.mem_cons_of_mem _ (i_Md w h)) t_Md t_Md_ok n_Md hown hK.1 hP hD hS 0 (wMd_0 t a σ) rfl 0 (by decide) (hts (.fieldLink R_Md 93 "FlatBoxesModel" "code" "I") (List.mem_cons_of_mem _ (gIn k_666 (by decide +kernel)))) (fun _ h9 => h9) rfl (by decide +kernel) rfl rfl (Nat.le_of_ble_eq_true rfl) d_Md_fits_39 (fun H locs hP hD hS => ?_)
        have hP : va_P D gCl (wMd t a (gSt σ 0 0 0)) H := hP
        have hD : va_D A (wMd t a (gSt σ 0 0 0)) := hD
        refine lv_aload_n hx hb d_Md_fits_42 rfl (lv_at hl 0 rfl) ?_
        refine va_get (D := D) (ci := 7) (v := .int ((gSt σ 0 0 0) 0 0)) (C := R_Md) (T := F_Md) (N := 34) hx hb hts (fun w h => List.mem_cons_of_mem _ (i_Md w h)) hown hK.1 hP 0 (wMd_0 t a (gSt σ 0 0 0)) rfl 0 (by decide) (hts (.fieldLink R_Md 93 "FlatBoxesModel" "code" "I") (List.mem_cons_of_mem _ (gIn k_666 (by decide +kernel)))) (fun _ h9 => h9) rfl d_Md_fits_43 ?_
        refine lv_topi (fun v_9 e_9 => ?_)
        obtain rfl : v_9 = 0 := e_9.trans (rfl)
        refine lv_if_ne (tgt := 62) hx hb d_Md_fits_46 (by decide) (fun c_10 => ?_) (fun c_10 => ?_)
        · 
          exact absurd c_10 (by decide)
        · 
          have hcd : mFitsCode nc np carton set = 0 := by simp [mFitsCode, c_3, c_4, c_8, c_10]
          obtain ⟨cc, hcc, rfl⟩ := mIn_nat (n := nc) (by omega) c_3
          refine lv_aload_n hx hb d_Md_fits_49 rfl (lv_at hl 0 rfl) ?_
          refine lv_iload_n hx hb d_Md_fits_50 rfl (lv_at hl 2 rfl) ?_
          refine lv_iload_n hx hb d_Md_fits_51 rfl (lv_at hl 1 rfl) ?_
          refine g_vi (k := 2) (As := [.int set, .int (nI cc)]) (rest := []) (own := R_Md) (C := R_Md) (index := 135) ⟨hx, hb, hml, hown, hts⟩ (c_Md_pack l D t a (gSt σ 0 0 0) set cc np ord hN hN8 (by omega) hord) (gg_Md_135 _) (by decide +kernel) ⟨Nat.le_of_ble_eq_true rfl, Nat.le_of_ble_eq_true rfl⟩ rfl (va_recv hK.1 hP (ci := 7) (q0 := 0) rfl (wMd_0 t a (gSt σ 0 0 0))) hK hP hD hS hl.1 rfl (Nat.le_of_ble_eq_true rfl) ⟨Nat.zero_le _, Nat.zero_le _⟩ d_Md_fits_52 (fun r_11 u_11 H locs q_11 hP hD hS => ?_)
          obtain ⟨rfl, hu_11⟩ := q_11
          rw [hu_11] at hP hD
          refine lv_if_eq (tgt := 62) hx hb d_Md_fits_55 (by decide) (fun c_12 => ?_) (fun c_12 => ?_)
          · 
            refine lv_iconst (v := 0) hx hb d_Md_fits_62 (by decide) ?_
            exact W.zret (v := 0) (ty := .boolean) hx hb hr (rfl) (fun U hU hW => ⟨⟨0, (mPk (gSt σ 0 0 0) ord set cc np).1, rfl, by exact ⟨by rw [mFitsR, if_pos hcd, mFitsX, nI_clamp (show cc < 2 ^ 31 by omega)]; exact Eq.symm (by assumption), by rw [mFitsU, if_pos hcd, mFitsX, nI_clamp (show cc < 2 ^ 31 by omega)]⟩, by rw [hU]; exact hP, hD⟩, hS.F hU⟩) hS.2.2 d_Md_fits_63
          · 
            refine lv_iconst (v := 1) hx hb d_Md_fits_58 (by decide) ?_
            refine lv_goto (tgt := 63) hx hb d_Md_fits_59 (by decide) ?_
            exact W.zret (v := 1) (ty := .boolean) hx hb hr (rfl) (fun U hU hW => ⟨⟨1, (mPk (gSt σ 0 0 0) ord set cc np).1, rfl, by exact ⟨by rw [mFitsR, if_pos hcd, mFitsX, nI_clamp (show cc < 2 ^ 31 by omega)]; exact gb1 (mPackR01 _ _) (by assumption), by rw [mFitsU, if_pos hcd, mFitsX, nI_clamp (show cc < 2 ^ 31 by omega)]⟩, by rw [hU]; exact hP, hD⟩, hS.F hU⟩) hS.2.2 d_Md_fits_63
      · 
        refine lv_iconst (v := 2) hx hb d_Md_fits_34 (by decide) ?_
        refine lv_goto (tgt := 39) hx hb d_Md_fits_35 (by decide) ?_
        refine va_put (D := D) (ci := 7) (v := .int 2) (ty := .int) (C := R_Md) (T := F_Md) (N := 34) hx hb hts (fun w h => List.mem_cons_of_mem _ (i_Md w h)) t_Md t_Md_ok n_Md hown hK.1 hP hD hS 0 (wMd_0 t a σ) rfl 0 (by decide) (hts (.fieldLink R_Md 93 "FlatBoxesModel" "code" "I") (List.mem_cons_of_mem _ (gIn k_666 (by decide +kernel)))) (fun _ h9 => h9) rfl (by decide +kernel) rfl rfl (Nat.le_of_ble_eq_true rfl) d_Md_fits_39 (fun H locs hP hD hS => ?_)
        have hP : va_P D gCl (wMd t a (gSt σ 0 0 2)) H := hP
        have hD : va_D A (wMd t a (gSt σ 0 0 2)) := hD
        refine lv_aload_n hx hb d_Md_fits_42 rfl (lv_at hl 0 rfl) ?_
        refine va_get (D := D) (ci := 7) (v := .int ((gSt σ 0 0 2) 0 0)) (C := R_Md) (T := F_Md) (N := 34) hx hb hts (fun w h => List.mem_cons_of_mem _ (i_Md w h)) hown hK.1 hP 0 (wMd_0 t a (gSt σ 0 0 2)) rfl 0 (by decide) (hts (.fieldLink R_Md 93 "FlatBoxesModel" "code" "I") (List.mem_cons_of_mem _ (gIn k_666 (by decide +kernel)))) (fun _ h9 => h9) rfl d_Md_fits_43 ?_
        refine lv_topi (fun v_13 e_13 => ?_)
        obtain rfl : v_13 = 2 := e_13.trans (rfl)
        refine lv_if_ne (tgt := 62) hx hb d_Md_fits_46 (by decide) (fun c_14 => ?_) (fun c_14 => ?_)
        · 
          refine lv_iconst (v := 0) hx hb d_Md_fits_62 (by decide) ?_
          exact W.zret (v := 0) (ty := .boolean) hx hb hr (rfl) (fun U hU hW => ⟨⟨0, gSt σ 0 0 2, rfl, by exact ⟨by simp [mFitsR, mFitsCode, c_3, c_4, c_8, c_14], by simp [mFitsU, mFitsCode, c_3, c_4, c_8, c_14]⟩, by rw [hU]; exact hP, hD⟩, hS.F hU⟩) hS.2.2 d_Md_fits_63
        · 
          exact absurd c_14 (by decide)
  · 
    refine lv_iconst (v := 1) hx hb d_Md_fits_15 (by decide) ?_
    refine lv_goto (tgt := 39) hx hb d_Md_fits_16 (by decide) ?_
    refine va_put (D := D) (ci := 7) (v := .int 1) (ty := .int) (C := R_Md) (T := F_Md) (N := 34) hx hb hts (fun w h => List.mem_cons_of_mem _ (i_Md w h)) t_Md t_Md_ok n_Md hown hK.1 hP hD hS 0 (wMd_0 t a σ) rfl 0 (by decide) (hts (.fieldLink R_Md 93 "FlatBoxesModel" "code" "I") (List.mem_cons_of_mem _ (gIn k_666 (by decide +kernel)))) (fun _ h9 => h9) rfl (by decide +kernel) rfl rfl (Nat.le_of_ble_eq_true rfl) d_Md_fits_39 (fun H locs hP hD hS => ?_)
    have hP : va_P D gCl (wMd t a (gSt σ 0 0 1)) H := hP
    have hD : va_D A (wMd t a (gSt σ 0 0 1)) := hD
    refine lv_aload_n hx hb d_Md_fits_42 rfl (lv_at hl 0 rfl) ?_
    refine va_get (D := D) (ci := 7) (v := .int ((gSt σ 0 0 1) 0 0)) (C := R_Md) (T := F_Md) (N := 34) hx hb hts (fun w h => List.mem_cons_of_mem _ (i_Md w h)) hown hK.1 hP 0 (wMd_0 t a (gSt σ 0 0 1)) rfl 0 (by decide) (hts (.fieldLink R_Md 93 "FlatBoxesModel" "code" "I") (List.mem_cons_of_mem _ (gIn k_666 (by decide +kernel)))) (fun _ h9 => h9) rfl d_Md_fits_43 ?_
    refine lv_topi (fun v_15 e_15 => ?_)
    obtain rfl : v_15 = 1 := e_15.trans (rfl)
    refine lv_if_ne (tgt := 62) hx hb d_Md_fits_46 (by decide) (fun c_16 => ?_) (fun c_16 => ?_)
    · 
      refine lv_iconst (v := 0) hx hb d_Md_fits_62 (by decide) ?_
      exact W.zret (v := 0) (ty := .boolean) hx hb hr (rfl) (fun U hU hW => ⟨⟨0, gSt σ 0 0 1, rfl, by exact ⟨by simp [mFitsR, mFitsCode, c_3, c_16], by simp [mFitsU, mFitsCode, c_3, c_16]⟩, by rw [hU]; exact hP, hD⟩, hS.F hU⟩) hS.2.2 d_Md_fits_63
    · 
      exact absurd c_16 (by decide)
