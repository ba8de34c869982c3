def mFragC (np : Nat) (pq : Int32) : Int32 := if mIn pq 0 (nI np - 1) = 0 then 1 else 0
def mFragN (σ : Nat → Nat → Int32) (pq on : Int32) : Int32 := if σ 14 pq.toNatClampNeg = on then 0 else 1
def mFragR (σ : Nat → Nat → Int32) (np : Nat) (pq on : Int32) : Int32 := if mFragC np pq = 0 then mFragN σ pq on else 0
def mFragU (σ : Nat → Nat → Int32) (np : Nat) (pq on : Int32) : Nat → Nat → Int32 := if mFragC np pq = 0 then gSt (gSt (gSt σ 0 0 0) 14 pq.toNatClampNeg on) 24 0 (if σ 24 0 = 0 then 0 else if mFragN σ pq on = 0 then 1 else 0) else gSt σ 0 0 1
def mBefS (f : Nat → Int32) (q : Nat) : Nat → Int32
  | 0 => 0
  | r + 1 => mBefS f q r + (if f r < f q then 1 else if ¬ f r = f q then 0 else if q ≤ r then 0 else 1)
def mMan (f : Nat → Int32) (np : Nat) (k : Int32) : Nat → Nat → Int32
  | 0, _ => 0
  | d + 1, q => if mBefS f q np = k then nI q else mMan f np k d (q + 1)
def mManC (np : Nat) (k : Int32) : Int32 := if mIn k 0 (nI np - 1) = 0 then 1 else 0
def mManR (σ : Nat → Nat → Int32) (np : Nat) (k : Int32) : Int32 := if mManC np k = 0 then mMan (σ 13) np k np 0 else 0
def mIntoG (mn ec sp : Int32) : Int32 := if mIn mn 0 1000 = 0 then 0 else if mIn ec 1 1000 = 0 then 0 else if mIn sp 0 ec = 0 then 0 else 1
def mIntoC (nb : Nat) (kc : Nat → Nat) (bg mn ec sp : Int32) : Int32 := if mIn bg 0 (nI nb - 1) = 0 then 1 else if mIntoG mn ec sp = 0 then 2 else if kc bg.toNatClampNeg = 6 then 3 else 0
def mIntoR (nb : Nat) (kc : Nat → Nat) (bg mn ec sp : Int32) : Int32 := if mIntoC nb kc bg mn ec sp = 0 then nI (kc bg.toNatClampNeg + 1) else 0
def mIntoU (σ : Nat → Nat → Int32) (nb : Nat) (kc : Nat → Nat) (bg mn ec sp : Int32) : Nat → Nat → Int32 := if mIntoC nb kc bg mn ec sp = 0 then gSt (gSt (gSt (gSt (gSt σ 0 0 0) 31 (6 * bg.toNatClampNeg + kc bg.toNatClampNeg) mn) 32 (6 * bg.toNatClampNeg + kc bg.toNatClampNeg) ec) 33 (6 * bg.toNatClampNeg + kc bg.toNatClampNeg) sp) 30 bg.toNatClampNeg (nI (kc bg.toNatClampNeg + 1)) else gSt σ 0 0 (mIntoC nb kc bg mn ec sp)
theorem gMul6 (b : Nat) : (6 : Int32) * nI b = nI (6 * b) := pk_mul 6 b
def mS1 (σ : Nat → Nat → Int32) (x : Nat) (b : Nat) : Nat → Int32
  | 0 => 0
  | j + 1 => mS1 σ x b j + σ 31 (6 * b + j) * σ x (6 * b + j)
def mUns (σ : Nat → Nat → Int32) (v sm sr : Int32) (b : Nat) : Nat → Int32
  | 0 => 0
  | j + 1 => if ¬ mUns σ v sm sr b j = 0 then 1 else if σ 31 (6 * b + j) ≤ 0 then mWithin v (sm + σ 32 (6 * b + j)) (sr + σ 33 (6 * b + j)) else if ¬ mWithin v (sm - σ 32 (6 * b + j)) (sr - σ 33 (6 * b + j)) = 0 then 1 else mWithin v (sm + σ 32 (6 * b + j)) (sr + σ 33 (6 * b + j))
theorem mWithin01 (v s r : Int32) : mWithin v s r = 0 ∨ mWithin v s r = 1 := by unfold mWithin; split; simp; split <;> simp

theorem gg_Md_100 (w0 : Cond) : GoodIn (w0 :: gBig) (wsS R_Md 100 y_Md_isSide (.code y_Md_isSide b_Md_isSide 1 (some .boolean) :: gBig)) := gGoodS (gIn k_777 (by decide +kernel)) (gIn k_778 (by decide +kernel)) (gIn k_9 (by decide +kernel)) (gIn k_779 (by decide +kernel))
set_option maxHeartbeats 4000000 in
set_option maxRecDepth 100000 in
theorem c_Md_carton (l : Launch) (D : va_G) (t : Nat → ClassId) (a : Nat → Nat) (σ : Nat → Nat → Int32) (wd dp ht ct gr : Int32) (nc : Nat) (hC : σ 2 0 = nI nc) (hC4 : nc ≤ 4) : gMi l D t y_Md_carton b_Md_carton 7 (some .int) 2 [.ref (a 0), .int wd, .int dp, .int ht, .int ct, .int gr] (wMd t a σ) (wMd t a) (fun r u => r = mCartonR nc wd dp ht ct gr ∧ u = mCartonU σ nc wd dp ht ct gr) := by
  intro A
  refine Met.ofW (cc := b_Md_carton) (maxL := 7) (ret := (some .int)) (by decide) rfl ?_
  intro p e s m args below meth c s₁ B hml hv
  obtain ⟨rfl, hK, hP, hD⟩ := hv
  have hx := B.exec
  have hb := B.bytes
  have hr := B.returns
  have hts := atoms_spec (ws := .code y_Md_carton b_Md_carton 7 (some .int) :: gBig) B.pre
  have hown : s.vm.findClass R_Md = some m.cls := findClass_of_methodNamed B.named
  have hlocks := B.notSynchronized
  have hS : va_S A s.heap s.heap [] := va_S.rf
  have hl := lv_entry ([.ref (a 0), .int wd, .int dp, .int ht, .int ct, .int gr]) (n := 7) (Nat.le_of_ble_eq_true rfl)
  rw [lg_entry_eq]
  generalize (lg_sl ([.ref (a 0), .int wd, .int dp, .int ht, .int ct, .int gr]) ++ List.replicate (7 - (lg_sl ([.ref (a 0), .int wd, .int dp, .int ht, .int ct, .int gr])).length) Slot.unset).toArray = ls at hl ⊢
  have hl : lv_has ls 7 [(0, .ref (a 0)), (1, .int wd), (2, .int dp), (3, .int ht), (4, .int ct), (5, .int gr)] := hl
  show gGo l p e s m below meth c D t A 2 [.ref (a 0), .int wd, .int dp, .int ht, .int ct, .int gr] (wMd t a) (fun r u => r = mCartonR nc wd dp ht ct gr ∧ u = mCartonU σ nc wd dp ht ct gr) s.heap [] (F0 m 0 ls [])
  refine lv_iload_n hx hb d_Md_carton_0 rfl (lv_at hl 1 rfl) ?_
  refine g_si (k := 1) (As := [.int wd]) (rest := []) (own := R_Md) (index := 100) ⟨hx, hb, hml, hown, hts⟩ (c_Md_isSide l D t a σ wd) (gg_Md_100 _) (by decide +kernel) ⟨Nat.le_of_ble_eq_true rfl, Nat.le_of_ble_eq_true rfl⟩ rfl hK hP hD hS hl.1 rfl (Nat.le_of_ble_eq_true rfl) ⟨Nat.zero_le _, Nat.zero_le _⟩ d_Md_carton_1 (fun r_1 u_1 H locs q_1 hP hD hS => ?_)
  obtain ⟨rfl, hu_1⟩ := q_1
  rw [hu_1] at hP hD
  refine lv_if_eq (tgt := 47) hx hb d_Md_carton_4 (by decide) (fun c_2 => ?_) (fun c_2 => ?_)
  · 
    refine lv_iconst (v := 0) hx hb d_Md_carton_47 (by decide) ?_
    refine lv_istore (lv' := [(6, .int 0), (0, .ref (a 0)), (1, .int wd), (2, .int dp), (3, .int ht), (4, .int ct), (5, .int gr)]) hx hb d_Md_carton_48 hl (by decide) rfl (fun ls hl => ?_)
    refine lv_aload_n hx hb d_Md_carton_50 rfl (lv_at hl 1 rfl) ?_
    refine lv_iload hx hb d_Md_carton_51 (lv_at hl 0 rfl) ?_
    refine lv_if_ne (tgt := 60) hx hb d_Md_carton_53 (by decide) (fun c_3 => ?_) (fun c_3 => ?_)
    · 
      exact absurd c_3 (by decide)
    · 
      refine lv_iconst (v := 1) hx hb d_Md_carton_56 (by decide) ?_
      refine lv_goto (tgt := 73) hx hb d_Md_carton_57 (by decide) ?_
      refine va_put (D := D) (ci := 7) (v := .int 1) (ty := .int) (C := R_Md) (T := F_Md) (N := 34) hx hb hts (fun w h => List.mem_cons_of_mem _ (i_Md w h)) t_Md t_Md_ok n_Md hown hK.1 hP hD hS 0 (wMd_0 t a σ) rfl 0 (by decide) (hts (.fieldLink R_Md 93 "FlatBoxesModel" "code" "I") (List.mem_cons_of_mem _ (gIn k_666 (by decide +kernel)))) (fun _ h9 => h9) rfl (by decide +kernel) rfl rfl (Nat.le_of_ble_eq_true rfl) d_Md_carton_73 (fun H locs hP hD hS => ?_)
      have hP : va_P D gCl (wMd t a (gSt σ 0 0 1)) H := hP
      have hD : va_D A (wMd t a (gSt σ 0 0 1)) := hD
      refine lv_aload_n hx hb d_Md_carton_76 rfl (lv_at hl 1 rfl) ?_
      refine va_get (D := D) (ci := 7) (v := .int ((gSt σ 0 0 1) 0 0)) (C := R_Md) (T := F_Md) (N := 34) hx hb hts (fun w h => List.mem_cons_of_mem _ (i_Md w h)) hown hK.1 hP 0 (wMd_0 t a (gSt σ 0 0 1)) rfl 0 (by decide) (hts (.fieldLink R_Md 93 "FlatBoxesModel" "code" "I") (List.mem_cons_of_mem _ (gIn k_666 (by decide +kernel)))) (fun _ h9 => h9) rfl d_Md_carton_77 ?_
      refine lv_topi (fun v_4 e_4 => ?_)
      obtain rfl : 1 = v_4 := (e_4.trans (rfl)).symm
      refine lv_if_le (tgt := 85) hx hb d_Md_carton_80 (by decide) (fun c_5 => ?_) (fun c_5 => ?_)
      · 
        exact absurd c_5 (by decide)
      · 
        refine lv_iconst (v := 0) hx hb d_Md_carton_83 (by decide) ?_
        exact W.iret (v := 0) hx hb hr (fun U hU hW => ⟨⟨0, gSt σ 0 0 1, rfl, by exact ⟨by simp [mCartonR, mCartonC, mAll, c_2, c_3, c_5], by simp [mCartonU, mCartonC, mAll, c_2, c_3, c_5]⟩, by rw [hU]; exact hP, hD⟩, hS.F hU⟩) hS.2.2 d_Md_carton_84
  · 
    refine lv_iload_n hx hb d_Md_carton_7 rfl (lv_at hl 2 rfl) ?_
    refine g_si (k := 1) (As := [.int dp]) (rest := []) (own := R_Md) (index := 100) ⟨hx, hb, hml, hown, hts⟩ (c_Md_isSide l D t a σ dp) (gg_Md_100 _) (by decide +kernel) ⟨Nat.le_of_ble_eq_true rfl, Nat.le_of_ble_eq_true rfl⟩ rfl hK hP hD hS hl.1 rfl (Nat.le_of_ble_eq_true rfl) ⟨Nat.zero_le _, Nat.zero_le _⟩ d_Md_carton_8 (fun r_6 u_6 H locs q_6 hP hD hS => ?_)
    obtain ⟨rfl, hu_6⟩ := q_6
    rw [hu_6] at hP hD
    refine lv_if_eq (tgt := 47) hx hb d_Md_carton_11 (by decide) (fun c_7 => ?_) (fun c_7 => ?_)
    · 
      refine lv_iconst (v := 0) hx hb d_Md_carton_47 (by decide) ?_
      refine lv_istore (lv' := [(6, .int 0), (0, .ref (a 0)), (1, .int wd), (2, .int dp), (3, .int ht), (4, .int ct), (5, .int gr)]) hx hb d_Md_carton_48 hl (by decide) rfl (fun ls hl => ?_)
      refine lv_aload_n hx hb d_Md_carton_50 rfl (lv_at hl 1 rfl) ?_
      refine lv_iload hx hb d_Md_carton_51 (lv_at hl 0 rfl) ?_
      refine lv_if_ne (tgt := 60) hx hb d_Md_carton_53 (by decide) (fun c_8 => ?_) (fun c_8 => ?_)
      · 
        exact absurd c_8 (by decide)
      · 
        refine lv_iconst (v := 1) hx hb d_Md_carton_56 (by decide) ?_
        refine lv_goto (tgt := 73) hx hb d_Md_carton_57 (by decide) ?_
        refine va_put (D := D) (ci := 7) (v := .int 1) (ty := .int) (C := R_Md) (T := F_Md) (N := 34) hx hb hts (fun w h => List.mem_cons_of_mem _ (i_Md w h)) t_Md t_Md_ok n_Md hown hK.1 hP hD hS 0 (wMd_0 t a σ) rfl 0 (by decide) (hts (.fieldLink R_Md 93 "FlatBoxesModel" "code" "I") (List.mem_cons_of_mem _ (gIn k_666 (by decide +kernel)))) (fun _ h9 => h9) rfl (by decide +kernel) rfl rfl (Nat.le_of_ble_eq_true rfl) d_Md_carton_73 (fun H locs hP hD hS => ?_)
        have hP : va_P D gCl (wMd t a (gSt σ 0 0 1)) H := hP
        have hD : va_D A (wMd t a (gSt σ 0 0 1)) := hD
        refine lv_aload_n hx hb d_Md_carton_76 rfl (lv_at hl 1 rfl) ?_
        refine va_get (D := D) (ci := 7) (v := .int ((gSt σ 0 0 1) 0 0)) (C := R_Md) (T := F_Md) (N := 34) hx hb hts (fun w h => List.mem_cons_of_mem _ (i_Md w h)) hown hK.1 hP 0 (wMd_0 t a (gSt σ 0 0 1)) rfl 0 (by decide) (hts (.fieldLink R_Md 93 "FlatBoxesModel" "code" "I") (List.mem_cons_of_mem _ (gIn k_666 (by decide +kernel)))) (fun _ h9 => h9) rfl d_Md_carton_77 ?_
        refine lv_topi (fun v_9 e_9 => ?_)
        obtain rfl : 1 = v_9 := (e_9.trans (rfl)).symm
        refine lv_if_le (tgt := 85) hx hb d_Md_carton_80 (by decide) (fun c_10 => ?_) (fun c_10 => ?_)
        · 
          exact absurd c_10 (by decide)
        · 
          refine lv_iconst (v := 0) hx hb d_Md_carton_83 (by decide) ?_
          exact W.iret (v := 0) hx hb hr (fun U hU hW => ⟨⟨0, gSt σ 0 0 1, rfl, by exact ⟨by simp [mCartonR, mCartonC, mAll, c_2, c_7, c_8, c_10], by simp [mCartonU, mCartonC, mAll, c_2, c_7, c_8, c_10]⟩, by rw [hU]; exact hP, hD⟩, hS.F hU⟩) hS.2.2 d_Md_carton_84
    · 
      refine lv_iload_n hx hb d_Md_carton_14 rfl (lv_at hl 3 rfl) ?_
      refine g_si (k := 1) (As := [.int ht]) (rest := []) (own := R_Md) (index := 100) ⟨hx, hb, hml, hown, hts⟩ (c_Md_isSide l D t a σ ht) (gg_Md_100 _) (by decide +kernel) ⟨Nat.le_of_ble_eq_true rfl, Nat.le_of_ble_eq_true rfl⟩ rfl hK hP hD hS hl.1 rfl (Nat.le_of_ble_eq_true rfl) ⟨Nat.zero_le _, Nat.zero_le _⟩ d_Md_carton_15 (fun r_11 u_11 H locs q_11 hP hD hS => ?_)
      obtain ⟨rfl, hu_11⟩ := q_11
      rw [hu_11] at hP hD
      refine lv_if_eq (tgt := 47) hx hb d_Md_carton_18 (by decide) (fun c_12 => ?_) (fun c_12 => ?_)
      · 
        refine lv_iconst (v := 0) hx hb d_Md_carton_47 (by decide) ?_
        refine lv_istore (lv' := [(6, .int 0), (0, .ref (a 0)), (1, .int wd), (2, .int dp), (3, .int ht), (4, .int ct), (5, .int gr)]) hx hb d_Md_carton_48 hl (by decide) rfl (fun ls hl => ?_)
        refine lv_aload_n hx hb d_Md_carton_50 rfl (lv_at hl 1 rfl) ?_
        refine lv_iload hx hb d_Md_carton_51 (lv_at hl 0 rfl) ?_
        refine lv_if_ne (tgt := 60) hx hb d_Md_carton_53 (by decide) (fun c_13 => ?_) (fun c_13 => ?_)
        · 
          exact absurd c_13 (by decide)
        · 
          refine lv_iconst (v := 1) hx hb d_Md_carton_56 (by decide) ?_
          refine lv_goto (tgt := 73) hx hb d_Md_carton_57 (by decide) ?_
          refine va_put (D := D) (ci := 7) (v := .int 1) (ty := .int) (C := R_Md) (T := F_Md) (N := 34) hx hb hts (fun w h => List.mem_cons_of_mem _ (i_Md w h)) t_Md t_Md_ok n_Md hown hK.1 hP hD hS 0 (wMd_0 t a σ) rfl 0 (by decide) (hts (.fieldLink R_Md 93 "FlatBoxesModel" "code" "I") (List.mem_cons_of_mem _ (gIn k_666 (by decide +kernel)))) (fun _ h9 => h9) rfl (by decide +kernel) rfl rfl (Nat.le_of_ble_eq_true rfl) d_Md_carton_73 (fun H locs hP hD hS => ?_)
          have hP : va_P D gCl (wMd t a (gSt σ 0 0 1)) H := hP
          have hD : va_D A (wMd t a (gSt σ 0 0 1)) := hD
          refine lv_aload_n hx hb d_Md_carton_76 rfl (lv_at hl 1 rfl) ?_
          refine va_get (D := D) (ci := 7) (v := .int ((gSt σ 0 0 1) 0 0)) (C := R_Md) (T := F_Md) (N := 34) hx hb hts (fun w h => List.mem_cons_of_mem _ (i_Md w h)) hown hK.1 hP 0 (wMd_0 t a (gSt σ 0 0 1)) rfl 0 (by decide) (hts (.fieldLink R_Md 93 "FlatBoxesModel" "code" "I") (List.mem_cons_of_mem _ (gIn k_666 (by decide +kernel)))) (fun _ h9 => h9) rfl d_Md_carton_77 ?_
          refine lv_topi (fun v_14 e_14 => ?_)
          obtain rfl : 1 = v_14 := (e_14.trans (rfl)).symm
          refine lv_if_le (tgt := 85) hx hb d_Md_carton_80 (by decide) (fun c_15 => ?_) (fun c_15 => ?_)
          · 
            exact absurd c_15 (by decide)
          · 
            refine lv_iconst (v := 0) hx hb d_Md_carton_83 (by decide) ?_
            exact W.iret (v := 0) hx hb hr (fun U hU hW => ⟨⟨0, gSt σ 0 0 1, rfl, by exact ⟨by simp [mCartonR, mCartonC, mAll, c_2, c_7, c_12, c_13, c_15], by simp [mCartonU, mCartonC, mAll, c_2, c_7, c_12, c_13, c_15]⟩, by rw [hU]; exact hP, hD⟩, hS.F hU⟩) hS.2.2 d_Md_carton_84
      · 
        refine lv_iload hx hb d_Md_carton_21 (lv_at hl 4 rfl) ?_
        refine lv_iconst (v := 1) hx hb d_Md_carton_23 (by decide) ?_
        refine lv_ldc hx hb hown (hts (.constant R_Md 104 100000) (List.mem_cons_of_mem _ (gIn k_783 (by decide +kernel)))) d_Md_carton_24 ?_
        refine g_si (k := 3) (As := [.int ct, .int 1, .int 100000]) (rest := []) (own := R_Md) (index := 96) ⟨hx, hb, hml, hown, hts⟩ (c_Md_in l D t a σ ct 1 100000) (gg_Md_96 _) (by decide +kernel) ⟨Nat.le_of_ble_eq_true rfl, Nat.le_of_ble_eq_true rfl⟩ rfl hK hP hD hS hl.1 rfl (Nat.le_of_ble_eq_true rfl) ⟨Nat.zero_le _, Nat.zero_le _⟩ d_Md_carton_26 (fun r_16 u_16 H locs q_16 hP hD hS => ?_)
        obtain ⟨rfl, hu_16⟩ := q_16
        rw [hu_16] at hP hD
        refine lv_if_eq (tgt := 47) hx hb d_Md_carton_29 (by decide) (fun c_17 => ?_) (fun c_17 => ?_)
        · 
          refine lv_iconst (v := 0) hx hb d_Md_carton_47 (by decide) ?_
          refine lv_istore (lv' := [(6, .int 0), (0, .ref (a 0)), (1, .int wd), (2, .int dp), (3, .int ht), (4, .int ct), (5, .int gr)]) hx hb d_Md_carton_48 hl (by decide) rfl (fun ls hl => ?_)
          refine lv_aload_n hx hb d_Md_carton_50 rfl (lv_at hl 1 rfl) ?_
          refine lv_iload hx hb d_Md_carton_51 (lv_at hl 0 rfl) ?_
          refine lv_if_ne (tgt := 60) hx hb d_Md_carton_53 (by decide) (fun c_18 => ?_) (fun c_18 => ?_)
          · 
            exact absurd c_18 (by decide)
          · 
            refine lv_iconst (v := 1) hx hb d_Md_carton_56 (by decide) ?_
            refine lv_goto (tgt := 73) hx hb d_Md_carton_57 (by decide) ?_
            refine va_put (D := D) (ci := 7) (v := .int 1) (ty := .int) (C := R_Md) (T := F_Md) (N := 34) hx hb hts (fun w h => List.mem_cons_of_mem _ (i_Md w h)) t_Md t_Md_ok n_Md hown hK.1 hP hD hS 0 (wMd_0 t a σ) rfl 0 (by decide) (hts (.fieldLink R_Md 93 "FlatBoxesModel" "code" "I") (List.mem_cons_of_mem _ (gIn k_666 (by decide +kernel)))) (fun _ h9 => h9) rfl (by decide +kernel) rfl rfl (Nat.le_of_ble_eq_true rfl) d_Md_carton_73 (fun H locs hP hD hS => ?_)
            have hP : va_P D gCl (wMd t a (gSt σ 0 0 1)) H := hP
            have hD : va_D A (wMd t a (gSt σ 0 0 1)) := hD
            refine lv_aload_n hx hb d_Md_carton_76 rfl (lv_at hl 1 rfl) ?_
            refine va_get (D := D) (ci := 7) (v := .int ((gSt σ 0 0 1) 0 0)) (C := R_Md) (T := F_Md) (N := 34) hx hb hts (fun w h => List.mem_cons_of_mem _ (i_Md w h)) hown hK.1 hP 0 (wMd_0 t a (gSt σ 0 0 1)) rfl 0 (by decide) (hts (.fieldLink R_Md 93 "FlatBoxesModel" "code" "I") (List.mem_cons_of_mem _ (gIn k_666 (by decide +kernel)))) (fun _ h9 => h9) rfl d_Md_carton_77 ?_
            refine lv_topi (fun v_19 e_19 => ?_)
            obtain rfl : 1 = v_19 := (e_19.trans (rfl)).symm
            refine lv_if_le (tgt := 85) hx hb d_Md_carton_80 (by decide) (fun c_20 => ?_) (fun c_20 => ?_)
            · 
              exact absurd c_20 (by decide)
            · 
              refine lv_iconst (v := 0) hx hb d_Md_carton_83 (by decide) ?_
              exact W.iret (v := 0) hx hb hr (fun U hU hW => ⟨⟨0, gSt σ 0 0 1, rfl, by exact ⟨by simp [mCartonR, mCartonC, mAll, c_2, c_7, c_12, c_17, c_18, c_20], by simp [mCartonU, mCartonC, mAll, c_2, c_7, c_12, c_17, c_18, c_20]⟩, by rw [hU]; exact hP, hD⟩, hS.F hU⟩) hS.2.2 d_Md_carton_84
        · 
          refine lv_iload hx hb d_Md_carton_32 (lv_at hl 5 rfl) ?_
          refine lv_iconst (v := 1) hx hb d_Md_carton_34 (by decide) ?_
          refine lv_ldc hx hb hown (hts (.constant R_Md 104 100000) (List.mem_cons_of_mem _ (gIn k_783 (by decide +kernel)))) d_Md_carton_35 ?_
          refine g_si (k := 3) (As := [.int gr, .int 1, .int 100000]) (rest := []) (own := R_Md) (index := 96) ⟨hx, hb, hml, hown, hts⟩ (c_Md_in l D t a σ gr 1 100000) (gg_Md_96 _) (by decide +kernel) ⟨Nat.le_of_ble_eq_true rfl, Nat.le_of_ble_eq_true rfl⟩ rfl hK hP hD hS hl.1 rfl (Nat.le_of_ble_eq_true rfl) ⟨Nat.zero_le _, Nat.zero_le _⟩ d_Md_carton_37 (fun r_21 u_21 H locs q_21 hP hD hS => ?_)
          obtain ⟨rfl, hu_21⟩ := q_21
          rw [hu_21] at hP hD
          refine lv_if_eq (tgt := 47) hx hb d_Md_carton_40 (by decide) (fun c_22 => ?_) (fun c_22 => ?_)
          · 
            refine lv_iconst (v := 0) hx hb d_Md_carton_47 (by decide) ?_
            refine lv_istore (lv' := [(6, .int 0), (0, .ref (a 0)), (1, .int wd), (2, .int dp), (3, .int ht), (4, .int ct), (5, .int gr)]) hx hb d_Md_carton_48 hl (by decide) rfl (fun ls hl => ?_)
            refine lv_aload_n hx hb d_Md_carton_50 rfl (lv_at hl 1 rfl) ?_
            refine lv_iload hx hb d_Md_carton_51 (lv_at hl 0 rfl) ?_
            refine lv_if_ne (tgt := 60) hx hb d_Md_carton_53 (by decide) (fun c_23 => ?_) (fun c_23 => ?_)
            · 
              exact absurd c_23 (by decide)
            · 
              refine lv_iconst (v := 1) hx hb d_Md_carton_56 (by decide) ?_
              refine lv_goto (tgt := 73) hx hb d_Md_carton_57 (by decide) ?_
              refine va_put (D := D) (ci := 7) (v := .int 1) (ty := .int) (C := R_Md) (T := F_Md) (N := 34) hx hb hts (fun w h => List.mem_cons_of_mem _ (i_Md w h)) t_Md t_Md_ok n_Md hown hK.1 hP hD hS 0 (wMd_0 t a σ) rfl 0 (by decide) (hts (.fieldLink R_Md 93 "FlatBoxesModel" "code" "I") (List.mem_cons_of_mem _ (gIn k_666 (by decide +kernel)))) (fun _ h9 => h9) rfl (by decide +kernel) rfl rfl (Nat.le_of_ble_eq_true rfl) d_Md_carton_73 (fun H locs hP hD hS => ?_)
              have hP : va_P D gCl (wMd t a (gSt σ 0 0 1)) H := hP
              have hD : va_D A (wMd t a (gSt σ 0 0 1)) := hD
              refine lv_aload_n hx hb d_Md_carton_76 rfl (lv_at hl 1 rfl) ?_
              refine va_get (D := D) (ci := 7) (v := .int ((gSt σ 0 0 1) 0 0)) (C := R_Md) (T := F_Md) (N := 34) hx hb hts (fun w h => List.mem_cons_of_mem _ (i_Md w h)) hown hK.1 hP 0 (wMd_0 t a (gSt σ 0 0 1)) rfl 0 (by decide) (hts (.fieldLink R_Md 93 "FlatBoxesModel" "code" "I") (List.mem_cons_of_mem _ (gIn k_666 (by decide +kernel)))) (fun _ h9 => h9) rfl d_Md_carton_77 ?_
              refine lv_topi (fun v_24 e_24 => ?_)
              obtain rfl : 1 = v_24 := (e_24.trans (rfl)).symm
              refine lv_if_le (tgt := 85) hx hb d_Md_carton_80 (by decide) (fun c_25 => ?_) (fun c_25 => ?_)
              · 
                exact absurd c_25 (by decide)
              · 
                refine lv_iconst (v := 0) hx hb d_Md_carton_83 (by decide) ?_
                exact W.iret (v := 0) hx hb hr (fun U hU hW => ⟨⟨0, gSt σ 0 0 1, rfl, by exact ⟨by simp [mCartonR, mCartonC, mAll, c_2, c_7, c_12, c_17, c_22, c_23, c_25], by simp [mCartonU, mCartonC, mAll, c_2, c_7, c_12, c_17, c_22, c_23, c_25]⟩, by rw [hU]; exact hP, hD⟩, hS.F hU⟩) hS.2.2 d_Md_carton_84
          · 
            refine lv_iconst (v := 1) hx hb d_Md_carton_43 (by decide) ?_
            refine lv_goto (tgt := 48) hx hb d_Md_carton_44 (by decide) ?_
            refine lv_istore (lv' := [(6, .int 1), (0, .ref (a 0)), (1, .int wd), (2, .int dp), (3, .int ht), (4, .int ct), (5, .int gr)]) hx hb d_Md_carton_48 hl (by decide) rfl (fun ls hl => ?_)
            refine lv_aload_n hx hb d_Md_carton_50 rfl (lv_at hl 1 rfl) ?_
            refine lv_iload hx hb d_Md_carton_51 (lv_at hl 0 rfl) ?_
            refine lv_if_ne (tgt := 60) hx hb d_Md_carton_53 (by decide) (fun c_26 => ?_) (fun c_26 => ?_)
            · 
              refine lv_aload_n hx hb d_Md_carton_60 rfl (lv_at hl 1 rfl) ?_
              refine va_get (D := D) (ci := 7) (v := .int (σ 2 0)) (C := R_Md) (T := F_Md) (N := 34) hx hb hts (fun w h => List.mem_cons_of_mem _ (i_Md w h)) hown hK.1 hP 0 (wMd_0 t a σ) rfl 2 (by decide) (hts (.fieldLink R_Md 105 "FlatBoxesModel" "cartons" "I") (List.mem_cons_of_mem _ (gIn k_668 (by decide +kernel)))) (fun _ h9 => h9) rfl d_Md_carton_61 ?_
              refine lv_topi (fun v_27 e_27 => ?_)
              obtain rfl : nI nc = v_27 := (e_27.trans hC).symm
              refine lv_iconst (v := 4) hx hb d_Md_carton_64 (by decide) ?_
              refine lv_icmp_ne (tgt := 72) hx hb d_Md_carton_65 (by decide) (fun c_28 => ?_) (fun c_28 => ?_)
              · 
                have h_28 : ¬ nc = 4 := fun q9 => c_28 ((nI_eq (a := nc) (b := 4) (by omega) (by omega)).mpr q9)
                refine lv_iconst (v := 0) hx hb d_Md_carton_72 (by decide) ?_
                refine va_put (D := D) (ci := 7) (v := .int 0) (ty := .int) (C := R_Md) (T := F_Md) (N := 34) hx hb hts (fun w h => List.mem_cons_of_mem _ (i_Md w h)) t_Md t_Md_ok n_Md hown hK.1 hP hD hS 0 (wMd_0 t a σ) rfl 0 (by decide) (hts (.fieldLink R_Md 93 "FlatBoxesModel" "code" "I") (List.mem_cons_of_mem _ (gIn k_666 (by decide +kernel)))) (fun _ h9 => h9) rfl (by decide +kernel) rfl rfl (Nat.le_of_ble_eq_true rfl) d_Md_carton_73 (fun H locs hP hD hS => ?_)
                have hP : va_P D gCl (wMd t a (gSt σ 0 0 0)) H := hP
                have hD : va_D A (wMd t a (gSt σ 0 0 0)) := hD
                refine lv_aload_n hx hb d_Md_carton_76 rfl (lv_at hl 1 rfl) ?_
                refine va_get (D := D) (ci := 7) (v := .int ((gSt σ 0 0 0) 0 0)) (C := R_Md) (T := F_Md) (N := 34) hx hb hts (fun w h => List.mem_cons_of_mem _ (i_Md w h)) hown hK.1 hP 0 (wMd_0 t a (gSt σ 0 0 0)) rfl 0 (by decide) (hts (.fieldLink R_Md 93 "FlatBoxesModel" "code" "I") (List.mem_cons_of_mem _ (gIn k_666 (by decide +kernel)))) (fun _ h9 => h9) rfl d_Md_carton_77 ?_
                refine lv_topi (fun v_29 e_29 => ?_)
                obtain rfl : 0 = v_29 := (e_29.trans (rfl)).symm
                refine lv_if_le (tgt := 85) hx hb d_Md_carton_80 (by decide) (fun c_30 => ?_) (fun c_30 => ?_)
                · 
                  refine lv_aload_n hx hb d_Md_carton_85 rfl (lv_at hl 1 rfl) ?_
                  refine va_get (D := D) (ci := 7) (v := .ref (a 3)) (C := R_Md) (T := F_Md) (N := 34) hx hb hts (fun w h => List.mem_cons_of_mem _ (i_Md w h)) hown hK.1 hP 0 (wMd_0 t a (gSt σ 0 0 0)) rfl 3 (by decide) (hts (.fieldLink R_Md 7 "FlatBoxesModel" "widths" "[I") (List.mem_cons_of_mem _ (gIn k_669 (by decide +kernel)))) (fun _ h9 => h9) rfl d_Md_carton_86 ?_
                  refine lv_aload_n hx hb d_Md_carton_89 rfl (lv_at hl 1 rfl) ?_
                  refine va_get (D := D) (ci := 7) (v := .int ((gSt σ 0 0 0) 2 0)) (C := R_Md) (T := F_Md) (N := 34) hx hb hts (fun w h => List.mem_cons_of_mem _ (i_Md w h)) hown hK.1 hP 0 (wMd_0 t a (gSt σ 0 0 0)) rfl 2 (by decide) (hts (.fieldLink R_Md 105 "FlatBoxesModel" "cartons" "I") (List.mem_cons_of_mem _ (gIn k_668 (by decide +kernel)))) (fun _ h9 => h9) rfl d_Md_carton_90 ?_
                  refine lv_topi (fun v_31 e_31 => ?_)
                  obtain rfl : nI nc = v_31 := (e_31.trans hC).symm
                  refine lv_iload_n hx hb d_Md_carton_93 rfl (lv_at hl 2 rfl) ?_
                  refine g_iast hx hb hK.1 hP hD hS 1 0 (wMd_3 t a (gSt σ 0 0 0)) rfl nc (rfl) (by omega) (by decide) (w' := wMd t a (gSt (gSt σ 0 0 0) 3 nc wd)) (sMd_3 t a (gSt σ 0 0 0) nc wd) d_Md_carton_94 (fun H locs hP hD hS => ?_)
                  refine lv_aload_n hx hb d_Md_carton_95 rfl (lv_at hl 1 rfl) ?_
                  refine va_get (D := D) (ci := 7) (v := .ref (a 4)) (C := R_Md) (T := F_Md) (N := 34) hx hb hts (fun w h => List.mem_cons_of_mem _ (i_Md w h)) hown hK.1 hP 0 (wMd_0 t a (gSt (gSt σ 0 0 0) 3 nc wd)) rfl 4 (by decide) (hts (.fieldLink R_Md 13 "FlatBoxesModel" "depths" "[I") (List.mem_cons_of_mem _ (gIn k_670 (by decide +kernel)))) (fun _ h9 => h9) rfl d_Md_carton_96 ?_
                  refine lv_aload_n hx hb d_Md_carton_99 rfl (lv_at hl 1 rfl) ?_
                  refine va_get (D := D) (ci := 7) (v := .int ((gSt (gSt σ 0 0 0) 3 nc wd) 2 0)) (C := R_Md) (T := F_Md) (N := 34) hx hb hts (fun w h => List.mem_cons_of_mem _ (i_Md w h)) hown hK.1 hP 0 (wMd_0 t a (gSt (gSt σ 0 0 0) 3 nc wd)) rfl 2 (by decide) (hts (.fieldLink R_Md 105 "FlatBoxesModel" "cartons" "I") (List.mem_cons_of_mem _ (gIn k_668 (by decide +kernel)))) (fun _ h9 => h9) rfl d_Md_carton_100 ?_
                  refine lv_topi (fun v_32 e_32 => ?_)
                  obtain rfl : nI nc = v_32 := (e_32.trans hC).symm
                  refine lv_iload_n hx hb d_Md_carton_103 rfl (lv_at hl 3 rfl) ?_
                  refine g_iast hx hb hK.1 hP hD hS 2 0 (wMd_4 t a (gSt (gSt σ 0 0 0) 3 nc wd)) rfl nc (rfl) (by omega) (by decide) (w' := wMd t a (gSt (gSt (gSt σ 0 0 0) 3 nc wd) 4 nc dp)) (sMd_4 t a (gSt (gSt σ 0 0 0) 3 nc wd) nc dp) d_Md_carton_104 (fun H locs hP hD hS => ?_)
                  refine lv_aload_n hx hb d_Md_carton_105 rfl (lv_at hl 1 rfl) ?_
                  refine va_get (D := D) (ci := 7) (v := .ref (a 5)) (C := R_Md) (T := F_Md) (N := 34) hx hb hts (fun w h => List.mem_cons_of_mem _ (i_Md w h)) hown hK.1 hP 0 (wMd_0 t a (gSt (gSt (gSt σ 0 0 0) 3 nc wd) 4 nc dp)) rfl 5 (by decide) (hts (.fieldLink R_Md 16 "FlatBoxesModel" "heights" "[I") (List.mem_cons_of_mem _ (gIn k_671 (by decide +kernel)))) (fun _ h9 => h9) rfl d_Md_carton_106 ?_
                  refine lv_aload_n hx hb d_Md_carton_109 rfl (lv_at hl 1 rfl) ?_
                  refine va_get (D := D) (ci := 7) (v := .int ((gSt (gSt (gSt σ 0 0 0) 3 nc wd) 4 nc dp) 2 0)) (C := R_Md) (T := F_Md) (N := 34) hx hb hts (fun w h => List.mem_cons_of_mem _ (i_Md w h)) hown hK.1 hP 0 (wMd_0 t a (gSt (gSt (gSt σ 0 0 0) 3 nc wd) 4 nc dp)) rfl 2 (by decide) (hts (.fieldLink R_Md 105 "FlatBoxesModel" "cartons" "I") (List.mem_cons_of_mem _ (gIn k_668 (by decide +kernel)))) (fun _ h9 => h9) rfl d_Md_carton_110 ?_
                  refine lv_topi (fun v_33 e_33 => ?_)
                  obtain rfl : nI nc = v_33 := (e_33.trans hC).symm
                  refine lv_iload_n hx hb d_Md_carton_113 rfl (lv_at hl 4 rfl) ?_
                  refine g_iast hx hb hK.1 hP hD hS 3 0 (wMd_5 t a (gSt (gSt (gSt σ 0 0 0) 3 nc wd) 4 nc dp)) rfl nc (rfl) (by omega) (by decide) (w' := wMd t a (gSt (gSt (gSt (gSt σ 0 0 0) 3 nc wd) 4 nc dp) 5 nc ht)) (sMd_5 t a (gSt (gSt (gSt σ 0 0 0) 3 nc wd) 4 nc dp) nc ht) d_Md_carton_114 (fun H locs hP hD hS => ?_)
                  refine lv_aload_n hx hb d_Md_carton_115 rfl (lv_at hl 1 rfl) ?_
                  refine va_get (D := D) (ci := 7) (v := .ref (a 6)) (C := R_Md) (T := F_Md) (N := 34) hx hb hts (fun w h => List.mem_cons_of_mem _ (i_Md w h)) hown hK.1 hP 0 (wMd_0 t a (gSt (gSt (gSt (gSt σ 0 0 0) 3 nc wd) 4 nc dp) 5 nc ht)) rfl 6 (by decide) (hts (.fieldLink R_Md 19 "FlatBoxesModel" "cents" "[I") (List.mem_cons_of_mem _ (gIn k_672 (by decide +kernel)))) (fun _ h9 => h9) rfl d_Md_carton_116 ?_
                  refine lv_aload_n hx hb d_Md_carton_119 rfl (lv_at hl 1 rfl) ?_
                  refine va_get (D := D) (ci := 7) (v := .int ((gSt (gSt (gSt (gSt σ 0 0 0) 3 nc wd) 4 nc dp) 5 nc ht) 2 0)) (C := R_Md) (T := F_Md) (N := 34) hx hb hts (fun w h => List.mem_cons_of_mem _ (i_Md w h)) hown hK.1 hP 0 (wMd_0 t a (gSt (gSt (gSt (gSt σ 0 0 0) 3 nc wd) 4 nc dp) 5 nc ht)) rfl 2 (by decide) (hts (.fieldLink R_Md 105 "FlatBoxesModel" "cartons" "I") (List.mem_cons_of_mem _ (gIn k_668 (by decide +kernel)))) (fun _ h9 => h9) rfl d_Md_carton_120 ?_
                  refine lv_topi (fun v_34 e_34 => ?_)
                  obtain rfl : nI nc = v_34 := (e_34.trans hC).symm
                  refine lv_iload hx hb d_Md_carton_123 (lv_at hl 5 rfl) ?_
                  refine g_iast hx hb hK.1 hP hD hS 4 0 (wMd_6 t a (gSt (gSt (gSt (gSt σ 0 0 0) 3 nc wd) 4 nc dp) 5 nc ht)) rfl nc (rfl) (by omega) (by decide) (w' := wMd t a (gSt (gSt (gSt (gSt (gSt σ 0 0 0) 3 nc wd) 4 nc dp) 5 nc ht) 6 nc ct)) (sMd_6 t a (gSt (gSt (gSt (gSt σ 0 0 0) 3 nc wd) 4 nc dp) 5 nc ht) nc ct) d_Md_carton_125 (fun H locs hP hD hS => ?_)
                  refine lv_aload_n hx hb d_Md_carton_126 rfl (lv_at hl 1 rfl) ?_
                  refine va_get (D := D) (ci := 7) (v := .ref (a 7)) (C := R_Md) (T := F_Md) (N := 34) hx hb hts (fun w h => List.mem_cons_of_mem _ (i_Md w h)) hown hK.1 hP 0 (wMd_0 t a (gSt (gSt (gSt (gSt (gSt σ 0 0 0) 3 nc wd) 4 nc dp) 5 nc ht) 6 nc ct)) rfl 7 (by decide) (hts (.fieldLink R_Md 22 "FlatBoxesModel" "bears" "[I") (List.mem_cons_of_mem _ (gIn k_673 (by decide +kernel)))) (fun _ h9 => h9) rfl d_Md_carton_127 ?_
                  refine lv_aload_n hx hb d_Md_carton_130 rfl (lv_at hl 1 rfl) ?_
                  refine va_get (D := D) (ci := 7) (v := .int ((gSt (gSt (gSt (gSt (gSt σ 0 0 0) 3 nc wd) 4 nc dp) 5 nc ht) 6 nc ct) 2 0)) (C := R_Md) (T := F_Md) (N := 34) hx hb hts (fun w h => List.mem_cons_of_mem _ (i_Md w h)) hown hK.1 hP 0 (wMd_0 t a (gSt (gSt (gSt (gSt (gSt σ 0 0 0) 3 nc wd) 4 nc dp) 5 nc ht) 6 nc ct)) rfl 2 (by decide) (hts (.fieldLink R_Md 105 "FlatBoxesModel" "cartons" "I") (List.mem_cons_of_mem _ (gIn k_668 (by decide +kernel)))) (fun _ h9 => h9) rfl d_Md_carton_131 ?_
                  refine lv_topi (fun v_35 e_35 => ?_)
                  obtain rfl : nI nc = v_35 := (e_35.trans hC).symm
                  refine lv_iload hx hb d_Md_carton_134 (lv_at hl 6 rfl) ?_
                  refine g_iast hx hb hK.1 hP hD hS 5 0 (wMd_7 t a (gSt (gSt (gSt (gSt (gSt σ 0 0 0) 3 nc wd) 4 nc dp) 5 nc ht) 6 nc ct)) rfl nc (rfl) (by omega) (by decide) (w' := wMd t a (gSt (gSt (gSt (gSt (gSt (gSt σ 0 0 0) 3 nc wd) 4 nc dp) 5 nc ht) 6 nc ct) 7 nc gr)) (sMd_7 t a (gSt (gSt (gSt (gSt (gSt σ 0 0 0) 3 nc wd) 4 nc dp) 5 nc ht) 6 nc ct) nc gr) d_Md_carton_136 (fun H locs hP hD hS => ?_)
                  refine lv_aload_n hx hb d_Md_carton_137 rfl (lv_at hl 1 rfl) ?_
                  refine lv_dup hx hb d_Md_carton_138 rfl ?_
                  refine va_get (D := D) (ci := 7) (v := .int ((gSt (gSt (gSt (gSt (gSt (gSt σ 0 0 0) 3 nc wd) 4 nc dp) 5 nc ht) 6 nc ct) 7 nc gr) 2 0)) (C := R_Md) (T := F_Md) (N := 34) hx hb hts (fun w h => List.mem_cons_of_mem _ (i_Md w h)) hown hK.1 hP 0 (wMd_0 t a (gSt (gSt (gSt (gSt (gSt (gSt σ 0 0 0) 3 nc wd) 4 nc dp) 5 nc ht) 6 nc ct) 7 nc gr)) rfl 2 (by decide) (hts (.fieldLink R_Md 105 "FlatBoxesModel" "cartons" "I") (List.mem_cons_of_mem _ (gIn k_668 (by decide +kernel)))) (fun _ h9 => h9) rfl d_Md_carton_139 ?_
                  refine lv_topi (fun v_36 e_36 => ?_)
                  obtain rfl : nI nc = v_36 := (e_36.trans hC).symm
                  refine lv_iconst (v := 1) hx hb d_Md_carton_142 (by decide) ?_
                  refine lv_iadd hx hb d_Md_carton_143 ?_
                  refine lv_topi (fun v_37 e_37 => ?_)
                  obtain rfl : nI (nc + 1) = v_37 := (e_37.trans (nI_1 _)).symm
                  refine va_put (D := D) (ci := 7) (v := .int (nI (nc + 1))) (ty := .int) (C := R_Md) (T := F_Md) (N := 34) hx hb hts (fun w h => List.mem_cons_of_mem _ (i_Md w h)) t_Md t_Md_ok n_Md hown hK.1 hP hD hS 0 (wMd_0 t a (gSt (gSt (gSt (gSt (gSt (gSt σ 0 0 0) 3 nc wd) 4 nc dp) 5 nc ht) 6 nc ct) 7 nc gr)) rfl 2 (by decide) (hts (.fieldLink R_Md 105 "FlatBoxesModel" "cartons" "I") (List.mem_cons_of_mem _ (gIn k_668 (by decide +kernel)))) (fun _ h9 => h9) rfl (by decide +kernel) rfl rfl (Nat.le_of_ble_eq_true rfl) d_Md_carton_144 (fun H locs hP hD hS => ?_)
                  have hP : va_P D gCl (wMd t a (gSt (gSt (gSt (gSt (gSt (gSt (gSt σ 0 0 0) 3 nc wd) 4 nc dp) 5 nc ht) 6 nc ct) 7 nc gr) 2 0 (nI (nc + 1)))) H := hP
                  have hD : va_D A (wMd t a (gSt (gSt (gSt (gSt (gSt (gSt (gSt σ 0 0 0) 3 nc wd) 4 nc dp) 5 nc ht) 6 nc ct) 7 nc gr) 2 0 (nI (nc + 1)))) := hD
                  refine lv_aload_n hx hb d_Md_carton_147 rfl (lv_at hl 1 rfl) ?_
                  refine lv_iconst (v := 0) hx hb d_Md_carton_148 (by decide) ?_
                  refine va_put (D := D) (ci := 7) (v := .int 0) (ty := .boolean) (C := R_Md) (T := F_Md) (N := 34) hx hb hts (fun w h => List.mem_cons_of_mem _ (i_Md w h)) t_Md t_Md_ok n_Md hown hK.1 hP hD hS 0 (wMd_0 t a (gSt (gSt (gSt (gSt (gSt (gSt (gSt σ 0 0 0) 3 nc wd) 4 nc dp) 5 nc ht) 6 nc ct) 7 nc gr) 2 0 (nI (nc + 1)))) rfl 24 (by decide) (hts (.fieldLink R_Md 108 "FlatBoxesModel" "hasShares" "Z") (List.mem_cons_of_mem _ (gIn k_690 (by decide +kernel)))) (fun _ h9 => h9) rfl (by decide +kernel) rfl rfl (Nat.le_of_ble_eq_true rfl) d_Md_carton_149 (fun H locs hP hD hS => ?_)
                  have hP : va_P D gCl (wMd t a (gSt (gSt (gSt (gSt (gSt (gSt (gSt (gSt σ 0 0 0) 3 nc wd) 4 nc dp) 5 nc ht) 6 nc ct) 7 nc gr) 2 0 (nI (nc + 1))) 24 0 0)) H := hP
                  have hD : va_D A (wMd t a (gSt (gSt (gSt (gSt (gSt (gSt (gSt (gSt σ 0 0 0) 3 nc wd) 4 nc dp) 5 nc ht) 6 nc ct) 7 nc gr) 2 0 (nI (nc + 1))) 24 0 0)) := hD
                  refine lv_aload_n hx hb d_Md_carton_152 rfl (lv_at hl 1 rfl) ?_
                  refine va_get (D := D) (ci := 7) (v := .int ((gSt (gSt (gSt (gSt (gSt (gSt (gSt (gSt σ 0 0 0) 3 nc wd) 4 nc dp) 5 nc ht) 6 nc ct) 7 nc gr) 2 0 (nI (nc + 1))) 24 0 0) 2 0)) (C := R_Md) (T := F_Md) (N := 34) hx hb hts (fun w h => List.mem_cons_of_mem _ (i_Md w h)) hown hK.1 hP 0 (wMd_0 t a (gSt (gSt (gSt (gSt (gSt (gSt (gSt (gSt σ 0 0 0) 3 nc wd) 4 nc dp) 5 nc ht) 6 nc ct) 7 nc gr) 2 0 (nI (nc + 1))) 24 0 0)) rfl 2 (by decide) (hts (.fieldLink R_Md 105 "FlatBoxesModel" "cartons" "I") (List.mem_cons_of_mem _ (gIn k_668 (by decide +kernel)))) (fun _ h9 => h9) rfl d_Md_carton_153 ?_
                  refine lv_topi (fun v_38 e_38 => ?_)
                  obtain rfl : nI (nc + 1) = v_38 := (e_38.trans (rfl)).symm
                  refine lv_iconst (v := 1) hx hb d_Md_carton_156 (by decide) ?_
                  refine lv_isub hx hb d_Md_carton_157 ?_
                  refine lv_topi (fun v_39 e_39 => ?_)
                  obtain rfl : nI nc = v_39 := (e_39.trans (nI_pred nc)).symm
                  exact W.iret (v := nI nc) hx hb hr (fun U hU hW => ⟨⟨nI nc, gSt (gSt (gSt (gSt (gSt (gSt (gSt (gSt σ 0 0 0) 3 nc wd) 4 nc dp) 5 nc ht) 6 nc ct) 7 nc gr) 2 0 (nI (nc + 1))) 24 0 0, rfl, by exact ⟨by simp [mCartonR, mCartonC, mAll, c_2, c_7, c_12, c_17, c_22, c_26, c_28, h_28, c_30], by simp [mCartonU, mCartonC, mAll, c_2, c_7, c_12, c_17, c_22, c_26, c_28, h_28, c_30]⟩, by rw [hU]; exact hP, hD⟩, hS.F hU⟩) hS.2.2 d_Md_carton_158
                · 
                  exact absurd c_30 (by decide)
              · 
                have h_28 : nc = 4 := (nI_eq (a := nc) (b := 4) (by omega) (by omega)).mp c_28
                refine lv_iconst (v := 2) hx hb d_Md_carton_68 (by decide) ?_
                refine lv_goto (tgt := 73) hx hb d_Md_carton_69 (by decide) ?_
                refine va_put (D := D) (ci := 7) (v := .int 2) (ty := .int) (C := R_Md) (T := F_Md) (N := 34) hx hb hts (fun w h => List.mem_cons_of_mem _ (i_Md w h)) t_Md t_Md_ok n_Md hown hK.1 hP hD hS 0 (wMd_0 t a σ) rfl 0 (by decide) (hts (.fieldLink R_Md 93 "FlatBoxesModel" "code" "I") (List.mem_cons_of_mem _ (gIn k_666 (by decide +kernel)))) (fun _ h9 => h9) rfl (by decide +kernel) rfl rfl (Nat.le_of_ble_eq_true rfl) d_Md_carton_73 (fun H locs hP hD hS => ?_)
                have hP : va_P D gCl (wMd t a (gSt σ 0 0 2)) H := hP
                have hD : va_D A (wMd t a (gSt σ 0 0 2)) := hD
                refine lv_aload_n hx hb d_Md_carton_76 rfl (lv_at hl 1 rfl) ?_
                refine va_get (D := D) (ci := 7) (v := .int ((gSt σ 0 0 2) 0 0)) (C := R_Md) (T := F_Md) (N := 34) hx hb hts (fun w h => List.mem_cons_of_mem _ (i_Md w h)) hown hK.1 hP 0 (wMd_0 t a (gSt σ 0 0 2)) rfl 0 (by decide) (hts (.fieldLink R_Md 93 "FlatBoxesModel" "code" "I") (List.mem_cons_of_mem _ (gIn k_666 (by decide +kernel)))) (fun _ h9 => h9) rfl d_Md_carton_77 ?_
                refine lv_topi (fun v_40 e_40 => ?_)
                obtain rfl : 2 = v_40 := (e_40.trans (rfl)).symm
                refine lv_if_le (tgt := 85) hx hb d_Md_carton_80 (by decide) (fun c_41 => ?_) (fun c_41 => ?_)
                · 
                  exact absurd c_41 (by decide)
                · 
                  refine lv_iconst (v := 0) hx hb d_Md_carton_83 (by decide) ?_
                  exact W.iret (v := 0) hx hb hr (fun U hU hW => ⟨⟨0, gSt σ 0 0 2, rfl, by exact ⟨by simp [mCartonR, mCartonC, mAll, c_2, c_7, c_12, c_17, c_22, c_26, c_28, h_28, c_41], by simp [mCartonU, mCartonC, mAll, c_2, c_7, c_12, c_17, c_22, c_26, c_28, h_28, c_41]⟩, by rw [hU]; exact hP, hD⟩, hS.F hU⟩) hS.2.2 d_Md_carton_84
            · 
              exact absurd c_26 (by decide)
set_option maxHeartbeats 4000000 in
set_option maxRecDepth 100000 in
theorem c_Md_part (l : Launch) (D : va_G) (t : Nat → ClassId) (a : Nat → Nat) (σ : Nat → Nat → Int32) (wd dp ht gr sp : Int32) (np : Nat) (hN : σ 8 0 = nI np) (hN8 : np ≤ 8) : gMi l D t y_Md_part b_Md_part 7 (some .int) 2 [.ref (a 0), .int wd, .int dp, .int ht, .int gr, .int sp] (wMd t a σ) (wMd t a) (fun r u => r = mPartR np wd dp ht gr sp ∧ u = mPartU σ np wd dp ht gr sp) := by
  intro A
  refine Met.ofW (cc := b_Md_part) (maxL := 7) (ret := (some .int)) (by decide) rfl ?_
  intro p e s m args below meth c s₁ B hml hv
  obtain ⟨rfl, hK, hP, hD⟩ := hv
  have hx := B.exec
  have hb := B.bytes
  have hr := B.returns
  have hts := atoms_spec (ws := .code y_Md_part b_Md_part 7 (some .int) :: gBig) B.pre
  have hown : s.vm.findClass R_Md = some m.cls := findClass_of_methodNamed B.named
  have hlocks := B.notSynchronized
  have hS : va_S A s.heap s.heap [] := va_S.rf
  have hl := lv_entry ([.ref (a 0), .int wd, .int dp, .int ht, .int gr, .int sp]) (n := 7) (Nat.le_of_ble_eq_true rfl)
  rw [lg_entry_eq]
  generalize (lg_sl ([.ref (a 0), .int wd, .int dp, .int ht, .int gr, .int sp]) ++ List.replicate (7 - (lg_sl ([.ref (a 0), .int wd, .int dp, .int ht, .int gr, .int sp])).length) Slot.unset).toArray = ls at hl ⊢
  have hl : lv_has ls 7 [(0, .ref (a 0)), (1, .int wd), (2, .int dp), (3, .int ht), (4, .int gr), (5, .int sp)] := hl
  show gGo l p e s m below meth c D t A 2 [.ref (a 0), .int wd, .int dp, .int ht, .int gr, .int sp] (wMd t a) (fun r u => r = mPartR np wd dp ht gr sp ∧ u = mPartU σ np wd dp ht gr sp) s.heap [] (F0 m 0 ls [])
  refine lv_iload_n hx hb d_Md_part_0 rfl (lv_at hl 1 rfl) ?_
  refine g_si (k := 1) (As := [.int wd]) (rest := []) (own := R_Md) (index := 100) ⟨hx, hb, hml, hown, hts⟩ (c_Md_isSide l D t a σ wd) (gg_Md_100 _) (by decide +kernel) ⟨Nat.le_of_ble_eq_true rfl, Nat.le_of_ble_eq_true rfl⟩ rfl hK hP hD hS hl.1 rfl (Nat.le_of_ble_eq_true rfl) ⟨Nat.zero_le _, Nat.zero_le _⟩ d_Md_part_1 (fun r_1 u_1 H locs q_1 hP hD hS => ?_)
  obtain ⟨rfl, hu_1⟩ := q_1
  rw [hu_1] at hP hD
  refine lv_if_eq (tgt := 47) hx hb d_Md_part_4 (by decide) (fun c_2 => ?_) (fun c_2 => ?_)
  · 
    refine lv_iconst (v := 0) hx hb d_Md_part_47 (by decide) ?_
    refine lv_istore (lv' := [(6, .int 0), (0, .ref (a 0)), (1, .int wd), (2, .int dp), (3, .int ht), (4, .int gr), (5, .int sp)]) hx hb d_Md_part_48 hl (by decide) rfl (fun ls hl => ?_)
    refine lv_aload_n hx hb d_Md_part_50 rfl (lv_at hl 1 rfl) ?_
    refine lv_iload hx hb d_Md_part_51 (lv_at hl 0 rfl) ?_
    refine lv_if_ne (tgt := 60) hx hb d_Md_part_53 (by decide) (fun c_3 => ?_) (fun c_3 => ?_)
    · 
      exact absurd c_3 (by decide)
    · 
      refine lv_iconst (v := 1) hx hb d_Md_part_56 (by decide) ?_
      refine lv_goto (tgt := 74) hx hb d_Md_part_57 (by decide) ?_
      refine va_put (D := D) (ci := 7) (v := .int 1) (ty := .int) (C := R_Md) (T := F_Md) (N := 34) hx hb hts (fun w h => List.mem_cons_of_mem _ (i_Md w h)) t_Md t_Md_ok n_Md hown hK.1 hP hD hS 0 (wMd_0 t a σ) rfl 0 (by decide) (hts (.fieldLink R_Md 93 "FlatBoxesModel" "code" "I") (List.mem_cons_of_mem _ (gIn k_666 (by decide +kernel)))) (fun _ h9 => h9) rfl (by decide +kernel) rfl rfl (Nat.le_of_ble_eq_true rfl) d_Md_part_74 (fun H locs hP hD hS => ?_)
      have hP : va_P D gCl (wMd t a (gSt σ 0 0 1)) H := hP
      have hD : va_D A (wMd t a (gSt σ 0 0 1)) := hD
      refine lv_aload_n hx hb d_Md_part_77 rfl (lv_at hl 1 rfl) ?_
      refine va_get (D := D) (ci := 7) (v := .int ((gSt σ 0 0 1) 0 0)) (C := R_Md) (T := F_Md) (N := 34) hx hb hts (fun w h => List.mem_cons_of_mem _ (i_Md w h)) hown hK.1 hP 0 (wMd_0 t a (gSt σ 0 0 1)) rfl 0 (by decide) (hts (.fieldLink R_Md 93 "FlatBoxesModel" "code" "I") (List.mem_cons_of_mem _ (gIn k_666 (by decide +kernel)))) (fun _ h9 => h9) rfl d_Md_part_78 ?_
      refine lv_topi (fun v_4 e_4 => ?_)
      obtain rfl : 1 = v_4 := (e_4.trans (rfl)).symm
      refine lv_if_le (tgt := 86) hx hb d_Md_part_81 (by decide) (fun c_5 => ?_) (fun c_5 => ?_)
      · 
        exact absurd c_5 (by decide)
      · 
        refine lv_iconst (v := 0) hx hb d_Md_part_84 (by decide) ?_
        exact W.iret (v := 0) hx hb hr (fun U hU hW => ⟨⟨0, gSt σ 0 0 1, rfl, by exact ⟨by simp [mPartR, mPartC, mAll, c_2, c_3, c_5], by simp [mPartU, mPartC, mAll, c_2, c_3, c_5]⟩, by rw [hU]; exact hP, hD⟩, hS.F hU⟩) hS.2.2 d_Md_part_85
  · 
    refine lv_iload_n hx hb d_Md_part_7 rfl (lv_at hl 2 rfl) ?_
    refine g_si (k := 1) (As := [.int dp]) (rest := []) (own := R_Md) (index := 100) ⟨hx, hb, hml, hown, hts⟩ (c_Md_isSide l D t a σ dp) (gg_Md_100 _) (by decide +kernel) ⟨Nat.le_of_ble_eq_true rfl, Nat.le_of_ble_eq_true rfl⟩ rfl hK hP hD hS hl.1 rfl (Nat.le_of_ble_eq_true rfl) ⟨Nat.zero_le _, Nat.zero_le _⟩ d_Md_part_8 (fun r_6 u_6 H locs q_6 hP hD hS => ?_)
    obtain ⟨rfl, hu_6⟩ := q_6
    rw [hu_6] at hP hD
    refine lv_if_eq (tgt := 47) hx hb d_Md_part_11 (by decide) (fun c_7 => ?_) (fun c_7 => ?_)
    · 
      refine lv_iconst (v := 0) hx hb d_Md_part_47 (by decide) ?_
      refine lv_istore (lv' := [(6, .int 0), (0, .ref (a 0)), (1, .int wd), (2, .int dp), (3, .int ht), (4, .int gr), (5, .int sp)]) hx hb d_Md_part_48 hl (by decide) rfl (fun ls hl => ?_)
      refine lv_aload_n hx hb d_Md_part_50 rfl (lv_at hl 1 rfl) ?_
      refine lv_iload hx hb d_Md_part_51 (lv_at hl 0 rfl) ?_
      refine lv_if_ne (tgt := 60) hx hb d_Md_part_53 (by decide) (fun c_8 => ?_) (fun c_8 => ?_)
      · 
        exact absurd c_8 (by decide)
      · 
        refine lv_iconst (v := 1) hx hb d_Md_part_56 (by decide) ?_
        refine lv_goto (tgt := 74) hx hb d_Md_part_57 (by decide) ?_
        refine va_put (D := D) (ci := 7) (v := .int 1) (ty := .int) (C := R_Md) (T := F_Md) (N := 34) hx hb hts (fun w h => List.mem_cons_of_mem _ (i_Md w h)) t_Md t_Md_ok n_Md hown hK.1 hP hD hS 0 (wMd_0 t a σ) rfl 0 (by decide) (hts (.fieldLink R_Md 93 "FlatBoxesModel" "code" "I") (List.mem_cons_of_mem _ (gIn k_666 (by decide +kernel)))) (fun _ h9 => h9) rfl (by decide +kernel) rfl rfl (Nat.le_of_ble_eq_true rfl) d_Md_part_74 (fun H locs hP hD hS => ?_)
        have hP : va_P D gCl (wMd t a (gSt σ 0 0 1)) H := hP
        have hD : va_D A (wMd t a (gSt σ 0 0 1)) := hD
        refine lv_aload_n hx hb d_Md_part_77 rfl (lv_at hl 1 rfl) ?_
        refine va_get (D := D) (ci := 7) (v := .int ((gSt σ 0 0 1) 0 0)) (C := R_Md) (T := F_Md) (N := 34) hx hb hts (fun w h => List.mem_cons_of_mem _ (i_Md w h)) hown hK.1 hP 0 (wMd_0 t a (gSt σ 0 0 1)) rfl 0 (by decide) (hts (.fieldLink R_Md 93 "FlatBoxesModel" "code" "I") (List.mem_cons_of_mem _ (gIn k_666 (by decide +kernel)))) (fun _ h9 => h9) rfl d_Md_part_78 ?_
        refine lv_topi (fun v_9 e_9 => ?_)
        obtain rfl : 1 = v_9 := (e_9.trans (rfl)).symm
        refine lv_if_le (tgt := 86) hx hb d_Md_part_81 (by decide) (fun c_10 => ?_) (fun c_10 => ?_)
        · 
          exact absurd c_10 (by decide)
        · 
          refine lv_iconst (v := 0) hx hb d_Md_part_84 (by decide) ?_
          exact W.iret (v := 0) hx hb hr (fun U hU hW => ⟨⟨0, gSt σ 0 0 1, rfl, by exact ⟨by simp [mPartR, mPartC, mAll, c_2, c_7, c_8, c_10], by simp [mPartU, mPartC, mAll, c_2, c_7, c_8, c_10]⟩, by rw [hU]; exact hP, hD⟩, hS.F hU⟩) hS.2.2 d_Md_part_85
    · 
      refine lv_iload_n hx hb d_Md_part_14 rfl (lv_at hl 3 rfl) ?_
      refine g_si (k := 1) (As := [.int ht]) (rest := []) (own := R_Md) (index := 100) ⟨hx, hb, hml, hown, hts⟩ (c_Md_isSide l D t a σ ht) (gg_Md_100 _) (by decide +kernel) ⟨Nat.le_of_ble_eq_true rfl, Nat.le_of_ble_eq_true rfl⟩ rfl hK hP hD hS hl.1 rfl (Nat.le_of_ble_eq_true rfl) ⟨Nat.zero_le _, Nat.zero_le _⟩ d_Md_part_15 (fun r_11 u_11 H locs q_11 hP hD hS => ?_)
      obtain ⟨rfl, hu_11⟩ := q_11
      rw [hu_11] at hP hD
      refine lv_if_eq (tgt := 47) hx hb d_Md_part_18 (by decide) (fun c_12 => ?_) (fun c_12 => ?_)
      · 
        refine lv_iconst (v := 0) hx hb d_Md_part_47 (by decide) ?_
        refine lv_istore (lv' := [(6, .int 0), (0, .ref (a 0)), (1, .int wd), (2, .int dp), (3, .int ht), (4, .int gr), (5, .int sp)]) hx hb d_Md_part_48 hl (by decide) rfl (fun ls hl => ?_)
        refine lv_aload_n hx hb d_Md_part_50 rfl (lv_at hl 1 rfl) ?_
        refine lv_iload hx hb d_Md_part_51 (lv_at hl 0 rfl) ?_
        refine lv_if_ne (tgt := 60) hx hb d_Md_part_53 (by decide) (fun c_13 => ?_) (fun c_13 => ?_)
        · 
          exact absurd c_13 (by decide)
        · 
          refine lv_iconst (v := 1) hx hb d_Md_part_56 (by decide) ?_
          refine lv_goto (tgt := 74) hx hb d_Md_part_57 (by decide) ?_
          refine va_put (D := D) (ci := 7) (v := .int 1) (ty := .int) (C := R_Md) (T := F_Md) (N := 34) hx hb hts (fun w h => List.mem_cons_of_mem _ (i_Md w h)) t_Md t_Md_ok n_Md hown hK.1 hP hD hS 0 (wMd_0 t a σ) rfl 0 (by decide) (hts (.fieldLink R_Md 93 "FlatBoxesModel" "code" "I") (List.mem_cons_of_mem _ (gIn k_666 (by decide +kernel)))) (fun _ h9 => h9) rfl (by decide +kernel) rfl rfl (Nat.le_of_ble_eq_true rfl) d_Md_part_74 (fun H locs hP hD hS => ?_)
          have hP : va_P D gCl (wMd t a (gSt σ 0 0 1)) H := hP
          have hD : va_D A (wMd t a (gSt σ 0 0 1)) := hD
          refine lv_aload_n hx hb d_Md_part_77 rfl (lv_at hl 1 rfl) ?_
          refine va_get (D := D) (ci := 7) (v := .int ((gSt σ 0 0 1) 0 0)) (C := R_Md) (T := F_Md) (N := 34) hx hb hts (fun w h => List.mem_cons_of_mem _ (i_Md w h)) hown hK.1 hP 0 (wMd_0 t a (gSt σ 0 0 1)) rfl 0 (by decide) (hts (.fieldLink R_Md 93 "FlatBoxesModel" "code" "I") (List.mem_cons_of_mem _ (gIn k_666 (by decide +kernel)))) (fun _ h9 => h9) rfl d_Md_part_78 ?_
          refine lv_topi (fun v_14 e_14 => ?_)
          obtain rfl : 1 = v_14 := (e_14.trans (rfl)).symm
          refine lv_if_le (tgt := 86) hx hb d_Md_part_81 (by decide) (fun c_15 => ?_) (fun c_15 => ?_)
          · 
            exact absurd c_15 (by decide)
          · 
            refine lv_iconst (v := 0) hx hb d_Md_part_84 (by decide) ?_
            exact W.iret (v := 0) hx hb hr (fun U hU hW => ⟨⟨0, gSt σ 0 0 1, rfl, by exact ⟨by simp [mPartR, mPartC, mAll, c_2, c_7, c_12, c_13, c_15], by simp [mPartU, mPartC, mAll, c_2, c_7, c_12, c_13, c_15]⟩, by rw [hU]; exact hP, hD⟩, hS.F hU⟩) hS.2.2 d_Md_part_85
      · 
        refine lv_iload hx hb d_Md_part_21 (lv_at hl 4 rfl) ?_
        refine lv_iconst (v := 1) hx hb d_Md_part_23 (by decide) ?_
        refine lv_ldc hx hb hown (hts (.constant R_Md 112 50000) (List.mem_cons_of_mem _ (gIn k_788 (by decide +kernel)))) d_Md_part_24 ?_
        refine g_si (k := 3) (As := [.int gr, .int 1, .int 50000]) (rest := []) (own := R_Md) (index := 96) ⟨hx, hb, hml, hown, hts⟩ (c_Md_in l D t a σ gr 1 50000) (gg_Md_96 _) (by decide +kernel) ⟨Nat.le_of_ble_eq_true rfl, Nat.le_of_ble_eq_true rfl⟩ rfl hK hP hD hS hl.1 rfl (Nat.le_of_ble_eq_true rfl) ⟨Nat.zero_le _, Nat.zero_le _⟩ d_Md_part_26 (fun r_16 u_16 H locs q_16 hP hD hS => ?_)
        obtain ⟨rfl, hu_16⟩ := q_16
        rw [hu_16] at hP hD
        refine lv_if_eq (tgt := 47) hx hb d_Md_part_29 (by decide) (fun c_17 => ?_) (fun c_17 => ?_)
        · 
          refine lv_iconst (v := 0) hx hb d_Md_part_47 (by decide) ?_
          refine lv_istore (lv' := [(6, .int 0), (0, .ref (a 0)), (1, .int wd), (2, .int dp), (3, .int ht), (4, .int gr), (5, .int sp)]) hx hb d_Md_part_48 hl (by decide) rfl (fun ls hl => ?_)
          refine lv_aload_n hx hb d_Md_part_50 rfl (lv_at hl 1 rfl) ?_
          refine lv_iload hx hb d_Md_part_51 (lv_at hl 0 rfl) ?_
          refine lv_if_ne (tgt := 60) hx hb d_Md_part_53 (by decide) (fun c_18 => ?_) (fun c_18 => ?_)
          · 
            exact absurd c_18 (by decide)
          · 
            refine lv_iconst (v := 1) hx hb d_Md_part_56 (by decide) ?_
            refine lv_goto (tgt := 74) hx hb d_Md_part_57 (by decide) ?_
            refine va_put (D := D) (ci := 7) (v := .int 1) (ty := .int) (C := R_Md) (T := F_Md) (N := 34) hx hb hts (fun w h => List.mem_cons_of_mem _ (i_Md w h)) t_Md t_Md_ok n_Md hown hK.1 hP hD hS 0 (wMd_0 t a σ) rfl 0 (by decide) (hts (.fieldLink R_Md 93 "FlatBoxesModel" "code" "I") (List.mem_cons_of_mem _ (gIn k_666 (by decide +kernel)))) (fun _ h9 => h9) rfl (by decide +kernel) rfl rfl (Nat.le_of_ble_eq_true rfl) d_Md_part_74 (fun H locs hP hD hS => ?_)
            have hP : va_P D gCl (wMd t a (gSt σ 0 0 1)) H := hP
            have hD : va_D A (wMd t a (gSt σ 0 0 1)) := hD
            refine lv_aload_n hx hb d_Md_part_77 rfl (lv_at hl 1 rfl) ?_
            refine va_get (D := D) (ci := 7) (v := .int ((gSt σ 0 0 1) 0 0)) (C := R_Md) (T := F_Md) (N := 34) hx hb hts (fun w h => List.mem_cons_of_mem _ (i_Md w h)) hown hK.1 hP 0 (wMd_0 t a (gSt σ 0 0 1)) rfl 0 (by decide) (hts (.fieldLink R_Md 93 "FlatBoxesModel" "code" "I") (List.mem_cons_of_mem _ (gIn k_666 (by decide +kernel)))) (fun _ h9 => h9) rfl d_Md_part_78 ?_
            refine lv_topi (fun v_19 e_19 => ?_)
            obtain rfl : 1 = v_19 := (e_19.trans (rfl)).symm
            refine lv_if_le (tgt := 86) hx hb d_Md_part_81 (by decide) (fun c_20 => ?_) (fun c_20 => ?_)
            · 
              exact absurd c_20 (by decide)
            · 
              refine lv_iconst (v := 0) hx hb d_Md_part_84 (by decide) ?_
              exact W.iret (v := 0) hx hb hr (fun U hU hW => ⟨⟨0, gSt σ 0 0 1, rfl, by exact ⟨by simp [mPartR, mPartC, mAll, c_2, c_7, c_12, c_17, c_18, c_20], by simp [mPartU, mPartC, mAll, c_2, c_7, c_12, c_17, c_18, c_20]⟩, by rw [hU]; exact hP, hD⟩, hS.F hU⟩) hS.2.2 d_Md_part_85
        · 
          refine lv_iload hx hb d_Md_part_32 (lv_at hl 5 rfl) ?_
          refine lv_iconst (v := 0) hx hb d_Md_part_34 (by decide) ?_
          refine lv_bipush (v := 50) hx hb d_Md_part_35 (by decide) ?_
          refine g_si (k := 3) (As := [.int sp, .int 0, .int 50]) (rest := []) (own := R_Md) (index := 96) ⟨hx, hb, hml, hown, hts⟩ (c_Md_in l D t a σ sp 0 50) (gg_Md_96 _) (by decide +kernel) ⟨Nat.le_of_ble_eq_true rfl, Nat.le_of_ble_eq_true rfl⟩ rfl hK hP hD hS hl.1 rfl (Nat.le_of_ble_eq_true rfl) ⟨Nat.zero_le _, Nat.zero_le _⟩ d_Md_part_37 (fun r_21 u_21 H locs q_21 hP hD hS => ?_)
          obtain ⟨rfl, hu_21⟩ := q_21
          rw [hu_21] at hP hD
          refine lv_if_eq (tgt := 47) hx hb d_Md_part_40 (by decide) (fun c_22 => ?_) (fun c_22 => ?_)
          · 
            refine lv_iconst (v := 0) hx hb d_Md_part_47 (by decide) ?_
            refine lv_istore (lv' := [(6, .int 0), (0, .ref (a 0)), (1, .int wd), (2, .int dp), (3, .int ht), (4, .int gr), (5, .int sp)]) hx hb d_Md_part_48 hl (by decide) rfl (fun ls hl => ?_)
            refine lv_aload_n hx hb d_Md_part_50 rfl (lv_at hl 1 rfl) ?_
            refine lv_iload hx hb d_Md_part_51 (lv_at hl 0 rfl) ?_
            refine lv_if_ne (tgt := 60) hx hb d_Md_part_53 (by decide) (fun c_23 => ?_) (fun c_23 => ?_)
            · 
              exact absurd c_23 (by decide)
            · 
              refine lv_iconst (v := 1) hx hb d_Md_part_56 (by decide) ?_
              refine lv_goto (tgt := 74) hx hb d_Md_part_57 (by decide) ?_
              refine va_put (D := D) (ci := 7) (v := .int 1) (ty := .int) (C := R_Md) (T := F_Md) (N := 34) hx hb hts (fun w h => List.mem_cons_of_mem _ (i_Md w h)) t_Md t_Md_ok n_Md hown hK.1 hP hD hS 0 (wMd_0 t a σ) rfl 0 (by decide) (hts (.fieldLink R_Md 93 "FlatBoxesModel" "code" "I") (List.mem_cons_of_mem _ (gIn k_666 (by decide +kernel)))) (fun _ h9 => h9) rfl (by decide +kernel) rfl rfl (Nat.le_of_ble_eq_true rfl) d_Md_part_74 (fun H locs hP hD hS => ?_)
              have hP : va_P D gCl (wMd t a (gSt σ 0 0 1)) H := hP
              have hD : va_D A (wMd t a (gSt σ 0 0 1)) := hD
              refine lv_aload_n hx hb d_Md_part_77 rfl (lv_at hl 1 rfl) ?_
              refine va_get (D := D) (ci := 7) (v := .int ((gSt σ 0 0 1) 0 0)) (C := R_Md) (T := F_Md) (N := 34) hx hb hts (fun w h => List.mem_cons_of_mem _ (i_Md w h)) hown hK.1 hP 0 (wMd_0 t a (gSt σ 0 0 1)) rfl 0 (by decide) (hts (.fieldLink R_Md 93 "FlatBoxesModel" "code" "I") (List.mem_cons_of_mem _ (gIn k_666 (by decide +kernel)))) (fun _ h9 => h9) rfl d_Md_part_78 ?_
              refine lv_topi (fun v_24 e_24 => ?_)
              obtain rfl : 1 = v_24 := (e_24.trans (rfl)).symm
              refine lv_if_le (tgt := 86) hx hb d_Md_part_81 (by decide) (fun c_25 => ?_) (fun c_25 => ?_)
              · 
                exact absurd c_25 (by decide)
              · 
                refine lv_iconst (v := 0) hx hb d_Md_part_84 (by decide) ?_
                exact W.iret (v := 0) hx hb hr (fun U hU hW => ⟨⟨0, gSt σ 0 0 1, rfl, by exact ⟨by simp [mPartR, mPartC, mAll, c_2, c_7, c_12, c_17, c_22, c_23, c_25], by simp [mPartU, mPartC, mAll, c_2, c_7, c_12, c_17, c_22, c_23, c_25]⟩, by rw [hU]; exact hP, hD⟩, hS.F hU⟩) hS.2.2 d_Md_part_85
          · 
            refine lv_iconst (v := 1) hx hb d_Md_part_43 (by decide) ?_
            refine lv_goto (tgt := 48) hx hb d_Md_part_44 (by decide) ?_
            refine lv_istore (lv' := [(6, .int 1), (0, .ref (a 0)), (1, .int wd), (2, .int dp), (3, .int ht), (4, .int gr), (5, .int sp)]) hx hb d_Md_part_48 hl (by decide) rfl (fun ls hl => ?_)
            refine lv_aload_n hx hb d_Md_part_50 rfl (lv_at hl 1 rfl) ?_
            refine lv_iload hx hb d_Md_part_51 (lv_at hl 0 rfl) ?_
            refine lv_if_ne (tgt := 60) hx hb d_Md_part_53 (by decide) (fun c_26 => ?_) (fun c_26 => ?_)
            · 
              refine lv_aload_n hx hb d_Md_part_60 rfl (lv_at hl 1 rfl) ?_
              refine va_get (D := D) (ci := 7) (v := .int (σ 8 0)) (C := R_Md) (T := F_Md) (N := 34) hx hb hts (fun w h => List.mem_cons_of_mem _ (i_Md w h)) hown hK.1 hP 0 (wMd_0 t a σ) rfl 8 (by decide) (hts (.fieldLink R_Md 113 "FlatBoxesModel" "parts" "I") (List.mem_cons_of_mem _ (gIn k_674 (by decide +kernel)))) (fun _ h9 => h9) rfl d_Md_part_61 ?_
              refine lv_topi (fun v_27 e_27 => ?_)
              obtain rfl : nI np = v_27 := (e_27.trans hN).symm
              refine lv_bipush (v := 8) hx hb d_Md_part_64 (by decide) ?_
              refine lv_icmp_ne (tgt := 73) hx hb d_Md_part_66 (by decide) (fun c_28 => ?_) (fun c_28 => ?_)
              · 
                have h_28 : ¬ np = 8 := fun q9 => c_28 ((nI_eq (a := np) (b := 8) (by omega) (by omega)).mpr q9)
                refine lv_iconst (v := 0) hx hb d_Md_part_73 (by decide) ?_
                refine va_put (D := D) (ci := 7) (v := .int 0) (ty := .int) (C := R_Md) (T := F_Md) (N := 34) hx hb hts (fun w h => List.mem_cons_of_mem _ (i_Md w h)) t_Md t_Md_ok n_Md hown hK.1 hP hD hS 0 (wMd_0 t a σ) rfl 0 (by decide) (hts (.fieldLink R_Md 93 "FlatBoxesModel" "code" "I") (List.mem_cons_of_mem _ (gIn k_666 (by decide +kernel)))) (fun _ h9 => h9) rfl (by decide +kernel) rfl rfl (Nat.le_of_ble_eq_true rfl) d_Md_part_74 (fun H locs hP hD hS => ?_)
                have hP : va_P D gCl (wMd t a (gSt σ 0 0 0)) H := hP
                have hD : va_D A (wMd t a (gSt σ 0 0 0)) := hD
                refine lv_aload_n hx hb d_Md_part_77 rfl (lv_at hl 1 rfl) ?_
                refine va_get (D := D) (ci := 7) (v := .int ((gSt σ 0 0 0) 0 0)) (C := R_Md) (T := F_Md) (N := 34) hx hb hts (fun w h => List.mem_cons_of_mem _ (i_Md w h)) hown hK.1 hP 0 (wMd_0 t a (gSt σ 0 0 0)) rfl 0 (by decide) (hts (.fieldLink R_Md 93 "FlatBoxesModel" "code" "I") (List.mem_cons_of_mem _ (gIn k_666 (by decide +kernel)))) (fun _ h9 => h9) rfl d_Md_part_78 ?_
                refine lv_topi (fun v_29 e_29 => ?_)
                obtain rfl : 0 = v_29 := (e_29.trans (rfl)).symm
                refine lv_if_le (tgt := 86) hx hb d_Md_part_81 (by decide) (fun c_30 => ?_) (fun c_30 => ?_)
                · 
                  refine lv_aload_n hx hb d_Md_part_86 rfl (lv_at hl 1 rfl) ?_
                  refine va_get (D := D) (ci := 7) (v := .ref (a 9)) (C := R_Md) (T := F_Md) (N := 34) hx hb hts (fun w h => List.mem_cons_of_mem _ (i_Md w h)) hown hK.1 hP 0 (wMd_0 t a (gSt σ 0 0 0)) rfl 9 (by decide) (hts (.fieldLink R_Md 25 "FlatBoxesModel" "wides" "[I") (List.mem_cons_of_mem _ (gIn k_675 (by decide +kernel)))) (fun _ h9 => h9) rfl d_Md_part_87 ?_
                  refine lv_aload_n hx hb d_Md_part_90 rfl (lv_at hl 1 rfl) ?_
                  refine va_get (D := D) (ci := 7) (v := .int ((gSt σ 0 0 0) 8 0)) (C := R_Md) (T := F_Md) (N := 34) hx hb hts (fun w h => List.mem_cons_of_mem _ (i_Md w h)) hown hK.1 hP 0 (wMd_0 t a (gSt σ 0 0 0)) rfl 8 (by decide) (hts (.fieldLink R_Md 113 "FlatBoxesModel" "parts" "I") (List.mem_cons_of_mem _ (gIn k_674 (by decide +kernel)))) (fun _ h9 => h9) rfl d_Md_part_91 ?_
                  refine lv_topi (fun v_31 e_31 => ?_)
                  obtain rfl : nI np = v_31 := (e_31.trans hN).symm
                  refine lv_iload_n hx hb d_Md_part_94 rfl (lv_at hl 2 rfl) ?_
                  refine g_iast hx hb hK.1 hP hD hS 6 0 (wMd_9 t a (gSt σ 0 0 0)) rfl np (rfl) (by omega) (by decide) (w' := wMd t a (gSt (gSt σ 0 0 0) 9 np wd)) (sMd_9 t a (gSt σ 0 0 0) np wd) d_Md_part_95 (fun H locs hP hD hS => ?_)
                  refine lv_aload_n hx hb d_Md_part_96 rfl (lv_at hl 1 rfl) ?_
                  refine va_get (D := D) (ci := 7) (v := .ref (a 10)) (C := R_Md) (T := F_Md) (N := 34) hx hb hts (fun w h => List.mem_cons_of_mem _ (i_Md w h)) hown hK.1 hP 0 (wMd_0 t a (gSt (gSt σ 0 0 0) 9 np wd)) rfl 10 (by decide) (hts (.fieldLink R_Md 28 "FlatBoxesModel" "deeps" "[I") (List.mem_cons_of_mem _ (gIn k_676 (by decide +kernel)))) (fun _ h9 => h9) rfl d_Md_part_97 ?_
                  refine lv_aload_n hx hb d_Md_part_100 rfl (lv_at hl 1 rfl) ?_
                  refine va_get (D := D) (ci := 7) (v := .int ((gSt (gSt σ 0 0 0) 9 np wd) 8 0)) (C := R_Md) (T := F_Md) (N := 34) hx hb hts (fun w h => List.mem_cons_of_mem _ (i_Md w h)) hown hK.1 hP 0 (wMd_0 t a (gSt (gSt σ 0 0 0) 9 np wd)) rfl 8 (by decide) (hts (.fieldLink R_Md 113 "FlatBoxesModel" "parts" "I") (List.mem_cons_of_mem _ (gIn k_674 (by decide +kernel)))) (fun _ h9 => h9) rfl d_Md_part_101 ?_
                  refine lv_topi (fun v_32 e_32 => ?_)
                  obtain rfl : nI np = v_32 := (e_32.trans hN).symm
                  refine lv_iload_n hx hb d_Md_part_104 rfl (lv_at hl 3 rfl) ?_
                  refine g_iast hx hb hK.1 hP hD hS 7 0 (wMd_10 t a (gSt (gSt σ 0 0 0) 9 np wd)) rfl np (rfl) (by omega) (by decide) (w' := wMd t a (gSt (gSt (gSt σ 0 0 0) 9 np wd) 10 np dp)) (sMd_10 t a (gSt (gSt σ 0 0 0) 9 np wd) np dp) d_Md_part_105 (fun H locs hP hD hS => ?_)
                  refine lv_aload_n hx hb d_Md_part_106 rfl (lv_at hl 1 rfl) ?_
                  refine va_get (D := D) (ci := 7) (v := .ref (a 11)) (C := R_Md) (T := F_Md) (N := 34) hx hb hts (fun w h => List.mem_cons_of_mem _ (i_Md w h)) hown hK.1 hP 0 (wMd_0 t a (gSt (gSt (gSt σ 0 0 0) 9 np wd) 10 np dp)) rfl 11 (by decide) (hts (.fieldLink R_Md 31 "FlatBoxesModel" "thicks" "[I") (List.mem_cons_of_mem _ (gIn k_677 (by decide +kernel)))) (fun _ h9 => h9) rfl d_Md_part_107 ?_
                  refine lv_aload_n hx hb d_Md_part_110 rfl (lv_at hl 1 rfl) ?_
                  refine va_get (D := D) (ci := 7) (v := .int ((gSt (gSt (gSt σ 0 0 0) 9 np wd) 10 np dp) 8 0)) (C := R_Md) (T := F_Md) (N := 34) hx hb hts (fun w h => List.mem_cons_of_mem _ (i_Md w h)) hown hK.1 hP 0 (wMd_0 t a (gSt (gSt (gSt σ 0 0 0) 9 np wd) 10 np dp)) rfl 8 (by decide) (hts (.fieldLink R_Md 113 "FlatBoxesModel" "parts" "I") (List.mem_cons_of_mem _ (gIn k_674 (by decide +kernel)))) (fun _ h9 => h9) rfl d_Md_part_111 ?_
                  refine lv_topi (fun v_33 e_33 => ?_)
                  obtain rfl : nI np = v_33 := (e_33.trans hN).symm
                  refine lv_iload_n hx hb d_Md_part_114 rfl (lv_at hl 4 rfl) ?_
                  refine g_iast hx hb hK.1 hP hD hS 8 0 (wMd_11 t a (gSt (gSt (gSt σ 0 0 0) 9 np wd) 10 np dp)) rfl np (rfl) (by omega) (by decide) (w' := wMd t a (gSt (gSt (gSt (gSt σ 0 0 0) 9 np wd) 10 np dp) 11 np ht)) (sMd_11 t a (gSt (gSt (gSt σ 0 0 0) 9 np wd) 10 np dp) np ht) d_Md_part_115 (fun H locs hP hD hS => ?_)
                  refine lv_aload_n hx hb d_Md_part_116 rfl (lv_at hl 1 rfl) ?_
                  refine va_get (D := D) (ci := 7) (v := .ref (a 12)) (C := R_Md) (T := F_Md) (N := 34) hx hb hts (fun w h => List.mem_cons_of_mem _ (i_Md w h)) hown hK.1 hP 0 (wMd_0 t a (gSt (gSt (gSt (gSt σ 0 0 0) 9 np wd) 10 np dp) 11 np ht)) rfl 12 (by decide) (hts (.fieldLink R_Md 34 "FlatBoxesModel" "grams" "[I") (List.mem_cons_of_mem _ (gIn k_678 (by decide +kernel)))) (fun _ h9 => h9) rfl d_Md_part_117 ?_
                  refine lv_aload_n hx hb d_Md_part_120 rfl (lv_at hl 1 rfl) ?_
                  refine va_get (D := D) (ci := 7) (v := .int ((gSt (gSt (gSt (gSt σ 0 0 0) 9 np wd) 10 np dp) 11 np ht) 8 0)) (C := R_Md) (T := F_Md) (N := 34) hx hb hts (fun w h => List.mem_cons_of_mem _ (i_Md w h)) hown hK.1 hP 0 (wMd_0 t a (gSt (gSt (gSt (gSt σ 0 0 0) 9 np wd) 10 np dp) 11 np ht)) rfl 8 (by decide) (hts (.fieldLink R_Md 113 "FlatBoxesModel" "parts" "I") (List.mem_cons_of_mem _ (gIn k_674 (by decide +kernel)))) (fun _ h9 => h9) rfl d_Md_part_121 ?_
                  refine lv_topi (fun v_34 e_34 => ?_)
                  obtain rfl : nI np = v_34 := (e_34.trans hN).symm
                  refine lv_iload hx hb d_Md_part_124 (lv_at hl 5 rfl) ?_
                  refine g_iast hx hb hK.1 hP hD hS 9 0 (wMd_12 t a (gSt (gSt (gSt (gSt σ 0 0 0) 9 np wd) 10 np dp) 11 np ht)) rfl np (rfl) (by omega) (by decide) (w' := wMd t a (gSt (gSt (gSt (gSt (gSt σ 0 0 0) 9 np wd) 10 np dp) 11 np ht) 12 np gr)) (sMd_12 t a (gSt (gSt (gSt (gSt σ 0 0 0) 9 np wd) 10 np dp) 11 np ht) np gr) d_Md_part_126 (fun H locs hP hD hS => ?_)
                  refine lv_aload_n hx hb d_Md_part_127 rfl (lv_at hl 1 rfl) ?_
                  refine va_get (D := D) (ci := 7) (v := .ref (a 13)) (C := R_Md) (T := F_Md) (N := 34) hx hb hts (fun w h => List.mem_cons_of_mem _ (i_Md w h)) hown hK.1 hP 0 (wMd_0 t a (gSt (gSt (gSt (gSt (gSt σ 0 0 0) 9 np wd) 10 np dp) 11 np ht) 12 np gr)) rfl 13 (by decide) (hts (.fieldLink R_Md 37 "FlatBoxesModel" "steps" "[I") (List.mem_cons_of_mem _ (gIn k_679 (by decide +kernel)))) (fun _ h9 => h9) rfl d_Md_part_128 ?_
                  refine lv_aload_n hx hb d_Md_part_131 rfl (lv_at hl 1 rfl) ?_
                  refine va_get (D := D) (ci := 7) (v := .int ((gSt (gSt (gSt (gSt (gSt σ 0 0 0) 9 np wd) 10 np dp) 11 np ht) 12 np gr) 8 0)) (C := R_Md) (T := F_Md) (N := 34) hx hb hts (fun w h => List.mem_cons_of_mem _ (i_Md w h)) hown hK.1 hP 0 (wMd_0 t a (gSt (gSt (gSt (gSt (gSt σ 0 0 0) 9 np wd) 10 np dp) 11 np ht) 12 np gr)) rfl 8 (by decide) (hts (.fieldLink R_Md 113 "FlatBoxesModel" "parts" "I") (List.mem_cons_of_mem _ (gIn k_674 (by decide +kernel)))) (fun _ h9 => h9) rfl d_Md_part_132 ?_
                  refine lv_topi (fun v_35 e_35 => ?_)
                  obtain rfl : nI np = v_35 := (e_35.trans hN).symm
                  refine lv_iload hx hb d_Md_part_135 (lv_at hl 6 rfl) ?_
                  refine g_iast hx hb hK.1 hP hD hS 10 0 (wMd_13 t a (gSt (gSt (gSt (gSt (gSt σ 0 0 0) 9 np wd) 10 np dp) 11 np ht) 12 np gr)) rfl np (rfl) (by omega) (by decide) (w' := wMd t a (gSt (gSt (gSt (gSt (gSt (gSt σ 0 0 0) 9 np wd) 10 np dp) 11 np ht) 12 np gr) 13 np sp)) (sMd_13 t a (gSt (gSt (gSt (gSt (gSt σ 0 0 0) 9 np wd) 10 np dp) 11 np ht) 12 np gr) np sp) d_Md_part_137 (fun H locs hP hD hS => ?_)
                  refine lv_aload_n hx hb d_Md_part_138 rfl (lv_at hl 1 rfl) ?_
                  refine va_get (D := D) (ci := 7) (v := .ref (a 14)) (C := R_Md) (T := F_Md) (N := 34) hx hb hts (fun w h => List.mem_cons_of_mem _ (i_Md w h)) hown hK.1 hP 0 (wMd_0 t a (gSt (gSt (gSt (gSt (gSt (gSt σ 0 0 0) 9 np wd) 10 np dp) 11 np ht) 12 np gr) 13 np sp)) rfl 14 (by decide) (hts (.fieldLink R_Md 40 "FlatBoxesModel" "fragiles" "[Z") (List.mem_cons_of_mem _ (gIn k_680 (by decide +kernel)))) (fun _ h9 => h9) rfl d_Md_part_139 ?_
                  refine lv_aload_n hx hb d_Md_part_142 rfl (lv_at hl 1 rfl) ?_
                  refine va_get (D := D) (ci := 7) (v := .int ((gSt (gSt (gSt (gSt (gSt (gSt σ 0 0 0) 9 np wd) 10 np dp) 11 np ht) 12 np gr) 13 np sp) 8 0)) (C := R_Md) (T := F_Md) (N := 34) hx hb hts (fun w h => List.mem_cons_of_mem _ (i_Md w h)) hown hK.1 hP 0 (wMd_0 t a (gSt (gSt (gSt (gSt (gSt (gSt σ 0 0 0) 9 np wd) 10 np dp) 11 np ht) 12 np gr) 13 np sp)) rfl 8 (by decide) (hts (.fieldLink R_Md 113 "FlatBoxesModel" "parts" "I") (List.mem_cons_of_mem _ (gIn k_674 (by decide +kernel)))) (fun _ h9 => h9) rfl d_Md_part_143 ?_
                  refine lv_topi (fun v_36 e_36 => ?_)
                  obtain rfl : nI np = v_36 := (e_36.trans hN).symm
                  refine lv_iconst (v := 0) hx hb d_Md_part_146 (by decide) ?_
                  refine g_zast hx hb hK.1 hP hD hS 11 1 (wMd_14 t a (gSt (gSt (gSt (gSt (gSt (gSt σ 0 0 0) 9 np wd) 10 np dp) 11 np ht) 12 np gr) 13 np sp)) rfl (Or.inl rfl) np (rfl) (by omega) (by decide) (w' := wMd t a (gSt (gSt (gSt (gSt (gSt (gSt (gSt σ 0 0 0) 9 np wd) 10 np dp) 11 np ht) 12 np gr) 13 np sp) 14 np 0)) (sMd_14 t a (gSt (gSt (gSt (gSt (gSt (gSt σ 0 0 0) 9 np wd) 10 np dp) 11 np ht) 12 np gr) 13 np sp) np 0) d_Md_part_147 (fun H locs hP hD hS => ?_)
                  refine lv_aload_n hx hb d_Md_part_148 rfl (lv_at hl 1 rfl) ?_
                  refine lv_dup hx hb d_Md_part_149 rfl ?_
                  refine va_get (D := D) (ci := 7) (v := .int ((gSt (gSt (gSt (gSt (gSt (gSt (gSt σ 0 0 0) 9 np wd) 10 np dp) 11 np ht) 12 np gr) 13 np sp) 14 np 0) 8 0)) (C := R_Md) (T := F_Md) (N := 34) hx hb hts (fun w h => List.mem_cons_of_mem _ (i_Md w h)) hown hK.1 hP 0 (wMd_0 t a (gSt (gSt (gSt (gSt (gSt (gSt (gSt σ 0 0 0) 9 np wd) 10 np dp) 11 np ht) 12 np gr) 13 np sp) 14 np 0)) rfl 8 (by decide) (hts (.fieldLink R_Md 113 "FlatBoxesModel" "parts" "I") (List.mem_cons_of_mem _ (gIn k_674 (by decide +kernel)))) (fun _ h9 => h9) rfl d_Md_part_150 ?_
                  refine lv_topi (fun v_37 e_37 => ?_)
                  obtain rfl : nI np = v_37 := (e_37.trans hN).symm
                  refine lv_iconst (v := 1) hx hb d_Md_part_153 (by decide) ?_
                  refine lv_iadd hx hb d_Md_part_154 ?_
                  refine lv_topi (fun v_38 e_38 => ?_)
                  obtain rfl : nI (np + 1) = v_38 := (e_38.trans (nI_1 _)).symm
                  refine va_put (D := D) (ci := 7) (v := .int (nI (np + 1))) (ty := .int) (C := R_Md) (T := F_Md) (N := 34) hx hb hts (fun w h => List.mem_cons_of_mem _ (i_Md w h)) t_Md t_Md_ok n_Md hown hK.1 hP hD hS 0 (wMd_0 t a (gSt (gSt (gSt (gSt (gSt (gSt (gSt σ 0 0 0) 9 np wd) 10 np dp) 11 np ht) 12 np gr) 13 np sp) 14 np 0)) rfl 8 (by decide) (hts (.fieldLink R_Md 113 "FlatBoxesModel" "parts" "I") (List.mem_cons_of_mem _ (gIn k_674 (by decide +kernel)))) (fun _ h9 => h9) rfl (by decide +kernel) rfl rfl (Nat.le_of_ble_eq_true rfl) d_Md_part_155 (fun H locs hP hD hS => ?_)
                  have hP : va_P D gCl (wMd t a (gSt (gSt (gSt (gSt (gSt (gSt (gSt (gSt σ 0 0 0) 9 np wd) 10 np dp) 11 np ht) 12 np gr) 13 np sp) 14 np 0) 8 0 (nI (np + 1)))) H := hP
                  have hD : va_D A (wMd t a (gSt (gSt (gSt (gSt (gSt (gSt (gSt (gSt σ 0 0 0) 9 np wd) 10 np dp) 11 np ht) 12 np gr) 13 np sp) 14 np 0) 8 0 (nI (np + 1)))) := hD
                  refine lv_aload_n hx hb d_Md_part_158 rfl (lv_at hl 1 rfl) ?_
                  refine lv_iconst (v := 0) hx hb d_Md_part_159 (by decide) ?_
                  refine va_put (D := D) (ci := 7) (v := .int 0) (ty := .boolean) (C := R_Md) (T := F_Md) (N := 34) hx hb hts (fun w h => List.mem_cons_of_mem _ (i_Md w h)) t_Md t_Md_ok n_Md hown hK.1 hP hD hS 0 (wMd_0 t a (gSt (gSt (gSt (gSt (gSt (gSt (gSt (gSt σ 0 0 0) 9 np wd) 10 np dp) 11 np ht) 12 np gr) 13 np sp) 14 np 0) 8 0 (nI (np + 1)))) rfl 24 (by decide) (hts (.fieldLink R_Md 108 "FlatBoxesModel" "hasShares" "Z") (List.mem_cons_of_mem _ (gIn k_690 (by decide +kernel)))) (fun _ h9 => h9) rfl (by decide +kernel) rfl rfl (Nat.le_of_ble_eq_true rfl) d_Md_part_160 (fun H locs hP hD hS => ?_)
                  have hP : va_P D gCl (wMd t a (gSt (gSt (gSt (gSt (gSt (gSt (gSt (gSt (gSt σ 0 0 0) 9 np wd) 10 np dp) 11 np ht) 12 np gr) 13 np sp) 14 np 0) 8 0 (nI (np + 1))) 24 0 0)) H := hP
                  have hD : va_D A (wMd t a (gSt (gSt (gSt (gSt (gSt (gSt (gSt (gSt (gSt σ 0 0 0) 9 np wd) 10 np dp) 11 np ht) 12 np gr) 13 np sp) 14 np 0) 8 0 (nI (np + 1))) 24 0 0)) := hD
                  refine lv_aload_n hx hb d_Md_part_163 rfl (lv_at hl 1 rfl) ?_
                  refine va_get (D := D) (ci := 7) (v := .int ((gSt (gSt (gSt (gSt (gSt (gSt (gSt (gSt (gSt σ 0 0 0) 9 np wd) 10 np dp) 11 np ht) 12 np gr) 13 np sp) 14 np 0) 8 0 (nI (np + 1))) 24 0 0) 8 0)) (C := R_Md) (T := F_Md) (N := 34) hx hb hts (fun w h => List.mem_cons_of_mem _ (i_Md w h)) hown hK.1 hP 0 (wMd_0 t a (gSt (gSt (gSt (gSt (gSt (gSt (gSt (gSt (gSt σ 0 0 0) 9 np wd) 10 np dp) 11 np ht) 12 np gr) 13 np sp) 14 np 0) 8 0 (nI (np + 1))) 24 0 0)) rfl 8 (by decide) (hts (.fieldLink R_Md 113 "FlatBoxesModel" "parts" "I") (List.mem_cons_of_mem _ (gIn k_674 (by decide +kernel)))) (fun _ h9 => h9) rfl d_Md_part_164 ?_
                  refine lv_topi (fun v_39 e_39 => ?_)
                  obtain rfl : nI (np + 1) = v_39 := (e_39.trans (rfl)).symm
                  refine lv_iconst (v := 1) hx hb d_Md_part_167 (by decide) ?_
                  refine lv_isub hx hb d_Md_part_168 ?_
                  refine lv_topi (fun v_40 e_40 => ?_)
                  obtain rfl : nI np = v_40 := (e_40.trans (nI_pred np)).symm
                  exact W.iret (v := nI np) hx hb hr (fun U hU hW => ⟨⟨nI np, gSt (gSt (gSt (gSt (gSt (gSt (gSt (gSt (gSt σ 0 0 0) 9 np wd) 10 np dp) 11 np ht) 12 np gr) 13 np sp) 14 np 0) 8 0 (nI (np + 1))) 24 0 0, rfl, by exact ⟨by simp [mPartR, mPartC, mAll, c_2, c_7, c_12, c_17, c_22, c_26, c_28, h_28, c_30], by simp [mPartU, mPartC, mAll, c_2, c_7, c_12, c_17, c_22, c_26, c_28, h_28, c_30]⟩, by rw [hU]; exact hP, hD⟩, hS.F hU⟩) hS.2.2 d_Md_part_169
                · 
                  exact absurd c_30 (by decide)
              · 
                have h_28 : np = 8 := (nI_eq (a := np) (b := 8) (by omega) (by omega)).mp c_28
                refine lv_iconst (v := 2) hx hb d_Md_part_69 (by decide) ?_
                refine lv_goto (tgt := 74) hx hb d_Md_part_70 (by decide) ?_
                refine va_put (D := D) (ci := 7) (v := .int 2) (ty := .int) (C := R_Md) (T := F_Md) (N := 34) hx hb hts (fun w h => List.mem_cons_of_mem _ (i_Md w h)) t_Md t_Md_ok n_Md hown hK.1 hP hD hS 0 (wMd_0 t a σ) rfl 0 (by decide) (hts (.fieldLink R_Md 93 "FlatBoxesModel" "code" "I") (List.mem_cons_of_mem _ (gIn k_666 (by decide +kernel)))) (fun _ h9 => h9) rfl (by decide +kernel) rfl rfl (Nat.le_of_ble_eq_true rfl) d_Md_part_74 (fun H locs hP hD hS => ?_)
                have hP : va_P D gCl (wMd t a (gSt σ 0 0 2)) H := hP
                have hD : va_D A (wMd t a (gSt σ 0 0 2)) := hD
                refine lv_aload_n hx hb d_Md_part_77 rfl (lv_at hl 1 rfl) ?_
                refine va_get (D := D) (ci := 7) (v := .int ((gSt σ 0 0 2) 0 0)) (C := R_Md) (T := F_Md) (N := 34) hx hb hts (fun w h => List.mem_cons_of_mem _ (i_Md w h)) hown hK.1 hP 0 (wMd_0 t a (gSt σ 0 0 2)) rfl 0 (by decide) (hts (.fieldLink R_Md 93 "FlatBoxesModel" "code" "I") (List.mem_cons_of_mem _ (gIn k_666 (by decide +kernel)))) (fun _ h9 => h9) rfl d_Md_part_78 ?_
                refine lv_topi (fun v_41 e_41 => ?_)
                obtain rfl : 2 = v_41 := (e_41.trans (rfl)).symm
                refine lv_if_le (tgt := 86) hx hb d_Md_part_81 (by decide) (fun c_42 => ?_) (fun c_42 => ?_)
                · 
                  exact absurd c_42 (by decide)
                · 
                  refine lv_iconst (v := 0) hx hb d_Md_part_84 (by decide) ?_
                  exact W.iret (v := 0) hx hb hr (fun U hU hW => ⟨⟨0, gSt σ 0 0 2, rfl, by exact ⟨by simp [mPartR, mPartC, mAll, c_2, c_7, c_12, c_17, c_22, c_26, c_28, h_28, c_42], by simp [mPartU, mPartC, mAll, c_2, c_7, c_12, c_17, c_22, c_26, c_28, h_28, c_42]⟩, by rw [hU]; exact hP, hD⟩, hS.F hU⟩) hS.2.2 d_Md_part_85
            · 
              exact absurd c_26 (by decide)
set_option maxHeartbeats 4000000 in
set_option maxRecDepth 100000 in
theorem c_Md_fragile (l : Launch) (D : va_G) (t : Nat → ClassId) (a : Nat → Nat) (σ : Nat → Nat → Int32) (pq on : Int32) (np : Nat) (hN : σ 8 0 = nI np) (hN8 : np ≤ 8) (hon : on = 0 ∨ on = 1) : gMi l D t y_Md_fragile b_Md_fragile 4 (some .boolean) 1 [.ref (a 0), .int pq, .int on] (wMd t a σ) (wMd t a) (fun r u => r = mFragR σ np pq on ∧ u = mFragU σ np pq on) := by
  intro A
  refine Met.ofW (cc := b_Md_fragile) (maxL := 4) (ret := (some .boolean)) (by decide) rfl ?_
  intro p e s m args below meth c s₁ B hml hv
  obtain ⟨rfl, hK, hP, hD⟩ := hv
  have hx := B.exec
  have hb := B.bytes
  have hr := B.returns
  have hts := atoms_spec (ws := .code y_Md_fragile b_Md_fragile 4 (some .boolean) :: gBig) B.pre
  have hown : s.vm.findClass R_Md = some m.cls := findClass_of_methodNamed B.named
  have hlocks := B.notSynchronized
  have hS : va_S A s.heap s.heap [] := va_S.rf
  have hl := lv_entry ([.ref (a 0), .int pq, .int on]) (n := 4) (Nat.le_of_ble_eq_true rfl)
  rw [lg_entry_eq]
  generalize (lg_sl ([.ref (a 0), .int pq, .int on]) ++ List.replicate (4 - (lg_sl ([.ref (a 0), .int pq, .int on])).length) Slot.unset).toArray = ls at hl ⊢
  have hl : lv_has ls 4 [(0, .ref (a 0)), (1, .int pq), (2, .int on)] := hl
  show gGo l p e s m below meth c D t A 1 [.ref (a 0), .int pq, .int on] (wMd t a) (fun r u => r = mFragR σ np pq on ∧ u = mFragU σ np pq on) s.heap [] (F0 m 0 ls [])
  refine lv_aload_n hx hb d_Md_fragile_0 rfl (lv_at hl 0 rfl) ?_
  refine lv_iload_n hx hb d_Md_fragile_1 rfl (lv_at hl 1 rfl) ?_
  refine lv_iconst (v := 0) hx hb d_Md_fragile_2 (by decide) ?_
  refine lv_aload_n hx hb d_Md_fragile_3 rfl (lv_at hl 0 rfl) ?_
  refine va_get (D := D) (ci := 7) (v := .int (σ 8 0)) (C := R_Md) (T := F_Md) (N := 34) hx hb hts (fun w h => List.mem_cons_of_mem _ (i_Md w h)) hown hK.1 hP 0 (wMd_0 t a σ) rfl 8 (by decide) (hts (.fieldLink R_Md 113 "FlatBoxesModel" "parts" "I") (List.mem_cons_of_mem _ (gIn k_674 (by decide +kernel)))) (fun _ h9 => h9) rfl d_Md_fragile_4 ?_
  refine lv_topi (fun v_1 e_1 => ?_)
  obtain rfl : nI np = v_1 := (e_1.trans hN).symm
  refine lv_iconst (v := 1) hx hb d_Md_fragile_7 (by decide) ?_
  refine lv_isub hx hb d_Md_fragile_8 ?_
  refine g_si (k := 3) (As := [.int pq, .int 0, .int ((nI np) - 1)]) (rest := [.ref (a 0)]) (own := R_Md) (index := 96) ⟨hx, hb, hml, hown, hts⟩ (c_Md_in l D t a σ pq 0 ((nI np) - 1)) (gg_Md_96 _) (by decide +kernel) ⟨Nat.le_of_ble_eq_true rfl, Nat.le_of_ble_eq_true rfl⟩ rfl hK hP hD hS hl.1 rfl (Nat.le_of_ble_eq_true rfl) ⟨Nat.zero_le _, Nat.zero_le _⟩ d_Md_fragile_9 (fun r_2 u_2 H locs q_2 hP hD hS => ?_)
  obtain ⟨rfl, hu_2⟩ := q_2
  rw [hu_2] at hP hD
  refine lv_if_eq (tgt := 19) hx hb d_Md_fragile_12 (by decide) (fun c_3 => ?_) (fun c_3 => ?_)
  · 
    refine lv_iconst (v := 1) hx hb d_Md_fragile_19 (by decide) ?_
    refine va_put (D := D) (ci := 7) (v := .int 1) (ty := .int) (C := R_Md) (T := F_Md) (N := 34) hx hb hts (fun w h => List.mem_cons_of_mem _ (i_Md w h)) t_Md t_Md_ok n_Md hown hK.1 hP hD hS 0 (wMd_0 t a σ) rfl 0 (by decide) (hts (.fieldLink R_Md 93 "FlatBoxesModel" "code" "I") (List.mem_cons_of_mem _ (gIn k_666 (by decide +kernel)))) (fun _ h9 => h9) rfl (by decide +kernel) rfl rfl (Nat.le_of_ble_eq_true rfl) d_Md_fragile_20 (fun H locs hP hD hS => ?_)
    have hP : va_P D gCl (wMd t a (gSt σ 0 0 1)) H := hP
    have hD : va_D A (wMd t a (gSt σ 0 0 1)) := hD
    refine lv_aload_n hx hb d_Md_fragile_23 rfl (lv_at hl 0 rfl) ?_
    refine va_get (D := D) (ci := 7) (v := .int ((gSt σ 0 0 1) 0 0)) (C := R_Md) (T := F_Md) (N := 34) hx hb hts (fun w h => List.mem_cons_of_mem _ (i_Md w h)) hown hK.1 hP 0 (wMd_0 t a (gSt σ 0 0 1)) rfl 0 (by decide) (hts (.fieldLink R_Md 93 "FlatBoxesModel" "code" "I") (List.mem_cons_of_mem _ (gIn k_666 (by decide +kernel)))) (fun _ h9 => h9) rfl d_Md_fragile_24 ?_
    refine lv_topi (fun v_4 e_4 => ?_)
    obtain rfl : 1 = v_4 := (e_4.trans (rfl)).symm
    refine lv_if_le (tgt := 32) hx hb d_Md_fragile_27 (by decide) (fun c_5 => ?_) (fun c_5 => ?_)
    · 
      exact absurd c_5 (by decide)
    · 
      refine lv_iconst (v := 0) hx hb d_Md_fragile_30 (by decide) ?_
      exact W.zret (v := 0) (ty := .boolean) hx hb hr (rfl) (fun U hU hW => ⟨⟨0, gSt σ 0 0 1, rfl, by exact ⟨by simp [mFragR, mFragC, mFragN, c_3, c_5], by simp [mFragU, mFragC, mFragN, c_3, c_5]⟩, by rw [hU]; exact hP, hD⟩, hS.F hU⟩) hS.2.2 d_Md_fragile_31
  · 
    refine lv_iconst (v := 0) hx hb d_Md_fragile_15 (by decide) ?_
    refine lv_goto (tgt := 20) hx hb d_Md_fragile_16 (by decide) ?_
    refine va_put (D := D) (ci := 7) (v := .int 0) (ty := .int) (C := R_Md) (T := F_Md) (N := 34) hx hb hts (fun w h => List.mem_cons_of_mem _ (i_Md w h)) t_Md t_Md_ok n_Md hown hK.1 hP hD hS 0 (wMd_0 t a σ) rfl 0 (by decide) (hts (.fieldLink R_Md 93 "FlatBoxesModel" "code" "I") (List.mem_cons_of_mem _ (gIn k_666 (by decide +kernel)))) (fun _ h9 => h9) rfl (by decide +kernel) rfl rfl (Nat.le_of_ble_eq_true rfl) d_Md_fragile_20 (fun H locs hP hD hS => ?_)
    have hP : va_P D gCl (wMd t a (gSt σ 0 0 0)) H := hP
    have hD : va_D A (wMd t a (gSt σ 0 0 0)) := hD
    refine lv_aload_n hx hb d_Md_fragile_23 rfl (lv_at hl 0 rfl) ?_
    refine va_get (D := D) (ci := 7) (v := .int ((gSt σ 0 0 0) 0 0)) (C := R_Md) (T := F_Md) (N := 34) hx hb hts (fun w h => List.mem_cons_of_mem _ (i_Md w h)) hown hK.1 hP 0 (wMd_0 t a (gSt σ 0 0 0)) rfl 0 (by decide) (hts (.fieldLink R_Md 93 "FlatBoxesModel" "code" "I") (List.mem_cons_of_mem _ (gIn k_666 (by decide +kernel)))) (fun _ h9 => h9) rfl d_Md_fragile_24 ?_
    refine lv_topi (fun v_6 e_6 => ?_)
    obtain rfl : 0 = v_6 := (e_6.trans (rfl)).symm
    refine lv_if_le (tgt := 32) hx hb d_Md_fragile_27 (by decide) (fun c_7 => ?_) (fun c_7 => ?_)
    · 
      obtain ⟨q, hq, rfl⟩ := mIn_nat (n := np) (by omega) c_3
      refine lv_aload_n hx hb d_Md_fragile_32 rfl (lv_at hl 0 rfl) ?_
      refine va_get (D := D) (ci := 7) (v := .ref (a 14)) (C := R_Md) (T := F_Md) (N := 34) hx hb hts (fun w h => List.mem_cons_of_mem _ (i_Md w h)) hown hK.1 hP 0 (wMd_0 t a (gSt σ 0 0 0)) rfl 14 (by decide) (hts (.fieldLink R_Md 40 "FlatBoxesModel" "fragiles" "[Z") (List.mem_cons_of_mem _ (gIn k_680 (by decide +kernel)))) (fun _ h9 => h9) rfl d_Md_fragile_33 ?_
      refine lv_iload_n hx hb d_Md_fragile_36 rfl (lv_at hl 1 rfl) ?_
      refine g_zald hx hb hK.1 hP 11 1 (wMd_14 t a (gSt σ 0 0 0)) rfl q (rfl) (by omega) (by decide) d_Md_fragile_37 ?_
      refine lv_topi (fun v_8 e_8 => ?_)
      obtain rfl : σ 14 q = v_8 := (e_8.trans (rfl)).symm
      refine lv_iload_n hx hb d_Md_fragile_38 rfl (lv_at hl 2 rfl) ?_
      refine lv_icmp_eq (tgt := 46) hx hb d_Md_fragile_39 (by decide) (fun c_9 => ?_) (fun c_9 => ?_)
      · 
        refine lv_iconst (v := 0) hx hb d_Md_fragile_46 (by decide) ?_
        refine lv_istore_n (lv' := [(3, .int 0), (0, .ref (a 0)), (1, .int (nI q)), (2, .int on)]) hx hb d_Md_fragile_47 rfl hl (by decide) rfl (fun ls hl => ?_)
        refine lv_aload_n hx hb d_Md_fragile_48 rfl (lv_at hl 1 rfl) ?_
        refine va_get (D := D) (ci := 7) (v := .ref (a 14)) (C := R_Md) (T := F_Md) (N := 34) hx hb hts (fun w h => List.mem_cons_of_mem _ (i_Md w h)) hown hK.1 hP 0 (wMd_0 t a (gSt σ 0 0 0)) rfl 14 (by decide) (hts (.fieldLink R_Md 40 "FlatBoxesModel" "fragiles" "[Z") (List.mem_cons_of_mem _ (gIn k_680 (by decide +kernel)))) (fun _ h9 => h9) rfl d_Md_fragile_49 ?_
        refine lv_iload_n hx hb d_Md_fragile_52 rfl (lv_at hl 2 rfl) ?_
        refine lv_iload_n hx hb d_Md_fragile_53 rfl (lv_at hl 3 rfl) ?_
        refine g_zast hx hb hK.1 hP hD hS 11 1 (wMd_14 t a (gSt σ 0 0 0)) rfl (hon) q (rfl) (by omega) (by decide) (w' := wMd t a (gSt (gSt σ 0 0 0) 14 q on)) (sMd_14 t a (gSt σ 0 0 0) q on) d_Md_fragile_54 (fun H locs hP hD hS => ?_)
        refine lv_aload_n hx hb d_Md_fragile_55 rfl (lv_at hl 1 rfl) ?_
        refine lv_aload_n hx hb d_Md_fragile_56 rfl (lv_at hl 1 rfl) ?_
        refine va_get (D := D) (ci := 7) (v := .int ((gSt (gSt σ 0 0 0) 14 q on) 24 0)) (C := R_Md) (T := F_Md) (N := 34) hx hb hts (fun w h => List.mem_cons_of_mem _ (i_Md w h)) hown hK.1 hP 0 (wMd_0 t a (gSt (gSt σ 0 0 0) 14 q on)) rfl 24 (by decide) (hts (.fieldLink R_Md 108 "FlatBoxesModel" "hasShares" "Z") (List.mem_cons_of_mem _ (gIn k_690 (by decide +kernel)))) (fun _ h9 => h9) rfl d_Md_fragile_57 ?_
        refine lv_topi (fun v_10 e_10 => ?_)
        obtain rfl : σ 24 0 = v_10 := (e_10.trans (rfl)).symm
        refine lv_if_eq (tgt := 71) hx hb d_Md_fragile_60 (by decide) (fun c_11 => ?_) (fun c_11 => ?_)
        · 
          refine lv_iconst (v := 0) hx hb d_Md_fragile_71 (by decide) ?_
          refine va_put (D := D) (ci := 7) (v := .int 0) (ty := .boolean) (C := R_Md) (T := F_Md) (N := 34) hx hb hts (fun w h => List.mem_cons_of_mem _ (i_Md w h)) t_Md t_Md_ok n_Md hown hK.1 hP hD hS 0 (wMd_0 t a (gSt (gSt σ 0 0 0) 14 q on)) rfl 24 (by decide) (hts (.fieldLink R_Md 108 "FlatBoxesModel" "hasShares" "Z") (List.mem_cons_of_mem _ (gIn k_690 (by decide +kernel)))) (fun _ h9 => h9) rfl (by decide +kernel) rfl rfl (Nat.le_of_ble_eq_true rfl) d_Md_fragile_72 (fun H locs hP hD hS => ?_)
          have hP : va_P D gCl (wMd t a (gSt (gSt (gSt σ 0 0 0) 14 q on) 24 0 0)) H := hP
          have hD : va_D A (wMd t a (gSt (gSt (gSt σ 0 0 0) 14 q on) 24 0 0)) := hD
          refine lv_iload_n hx hb d_Md_fragile_75 rfl (lv_at hl 0 rfl) ?_
          exact W.zret (v := 0) (ty := .boolean) hx hb hr (rfl) (fun U hU hW => ⟨⟨0, gSt (gSt (gSt σ 0 0 0) 14 q on) 24 0 0, rfl, by exact ⟨by simp [mFragR, mFragC, mFragN, nI_clamp (show q < 2 ^ 31 by omega), c_3, c_7, c_9, c_11], by simp [mFragU, mFragC, mFragN, nI_clamp (show q < 2 ^ 31 by omega), c_3, c_7, c_9, c_11]⟩, by rw [hU]; exact hP, hD⟩, hS.F hU⟩) hS.2.2 d_Md_fragile_76
        · 
          refine lv_iload_n hx hb d_Md_fragile_63 rfl (lv_at hl 0 rfl) ?_
          refine lv_if_ne (tgt := 71) hx hb d_Md_fragile_64 (by decide) (fun c_12 => ?_) (fun c_12 => ?_)
          · 
            exact absurd c_12 (by decide)
          · 
            refine lv_iconst (v := 1) hx hb d_Md_fragile_67 (by decide) ?_
            refine lv_goto (tgt := 72) hx hb d_Md_fragile_68 (by decide) ?_
            refine va_put (D := D) (ci := 7) (v := .int 1) (ty := .boolean) (C := R_Md) (T := F_Md) (N := 34) hx hb hts (fun w h => List.mem_cons_of_mem _ (i_Md w h)) t_Md t_Md_ok n_Md hown hK.1 hP hD hS 0 (wMd_0 t a (gSt (gSt σ 0 0 0) 14 q on)) rfl 24 (by decide) (hts (.fieldLink R_Md 108 "FlatBoxesModel" "hasShares" "Z") (List.mem_cons_of_mem _ (gIn k_690 (by decide +kernel)))) (fun _ h9 => h9) rfl (by decide +kernel) rfl rfl (Nat.le_of_ble_eq_true rfl) d_Md_fragile_72 (fun H locs hP hD hS => ?_)
            have hP : va_P D gCl (wMd t a (gSt (gSt (gSt σ 0 0 0) 14 q on) 24 0 1)) H := hP
            have hD : va_D A (wMd t a (gSt (gSt (gSt σ 0 0 0) 14 q on) 24 0 1)) := hD
            refine lv_iload_n hx hb d_Md_fragile_75 rfl (lv_at hl 0 rfl) ?_
            exact W.zret (v := 0) (ty := .boolean) hx hb hr (rfl) (fun U hU hW => ⟨⟨0, gSt (gSt (gSt σ 0 0 0) 14 q on) 24 0 1, rfl, by exact ⟨by simp [mFragR, mFragC, mFragN, nI_clamp (show q < 2 ^ 31 by omega), c_3, c_7, c_9, c_11, c_12], by simp [mFragU, mFragC, mFragN, nI_clamp (show q < 2 ^ 31 by omega), c_3, c_7, c_9, c_11, c_12]⟩, by rw [hU]; exact hP, hD⟩, hS.F hU⟩) hS.2.2 d_Md_fragile_76
      · 
        refine lv_iconst (v := 1) hx hb d_Md_fragile_42 (by decide) ?_
        refine lv_goto (tgt := 47) hx hb d_Md_fragile_43 (by decide) ?_
        refine lv_istore_n (lv' := [(3, .int 1), (0, .ref (a 0)), (1, .int (nI q)), (2, .int on)]) hx hb d_Md_fragile_47 rfl hl (by decide) rfl (fun ls hl => ?_)
        refine lv_aload_n hx hb d_Md_fragile_48 rfl (lv_at hl 1 rfl) ?_
        refine va_get (D := D) (ci := 7) (v := .ref (a 14)) (C := R_Md) (T := F_Md) (N := 34) hx hb hts (fun w h => List.mem_cons_of_mem _ (i_Md w h)) hown hK.1 hP 0 (wMd_0 t a (gSt σ 0 0 0)) rfl 14 (by decide) (hts (.fieldLink R_Md 40 "FlatBoxesModel" "fragiles" "[Z") (List.mem_cons_of_mem _ (gIn k_680 (by decide +kernel)))) (fun _ h9 => h9) rfl d_Md_fragile_49 ?_
        refine lv_iload_n hx hb d_Md_fragile_52 rfl (lv_at hl 2 rfl) ?_
        refine lv_iload_n hx hb d_Md_fragile_53 rfl (lv_at hl 3 rfl) ?_
        refine g_zast hx hb hK.1 hP hD hS 11 1 (wMd_14 t a (gSt σ 0 0 0)) rfl (hon) q (rfl) (by omega) (by decide) (w' := wMd t a (gSt (gSt σ 0 0 0) 14 q on)) (sMd_14 t a (gSt σ 0 0 0) q on) d_Md_fragile_54 (fun H locs hP hD hS => ?_)
        refine lv_aload_n hx hb d_Md_fragile_55 rfl (lv_at hl 1 rfl) ?_
        refine lv_aload_n hx hb d_Md_fragile_56 rfl (lv_at hl 1 rfl) ?_
        refine va_get (D := D) (ci := 7) (v := .int ((gSt (gSt σ 0 0 0) 14 q on) 24 0)) (C := R_Md) (T := F_Md) (N := 34) hx hb hts (fun w h => List.mem_cons_of_mem _ (i_Md w h)) hown hK.1 hP 0 (wMd_0 t a (gSt (gSt σ 0 0 0) 14 q on)) rfl 24 (by decide) (hts (.fieldLink R_Md 108 "FlatBoxesModel" "hasShares" "Z") (List.mem_cons_of_mem _ (gIn k_690 (by decide +kernel)))) (fun _ h9 => h9) rfl d_Md_fragile_57 ?_
        refine lv_topi (fun v_13 e_13 => ?_)
        obtain rfl : σ 24 0 = v_13 := (e_13.trans (rfl)).symm
        refine lv_if_eq (tgt := 71) hx hb d_Md_fragile_60 (by decide) (fun c_14 => ?_) (fun c_14 => ?_)
        · 
          refine lv_iconst (v := 0) hx hb d_Md_fragile_71 (by decide) ?_
          refine va_put (D := D) (ci := 7) (v := .int 0) (ty := .boolean) (C := R_Md) (T := F_Md) (N := 34) hx hb hts (fun w h => List.mem_cons_of_mem _ (i_Md w h)) t_Md t_Md_ok n_Md hown hK.1 hP hD hS 0 (wMd_0 t a (gSt (gSt σ 0 0 0) 14 q on)) rfl 24 (by decide) (hts (.fieldLink R_Md 108 "FlatBoxesModel" "hasShares" "Z") (List.mem_cons_of_mem _ (gIn k_690 (by decide +kernel)))) (fun _ h9 => h9) rfl (by decide +kernel) rfl rfl (Nat.le_of_ble_eq_true rfl) d_Md_fragile_72 (fun H locs hP hD hS => ?_)
          have hP : va_P D gCl (wMd t a (gSt (gSt (gSt σ 0 0 0) 14 q on) 24 0 0)) H := hP
          have hD : va_D A (wMd t a (gSt (gSt (gSt σ 0 0 0) 14 q on) 24 0 0)) := hD
          refine lv_iload_n hx hb d_Md_fragile_75 rfl (lv_at hl 0 rfl) ?_
          exact W.zret (v := 1) (ty := .boolean) hx hb hr (rfl) (fun U hU hW => ⟨⟨1, gSt (gSt (gSt σ 0 0 0) 14 q on) 24 0 0, rfl, by exact ⟨by simp [mFragR, mFragC, mFragN, nI_clamp (show q < 2 ^ 31 by omega), c_3, c_7, c_9, c_14], by simp [mFragU, mFragC, mFragN, nI_clamp (show q < 2 ^ 31 by omega), c_3, c_7, c_9, c_14]⟩, by rw [hU]; exact hP, hD⟩, hS.F hU⟩) hS.2.2 d_Md_fragile_76
        · 
          refine lv_iload_n hx hb d_Md_fragile_63 rfl (lv_at hl 0 rfl) ?_
          refine lv_if_ne (tgt := 71) hx hb d_Md_fragile_64 (by decide) (fun c_15 => ?_) (fun c_15 => ?_)
          · 
            refine lv_iconst (v := 0) hx hb d_Md_fragile_71 (by decide) ?_
            refine va_put (D := D) (ci := 7) (v := .int 0) (ty := .boolean) (C := R_Md) (T := F_Md) (N := 34) hx hb hts (fun w h => List.mem_cons_of_mem _ (i_Md w h)) t_Md t_Md_ok n_Md hown hK.1 hP hD hS 0 (wMd_0 t a (gSt (gSt σ 0 0 0) 14 q on)) rfl 24 (by decide) (hts (.fieldLink R_Md 108 "FlatBoxesModel" "hasShares" "Z") (List.mem_cons_of_mem _ (gIn k_690 (by decide +kernel)))) (fun _ h9 => h9) rfl (by decide +kernel) rfl rfl (Nat.le_of_ble_eq_true rfl) d_Md_fragile_72 (fun H locs hP hD hS => ?_)
            have hP : va_P D gCl (wMd t a (gSt (gSt (gSt σ 0 0 0) 14 q on) 24 0 0)) H := hP
            have hD : va_D A (wMd t a (gSt (gSt (gSt σ 0 0 0) 14 q on) 24 0 0)) := hD
            refine lv_iload_n hx hb d_Md_fragile_75 rfl (lv_at hl 0 rfl) ?_
            exact W.zret (v := 1) (ty := .boolean) hx hb hr (rfl) (fun U hU hW => ⟨⟨1, gSt (gSt (gSt σ 0 0 0) 14 q on) 24 0 0, rfl, by exact ⟨by simp [mFragR, mFragC, mFragN, nI_clamp (show q < 2 ^ 31 by omega), c_3, c_7, c_9, c_14, c_15], by simp [mFragU, mFragC, mFragN, nI_clamp (show q < 2 ^ 31 by omega), c_3, c_7, c_9, c_14, c_15]⟩, by rw [hU]; exact hP, hD⟩, hS.F hU⟩) hS.2.2 d_Md_fragile_76
          · 
            exact absurd c_15 (by decide)
    · 
      exact absurd c_7 (by decide)
set_option maxHeartbeats 4000000 in
set_option maxRecDepth 100000 in
theorem c_Md_manual (l : Launch) (D : va_G) (t : Nat → ClassId) (a : Nat → Nat) (σ : Nat → Nat → Int32) (k : Int32) (np : Nat) (hN : σ 8 0 = nI np) (hN8 : np ≤ 8) : gMi l D t y_Md_manual b_Md_manual 5 (some .int) 1 [.ref (a 0), .int k] (wMd t a σ) (wMd t a) (fun r u => r = mManR σ np k ∧ u = gSt σ 0 0 (mManC np k)) := by
  intro A
  refine Met.ofW (cc := b_Md_manual) (maxL := 5) (ret := (some .int)) (by decide) rfl ?_
  intro p e s m args below meth c s₁ B hml hv
  obtain ⟨rfl, hK, hP, hD⟩ := hv
  have hx := B.exec
  have hb := B.bytes
  have hr := B.returns
  have hts := atoms_spec (ws := .code y_Md_manual b_Md_manual 5 (some .int) :: gBig) B.pre
  have hown : s.vm.findClass R_Md = some m.cls := findClass_of_methodNamed B.named
  have hlocks := B.notSynchronized
  have hS : va_S A s.heap s.heap [] := va_S.rf
  have hl := lv_entry ([.ref (a 0), .int k]) (n := 5) (Nat.le_of_ble_eq_true rfl)
  rw [lg_entry_eq]
  generalize (lg_sl ([.ref (a 0), .int k]) ++ List.replicate (5 - (lg_sl ([.ref (a 0), .int k])).length) Slot.unset).toArray = ls at hl ⊢
  have hl : lv_has ls 5 [(0, .ref (a 0)), (1, .int k)] := hl
  show gGo l p e s m below meth c D t A 1 [.ref (a 0), .int k] (wMd t a) (fun r u => r = mManR σ np k ∧ u = gSt σ 0 0 (mManC np k)) s.heap [] (F0 m 0 ls [])
  have cut_45 : ∀ (n : Nat) (r : Nat) (q : Nat) (bf : Int32) (cd : Int32) (H : Heap) (locs : List Loc) (ls : Array Slot), (r ≤ np) → (q < np) → (np + 1 ≤ r + n) → (bf = mBefS (σ 13) q r) → (∀ (H : Heap) (locs : List Loc) (ls : Array Slot), va_P D gCl (wMd t a (gSt σ 0 0 cd)) H → va_D A (wMd t a (gSt σ 0 0 cd)) → va_S A s.heap H locs → lv_has ls 5 [(0, .ref (a 0)), (1, .int k), (2, .int (nI q)), (3, .int (mBefS (σ 13) q np))] → gGo l p e s m below meth c D t A 1 [.ref (a 0), .int k] (wMd t a) (fun r u => r = mManR σ np k ∧ u = gSt σ 0 0 (mManC np k)) H locs (F0 m 106 ls [])) → va_P D gCl (wMd t a (gSt σ 0 0 cd)) H → va_D A (wMd t a (gSt σ 0 0 cd)) → va_S A s.heap H locs → lv_has ls 5 [(0, .ref (a 0)), (1, .int k), (2, .int (nI q)), (3, .int bf), (4, .int (nI r))] → gGo l p e s m below meth c D t A 1 [.ref (a 0), .int k] (wMd t a) (fun r u => r = mManR σ np k ∧ u = gSt σ 0 0 (mManC np k)) H locs (F0 m 45 ls []) := by
    intro n
    induction n with
    | zero =>
      intro r q bf cd H locs ls hr1 hq hf hs hX hP hD hS hl
      exact absurd hf (by omega)
    | succ n ih =>
      intro r q bf cd H locs ls hr1 hq hf hs hX hP hD hS hl
      refine lv_iload hx hb d_Md_manual_45 (lv_at hl 4 rfl) ?_
      refine lv_aload_n hx hb d_Md_manual_47 rfl (lv_at hl 0 rfl) ?_
      refine va_get (D := D) (ci := 7) (v := .int ((gSt σ 0 0 cd) 8 0)) (C := R_Md) (T := F_Md) (N := 34) hx hb hts (fun w h => List.mem_cons_of_mem _ (i_Md w h)) hown hK.1 hP 0 (wMd_0 t a (gSt σ 0 0 cd)) rfl 8 (by decide) (hts (.fieldLink R_Md 113 "FlatBoxesModel" "parts" "I") (List.mem_cons_of_mem _ (gIn k_674 (by decide +kernel)))) (fun _ h9 => h9) rfl d_Md_manual_48 ?_
      refine lv_topi (fun v_1 e_1 => ?_)
      obtain rfl : nI np = v_1 := (e_1.trans hN).symm
      refine lv_icmp_ge (tgt := 106) hx hb d_Md_manual_51 (by decide) (fun c_2 => ?_) (fun c_2 => ?_)
      · 
        have h_2 : np ≤ r := (nI_leI (a := np) (b := r) (by omega) (by omega)).mp c_2
        obtain rfl : r = np := by omega
        subst hs
        exact hX _ _ _  hP hD hS (lv_sub hl [0, 1, 2, 3] rfl)
      · 
        have h_2 : ¬ np ≤ r := fun q9 => c_2 ((nI_leI (a := np) (b := r) (by omega) (by omega)).mpr q9)
        refine lv_iload_n hx hb d_Md_manual_54 rfl (lv_at hl 3 rfl) ?_
        refine lv_aload_n hx hb d_Md_manual_55 rfl (lv_at hl 0 rfl) ?_
        refine va_get (D := D) (ci := 7) (v := .ref (a 13)) (C := R_Md) (T := F_Md) (N := 34) hx hb hts (fun w h => List.mem_cons_of_mem _ (i_Md w h)) hown hK.1 hP 0 (wMd_0 t a (gSt σ 0 0 cd)) rfl 13 (by decide) (hts (.fieldLink R_Md 37 "FlatBoxesModel" "steps" "[I") (List.mem_cons_of_mem _ (gIn k_679 (by decide +kernel)))) (fun _ h9 => h9) rfl d_Md_manual_56 ?_
        refine lv_iload hx hb d_Md_manual_59 (lv_at hl 4 rfl) ?_
        refine g_iald hx hb hK.1 hP 10 0 (wMd_13 t a (gSt σ 0 0 cd)) rfl r (rfl) (by omega) (by decide) d_Md_manual_61 ?_
        refine lv_topi (fun v_3 e_3 => ?_)
        obtain rfl : σ 13 r = v_3 := (e_3.trans (rfl)).symm
        refine lv_aload_n hx hb d_Md_manual_62 rfl (lv_at hl 0 rfl) ?_
        refine va_get (D := D) (ci := 7) (v := .ref (a 13)) (C := R_Md) (T := F_Md) (N := 34) hx hb hts (fun w h => List.mem_cons_of_mem _ (i_Md w h)) hown hK.1 hP 0 (wMd_0 t a (gSt σ 0 0 cd)) rfl 13 (by decide) (hts (.fieldLink R_Md 37 "FlatBoxesModel" "steps" "[I") (List.mem_cons_of_mem _ (gIn k_679 (by decide +kernel)))) (fun _ h9 => h9) rfl d_Md_manual_63 ?_
        refine lv_iload_n hx hb d_Md_manual_66 rfl (lv_at hl 2 rfl) ?_
        refine g_iald hx hb hK.1 hP 10 0 (wMd_13 t a (gSt σ 0 0 cd)) rfl q (rfl) (by omega) (by decide) d_Md_manual_67 ?_
        refine lv_topi (fun v_4 e_4 => ?_)
        obtain rfl : σ 13 q = v_4 := (e_4.trans (rfl)).symm
        refine lv_icmp_lt (tgt := 93) hx hb d_Md_manual_68 (by decide) (fun c_5 => ?_) (fun c_5 => ?_)
        · 
          refine lv_iconst (v := 1) hx hb d_Md_manual_93 (by decide) ?_
          refine lv_goto (tgt := 98) hx hb d_Md_manual_94 (by decide) ?_
          refine lv_iadd hx hb d_Md_manual_98 ?_
          refine lv_istore_n (lv' := [(3, .int (bf + 1)), (0, .ref (a 0)), (1, .int k), (2, .int (nI q)), (4, .int (nI r))]) hx hb d_Md_manual_99 rfl hl (by decide) rfl (fun ls hl => ?_)
          refine lv_iinc (v := nI (r + 1)) (lv' := [(4, .int (nI (r + 1))), (3, .int (bf + 1)), (0, .ref (a 0)), (1, .int k), (2, .int (nI q))]) hx hb d_Md_manual_100 hl (k := 4) rfl (nI_1 r) (by decide) rfl (fun ls hl => ?_)
          refine lv_goto (tgt := 45) hx hb d_Md_manual_103 (by decide) ?_
          exact ih (r + 1) q (bf + 1) cd _ _ _ (by omega) (by omega) (by omega) (by rw [hs]; simp [mBefS, c_2, h_2, c_5]) hX hP hD hS (lv_sub hl [2, 3, 4, 1, 0] rfl)
        · 
          refine lv_aload_n hx hb d_Md_manual_71 rfl (lv_at hl 0 rfl) ?_
          refine va_get (D := D) (ci := 7) (v := .ref (a 13)) (C := R_Md) (T := F_Md) (N := 34) hx hb hts (fun w h => List.mem_cons_of_mem _ (i_Md w h)) hown hK.1 hP 0 (wMd_0 t a (gSt σ 0 0 cd)) rfl 13 (by decide) (hts (.fieldLink R_Md 37 "FlatBoxesModel" "steps" "[I") (List.mem_cons_of_mem _ (gIn k_679 (by decide +kernel)))) (fun _ h9 => h9) rfl d_Md_manual_72 ?_
          refine lv_iload hx hb d_Md_manual_75 (lv_at hl 4 rfl) ?_
          refine g_iald hx hb hK.1 hP 10 0 (wMd_13 t a (gSt σ 0 0 cd)) rfl r (rfl) (by omega) (by decide) d_Md_manual_77 ?_
          refine lv_topi (fun v_6 e_6 => ?_)
          obtain rfl : σ 13 r = v_6 := (e_6.trans (rfl)).symm
          refine lv_aload_n hx hb d_Md_manual_78 rfl (lv_at hl 0 rfl) ?_
          refine va_get (D := D) (ci := 7) (v := .ref (a 13)) (C := R_Md) (T := F_Md) (N := 34) hx hb hts (fun w h => List.mem_cons_of_mem _ (i_Md w h)) hown hK.1 hP 0 (wMd_0 t a (gSt σ 0 0 cd)) rfl 13 (by decide) (hts (.fieldLink R_Md 37 "FlatBoxesModel" "steps" "[I") (List.mem_cons_of_mem _ (gIn k_679 (by decide +kernel)))) (fun _ h9 => h9) rfl d_Md_manual_79 ?_
          refine lv_iload_n hx hb d_Md_manual_82 rfl (lv_at hl 2 rfl) ?_
          refine g_iald hx hb hK.1 hP 10 0 (wMd_13 t a (gSt σ 0 0 cd)) rfl q (rfl) (by omega) (by decide) d_Md_manual_83 ?_
          refine lv_topi (fun v_7 e_7 => ?_)
          obtain rfl : σ 13 q = v_7 := (e_7.trans (rfl)).symm
          refine lv_icmp_ne (tgt := 97) hx hb d_Md_manual_84 (by decide) (fun c_8 => ?_) (fun c_8 => ?_)
          · 
            refine lv_iconst (v := 0) hx hb d_Md_manual_97 (by decide) ?_
            refine lv_iadd hx hb d_Md_manual_98 ?_
            refine lv_istore_n (lv' := [(3, .int (bf + 0)), (0, .ref (a 0)), (1, .int k), (2, .int (nI q)), (4, .int (nI r))]) hx hb d_Md_manual_99 rfl hl (by decide) rfl (fun ls hl => ?_)
            refine lv_iinc (v := nI (r + 1)) (lv' := [(4, .int (nI (r + 1))), (3, .int (bf + 0)), (0, .ref (a 0)), (1, .int k), (2, .int (nI q))]) hx hb d_Md_manual_100 hl (k := 4) rfl (nI_1 r) (by decide) rfl (fun ls hl => ?_)
            refine lv_goto (tgt := 45) hx hb d_Md_manual_103 (by decide) ?_
            exact ih (r + 1) q (bf + 0) cd _ _ _ (by omega) (by omega) (by omega) (by rw [hs]; simp [mBefS, c_2, h_2, c_5, c_8]) hX hP hD hS (lv_sub hl [2, 3, 4, 1, 0] rfl)
          · 
            refine lv_iload hx hb d_Md_manual_87 (lv_at hl 4 rfl) ?_
            refine lv_iload_n hx hb d_Md_manual_89 rfl (lv_at hl 2 rfl) ?_
            refine lv_icmp_ge (tgt := 97) hx hb d_Md_manual_90 (by decide) (fun c_9 => ?_) (fun c_9 => ?_)
            · 
              have h_9 : q ≤ r := (nI_leI (a := q) (b := r) (by omega) (by omega)).mp c_9
              refine lv_iconst (v := 0) hx hb d_Md_manual_97 (by decide) ?_
              refine lv_iadd hx hb d_Md_manual_98 ?_
              refine lv_istore_n (lv' := [(3, .int (bf + 0)), (0, .ref (a 0)), (1, .int k), (2, .int (nI q)), (4, .int (nI r))]) hx hb d_Md_manual_99 rfl hl (by decide) rfl (fun ls hl => ?_)
              refine lv_iinc (v := nI (r + 1)) (lv' := [(4, .int (nI (r + 1))), (3, .int (bf + 0)), (0, .ref (a 0)), (1, .int k), (2, .int (nI q))]) hx hb d_Md_manual_100 hl (k := 4) rfl (nI_1 r) (by decide) rfl (fun ls hl => ?_)
              refine lv_goto (tgt := 45) hx hb d_Md_manual_103 (by decide) ?_
              exact ih (r + 1) q (bf + 0) cd _ _ _ (by omega) (by omega) (by omega) (by rw [hs]; simp [mBefS, c_2, h_2, c_5, c_8, c_9, h_9]) hX hP hD hS (lv_sub hl [2, 3, 4, 1, 0] rfl)
            · 
              have h_9 : ¬ q ≤ r := fun q9 => c_9 ((nI_leI (a := q) (b := r) (by omega) (by omega)).mpr q9)
              refine lv_iconst (v := 1) hx hb d_Md_manual_93 (by decide) ?_
              refine lv_goto (tgt := 98) hx hb d_Md_manual_94 (by decide) ?_
              refine lv_iadd hx hb d_Md_manual_98 ?_
              refine lv_istore_n (lv' := [(3, .int (bf + 1)), (0, .ref (a 0)), (1, .int k), (2, .int (nI q)), (4, .int (nI r))]) hx hb d_Md_manual_99 rfl hl (by decide) rfl (fun ls hl => ?_)
              refine lv_iinc (v := nI (r + 1)) (lv' := [(4, .int (nI (r + 1))), (3, .int (bf + 1)), (0, .ref (a 0)), (1, .int k), (2, .int (nI q))]) hx hb d_Md_manual_100 hl (k := 4) rfl (nI_1 r) (by decide) rfl (fun ls hl => ?_)
              refine lv_goto (tgt := 45) hx hb d_Md_manual_103 (by decide) ?_
              exact ih (r + 1) q (bf + 1) cd _ _ _ (by omega) (by omega) (by omega) (by rw [hs]; simp [mBefS, c_2, h_2, c_5, c_8, c_9, h_9]) hX hP hD hS (lv_sub hl [2, 3, 4, 1, 0] rfl)
  have cut_25 : ∀ (n : Nat) (d : Nat) (q : Nat) (cd : Int32) (H : Heap) (locs : List Loc) (ls : Array Slot), (q + d = np) → (d + 1 ≤ n) → (mManR σ np k = if cd = 0 then mMan (σ 13) np k d q else 0) → (mManC np k = cd) → va_P D gCl (wMd t a (gSt σ 0 0 cd)) H → va_D A (wMd t a (gSt σ 0 0 cd)) → va_S A s.heap H locs → lv_has ls 5 [(0, .ref (a 0)), (1, .int k), (2, .int (nI q))] → gGo l p e s m below meth c D t A 1 [.ref (a 0), .int k] (wMd t a) (fun r u => r = mManR σ np k ∧ u = gSt σ 0 0 (mManC np k)) H locs (F0 m 25 ls []) := by
    intro n
    induction n with
    | zero =>
      intro d q cd H locs ls hd hf hs hcu hP hD hS hl
      exact absurd hf (by omega)
    | succ n ih =>
      intro d q cd H locs ls hd hf hs hcu hP hD hS hl
      refine lv_iload_n hx hb d_Md_manual_25 rfl (lv_at hl 2 rfl) ?_
      refine lv_aload_n hx hb d_Md_manual_26 rfl (lv_at hl 0 rfl) ?_
      refine va_get (D := D) (ci := 7) (v := .int ((gSt σ 0 0 cd) 8 0)) (C := R_Md) (T := F_Md) (N := 34) hx hb hts (fun w h => List.mem_cons_of_mem _ (i_Md w h)) hown hK.1 hP 0 (wMd_0 t a (gSt σ 0 0 cd)) rfl 8 (by decide) (hts (.fieldLink R_Md 113 "FlatBoxesModel" "parts" "I") (List.mem_cons_of_mem _ (gIn k_674 (by decide +kernel)))) (fun _ h9 => h9) rfl d_Md_manual_27 ?_
      refine lv_topi (fun v_10 e_10 => ?_)
      obtain rfl : nI np = v_10 := (e_10.trans hN).symm
      refine lv_icmp_ge (tgt := 119) hx hb d_Md_manual_30 (by decide) (fun c_11 => ?_) (fun c_11 => ?_)
      · 
        have h_11 : np ≤ q := (nI_leI (a := np) (b := q) (by omega) (by omega)).mp c_11
        refine lv_iconst (v := 0) hx hb d_Md_manual_119 (by decide) ?_
        exact W.iret (v := 0) hx hb hr (fun U hU hW => ⟨⟨0, gSt σ 0 0 cd, rfl, by exact ⟨by rw [hs]; obtain rfl : d = 0 := (by omega); simp [mMan], by rw [hcu]⟩, by rw [hU]; exact hP, hD⟩, hS.F hU⟩) hS.2.2 d_Md_manual_120
      · 
        have h_11 : ¬ np ≤ q := fun q9 => c_11 ((nI_leI (a := np) (b := q) (by omega) (by omega)).mpr q9)
        obtain ⟨d, rfl⟩ : ∃ d9, d = d9 + 1 := ⟨d - 1, by omega⟩
        refine lv_aload_n hx hb d_Md_manual_33 rfl (lv_at hl 0 rfl) ?_
        refine va_get (D := D) (ci := 7) (v := .int ((gSt σ 0 0 cd) 0 0)) (C := R_Md) (T := F_Md) (N := 34) hx hb hts (fun w h => List.mem_cons_of_mem _ (i_Md w h)) hown hK.1 hP 0 (wMd_0 t a (gSt σ 0 0 cd)) rfl 0 (by decide) (hts (.fieldLink R_Md 93 "FlatBoxesModel" "code" "I") (List.mem_cons_of_mem _ (gIn k_666 (by decide +kernel)))) (fun _ h9 => h9) rfl d_Md_manual_34 ?_
        refine lv_topi (fun v_12 e_12 => ?_)
        obtain rfl : cd = v_12 := (e_12.trans (rfl)).symm
        refine lv_if_ne (tgt := 119) hx hb d_Md_manual_37 (by decide) (fun c_13 => ?_) (fun c_13 => ?_)
        · 
          refine lv_iconst (v := 0) hx hb d_Md_manual_119 (by decide) ?_
          exact W.iret (v := 0) hx hb hr (fun U hU hW => ⟨⟨0, gSt σ 0 0 cd, rfl, by exact ⟨by rw [hs]; simp [c_11, h_11, c_13], by rw [hcu]⟩, by rw [hU]; exact hP, hD⟩, hS.F hU⟩) hS.2.2 d_Md_manual_120
        · 
          refine lv_iconst (v := 0) hx hb d_Md_manual_40 (by decide) ?_
          refine lv_istore_n (lv' := [(3, .int 0), (0, .ref (a 0)), (1, .int k), (2, .int (nI q))]) hx hb d_Md_manual_41 rfl hl (by decide) rfl (fun ls hl => ?_)
          refine lv_iconst (v := 0) hx hb d_Md_manual_42 (by decide) ?_
          refine lv_istore (lv' := [(4, .int 0), (3, .int 0), (0, .ref (a 0)), (1, .int k), (2, .int (nI q))]) hx hb d_Md_manual_43 hl (by decide) rfl (fun ls hl => ?_)
          refine cut_45 (np + 1) 0 q 0 cd _ _ _ (by omega) (by omega) (by omega) (by rfl) (fun H locs ls  hP hD hS hl => ?_) hP hD hS (lv_sub hl [2, 3, 4, 1, 0] rfl)
          refine lv_iload_n hx hb d_Md_manual_106 rfl (lv_at hl 3 rfl) ?_
          refine lv_iload_n hx hb d_Md_manual_107 rfl (lv_at hl 1 rfl) ?_
          refine lv_icmp_ne (tgt := 113) hx hb d_Md_manual_108 (by decide) (fun c_14 => ?_) (fun c_14 => ?_)
          · 
            refine lv_iinc (v := nI (q + 1)) (lv' := [(2, .int (nI (q + 1))), (0, .ref (a 0)), (1, .int k), (3, .int (mBefS (σ 13) q np))]) hx hb d_Md_manual_113 hl (k := 2) rfl (nI_1 q) (by decide) rfl (fun ls hl => ?_)
            refine lv_goto (tgt := 25) hx hb d_Md_manual_116 (by decide) ?_
            exact ih d (q + 1) cd _ _ _ (by omega) (by omega) (by rw [hs]; simp [mMan, c_11, h_11, c_13, c_14]) (hcu) hP hD hS (lv_sub hl [1, 2, 0] rfl)
          · 
            refine lv_iload_n hx hb d_Md_manual_111 rfl (lv_at hl 2 rfl) ?_
            exact W.iret (v := nI q) hx hb hr (fun U hU hW => ⟨⟨nI q, gSt σ 0 0 cd, rfl, by exact ⟨by rw [hs]; simp [mMan, c_11, h_11, c_13, c_14], by rw [hcu]⟩, by rw [hU]; exact hP, hD⟩, hS.F hU⟩) hS.2.2 d_Md_manual_112
  refine lv_aload_n hx hb d_Md_manual_0 rfl (lv_at hl 0 rfl) ?_
  refine lv_iload_n hx hb d_Md_manual_1 rfl (lv_at hl 1 rfl) ?_
  refine lv_iconst (v := 0) hx hb d_Md_manual_2 (by decide) ?_
  refine lv_aload_n hx hb d_Md_manual_3 rfl (lv_at hl 0 rfl) ?_
  refine va_get (D := D) (ci := 7) (v := .int (σ 8 0)) (C := R_Md) (T := F_Md) (N := 34) hx hb hts (fun w h => List.mem_cons_of_mem _ (i_Md w h)) hown hK.1 hP 0 (wMd_0 t a σ) rfl 8 (by decide) (hts (.fieldLink R_Md 113 "FlatBoxesModel" "parts" "I") (List.mem_cons_of_mem _ (gIn k_674 (by decide +kernel)))) (fun _ h9 => h9) rfl d_Md_manual_4 ?_
  refine lv_topi (fun v_15 e_15 => ?_)
  obtain rfl : nI np = v_15 := (e_15.trans hN).symm
  refine lv_iconst (v := 1) hx hb d_Md_manual_7 (by decide) ?_
  refine lv_isub hx hb d_Md_manual_8 ?_
  refine g_si (k := 3) (As := [.int k, .int 0, .int ((nI np) - 1)]) (rest := [.ref (a 0)]) (own := R_Md) (index := 96) ⟨hx, hb, hml, hown, hts⟩ (c_Md_in l D t a σ k 0 ((nI np) - 1)) (gg_Md_96 _) (by decide +kernel) ⟨Nat.le_of_ble_eq_true rfl, Nat.le_of_ble_eq_true rfl⟩ rfl hK hP hD hS hl.1 rfl (Nat.le_of_ble_eq_true rfl) ⟨Nat.zero_le _, Nat.zero_le _⟩ d_Md_manual_9 (fun r_16 u_16 H locs q_16 hP hD hS => ?_)
  obtain ⟨rfl, hu_16⟩ := q_16
  rw [hu_16] at hP hD
  refine lv_if_eq (tgt := 19) hx hb d_Md_manual_12 (by decide) (fun c_17 => ?_) (fun c_17 => ?_)
  · 
    refine lv_iconst (v := 1) hx hb d_Md_manual_19 (by decide) ?_
    refine va_put (D := D) (ci := 7) (v := .int 1) (ty := .int) (C := R_Md) (T := F_Md) (N := 34) hx hb hts (fun w h => List.mem_cons_of_mem _ (i_Md w h)) t_Md t_Md_ok n_Md hown hK.1 hP hD hS 0 (wMd_0 t a σ) rfl 0 (by decide) (hts (.fieldLink R_Md 93 "FlatBoxesModel" "code" "I") (List.mem_cons_of_mem _ (gIn k_666 (by decide +kernel)))) (fun _ h9 => h9) rfl (by decide +kernel) rfl rfl (Nat.le_of_ble_eq_true rfl) d_Md_manual_20 (fun H locs hP hD hS => ?_)
    have hP : va_P D gCl (wMd t a (gSt σ 0 0 1)) H := hP
    have hD : va_D A (wMd t a (gSt σ 0 0 1)) := hD
    refine lv_iconst (v := 0) hx hb d_Md_manual_23 (by decide) ?_
    refine lv_istore_n (lv' := [(2, .int 0), (0, .ref (a 0)), (1, .int k)]) hx hb d_Md_manual_24 rfl hl (by decide) rfl (fun ls hl => ?_)
    exact cut_25 (np + 1) np 0 1 _ _ _ (by omega) (by omega) (by simp [mManR, mManC, c_17]) (by simp [mManC, c_17]) hP hD hS (lv_sub hl [1, 2, 0] rfl)
  · 
    refine lv_iconst (v := 0) hx hb d_Md_manual_15 (by decide) ?_
    refine lv_goto (tgt := 20) hx hb d_Md_manual_16 (by decide) ?_
    refine va_put (D := D) (ci := 7) (v := .int 0) (ty := .int) (C := R_Md) (T := F_Md) (N := 34) hx hb hts (fun w h => List.mem_cons_of_mem _ (i_Md w h)) t_Md t_Md_ok n_Md hown hK.1 hP hD hS 0 (wMd_0 t a σ) rfl 0 (by decide) (hts (.fieldLink R_Md 93 "FlatBoxesModel" "code" "I") (List.mem_cons_of_mem _ (gIn k_666 (by decide +kernel)))) (fun _ h9 => h9) rfl (by decide +kernel) rfl rfl (Nat.le_of_ble_eq_true rfl) d_Md_manual_20 (fun H locs hP hD hS => ?_)
    have hP : va_P D gCl (wMd t a (gSt σ 0 0 0)) H := hP
    have hD : va_D A (wMd t a (gSt σ 0 0 0)) := hD
    refine lv_iconst (v := 0) hx hb d_Md_manual_23 (by decide) ?_
    refine lv_istore_n (lv' := [(2, .int 0), (0, .ref (a 0)), (1, .int k)]) hx hb d_Md_manual_24 rfl hl (by decide) rfl (fun ls hl => ?_)
    exact cut_25 (np + 1) np 0 0 _ _ _ (by omega) (by omega) (by simp [mManR, mManC, c_17]) (by simp [mManC, c_17]) hP hD hS (lv_sub hl [1, 2, 0] rfl)
set_option maxHeartbeats 4000000 in
set_option maxRecDepth 100000 in
theorem c_Md_into (l : Launch) (D : va_G) (t : Nat → ClassId) (a : Nat → Nat) (σ : Nat → Nat → Int32) (bg mn ec sp : Int32) (nb : Nat) (kc : Nat → Nat) (hB : σ 29 0 = nI nb) (hB4 : nb ≤ 4) (hkc : ∀ b, b < nb → σ 30 b = nI (kc b) ∧ kc b ≤ 6) : gMi l D t y_Md_into b_Md_into 7 (some .int) 1 [.ref (a 0), .int bg, .int mn, .int ec, .int sp] (wMd t a σ) (wMd t a) (fun r u => r = mIntoR nb kc bg mn ec sp ∧ u = mIntoU σ nb kc bg mn ec sp) := by
  intro A
  refine Met.ofW (cc := b_Md_into) (maxL := 7) (ret := (some .int)) (by decide) rfl ?_
  intro p e s m args below meth c s₁ B hml hv
  obtain ⟨rfl, hK, hP, hD⟩ := hv
  have hx := B.exec
  have hb := B.bytes
  have hr := B.returns
  have hts := atoms_spec (ws := .code y_Md_into b_Md_into 7 (some .int) :: gBig) B.pre
  have hown : s.vm.findClass R_Md = some m.cls := findClass_of_methodNamed B.named
  have hlocks := B.notSynchronized
  have hS : va_S A s.heap s.heap [] := va_S.rf
  have hl := lv_entry ([.ref (a 0), .int bg, .int mn, .int ec, .int sp]) (n := 7) (Nat.le_of_ble_eq_true rfl)
  rw [lg_entry_eq]
  generalize (lg_sl ([.ref (a 0), .int bg, .int mn, .int ec, .int sp]) ++ List.replicate (7 - (lg_sl ([.ref (a 0), .int bg, .int mn, .int ec, .int sp])).length) Slot.unset).toArray = ls at hl ⊢
  have hl : lv_has ls 7 [(0, .ref (a 0)), (1, .int bg), (2, .int mn), (3, .int ec), (4, .int sp)] := hl
  show gGo l p e s m below meth c D t A 1 [.ref (a 0), .int bg, .int mn, .int ec, .int sp] (wMd t a) (fun r u => r = mIntoR nb kc bg mn ec sp ∧ u = mIntoU σ nb kc bg mn ec sp) s.heap [] (F0 m 0 ls [])
  refine lv_iload_n hx hb d_Md_into_0 rfl (lv_at hl 2 rfl) ?_
  refine lv_iconst (v := 0) hx hb d_Md_into_1 (by decide) ?_
  refine lv_sipush (v := 1000) hx hb d_Md_into_2 (by decide) ?_
  refine g_si (k := 3) (As := [.int mn, .int 0, .int 1000]) (rest := []) (own := R_Md) (index := 96) ⟨hx, hb, hml, hown, hts⟩ (c_Md_in l D t a σ mn 0 1000) (gg_Md_96 _) (by decide +kernel) ⟨Nat.le_of_ble_eq_true rfl, Nat.le_of_ble_eq_true rfl⟩ rfl hK hP hD hS hl.1 rfl (Nat.le_of_ble_eq_true rfl) ⟨Nat.zero_le _, Nat.zero_le _⟩ d_Md_into_5 (fun r_1 u_1 H locs q_1 hP hD hS => ?_)
  obtain ⟨rfl, hu_1⟩ := q_1
  rw [hu_1] at hP hD
  refine lv_if_eq (tgt := 36) hx hb d_Md_into_8 (by decide) (fun c_2 => ?_) (fun c_2 => ?_)
  · 
    refine lv_iconst (v := 0) hx hb d_Md_into_36 (by decide) ?_
    refine lv_istore (lv' := [(5, .int 0), (0, .ref (a 0)), (1, .int bg), (2, .int mn), (3, .int ec), (4, .int sp)]) hx hb d_Md_into_37 hl (by decide) rfl (fun ls hl => ?_)
    refine lv_aload_n hx hb d_Md_into_39 rfl (lv_at hl 1 rfl) ?_
    refine lv_iload_n hx hb d_Md_into_40 rfl (lv_at hl 2 rfl) ?_
    refine lv_iconst (v := 0) hx hb d_Md_into_41 (by decide) ?_
    refine lv_aload_n hx hb d_Md_into_42 rfl (lv_at hl 1 rfl) ?_
    refine va_get (D := D) (ci := 7) (v := .int (σ 29 0)) (C := R_Md) (T := F_Md) (N := 34) hx hb hts (fun w h => List.mem_cons_of_mem _ (i_Md w h)) hown hK.1 hP 0 (wMd_0 t a σ) rfl 29 (by decide) (hts (.fieldLink R_Md 164 "FlatBoxesModel" "bags" "I") (List.mem_cons_of_mem _ (gIn k_695 (by decide +kernel)))) (fun _ h9 => h9) rfl d_Md_into_43 ?_
    refine lv_topi (fun v_3 e_3 => ?_)
    obtain rfl : nI nb = v_3 := (e_3.trans hB).symm
    refine lv_iconst (v := 1) hx hb d_Md_into_46 (by decide) ?_
    refine lv_isub hx hb d_Md_into_47 ?_
    refine g_si (k := 3) (As := [.int bg, .int 0, .int ((nI nb) - 1)]) (rest := [.ref (a 0)]) (own := R_Md) (index := 96) ⟨hx, hb, hml, hown, hts⟩ (c_Md_in l D t a σ bg 0 ((nI nb) - 1)) (gg_Md_96 _) (by decide +kernel) ⟨Nat.le_of_ble_eq_true rfl, Nat.le_of_ble_eq_true rfl⟩ rfl hK hP hD hS hl.1 rfl (Nat.le_of_ble_eq_true rfl) ⟨Nat.zero_le _, Nat.zero_le _⟩ d_Md_into_48 (fun r_4 u_4 H locs q_4 hP hD hS => ?_)
    obtain ⟨rfl, hu_4⟩ := q_4
    rw [hu_4] at hP hD
    refine lv_if_ne (tgt := 58) hx hb d_Md_into_51 (by decide) (fun c_5 => ?_) (fun c_5 => ?_)
    · 
      refine lv_iload hx hb d_Md_into_58 (lv_at hl 0 rfl) ?_
      refine lv_if_ne (tgt := 67) hx hb d_Md_into_60 (by decide) (fun c_6 => ?_) (fun c_6 => ?_)
      · 
        exact absurd c_6 (by decide)
      · 
        refine lv_iconst (v := 2) hx hb d_Md_into_63 (by decide) ?_
        refine lv_goto (tgt := 83) hx hb d_Md_into_64 (by decide) ?_
        refine va_put (D := D) (ci := 7) (v := .int 2) (ty := .int) (C := R_Md) (T := F_Md) (N := 34) hx hb hts (fun w h => List.mem_cons_of_mem _ (i_Md w h)) t_Md t_Md_ok n_Md hown hK.1 hP hD hS 0 (wMd_0 t a σ) rfl 0 (by decide) (hts (.fieldLink R_Md 93 "FlatBoxesModel" "code" "I") (List.mem_cons_of_mem _ (gIn k_666 (by decide +kernel)))) (fun _ h9 => h9) rfl (by decide +kernel) rfl rfl (Nat.le_of_ble_eq_true rfl) d_Md_into_83 (fun H locs hP hD hS => ?_)
        have hP : va_P D gCl (wMd t a (gSt σ 0 0 2)) H := hP
        have hD : va_D A (wMd t a (gSt σ 0 0 2)) := hD
        refine lv_aload_n hx hb d_Md_into_86 rfl (lv_at hl 1 rfl) ?_
        refine va_get (D := D) (ci := 7) (v := .int ((gSt σ 0 0 2) 0 0)) (C := R_Md) (T := F_Md) (N := 34) hx hb hts (fun w h => List.mem_cons_of_mem _ (i_Md w h)) hown hK.1 hP 0 (wMd_0 t a (gSt σ 0 0 2)) rfl 0 (by decide) (hts (.fieldLink R_Md 93 "FlatBoxesModel" "code" "I") (List.mem_cons_of_mem _ (gIn k_666 (by decide +kernel)))) (fun _ h9 => h9) rfl d_Md_into_87 ?_
        refine lv_topi (fun v_7 e_7 => ?_)
        obtain rfl : 2 = v_7 := (e_7.trans (rfl)).symm
        refine lv_if_le (tgt := 95) hx hb d_Md_into_90 (by decide) (fun c_8 => ?_) (fun c_8 => ?_)
        · 
          exact absurd c_8 (by decide)
        · 
          refine lv_iconst (v := 0) hx hb d_Md_into_93 (by decide) ?_
          exact W.iret (v := 0) hx hb hr (fun U hU hW => ⟨⟨0, gSt σ 0 0 2, rfl, by exact ⟨by simp [mIntoR, mIntoC, mIntoG, c_2, c_5, c_6, c_8], by simp [mIntoU, mIntoC, mIntoG, c_2, c_5, c_6, c_8]⟩, by rw [hU]; exact hP, hD⟩, hS.F hU⟩) hS.2.2 d_Md_into_94
    · 
      refine lv_iconst (v := 1) hx hb d_Md_into_54 (by decide) ?_
      refine lv_goto (tgt := 83) hx hb d_Md_into_55 (by decide) ?_
      refine va_put (D := D) (ci := 7) (v := .int 1) (ty := .int) (C := R_Md) (T := F_Md) (N := 34) hx hb hts (fun w h => List.mem_cons_of_mem _ (i_Md w h)) t_Md t_Md_ok n_Md hown hK.1 hP hD hS 0 (wMd_0 t a σ) rfl 0 (by decide) (hts (.fieldLink R_Md 93 "FlatBoxesModel" "code" "I") (List.mem_cons_of_mem _ (gIn k_666 (by decide +kernel)))) (fun _ h9 => h9) rfl (by decide +kernel) rfl rfl (Nat.le_of_ble_eq_true rfl) d_Md_into_83 (fun H locs hP hD hS => ?_)
      have hP : va_P D gCl (wMd t a (gSt σ 0 0 1)) H := hP
      have hD : va_D A (wMd t a (gSt σ 0 0 1)) := hD
      refine lv_aload_n hx hb d_Md_into_86 rfl (lv_at hl 1 rfl) ?_
      refine va_get (D := D) (ci := 7) (v := .int ((gSt σ 0 0 1) 0 0)) (C := R_Md) (T := F_Md) (N := 34) hx hb hts (fun w h => List.mem_cons_of_mem _ (i_Md w h)) hown hK.1 hP 0 (wMd_0 t a (gSt σ 0 0 1)) rfl 0 (by decide) (hts (.fieldLink R_Md 93 "FlatBoxesModel" "code" "I") (List.mem_cons_of_mem _ (gIn k_666 (by decide +kernel)))) (fun _ h9 => h9) rfl d_Md_into_87 ?_
      refine lv_topi (fun v_9 e_9 => ?_)
      obtain rfl : 1 = v_9 := (e_9.trans (rfl)).symm
      refine lv_if_le (tgt := 95) hx hb d_Md_into_90 (by decide) (fun c_10 => ?_) (fun c_10 => ?_)
      · 
        exact absurd c_10 (by decide)
      · 
        refine lv_iconst (v := 0) hx hb d_Md_into_93 (by decide) ?_
        exact W.iret (v := 0) hx hb hr (fun U hU hW => ⟨⟨0, gSt σ 0 0 1, rfl, by exact ⟨by simp [mIntoR, mIntoC, mIntoG, c_2, c_5, c_10], by simp [mIntoU, mIntoC, mIntoG, c_2, c_5, c_10]⟩, by rw [hU]; exact hP, hD⟩, hS.F hU⟩) hS.2.2 d_Md_into_94
  · 
    refine lv_iload_n hx hb d_Md_into_11 rfl (lv_at hl 3 rfl) ?_
    refine lv_iconst (v := 1) hx hb d_Md_into_12 (by decide) ?_
    refine lv_sipush (v := 1000) hx hb d_Md_into_13 (by decide) ?_
    refine g_si (k := 3) (As := [.int ec, .int 1, .int 1000]) (rest := []) (own := R_Md) (index := 96) ⟨hx, hb, hml, hown, hts⟩ (c_Md_in l D t a σ ec 1 1000) (gg_Md_96 _) (by decide +kernel) ⟨Nat.le_of_ble_eq_true rfl, Nat.le_of_ble_eq_true rfl⟩ rfl hK hP hD hS hl.1 rfl (Nat.le_of_ble_eq_true rfl) ⟨Nat.zero_le _, Nat.zero_le _⟩ d_Md_into_16 (fun r_11 u_11 H locs q_11 hP hD hS => ?_)
    obtain ⟨rfl, hu_11⟩ := q_11
    rw [hu_11] at hP hD
    refine lv_if_eq (tgt := 36) hx hb d_Md_into_19 (by decide) (fun c_12 => ?_) (fun c_12 => ?_)
    · 
      refine lv_iconst (v := 0) hx hb d_Md_into_36 (by decide) ?_
      refine lv_istore (lv' := [(5, .int 0), (0, .ref (a 0)), (1, .int bg), (2, .int mn), (3, .int ec), (4, .int sp)]) hx hb d_Md_into_37 hl (by decide) rfl (fun ls hl => ?_)
      refine lv_aload_n hx hb d_Md_into_39 rfl (lv_at hl 1 rfl) ?_
      refine lv_iload_n hx hb d_Md_into_40 rfl (lv_at hl 2 rfl) ?_
      refine lv_iconst (v := 0) hx hb d_Md_into_41 (by decide) ?_
      refine lv_aload_n hx hb d_Md_into_42 rfl (lv_at hl 1 rfl) ?_
      refine va_get (D := D) (ci := 7) (v := .int (σ 29 0)) (C := R_Md) (T := F_Md) (N := 34) hx hb hts (fun w h => List.mem_cons_of_mem _ (i_Md w h)) hown hK.1 hP 0 (wMd_0 t a σ) rfl 29 (by decide) (hts (.fieldLink R_Md 164 "FlatBoxesModel" "bags" "I") (List.mem_cons_of_mem _ (gIn k_695 (by decide +kernel)))) (fun _ h9 => h9) rfl d_Md_into_43 ?_
      refine lv_topi (fun v_13 e_13 => ?_)
      obtain rfl : nI nb = v_13 := (e_13.trans hB).symm
      refine lv_iconst (v := 1) hx hb d_Md_into_46 (by decide) ?_
      refine lv_isub hx hb d_Md_into_47 ?_
      refine g_si (k := 3) (As := [.int bg, .int 0, .int ((nI nb) - 1)]) (rest := [.ref (a 0)]) (own := R_Md) (index := 96) ⟨hx, hb, hml, hown, hts⟩ (c_Md_in l D t a σ bg 0 ((nI nb) - 1)) (gg_Md_96 _) (by decide +kernel) ⟨Nat.le_of_ble_eq_true rfl, Nat.le_of_ble_eq_true rfl⟩ rfl hK hP hD hS hl.1 rfl (Nat.le_of_ble_eq_true rfl) ⟨Nat.zero_le _, Nat.zero_le _⟩ d_Md_into_48 (fun r_14 u_14 H locs q_14 hP hD hS => ?_)
      obtain ⟨rfl, hu_14⟩ := q_14
      rw [hu_14] at hP hD
      refine lv_if_ne (tgt := 58) hx hb d_Md_into_51 (by decide) (fun c_15 => ?_) (fun c_15 => ?_)
      · 
        refine lv_iload hx hb d_Md_into_58 (lv_at hl 0 rfl) ?_
        refine lv_if_ne (tgt := 67) hx hb d_Md_into_60 (by decide) (fun c_16 => ?_) (fun c_16 => ?_)
        · 
          exact absurd c_16 (by decide)
        · 
          refine lv_iconst (v := 2) hx hb d_Md_into_63 (by decide) ?_
          refine lv_goto (tgt := 83) hx hb d_Md_into_64 (by decide) ?_
          refine va_put (D := D) (ci := 7) (v := .int 2) (ty := .int) (C := R_Md) (T := F_Md) (N := 34) hx hb hts (fun w h => List.mem_cons_of_mem _ (i_Md w h)) t_Md t_Md_ok n_Md hown hK.1 hP hD hS 0 (wMd_0 t a σ) rfl 0 (by decide) (hts (.fieldLink R_Md 93 "FlatBoxesModel" "code" "I") (List.mem_cons_of_mem _ (gIn k_666 (by decide +kernel)))) (fun _ h9 => h9) rfl (by decide +kernel) rfl rfl (Nat.le_of_ble_eq_true rfl) d_Md_into_83 (fun H locs hP hD hS => ?_)
          have hP : va_P D gCl (wMd t a (gSt σ 0 0 2)) H := hP
          have hD : va_D A (wMd t a (gSt σ 0 0 2)) := hD
          refine lv_aload_n hx hb d_Md_into_86 rfl (lv_at hl 1 rfl) ?_
          refine va_get (D := D) (ci := 7) (v := .int ((gSt σ 0 0 2) 0 0)) (C := R_Md) (T := F_Md) (N := 34) hx hb hts (fun w h => List.mem_cons_of_mem _ (i_Md w h)) hown hK.1 hP 0 (wMd_0 t a (gSt σ 0 0 2)) rfl 0 (by decide) (hts (.fieldLink R_Md 93 "FlatBoxesModel" "code" "I") (List.mem_cons_of_mem _ (gIn k_666 (by decide +kernel)))) (fun _ h9 => h9) rfl d_Md_into_87 ?_
          refine lv_topi (fun v_17 e_17 => ?_)
          obtain rfl : 2 = v_17 := (e_17.trans (rfl)).symm
          refine lv_if_le (tgt := 95) hx hb d_Md_into_90 (by decide) (fun c_18 => ?_) (fun c_18 => ?_)
          · 
            exact absurd c_18 (by decide)
          · 
            refine lv_iconst (v := 0) hx hb d_Md_into_93 (by decide) ?_
            exact W.iret (v := 0) hx hb hr (fun U hU hW => ⟨⟨0, gSt σ 0 0 2, rfl, by exact ⟨by simp [mIntoR, mIntoC, mIntoG, c_2, c_12, c_15, c_16, c_18], by simp [mIntoU, mIntoC, mIntoG, c_2, c_12, c_15, c_16, c_18]⟩, by rw [hU]; exact hP, hD⟩, hS.F hU⟩) hS.2.2 d_Md_into_94
      · 
        refine lv_iconst (v := 1) hx hb d_Md_into_54 (by decide) ?_
        refine lv_goto (tgt := 83) hx hb d_Md_into_55 (by decide) ?_
        refine va_put (D := D) (ci := 7) (v := .int 1) (ty := .int) (C := R_Md) (T := F_Md) (N := 34) hx hb hts (fun w h => List.mem_cons_of_mem _ (i_Md w h)) t_Md t_Md_ok n_Md hown hK.1 hP hD hS 0 (wMd_0 t a σ) rfl 0 (by decide) (hts (.fieldLink R_Md 93 "FlatBoxesModel" "code" "I") (List.mem_cons_of_mem _ (gIn k_666 (by decide +kernel)))) (fun _ h9 => h9) rfl (by decide +kernel) rfl rfl (Nat.le_of_ble_eq_true rfl) d_Md_into_83 (fun H locs hP hD hS => ?_)
        have hP : va_P D gCl (wMd t a (gSt σ 0 0 1)) H := hP
        have hD : va_D A (wMd t a (gSt σ 0 0 1)) := hD
        refine lv_aload_n hx hb d_Md_into_86 rfl (lv_at hl 1 rfl) ?_
        refine va_get (D := D) (ci := 7) (v := .int ((gSt σ 0 0 1) 0 0)) (C := R_Md) (T := F_Md) (N := 34) hx hb hts (fun w h => List.mem_cons_of_mem _ (i_Md w h)) hown hK.1 hP 0 (wMd_0 t a (gSt σ 0 0 1)) rfl 0 (by decide) (hts (.fieldLink R_Md 93 "FlatBoxesModel" "code" "I") (List.mem_cons_of_mem _ (gIn k_666 (by decide +kernel)))) (fun _ h9 => h9) rfl d_Md_into_87 ?_
        refine lv_topi (fun v_19 e_19 => ?_)
        obtain rfl : 1 = v_19 := (e_19.trans (rfl)).symm
        refine lv_if_le (tgt := 95) hx hb d_Md_into_90 (by decide) (fun c_20 => ?_) (fun c_20 => ?_)
        · 
          exact absurd c_20 (by decide)
        · 
          refine lv_iconst (v := 0) hx hb d_Md_into_93 (by decide) ?_
          exact W.iret (v := 0) hx hb hr (fun U hU hW => ⟨⟨0, gSt σ 0 0 1, rfl, by exact ⟨by simp [mIntoR, mIntoC, mIntoG, c_2, c_12, c_15, c_20], by simp [mIntoU, mIntoC, mIntoG, c_2, c_12, c_15, c_20]⟩, by rw [hU]; exact hP, hD⟩, hS.F hU⟩) hS.2.2 d_Md_into_94
    · 
      refine lv_iload hx hb d_Md_into_22 (lv_at hl 4 rfl) ?_
      refine lv_iconst (v := 0) hx hb d_Md_into_24 (by decide) ?_
      refine lv_iload_n hx hb d_Md_into_25 rfl (lv_at hl 3 rfl) ?_
      refine g_si (k := 3) (As := [.int sp, .int 0, .int ec]) (rest := []) (own := R_Md) (index := 96) ⟨hx, hb, hml, hown, hts⟩ (c_Md_in l D t a σ sp 0 ec) (gg_Md_96 _) (by decide +kernel) ⟨Nat.le_of_ble_eq_true rfl, Nat.le_of_ble_eq_true rfl⟩ rfl hK hP hD hS hl.1 rfl (Nat.le_of_ble_eq_true rfl) ⟨Nat.zero_le _, Nat.zero_le _⟩ d_Md_into_26 (fun r_21 u_21 H locs q_21 hP hD hS => ?_)
      obtain ⟨rfl, hu_21⟩ := q_21
      rw [hu_21] at hP hD
      refine lv_if_eq (tgt := 36) hx hb d_Md_into_29 (by decide) (fun c_22 => ?_) (fun c_22 => ?_)
      · 
        refine lv_iconst (v := 0) hx hb d_Md_into_36 (by decide) ?_
        refine lv_istore (lv' := [(5, .int 0), (0, .ref (a 0)), (1, .int bg), (2, .int mn), (3, .int ec), (4, .int sp)]) hx hb d_Md_into_37 hl (by decide) rfl (fun ls hl => ?_)
        refine lv_aload_n hx hb d_Md_into_39 rfl (lv_at hl 1 rfl) ?_
        refine lv_iload_n hx hb d_Md_into_40 rfl (lv_at hl 2 rfl) ?_
        refine lv_iconst (v := 0) hx hb d_Md_into_41 (by decide) ?_
        refine lv_aload_n hx hb d_Md_into_42 rfl (lv_at hl 1 rfl) ?_
        refine va_get (D := D) (ci := 7) (v := .int (σ 29 0)) (C := R_Md) (T := F_Md) (N := 34) hx hb hts (fun w h => List.mem_cons_of_mem _ (i_Md w h)) hown hK.1 hP 0 (wMd_0 t a σ) rfl 29 (by decide) (hts (.fieldLink R_Md 164 "FlatBoxesModel" "bags" "I") (List.mem_cons_of_mem _ (gIn k_695 (by decide +kernel)))) (fun _ h9 => h9) rfl d_Md_into_43 ?_
        refine lv_topi (fun v_23 e_23 => ?_)
        obtain rfl : nI nb = v_23 := (e_23.trans hB).symm
        refine lv_iconst (v := 1) hx hb d_Md_into_46 (by decide) ?_
        refine lv_isub hx hb d_Md_into_47 ?_
        refine g_si (k := 3) (As := [.int bg, .int 0, .int ((nI nb) - 1)]) (rest := [.ref (a 0)]) (own := R_Md) (index := 96) ⟨hx, hb, hml, hown, hts⟩ (c_Md_in l D t a σ bg 0 ((nI nb) - 1)) (gg_Md_96 _) (by decide +kernel) ⟨Nat.le_of_ble_eq_true rfl, Nat.le_of_ble_eq_true rfl⟩ rfl hK hP hD hS hl.1 rfl (Nat.le_of_ble_eq_true rfl) ⟨Nat.zero_le _, Nat.zero_le _⟩ d_Md_into_48 (fun r_24 u_24 H locs q_24 hP hD hS => ?_)
        obtain ⟨rfl, hu_24⟩ := q_24
        rw [hu_24] at hP hD
        refine lv_if_ne (tgt := 58) hx hb d_Md_into_51 (by decide) (fun c_25 => ?_) (fun c_25 => ?_)
        · 
          refine lv_iload hx hb d_Md_into_58 (lv_at hl 0 rfl) ?_
          refine lv_if_ne (tgt := 67) hx hb d_Md_into_60 (by decide) (fun c_26 => ?_) (fun c_26 => ?_)
          · 
            exact absurd c_26 (by decide)
          · 
            refine lv_iconst (v := 2) hx hb d_Md_into_63 (by decide) ?_
            refine lv_goto (tgt := 83) hx hb d_Md_into_64 (by decide) ?_
            refine va_put (D := D) (ci := 7) (v := .int 2) (ty := .int) (C := R_Md) (T := F_Md) (N := 34) hx hb hts (fun w h => List.mem_cons_of_mem _ (i_Md w h)) t_Md t_Md_ok n_Md hown hK.1 hP hD hS 0 (wMd_0 t a σ) rfl 0 (by decide) (hts (.fieldLink R_Md 93 "FlatBoxesModel" "code" "I") (List.mem_cons_of_mem _ (gIn k_666 (by decide +kernel)))) (fun _ h9 => h9) rfl (by decide +kernel) rfl rfl (Nat.le_of_ble_eq_true rfl) d_Md_into_83 (fun H locs hP hD hS => ?_)
            have hP : va_P D gCl (wMd t a (gSt σ 0 0 2)) H := hP
            have hD : va_D A (wMd t a (gSt σ 0 0 2)) := hD
            refine lv_aload_n hx hb d_Md_into_86 rfl (lv_at hl 1 rfl) ?_
            refine va_get (D := D) (ci := 7) (v := .int ((gSt σ 0 0 2) 0 0)) (C := R_Md) (T := F_Md) (N := 34) hx hb hts (fun w h => List.mem_cons_of_mem _ (i_Md w h)) hown hK.1 hP 0 (wMd_0 t a (gSt σ 0 0 2)) rfl 0 (by decide) (hts (.fieldLink R_Md 93 "FlatBoxesModel" "code" "I") (List.mem_cons_of_mem _ (gIn k_666 (by decide +kernel)))) (fun _ h9 => h9) rfl d_Md_into_87 ?_
            refine lv_topi (fun v_27 e_27 => ?_)
            obtain rfl : 2 = v_27 := (e_27.trans (rfl)).symm
            refine lv_if_le (tgt := 95) hx hb d_Md_into_90 (by decide) (fun c_28 => ?_) (fun c_28 => ?_)
            · 
              exact absurd c_28 (by decide)
            · 
              refine lv_iconst (v := 0) hx hb d_Md_into_93 (by decide) ?_
              exact W.iret (v := 0) hx hb hr (fun U hU hW => ⟨⟨0, gSt σ 0 0 2, rfl, by exact ⟨by simp [mIntoR, mIntoC, mIntoG, c_2, c_12, c_22, c_25, c_26, c_28], by simp [mIntoU, mIntoC, mIntoG, c_2, c_12, c_22, c_25, c_26, c_28]⟩, by rw [hU]; exact hP, hD⟩, hS.F hU⟩) hS.2.2 d_Md_into_94
        · 
          refine lv_iconst (v := 1) hx hb d_Md_into_54 (by decide) ?_
          refine lv_goto (tgt := 83) hx hb d_Md_into_55 (by decide) ?_
          refine va_put (D := D) (ci := 7) (v := .int 1) (ty := .int) (C := R_Md) (T := F_Md) (N := 34) hx hb hts (fun w h => List.mem_cons_of_mem _ (i_Md w h)) t_Md t_Md_ok n_Md hown hK.1 hP hD hS 0 (wMd_0 t a σ) rfl 0 (by decide) (hts (.fieldLink R_Md 93 "FlatBoxesModel" "code" "I") (List.mem_cons_of_mem _ (gIn k_666 (by decide +kernel)))) (fun _ h9 => h9) rfl (by decide +kernel) rfl rfl (Nat.le_of_ble_eq_true rfl) d_Md_into_83 (fun H locs hP hD hS => ?_)
          have hP : va_P D gCl (wMd t a (gSt σ 0 0 1)) H := hP
          have hD : va_D A (wMd t a (gSt σ 0 0 1)) := hD
          refine lv_aload_n hx hb d_Md_into_86 rfl (lv_at hl 1 rfl) ?_
          refine va_get (D := D) (ci := 7) (v := .int ((gSt σ 0 0 1) 0 0)) (C := R_Md) (T := F_Md) (N := 34) hx hb hts (fun w h => List.mem_cons_of_mem _ (i_Md w h)) hown hK.1 hP 0 (wMd_0 t a (gSt σ 0 0 1)) rfl 0 (by decide) (hts (.fieldLink R_Md 93 "FlatBoxesModel" "code" "I") (List.mem_cons_of_mem _ (gIn k_666 (by decide +kernel)))) (fun _ h9 => h9) rfl d_Md_into_87 ?_
          refine lv_topi (fun v_29 e_29 => ?_)
          obtain rfl : 1 = v_29 := (e_29.trans (rfl)).symm
          refine lv_if_le (tgt := 95) hx hb d_Md_into_90 (by decide) (fun c_30 => ?_) (fun c_30 => ?_)
          · 
            exact absurd c_30 (by decide)
          · 
            refine lv_iconst (v := 0) hx hb d_Md_into_93 (by decide) ?_
            exact W.iret (v := 0) hx hb hr (fun U hU hW => ⟨⟨0, gSt σ 0 0 1, rfl, by exact ⟨by simp [mIntoR, mIntoC, mIntoG, c_2, c_12, c_22, c_25, c_30], by simp [mIntoU, mIntoC, mIntoG, c_2, c_12, c_22, c_25, c_30]⟩, by rw [hU]; exact hP, hD⟩, hS.F hU⟩) hS.2.2 d_Md_into_94
      · 
        refine lv_iconst (v := 1) hx hb d_Md_into_32 (by decide) ?_
        refine lv_goto (tgt := 37) hx hb d_Md_into_33 (by decide) ?_
        refine lv_istore (lv' := [(5, .int 1), (0, .ref (a 0)), (1, .int bg), (2, .int mn), (3, .int ec), (4, .int sp)]) hx hb d_Md_into_37 hl (by decide) rfl (fun ls hl => ?_)
        refine lv_aload_n hx hb d_Md_into_39 rfl (lv_at hl 1 rfl) ?_
        refine lv_iload_n hx hb d_Md_into_40 rfl (lv_at hl 2 rfl) ?_
        refine lv_iconst (v := 0) hx hb d_Md_into_41 (by decide) ?_
        refine lv_aload_n hx hb d_Md_into_42 rfl (lv_at hl 1 rfl) ?_
        refine va_get (D := D) (ci := 7) (v := .int (σ 29 0)) (C := R_Md) (T := F_Md) (N := 34) hx hb hts (fun w h => List.mem_cons_of_mem _ (i_Md w h)) hown hK.1 hP 0 (wMd_0 t a σ) rfl 29 (by decide) (hts (.fieldLink R_Md 164 "FlatBoxesModel" "bags" "I") (List.mem_cons_of_mem _ (gIn k_695 (by decide +kernel)))) (fun _ h9 => h9) rfl d_Md_into_43 ?_
        refine lv_topi (fun v_31 e_31 => ?_)
        obtain rfl : nI nb = v_31 := (e_31.trans hB).symm
        refine lv_iconst (v := 1) hx hb d_Md_into_46 (by decide) ?_
        refine lv_isub hx hb d_Md_into_47 ?_
        refine g_si (k := 3) (As := [.int bg, .int 0, .int ((nI nb) - 1)]) (rest := [.ref (a 0)]) (own := R_Md) (index := 96) ⟨hx, hb, hml, hown, hts⟩ (c_Md_in l D t a σ bg 0 ((nI nb) - 1)) (gg_Md_96 _) (by decide +kernel) ⟨Nat.le_of_ble_eq_true rfl, Nat.le_of_ble_eq_true rfl⟩ rfl hK hP hD hS hl.1 rfl (Nat.le_of_ble_eq_true rfl) ⟨Nat.zero_le _, Nat.zero_le _⟩ d_Md_into_48 (fun r_32 u_32 H locs q_32 hP hD hS => ?_)
        obtain ⟨rfl, hu_32⟩ := q_32
        rw [hu_32] at hP hD
        refine lv_if_ne (tgt := 58) hx hb d_Md_into_51 (by decide) (fun c_33 => ?_) (fun c_33 => ?_)
        · 
          refine lv_iload hx hb d_Md_into_58 (lv_at hl 0 rfl) ?_
          refine lv_if_ne (tgt := 67) hx hb d_Md_into_60 (by decide) (fun c_34 => ?_) (fun c_34 => ?_)
          · 
            obtain ⟨b, hbn, rfl⟩ := mIn_nat (n := nb) (by omega) c_33
            have hk6 := (hkc b hbn).2
            refine lv_aload_n hx hb d_Md_into_67 rfl (lv_at hl 1 rfl) ?_
            refine va_get (D := D) (ci := 7) (v := .ref (a 30)) (C := R_Md) (T := F_Md) (N := 34) hx hb hts (fun w h => List.mem_cons_of_mem _ (i_Md w h)) hown hK.1 hP 0 (wMd_0 t a σ) rfl 30 (by decide) (hts (.fieldLink R_Md 77 "FlatBoxesModel" "kindCounts" "[I") (List.mem_cons_of_mem _ (gIn k_696 (by decide +kernel)))) (fun _ h9 => h9) rfl d_Md_into_68 ?_
            refine lv_iload_n hx hb d_Md_into_71 rfl (lv_at hl 2 rfl) ?_
            refine g_iald hx hb hK.1 hP 23 0 (wMd_30 t a σ) rfl b (rfl) (by omega) (by decide) d_Md_into_72 ?_
            refine lv_topi (fun v_35 e_35 => ?_)
            obtain rfl : nI (kc b) = v_35 := (e_35.trans ((hkc b (by omega)).1)).symm
            refine lv_bipush (v := 6) hx hb d_Md_into_73 (by decide) ?_
            refine lv_icmp_ne (tgt := 82) hx hb d_Md_into_75 (by decide) (fun c_36 => ?_) (fun c_36 => ?_)
            · 
              have h_36 : ¬ kc b = 6 := fun q9 => c_36 ((nI_eq (a := kc b) (b := 6) (by omega) (by omega)).mpr q9)
              refine lv_iconst (v := 0) hx hb d_Md_into_82 (by decide) ?_
              refine va_put (D := D) (ci := 7) (v := .int 0) (ty := .int) (C := R_Md) (T := F_Md) (N := 34) hx hb hts (fun w h => List.mem_cons_of_mem _ (i_Md w h)) t_Md t_Md_ok n_Md hown hK.1 hP hD hS 0 (wMd_0 t a σ) rfl 0 (by decide) (hts (.fieldLink R_Md 93 "FlatBoxesModel" "code" "I") (List.mem_cons_of_mem _ (gIn k_666 (by decide +kernel)))) (fun _ h9 => h9) rfl (by decide +kernel) rfl rfl (Nat.le_of_ble_eq_true rfl) d_Md_into_83 (fun H locs hP hD hS => ?_)
              have hP : va_P D gCl (wMd t a (gSt σ 0 0 0)) H := hP
              have hD : va_D A (wMd t a (gSt σ 0 0 0)) := hD
              refine lv_aload_n hx hb d_Md_into_86 rfl (lv_at hl 1 rfl) ?_
              refine va_get (D := D) (ci := 7) (v := .int ((gSt σ 0 0 0) 0 0)) (C := R_Md) (T := F_Md) (N := 34) hx hb hts (fun w h => List.mem_cons_of_mem _ (i_Md w h)) hown hK.1 hP 0 (wMd_0 t a (gSt σ 0 0 0)) rfl 0 (by decide) (hts (.fieldLink R_Md 93 "FlatBoxesModel" "code" "I") (List.mem_cons_of_mem _ (gIn k_666 (by decide +kernel)))) (fun _ h9 => h9) rfl d_Md_into_87 ?_
              refine lv_topi (fun v_37 e_37 => ?_)
              obtain rfl : 0 = v_37 := (e_37.trans (rfl)).symm
              refine lv_if_le (tgt := 95) hx hb d_Md_into_90 (by decide) (fun c_38 => ?_) (fun c_38 => ?_)
              · 
                refine lv_bipush (v := 6) hx hb d_Md_into_95 (by decide) ?_
                refine lv_iload_n hx hb d_Md_into_97 rfl (lv_at hl 2 rfl) ?_
                refine lv_imul hx hb d_Md_into_98 ?_
                refine lv_topi (fun v_39 e_39 => ?_)
                obtain rfl : nI (6 * b) = v_39 := (e_39.trans (gMul6 b)).symm
                refine lv_aload_n hx hb d_Md_into_99 rfl (lv_at hl 1 rfl) ?_
                refine va_get (D := D) (ci := 7) (v := .ref (a 30)) (C := R_Md) (T := F_Md) (N := 34) hx hb hts (fun w h => List.mem_cons_of_mem _ (i_Md w h)) hown hK.1 hP 0 (wMd_0 t a (gSt σ 0 0 0)) rfl 30 (by decide) (hts (.fieldLink R_Md 77 "FlatBoxesModel" "kindCounts" "[I") (List.mem_cons_of_mem _ (gIn k_696 (by decide +kernel)))) (fun _ h9 => h9) rfl d_Md_into_100 ?_
                refine lv_iload_n hx hb d_Md_into_103 rfl (lv_at hl 2 rfl) ?_
                refine g_iald hx hb hK.1 hP 23 0 (wMd_30 t a (gSt σ 0 0 0)) rfl b (rfl) (by omega) (by decide) d_Md_into_104 ?_
                refine lv_topi (fun v_40 e_40 => ?_)
                obtain rfl : nI (kc b) = v_40 := (e_40.trans ((hkc b (by omega)).1)).symm
                refine lv_iadd hx hb d_Md_into_105 ?_
                refine lv_topi (fun v_41 e_41 => ?_)
                obtain rfl : nI (6 * b + kc b) = v_41 := (e_41.trans (nI_add _ _)).symm
                refine lv_istore (lv' := [(6, .int (nI (6 * b + kc b))), (5, .int 1), (0, .ref (a 0)), (1, .int (nI b)), (2, .int mn), (3, .int ec), (4, .int sp)]) hx hb d_Md_into_106 hl (by decide) rfl (fun ls hl => ?_)
                refine lv_aload_n hx hb d_Md_into_108 rfl (lv_at hl 2 rfl) ?_
                refine va_get (D := D) (ci := 7) (v := .ref (a 31)) (C := R_Md) (T := F_Md) (N := 34) hx hb hts (fun w h => List.mem_cons_of_mem _ (i_Md w h)) hown hK.1 hP 0 (wMd_0 t a (gSt σ 0 0 0)) rfl 31 (by decide) (hts (.fieldLink R_Md 80 "FlatBoxesModel" "manies" "[I") (List.mem_cons_of_mem _ (gIn k_697 (by decide +kernel)))) (fun _ h9 => h9) rfl d_Md_into_109 ?_
                refine lv_iload hx hb d_Md_into_112 (lv_at hl 0 rfl) ?_
                refine lv_iload_n hx hb d_Md_into_114 rfl (lv_at hl 4 rfl) ?_
                refine g_iast hx hb hK.1 hP hD hS 24 0 (wMd_31 t a (gSt σ 0 0 0)) rfl (6 * b + kc b) (rfl) (by omega) (by decide) (w' := wMd t a (gSt (gSt σ 0 0 0) 31 (6 * b + kc b) mn)) (sMd_31 t a (gSt σ 0 0 0) (6 * b + kc b) mn) d_Md_into_115 (fun H locs hP hD hS => ?_)
                refine lv_aload_n hx hb d_Md_into_116 rfl (lv_at hl 2 rfl) ?_
                refine va_get (D := D) (ci := 7) (v := .ref (a 32)) (C := R_Md) (T := F_Md) (N := 34) hx hb hts (fun w h => List.mem_cons_of_mem _ (i_Md w h)) hown hK.1 hP 0 (wMd_0 t a (gSt (gSt σ 0 0 0) 31 (6 * b + kc b) mn)) rfl 32 (by decide) (hts (.fieldLink R_Md 83 "FlatBoxesModel" "eaches" "[I") (List.mem_cons_of_mem _ (gIn k_698 (by decide +kernel)))) (fun _ h9 => h9) rfl d_Md_into_117 ?_
                refine lv_iload hx hb d_Md_into_120 (lv_at hl 0 rfl) ?_
                refine lv_iload_n hx hb d_Md_into_122 rfl (lv_at hl 5 rfl) ?_
                refine g_iast hx hb hK.1 hP hD hS 25 0 (wMd_32 t a (gSt (gSt σ 0 0 0) 31 (6 * b + kc b) mn)) rfl (6 * b + kc b) (rfl) (by omega) (by decide) (w' := wMd t a (gSt (gSt (gSt σ 0 0 0) 31 (6 * b + kc b) mn) 32 (6 * b + kc b) ec)) (sMd_32 t a (gSt (gSt σ 0 0 0) 31 (6 * b + kc b) mn) (6 * b + kc b) ec) d_Md_into_123 (fun H locs hP hD hS => ?_)
                refine lv_aload_n hx hb d_Md_into_124 rfl (lv_at hl 2 rfl) ?_
                refine va_get (D := D) (ci := 7) (v := .ref (a 33)) (C := R_Md) (T := F_Md) (N := 34) hx hb hts (fun w h => List.mem_cons_of_mem _ (i_Md w h)) hown hK.1 hP 0 (wMd_0 t a (gSt (gSt (gSt σ 0 0 0) 31 (6 * b + kc b) mn) 32 (6 * b + kc b) ec)) rfl 33 (by decide) (hts (.fieldLink R_Md 86 "FlatBoxesModel" "spreads" "[I") (List.mem_cons_of_mem _ (gIn k_699 (by decide +kernel)))) (fun _ h9 => h9) rfl d_Md_into_125 ?_
                refine lv_iload hx hb d_Md_into_128 (lv_at hl 0 rfl) ?_
                refine lv_iload hx hb d_Md_into_130 (lv_at hl 6 rfl) ?_
                refine g_iast hx hb hK.1 hP hD hS 26 0 (wMd_33 t a (gSt (gSt (gSt σ 0 0 0) 31 (6 * b + kc b) mn) 32 (6 * b + kc b) ec)) rfl (6 * b + kc b) (rfl) (by omega) (by decide) (w' := wMd t a (gSt (gSt (gSt (gSt σ 0 0 0) 31 (6 * b + kc b) mn) 32 (6 * b + kc b) ec) 33 (6 * b + kc b) sp)) (sMd_33 t a (gSt (gSt (gSt σ 0 0 0) 31 (6 * b + kc b) mn) 32 (6 * b + kc b) ec) (6 * b + kc b) sp) d_Md_into_132 (fun H locs hP hD hS => ?_)
                refine lv_aload_n hx hb d_Md_into_133 rfl (lv_at hl 2 rfl) ?_
                refine va_get (D := D) (ci := 7) (v := .ref (a 30)) (C := R_Md) (T := F_Md) (N := 34) hx hb hts (fun w h => List.mem_cons_of_mem _ (i_Md w h)) hown hK.1 hP 0 (wMd_0 t a (gSt (gSt (gSt (gSt σ 0 0 0) 31 (6 * b + kc b) mn) 32 (6 * b + kc b) ec) 33 (6 * b + kc b) sp)) rfl 30 (by decide) (hts (.fieldLink R_Md 77 "FlatBoxesModel" "kindCounts" "[I") (List.mem_cons_of_mem _ (gIn k_696 (by decide +kernel)))) (fun _ h9 => h9) rfl d_Md_into_134 ?_
                refine lv_iload_n hx hb d_Md_into_137 rfl (lv_at hl 3 rfl) ?_
                refine lv_dup2_11 hx hb d_Md_into_138 rfl rfl ?_
                refine g_iald hx hb hK.1 hP 23 0 (wMd_30 t a (gSt (gSt (gSt (gSt σ 0 0 0) 31 (6 * b + kc b) mn) 32 (6 * b + kc b) ec) 33 (6 * b + kc b) sp)) rfl b (rfl) (by omega) (by decide) d_Md_into_139 ?_
                refine lv_topi (fun v_42 e_42 => ?_)
                obtain rfl : nI (kc b) = v_42 := (e_42.trans ((hkc b (by omega)).1)).symm
                refine lv_iconst (v := 1) hx hb d_Md_into_140 (by decide) ?_
                refine lv_iadd hx hb d_Md_into_141 ?_
                refine lv_topi (fun v_43 e_43 => ?_)
                obtain rfl : nI (kc b + 1) = v_43 := (e_43.trans (nI_1 _)).symm
                refine g_iast hx hb hK.1 hP hD hS 23 0 (wMd_30 t a (gSt (gSt (gSt (gSt σ 0 0 0) 31 (6 * b + kc b) mn) 32 (6 * b + kc b) ec) 33 (6 * b + kc b) sp)) rfl b (rfl) (by omega) (by decide) (w' := wMd t a (gSt (gSt (gSt (gSt (gSt σ 0 0 0) 31 (6 * b + kc b) mn) 32 (6 * b + kc b) ec) 33 (6 * b + kc b) sp) 30 b (nI (kc b + 1)))) (sMd_30 t a (gSt (gSt (gSt (gSt σ 0 0 0) 31 (6 * b + kc b) mn) 32 (6 * b + kc b) ec) 33 (6 * b + kc b) sp) b (nI (kc b + 1))) d_Md_into_142 (fun H locs hP hD hS => ?_)
                refine lv_aload_n hx hb d_Md_into_143 rfl (lv_at hl 2 rfl) ?_
                refine va_get (D := D) (ci := 7) (v := .ref (a 30)) (C := R_Md) (T := F_Md) (N := 34) hx hb hts (fun w h => List.mem_cons_of_mem _ (i_Md w h)) hown hK.1 hP 0 (wMd_0 t a (gSt (gSt (gSt (gSt (gSt σ 0 0 0) 31 (6 * b + kc b) mn) 32 (6 * b + kc b) ec) 33 (6 * b + kc b) sp) 30 b (nI (kc b + 1)))) rfl 30 (by decide) (hts (.fieldLink R_Md 77 "FlatBoxesModel" "kindCounts" "[I") (List.mem_cons_of_mem _ (gIn k_696 (by decide +kernel)))) (fun _ h9 => h9) rfl d_Md_into_144 ?_
                refine lv_iload_n hx hb d_Md_into_147 rfl (lv_at hl 3 rfl) ?_
                refine g_iald hx hb hK.1 hP 23 0 (wMd_30 t a (gSt (gSt (gSt (gSt (gSt σ 0 0 0) 31 (6 * b + kc b) mn) 32 (6 * b + kc b) ec) 33 (6 * b + kc b) sp) 30 b (nI (kc b + 1)))) rfl b (rfl) (by omega) (by decide) d_Md_into_148 ?_
                refine lv_topi (fun v_44 e_44 => ?_)
                obtain rfl : nI (kc b + 1) = v_44 := (e_44.trans (pk_us)).symm
                exact W.iret (v := nI (kc b + 1)) hx hb hr (fun U hU hW => ⟨⟨nI (kc b + 1), gSt (gSt (gSt (gSt (gSt σ 0 0 0) 31 (6 * b + kc b) mn) 32 (6 * b + kc b) ec) 33 (6 * b + kc b) sp) 30 b (nI (kc b + 1)), rfl, by exact ⟨by simp [mIntoR, mIntoC, mIntoG, nI_clamp (show b < 2 ^ 31 by omega), c_2, c_12, c_22, c_33, c_34, c_36, h_36, c_38], by simp [mIntoU, mIntoC, mIntoG, nI_clamp (show b < 2 ^ 31 by omega), c_2, c_12, c_22, c_33, c_34, c_36, h_36, c_38]⟩, by rw [hU]; exact hP, hD⟩, hS.F hU⟩) hS.2.2 d_Md_into_149
              · 
                exact absurd c_38 (by decide)
            · 
              have h_36 : kc b = 6 := (nI_eq (a := kc b) (b := 6) (by omega) (by omega)).mp c_36
              refine lv_iconst (v := 3) hx hb d_Md_into_78 (by decide) ?_
              refine lv_goto (tgt := 83) hx hb d_Md_into_79 (by decide) ?_
              refine va_put (D := D) (ci := 7) (v := .int 3) (ty := .int) (C := R_Md) (T := F_Md) (N := 34) hx hb hts (fun w h => List.mem_cons_of_mem _ (i_Md w h)) t_Md t_Md_ok n_Md hown hK.1 hP hD hS 0 (wMd_0 t a σ) rfl 0 (by decide) (hts (.fieldLink R_Md 93 "FlatBoxesModel" "code" "I") (List.mem_cons_of_mem _ (gIn k_666 (by decide +kernel)))) (fun _ h9 => h9) rfl (by decide +kernel) rfl rfl (Nat.le_of_ble_eq_true rfl) d_Md_into_83 (fun H locs hP hD hS => ?_)
              have hP : va_P D gCl (wMd t a (gSt σ 0 0 3)) H := hP
              have hD : va_D A (wMd t a (gSt σ 0 0 3)) := hD
              refine lv_aload_n hx hb d_Md_into_86 rfl (lv_at hl 1 rfl) ?_
              refine va_get (D := D) (ci := 7) (v := .int ((gSt σ 0 0 3) 0 0)) (C := R_Md) (T := F_Md) (N := 34) hx hb hts (fun w h => List.mem_cons_of_mem _ (i_Md w h)) hown hK.1 hP 0 (wMd_0 t a (gSt σ 0 0 3)) rfl 0 (by decide) (hts (.fieldLink R_Md 93 "FlatBoxesModel" "code" "I") (List.mem_cons_of_mem _ (gIn k_666 (by decide +kernel)))) (fun _ h9 => h9) rfl d_Md_into_87 ?_
              refine lv_topi (fun v_45 e_45 => ?_)
              obtain rfl : 3 = v_45 := (e_45.trans (rfl)).symm
              refine lv_if_le (tgt := 95) hx hb d_Md_into_90 (by decide) (fun c_46 => ?_) (fun c_46 => ?_)
              · 
                exact absurd c_46 (by decide)
              · 
                refine lv_iconst (v := 0) hx hb d_Md_into_93 (by decide) ?_
                exact W.iret (v := 0) hx hb hr (fun U hU hW => ⟨⟨0, gSt σ 0 0 3, rfl, by exact ⟨by simp [mIntoR, mIntoC, mIntoG, nI_clamp (show b < 2 ^ 31 by omega), c_2, c_12, c_22, c_33, c_34, c_36, h_36, c_46], by simp [mIntoU, mIntoC, mIntoG, nI_clamp (show b < 2 ^ 31 by omega), c_2, c_12, c_22, c_33, c_34, c_36, h_36, c_46]⟩, by rw [hU]; exact hP, hD⟩, hS.F hU⟩) hS.2.2 d_Md_into_94
          · 
            exact absurd c_34 (by decide)
        · 
          refine lv_iconst (v := 1) hx hb d_Md_into_54 (by decide) ?_
          refine lv_goto (tgt := 83) hx hb d_Md_into_55 (by decide) ?_
          refine va_put (D := D) (ci := 7) (v := .int 1) (ty := .int) (C := R_Md) (T := F_Md) (N := 34) hx hb hts (fun w h => List.mem_cons_of_mem _ (i_Md w h)) t_Md t_Md_ok n_Md hown hK.1 hP hD hS 0 (wMd_0 t a σ) rfl 0 (by decide) (hts (.fieldLink R_Md 93 "FlatBoxesModel" "code" "I") (List.mem_cons_of_mem _ (gIn k_666 (by decide +kernel)))) (fun _ h9 => h9) rfl (by decide +kernel) rfl rfl (Nat.le_of_ble_eq_true rfl) d_Md_into_83 (fun H locs hP hD hS => ?_)
          have hP : va_P D gCl (wMd t a (gSt σ 0 0 1)) H := hP
          have hD : va_D A (wMd t a (gSt σ 0 0 1)) := hD
          refine lv_aload_n hx hb d_Md_into_86 rfl (lv_at hl 1 rfl) ?_
          refine va_get (D := D) (ci := 7) (v := .int ((gSt σ 0 0 1) 0 0)) (C := R_Md) (T := F_Md) (N := 34) hx hb hts (fun w h => List.mem_cons_of_mem _ (i_Md w h)) hown hK.1 hP 0 (wMd_0 t a (gSt σ 0 0 1)) rfl 0 (by decide) (hts (.fieldLink R_Md 93 "FlatBoxesModel" "code" "I") (List.mem_cons_of_mem _ (gIn k_666 (by decide +kernel)))) (fun _ h9 => h9) rfl d_Md_into_87 ?_
          refine lv_topi (fun v_47 e_47 => ?_)
          obtain rfl : 1 = v_47 := (e_47.trans (rfl)).symm
          refine lv_if_le (tgt := 95) hx hb d_Md_into_90 (by decide) (fun c_48 => ?_) (fun c_48 => ?_)
          · 
            exact absurd c_48 (by decide)
          · 
            refine lv_iconst (v := 0) hx hb d_Md_into_93 (by decide) ?_
            exact W.iret (v := 0) hx hb hr (fun U hU hW => ⟨⟨0, gSt σ 0 0 1, rfl, by exact ⟨by simp [mIntoR, mIntoC, mIntoG, c_2, c_12, c_22, c_33, c_48], by simp [mIntoU, mIntoC, mIntoG, c_2, c_12, c_22, c_33, c_48]⟩, by rw [hU]; exact hP, hD⟩, hS.F hU⟩) hS.2.2 d_Md_into_94
