def mBagR (nb : Nat) : Int32 := if nb = 4 then 0 else nI nb
def mBagU (σ : Nat → Nat → Int32) (nb : Nat) : Nat → Nat → Int32 := if nb = 4 then gSt σ 0 0 1 else gSt (gSt σ 0 0 0) 29 0 (nI (nb + 1))
def mBelow (σ : Nat → Nat → Int32) (x y : Nat) : Int32 := if σ 22 x = σ 22 y then (if σ 21 x = σ 21 y then (if σ 20 x = σ 20 y then (if y ≤ x then 0 else 1) else if σ 20 x ≤ σ 20 y then 0 else 1) else if σ 21 x ≤ σ 21 y then 0 else 1) else σ 22 y
def mAll (w d h c g gm : Int32) (s0 sm : Int32) : Int32 := if mSide w = 0 then 0 else if mSide d = 0 then 0 else if mSide h = 0 then 0 else if mIn c 1 gm = 0 then 0 else if mIn g s0 sm = 0 then 0 else 1
def mCartonC (nc : Nat) (w d h c g : Int32) : Int32 := if mAll w d h c g 100000 1 100000 = 0 then 1 else if nc = 4 then 2 else 0
def mCartonR (nc : Nat) (w d h c g : Int32) : Int32 := if mCartonC nc w d h c g = 0 then nI nc else 0
def mCartonU (σ : Nat → Nat → Int32) (nc : Nat) (w d h c g : Int32) : Nat → Nat → Int32 := if mCartonC nc w d h c g = 0 then gSt (gSt (gSt (gSt (gSt (gSt (gSt (gSt σ 0 0 0) 3 nc w) 4 nc d) 5 nc h) 6 nc c) 7 nc g) 2 0 (nI (nc + 1))) 24 0 0 else gSt σ 0 0 (mCartonC nc w d h c g)
def mPartC (np : Nat) (w d h g st : Int32) : Int32 := if mAll w d h g st 50000 0 50 = 0 then 1 else if np = 8 then 2 else 0
def mPartR (np : Nat) (w d h g st : Int32) : Int32 := if mPartC np w d h g st = 0 then nI np else 0
def mPartU (σ : Nat → Nat → Int32) (np : Nat) (w d h g st : Int32) : Nat → Nat → Int32 := if mPartC np w d h g st = 0 then gSt (gSt (gSt (gSt (gSt (gSt (gSt (gSt (gSt σ 0 0 0) 9 np w) 10 np d) 11 np h) 12 np g) 13 np st) 14 np 0) 8 0 (nI (np + 1))) 24 0 0 else gSt σ 0 0 (mPartC np w d h g st)


set_option maxHeartbeats 4000000 in
set_option maxRecDepth 100000 in
theorem c_Md_bag (l : Launch) (D : va_G) (t : Nat → ClassId) (a : Nat → Nat) (σ : Nat → Nat → Int32) (nb : Nat) (hB : σ 29 0 = nI nb) (hB4 : nb ≤ 4) : gMi l D t y_Md_bag b_Md_bag 1 (some .int) 0 [.ref (a 0)] (wMd t a σ) (wMd t a) (fun r u => r = mBagR nb ∧ u = mBagU σ nb) := by
  intro A
  refine Met.ofW (cc := b_Md_bag) (maxL := 1) (ret := (some .int)) (by decide) rfl ?_
  intro p e s m args below meth c s₁ B hml hv
  obtain ⟨rfl, hK, hP, hD⟩ := hv
  have hx := B.exec
  have hb := B.bytes
  have hr := B.returns
  have hts := atoms_spec (ws := .code y_Md_bag b_Md_bag 1 (some .int) :: gBig) B.pre
  have hown : s.vm.findClass R_Md = some m.cls := findClass_of_methodNamed B.named
  have hlocks := B.notSynchronized
  have hS : va_S A s.heap s.heap [] := va_S.rf
  have hl := lv_entry ([.ref (a 0)]) (n := 1) (Nat.le_of_ble_eq_true rfl)
  rw [lg_entry_eq]
  generalize (lg_sl ([.ref (a 0)]) ++ List.replicate (1 - (lg_sl ([.ref (a 0)])).length) Slot.unset).toArray = ls at hl ⊢
  have hl : lv_has ls 1 [(0, .ref (a 0))] := hl
  show gGo l p e s m below meth c D t A 0 [.ref (a 0)] (wMd t a) (fun r u => r = mBagR nb ∧ u = mBagU σ nb) s.heap [] (F0 m 0 ls [])
  refine lv_aload_n hx hb d_Md_bag_0 rfl (lv_at hl 0 rfl) ?_
  refine lv_aload_n hx hb d_Md_bag_1 rfl (lv_at hl 0 rfl) ?_
  refine va_get (D := D) (ci := 7) (v := .int (σ 29 0)) (C := R_Md) (T := F_Md) (N := 34) hx hb hts (fun w h => List.mem_cons_of_mem _ (i_Md w h)) hown hK.1 hP 0 (wMd_0 t a σ) rfl 29 (by decide) (hts (.fieldLink R_Md 164 "FlatBoxesModel" "bags" "I") (List.mem_cons_of_mem _ (gIn k_695 (by decide +kernel)))) (fun _ h9 => h9) rfl d_Md_bag_2 ?_
  refine lv_topi (fun v_1 e_1 => ?_)
  obtain rfl : v_1 = nI nb := e_1.trans hB
  refine lv_iconst (v := 4) hx hb d_Md_bag_5 (by decide) ?_
  refine lv_icmp_ne (tgt := 13) hx hb d_Md_bag_6 (by decide) (fun c_2 => ?_) (fun c_2 => ?_)
  · 
    have h_2 : ¬ nb = 4 := fun q9 => c_2 ((nI_eq (a := nb) (b := 4) (by omega) (by omega)).mpr q9)
    refine lv_iconst (v := 0) hx hb d_Md_bag_13 (by decide) ?_
    refine va_put (D := D) (ci := 7) (v := .int 0) (ty := .int) (C := R_Md) (T := F_Md) (N := 34) hx hb hts (fun w h => List.mem_cons_of_mem _ (i_Md w h)) t_Md t_Md_ok n_Md hown hK.1 hP hD hS 0 (wMd_0 t a σ) rfl 0 (by decide) (hts (.fieldLink R_Md 93 "FlatBoxesModel" "code" "I") (List.mem_cons_of_mem _ (gIn k_666 (by decide +kernel)))) (fun _ h9 => h9) rfl (by decide +kernel) rfl rfl (Nat.le_of_ble_eq_true rfl) d_Md_bag_14 (fun H locs hP hD hS => ?_)
    have hP : va_P D gCl (wMd t a (gSt σ 0 0 0)) H := hP
    have hD : va_D A (wMd t a (gSt σ 0 0 0)) := hD
    refine lv_aload_n hx hb d_Md_bag_17 rfl (lv_at hl 0 rfl) ?_
    refine va_get (D := D) (ci := 7) (v := .int ((gSt σ 0 0 0) 0 0)) (C := R_Md) (T := F_Md) (N := 34) hx hb hts (fun w h => List.mem_cons_of_mem _ (i_Md w h)) hown hK.1 hP 0 (wMd_0 t a (gSt σ 0 0 0)) rfl 0 (by decide) (hts (.fieldLink R_Md 93 "FlatBoxesModel" "code" "I") (List.mem_cons_of_mem _ (gIn k_666 (by decide +kernel)))) (fun _ h9 => h9) rfl d_Md_bag_18 ?_
    refine lv_topi (fun v_3 e_3 => ?_)
    obtain rfl : v_3 = 0 := e_3.trans (rfl)
    refine lv_if_le (tgt := 26) hx hb d_Md_bag_21 (by decide) (fun c_4 => ?_) (fun c_4 => ?_)
    · 
      refine lv_aload_n hx hb d_Md_bag_26 rfl (lv_at hl 0 rfl) ?_
      refine lv_dup hx hb d_Md_bag_27 rfl ?_
      refine va_get (D := D) (ci := 7) (v := .int ((gSt σ 0 0 0) 29 0)) (C := R_Md) (T := F_Md) (N := 34) hx hb hts (fun w h => List.mem_cons_of_mem _ (i_Md w h)) hown hK.1 hP 0 (wMd_0 t a (gSt σ 0 0 0)) rfl 29 (by decide) (hts (.fieldLink R_Md 164 "FlatBoxesModel" "bags" "I") (List.mem_cons_of_mem _ (gIn k_695 (by decide +kernel)))) (fun _ h9 => h9) rfl d_Md_bag_28 ?_
      refine lv_topi (fun v_5 e_5 => ?_)
      obtain rfl : v_5 = nI nb := e_5.trans hB
      refine lv_iconst (v := 1) hx hb d_Md_bag_31 (by decide) ?_
      refine lv_iadd hx hb d_Md_bag_32 ?_
      refine lv_topi (fun v_6 e_6 => ?_)
      obtain rfl : v_6 = nI (nb + 1) := e_6.trans (nI_1 _)
      refine va_put (D := D) (ci := 7) (v := .int (nI (nb + 1))) (ty := .int) (C := R_Md) (T := F_Md) (N := 34) hx hb hts (fun w h => List.mem_cons_of_mem _ (i_Md w h)) t_Md t_Md_ok n_Md hown hK.1 hP hD hS 0 (wMd_0 t a (gSt σ 0 0 0)) rfl 29 (by decide) (hts (.fieldLink R_Md 164 "FlatBoxesModel" "bags" "I") (List.mem_cons_of_mem _ (gIn k_695 (by decide +kernel)))) (fun _ h9 => h9) rfl (by decide +kernel) rfl rfl (Nat.le_of_ble_eq_true rfl) d_Md_bag_33 (fun H locs hP hD hS => ?_)
      have hP : va_P D gCl (wMd t a (gSt (gSt σ 0 0 0) 29 0 (nI (nb + 1)))) H := hP
      have hD : va_D A (wMd t a (gSt (gSt σ 0 0 0) 29 0 (nI (nb + 1)))) := hD
      refine lv_aload_n hx hb d_Md_bag_36 rfl (lv_at hl 0 rfl) ?_
      refine va_get (D := D) (ci := 7) (v := .int ((gSt (gSt σ 0 0 0) 29 0 (nI (nb + 1))) 29 0)) (C := R_Md) (T := F_Md) (N := 34) hx hb hts (fun w h => List.mem_cons_of_mem _ (i_Md w h)) hown hK.1 hP 0 (wMd_0 t a (gSt (gSt σ 0 0 0) 29 0 (nI (nb + 1)))) rfl 29 (by decide) (hts (.fieldLink R_Md 164 "FlatBoxesModel" "bags" "I") (List.mem_cons_of_mem _ (gIn k_695 (by decide +kernel)))) (fun _ h9 => h9) rfl d_Md_bag_37 ?_
      refine lv_topi (fun v_7 e_7 => ?_)
      obtain rfl : v_7 = nI (nb + 1) := e_7.trans (rfl)
      refine lv_iconst (v := 1) hx hb d_Md_bag_40 (by decide) ?_
      refine lv_isub hx hb d_Md_bag_41 ?_
      refine lv_topi (fun v_8 e_8 => ?_)
      obtain rfl : v_8 = nI nb := e_8.trans (nI_pred nb)
      exact W.iret (v := nI nb) hx hb hr (fun U hU hW => ⟨⟨nI nb, gSt (gSt σ 0 0 0) 29 0 (nI (nb + 1)), rfl, by exact ⟨by simp [mBagR, c_2, h_2, c_4], by simp [mBagU, c_2, h_2, c_4]⟩, by rw [hU]; exact hP, hD⟩, hS.F hU⟩) hS.2.2 d_Md_bag_42
    · 
      exact absurd c_4 (by decide)
  · 
    have h_2 : nb = 4 := (nI_eq (a := nb) (b := 4) (by omega) (by omega)).mp c_2
    refine lv_iconst (v := 1) hx hb d_Md_bag_9 (by decide) ?_
    refine lv_goto (tgt := 14) hx hb d_Md_bag_10 (by decide) ?_
    refine va_put (D := D) (ci := 7) (v := .int 1) (ty := .int) (C := R_Md) (T := F_Md) (N := 34) hx hb hts (fun w h => List.mem_cons_of_mem _ (i_Md w h)) t_Md t_Md_ok n_Md hown hK.1 hP hD hS 0 (wMd_0 t a σ) rfl 0 (by decide) (hts (.fieldLink R_Md 93 "FlatBoxesModel" "code" "I") (List.mem_cons_of_mem _ (gIn k_666 (by decide +kernel)))) (fun _ h9 => h9) rfl (by decide +kernel) rfl rfl (Nat.le_of_ble_eq_true rfl) d_Md_bag_14 (fun H locs hP hD hS => ?_)
    have hP : va_P D gCl (wMd t a (gSt σ 0 0 1)) H := hP
    have hD : va_D A (wMd t a (gSt σ 0 0 1)) := hD
    refine lv_aload_n hx hb d_Md_bag_17 rfl (lv_at hl 0 rfl) ?_
    refine va_get (D := D) (ci := 7) (v := .int ((gSt σ 0 0 1) 0 0)) (C := R_Md) (T := F_Md) (N := 34) hx hb hts (fun w h => List.mem_cons_of_mem _ (i_Md w h)) hown hK.1 hP 0 (wMd_0 t a (gSt σ 0 0 1)) rfl 0 (by decide) (hts (.fieldLink R_Md 93 "FlatBoxesModel" "code" "I") (List.mem_cons_of_mem _ (gIn k_666 (by decide +kernel)))) (fun _ h9 => h9) rfl d_Md_bag_18 ?_
    refine lv_topi (fun v_9 e_9 => ?_)
    obtain rfl : v_9 = 1 := e_9.trans (rfl)
    refine lv_if_le (tgt := 26) hx hb d_Md_bag_21 (by decide) (fun c_10 => ?_) (fun c_10 => ?_)
    · 
      exact absurd c_10 (by decide)
    · 
      refine lv_iconst (v := 0) hx hb d_Md_bag_24 (by decide) ?_
      exact W.iret (v := 0) hx hb hr (fun U hU hW => ⟨⟨0, gSt σ 0 0 1, rfl, by exact ⟨by simp [mBagR, c_2, h_2, c_10], by simp [mBagU, c_2, h_2, c_10]⟩, by rw [hU]; exact hP, hD⟩, hS.F hU⟩) hS.2.2 d_Md_bag_25
set_option maxHeartbeats 4000000 in
set_option maxRecDepth 100000 in
theorem c_Md_isBelow (l : Launch) (D : va_G) (t : Nat → ClassId) (a : Nat → Nat) (σ : Nat → Nat → Int32) (x y : Nat) (hx8 : x < 8) (hy8 : y < 8) (h22 : ∀ i, σ 22 i = 0 ∨ σ 22 i = 1) : gMi l D t y_Md_isBelow b_Md_isBelow 3 (some .boolean) 0 [.ref (a 0), .int (nI x), .int (nI y)] (wMd t a σ) (wMd t a) (fun r u => r = mBelow σ x y ∧ u = σ) := by
  intro A
  refine Met.ofW (cc := b_Md_isBelow) (maxL := 3) (ret := (some .boolean)) (by decide) rfl ?_
  intro p e s m args below meth c s₁ B hml hv
  obtain ⟨rfl, hK, hP, hD⟩ := hv
  have hx := B.exec
  have hb := B.bytes
  have hr := B.returns
  have hts := atoms_spec (ws := .code y_Md_isBelow b_Md_isBelow 3 (some .boolean) :: gBig) B.pre
  have hown : s.vm.findClass R_Md = some m.cls := findClass_of_methodNamed B.named
  have hlocks := B.notSynchronized
  have hS : va_S A s.heap s.heap [] := va_S.rf
  have hl := lv_entry ([.ref (a 0), .int (nI x), .int (nI y)]) (n := 3) (Nat.le_of_ble_eq_true rfl)
  rw [lg_entry_eq]
  generalize (lg_sl ([.ref (a 0), .int (nI x), .int (nI y)]) ++ List.replicate (3 - (lg_sl ([.ref (a 0), .int (nI x), .int (nI y)])).length) Slot.unset).toArray = ls at hl ⊢
  have hl : lv_has ls 3 [(0, .ref (a 0)), (1, .int (nI x)), (2, .int (nI y))] := hl
  show gGo l p e s m below meth c D t A 0 [.ref (a 0), .int (nI x), .int (nI y)] (wMd t a) (fun r u => r = mBelow σ x y ∧ u = σ) s.heap [] (F0 m 0 ls [])
  refine lv_aload_n hx hb d_Md_isBelow_0 rfl (lv_at hl 0 rfl) ?_
  refine va_get (D := D) (ci := 7) (v := .ref (a 22)) (C := R_Md) (T := F_Md) (N := 34) hx hb hts (fun w h => List.mem_cons_of_mem _ (i_Md w h)) hown hK.1 hP 0 (wMd_0 t a σ) rfl 22 (by decide) (hts (.fieldLink R_Md 62 "FlatBoxesModel" "breaks" "[Z") (List.mem_cons_of_mem _ (gIn k_688 (by decide +kernel)))) (fun _ h9 => h9) rfl d_Md_isBelow_1 ?_
  refine lv_iload_n hx hb d_Md_isBelow_4 rfl (lv_at hl 1 rfl) ?_
  refine g_zald hx hb hK.1 hP 18 1 (wMd_22 t a σ) rfl x (rfl) (by omega) (by decide) d_Md_isBelow_5 ?_
  refine lv_aload_n hx hb d_Md_isBelow_6 rfl (lv_at hl 0 rfl) ?_
  refine va_get (D := D) (ci := 7) (v := .ref (a 22)) (C := R_Md) (T := F_Md) (N := 34) hx hb hts (fun w h => List.mem_cons_of_mem _ (i_Md w h)) hown hK.1 hP 0 (wMd_0 t a σ) rfl 22 (by decide) (hts (.fieldLink R_Md 62 "FlatBoxesModel" "breaks" "[Z") (List.mem_cons_of_mem _ (gIn k_688 (by decide +kernel)))) (fun _ h9 => h9) rfl d_Md_isBelow_7 ?_
  refine lv_iload_n hx hb d_Md_isBelow_10 rfl (lv_at hl 2 rfl) ?_
  refine g_zald hx hb hK.1 hP 18 1 (wMd_22 t a σ) rfl y (rfl) (by omega) (by decide) d_Md_isBelow_11 ?_
  refine lv_icmp_eq (tgt := 22) hx hb d_Md_isBelow_12 (by decide) (fun c_1 => ?_) (fun c_1 => ?_)
  · 
    refine lv_aload_n hx hb d_Md_isBelow_22 rfl (lv_at hl 0 rfl) ?_
    refine va_get (D := D) (ci := 7) (v := .ref (a 21)) (C := R_Md) (T := F_Md) (N := 34) hx hb hts (fun w h => List.mem_cons_of_mem _ (i_Md w h)) hown hK.1 hP 0 (wMd_0 t a σ) rfl 21 (by decide) (hts (.fieldLink R_Md 59 "FlatBoxesModel" "firsts" "[I") (List.mem_cons_of_mem _ (gIn k_687 (by decide +kernel)))) (fun _ h9 => h9) rfl d_Md_isBelow_23 ?_
    refine lv_iload_n hx hb d_Md_isBelow_26 rfl (lv_at hl 1 rfl) ?_
    refine g_iald hx hb hK.1 hP 17 0 (wMd_21 t a σ) rfl x (rfl) (by omega) (by decide) d_Md_isBelow_27 ?_
    refine lv_aload_n hx hb d_Md_isBelow_28 rfl (lv_at hl 0 rfl) ?_
    refine va_get (D := D) (ci := 7) (v := .ref (a 21)) (C := R_Md) (T := F_Md) (N := 34) hx hb hts (fun w h => List.mem_cons_of_mem _ (i_Md w h)) hown hK.1 hP 0 (wMd_0 t a σ) rfl 21 (by decide) (hts (.fieldLink R_Md 59 "FlatBoxesModel" "firsts" "[I") (List.mem_cons_of_mem _ (gIn k_687 (by decide +kernel)))) (fun _ h9 => h9) rfl d_Md_isBelow_29 ?_
    refine lv_iload_n hx hb d_Md_isBelow_32 rfl (lv_at hl 2 rfl) ?_
    refine g_iald hx hb hK.1 hP 17 0 (wMd_21 t a σ) rfl y (rfl) (by omega) (by decide) d_Md_isBelow_33 ?_
    refine lv_icmp_eq (tgt := 58) hx hb d_Md_isBelow_34 (by decide) (fun c_2 => ?_) (fun c_2 => ?_)
    · 
      refine lv_aload_n hx hb d_Md_isBelow_58 rfl (lv_at hl 0 rfl) ?_
      refine va_get (D := D) (ci := 7) (v := .ref (a 20)) (C := R_Md) (T := F_Md) (N := 34) hx hb hts (fun w h => List.mem_cons_of_mem _ (i_Md w h)) hown hK.1 hP 0 (wMd_0 t a σ) rfl 20 (by decide) (hts (.fieldLink R_Md 56 "FlatBoxesModel" "weights" "[I") (List.mem_cons_of_mem _ (gIn k_686 (by decide +kernel)))) (fun _ h9 => h9) rfl d_Md_isBelow_59 ?_
      refine lv_iload_n hx hb d_Md_isBelow_62 rfl (lv_at hl 1 rfl) ?_
      refine g_iald hx hb hK.1 hP 16 0 (wMd_20 t a σ) rfl x (rfl) (by omega) (by decide) d_Md_isBelow_63 ?_
      refine lv_aload_n hx hb d_Md_isBelow_64 rfl (lv_at hl 0 rfl) ?_
      refine va_get (D := D) (ci := 7) (v := .ref (a 20)) (C := R_Md) (T := F_Md) (N := 34) hx hb hts (fun w h => List.mem_cons_of_mem _ (i_Md w h)) hown hK.1 hP 0 (wMd_0 t a σ) rfl 20 (by decide) (hts (.fieldLink R_Md 56 "FlatBoxesModel" "weights" "[I") (List.mem_cons_of_mem _ (gIn k_686 (by decide +kernel)))) (fun _ h9 => h9) rfl d_Md_isBelow_65 ?_
      refine lv_iload_n hx hb d_Md_isBelow_68 rfl (lv_at hl 2 rfl) ?_
      refine g_iald hx hb hK.1 hP 16 0 (wMd_20 t a σ) rfl y (rfl) (by omega) (by decide) d_Md_isBelow_69 ?_
      refine lv_icmp_eq (tgt := 96) hx hb d_Md_isBelow_70 (by decide) (fun c_3 => ?_) (fun c_3 => ?_)
      · 
        refine lv_iload_n hx hb d_Md_isBelow_96 rfl (lv_at hl 1 rfl) ?_
        refine lv_iload_n hx hb d_Md_isBelow_97 rfl (lv_at hl 2 rfl) ?_
        refine lv_icmp_ge (tgt := 105) hx hb d_Md_isBelow_98 (by decide) (fun c_4 => ?_) (fun c_4 => ?_)
        · 
          have h_4 : y ≤ x := (nI_leI (a := y) (b := x) (by omega) (by omega)).mp c_4
          refine lv_iconst (v := 0) hx hb d_Md_isBelow_105 (by decide) ?_
          exact W.zret (v := 0) (ty := .boolean) hx hb hr (rfl) (fun U hU hW => ⟨⟨0, σ, rfl, by exact ⟨by simp [mBelow, c_1, c_2, c_3, c_4, h_4], rfl⟩, by rw [hU]; exact hP, hD⟩, hS.F hU⟩) hS.2.2 d_Md_isBelow_106
        · 
          have h_4 : ¬ y ≤ x := fun q9 => c_4 ((nI_leI (a := y) (b := x) (by omega) (by omega)).mpr q9)
          refine lv_iconst (v := 1) hx hb d_Md_isBelow_101 (by decide) ?_
          refine lv_goto (tgt := 106) hx hb d_Md_isBelow_102 (by decide) ?_
          exact W.zret (v := 1) (ty := .boolean) hx hb hr (rfl) (fun U hU hW => ⟨⟨1, σ, rfl, by exact ⟨by simp [mBelow, c_1, c_2, c_3, c_4, h_4], rfl⟩, by rw [hU]; exact hP, hD⟩, hS.F hU⟩) hS.2.2 d_Md_isBelow_106
      · 
        refine lv_aload_n hx hb d_Md_isBelow_73 rfl (lv_at hl 0 rfl) ?_
        refine va_get (D := D) (ci := 7) (v := .ref (a 20)) (C := R_Md) (T := F_Md) (N := 34) hx hb hts (fun w h => List.mem_cons_of_mem _ (i_Md w h)) hown hK.1 hP 0 (wMd_0 t a σ) rfl 20 (by decide) (hts (.fieldLink R_Md 56 "FlatBoxesModel" "weights" "[I") (List.mem_cons_of_mem _ (gIn k_686 (by decide +kernel)))) (fun _ h9 => h9) rfl d_Md_isBelow_74 ?_
        refine lv_iload_n hx hb d_Md_isBelow_77 rfl (lv_at hl 1 rfl) ?_
        refine g_iald hx hb hK.1 hP 16 0 (wMd_20 t a σ) rfl x (rfl) (by omega) (by decide) d_Md_isBelow_78 ?_
        refine lv_aload_n hx hb d_Md_isBelow_79 rfl (lv_at hl 0 rfl) ?_
        refine va_get (D := D) (ci := 7) (v := .ref (a 20)) (C := R_Md) (T := F_Md) (N := 34) hx hb hts (fun w h => List.mem_cons_of_mem _ (i_Md w h)) hown hK.1 hP 0 (wMd_0 t a σ) rfl 20 (by decide) (hts (.fieldLink R_Md 56 "FlatBoxesModel" "weights" "[I") (List.mem_cons_of_mem _ (gIn k_686 (by decide +kernel)))) (fun _ h9 => h9) rfl d_Md_isBelow_80 ?_
        refine lv_iload_n hx hb d_Md_isBelow_83 rfl (lv_at hl 2 rfl) ?_
        refine g_iald hx hb hK.1 hP 16 0 (wMd_20 t a σ) rfl y (rfl) (by omega) (by decide) d_Md_isBelow_84 ?_
        refine lv_icmp_le (tgt := 92) hx hb d_Md_isBelow_85 (by decide) (fun c_5 => ?_) (fun c_5 => ?_)
        · 
          refine lv_iconst (v := 0) hx hb d_Md_isBelow_92 (by decide) ?_
          refine lv_goto (tgt := 106) hx hb d_Md_isBelow_93 (by decide) ?_
          exact W.zret (v := 0) (ty := .boolean) hx hb hr (rfl) (fun U hU hW => ⟨⟨0, σ, rfl, by exact ⟨by simp [mBelow, c_1, c_2, c_3, c_5], rfl⟩, by rw [hU]; exact hP, hD⟩, hS.F hU⟩) hS.2.2 d_Md_isBelow_106
        · 
          refine lv_iconst (v := 1) hx hb d_Md_isBelow_88 (by decide) ?_
          refine lv_goto (tgt := 106) hx hb d_Md_isBelow_89 (by decide) ?_
          exact W.zret (v := 1) (ty := .boolean) hx hb hr (rfl) (fun U hU hW => ⟨⟨1, σ, rfl, by exact ⟨by simp [mBelow, c_1, c_2, c_3, c_5], rfl⟩, by rw [hU]; exact hP, hD⟩, hS.F hU⟩) hS.2.2 d_Md_isBelow_106
    · 
      refine lv_aload_n hx hb d_Md_isBelow_37 rfl (lv_at hl 0 rfl) ?_
      refine va_get (D := D) (ci := 7) (v := .ref (a 21)) (C := R_Md) (T := F_Md) (N := 34) hx hb hts (fun w h => List.mem_cons_of_mem _ (i_Md w h)) hown hK.1 hP 0 (wMd_0 t a σ) rfl 21 (by decide) (hts (.fieldLink R_Md 59 "FlatBoxesModel" "firsts" "[I") (List.mem_cons_of_mem _ (gIn k_687 (by decide +kernel)))) (fun _ h9 => h9) rfl d_Md_isBelow_38 ?_
      refine lv_iload_n hx hb d_Md_isBelow_41 rfl (lv_at hl 1 rfl) ?_
      refine g_iald hx hb hK.1 hP 17 0 (wMd_21 t a σ) rfl x (rfl) (by omega) (by decide) d_Md_isBelow_42 ?_
      refine lv_aload_n hx hb d_Md_isBelow_43 rfl (lv_at hl 0 rfl) ?_
      refine va_get (D := D) (ci := 7) (v := .ref (a 21)) (C := R_Md) (T := F_Md) (N := 34) hx hb hts (fun w h => List.mem_cons_of_mem _ (i_Md w h)) hown hK.1 hP 0 (wMd_0 t a σ) rfl 21 (by decide) (hts (.fieldLink R_Md 59 "FlatBoxesModel" "firsts" "[I") (List.mem_cons_of_mem _ (gIn k_687 (by decide +kernel)))) (fun _ h9 => h9) rfl d_Md_isBelow_44 ?_
      refine lv_iload_n hx hb d_Md_isBelow_47 rfl (lv_at hl 2 rfl) ?_
      refine g_iald hx hb hK.1 hP 17 0 (wMd_21 t a σ) rfl y (rfl) (by omega) (by decide) d_Md_isBelow_48 ?_
      refine lv_icmp_le (tgt := 56) hx hb d_Md_isBelow_49 (by decide) (fun c_6 => ?_) (fun c_6 => ?_)
      · 
        refine lv_iconst (v := 0) hx hb d_Md_isBelow_56 (by decide) ?_
        exact W.zret (v := 0) (ty := .boolean) hx hb hr (rfl) (fun U hU hW => ⟨⟨0, σ, rfl, by exact ⟨by simp [mBelow, c_1, c_2, c_6], rfl⟩, by rw [hU]; exact hP, hD⟩, hS.F hU⟩) hS.2.2 d_Md_isBelow_57
      · 
        refine lv_iconst (v := 1) hx hb d_Md_isBelow_52 (by decide) ?_
        refine lv_goto (tgt := 57) hx hb d_Md_isBelow_53 (by decide) ?_
        exact W.zret (v := 1) (ty := .boolean) hx hb hr (rfl) (fun U hU hW => ⟨⟨1, σ, rfl, by exact ⟨by simp [mBelow, c_1, c_2, c_6], rfl⟩, by rw [hU]; exact hP, hD⟩, hS.F hU⟩) hS.2.2 d_Md_isBelow_57
  · 
    refine lv_aload_n hx hb d_Md_isBelow_15 rfl (lv_at hl 0 rfl) ?_
    refine va_get (D := D) (ci := 7) (v := .ref (a 22)) (C := R_Md) (T := F_Md) (N := 34) hx hb hts (fun w h => List.mem_cons_of_mem _ (i_Md w h)) hown hK.1 hP 0 (wMd_0 t a σ) rfl 22 (by decide) (hts (.fieldLink R_Md 62 "FlatBoxesModel" "breaks" "[Z") (List.mem_cons_of_mem _ (gIn k_688 (by decide +kernel)))) (fun _ h9 => h9) rfl d_Md_isBelow_16 ?_
    refine lv_iload_n hx hb d_Md_isBelow_19 rfl (lv_at hl 2 rfl) ?_
    refine g_zald hx hb hK.1 hP 18 1 (wMd_22 t a σ) rfl y (rfl) (by omega) (by decide) d_Md_isBelow_20 ?_
    exact W.zret (v := σ 22 y) (ty := .boolean) hx hb hr (gb_n (h22 y)) (fun U hU hW => ⟨⟨σ 22 y, σ, rfl, by exact ⟨by simp [mBelow, c_1], rfl⟩, by rw [hU]; exact hP, hD⟩, hS.F hU⟩) hS.2.2 d_Md_isBelow_21
