def mShOK (σ : Nat → Nat → Int32) (np nbx : Nat) (rho sx cx : Nat → Nat) : Prop := (∀ q, q < np → σ 26 q = nI (rho q) ∧ rho q < nbx) ∧ nbx ≤ 8 ∧ σ 25 0 = nI nbx ∧ (∀ b, b < nbx → (mSets σ rho np).1 28 b = nI (sx b) ∧ sx b < 256 ∧ σ 23 (sx b) = nI (cx b) ∧ cx b < 4) ∧ (mSets σ rho np).2 = nbx
def mCostR (σ : Nat → Nat → Int32) (np nbx : Nat) (rho sx : Nat → Nat) : Int32 := if σ 24 0 = 0 then 0 else mCost (mSets (gSt σ 0 0 0) rho np).1 sx nbx 0 0
def mCostU (σ : Nat → Nat → Int32) (np : Nat) (rho : Nat → Nat) : Nat → Nat → Int32 := if σ 24 0 = 0 then gSt σ 0 0 1 else (mSets (gSt σ 0 0 0) rho np).1
def mRaiC (σ : Nat → Nat → Int32) (nbx : Nat) (bv rm : Int32) : Int32 := if σ 24 0 = 0 then 1 else if mIn bv 0 (nI nbx - 1) = 0 then 2 else if mIn rm 1 1000 = 0 then 3 else 0
def mRaiV (σ : Nat → Nat → Int32) (c1 : Nat) (rm : Int32) : Int32 := if rm * rm < σ 4 c1 * σ 4 c1 + σ 5 c1 * σ 5 c1 then 0 else 1
def mRaiR (σ : Nat → Nat → Int32) (nbx : Nat) (cx : Nat → Nat) (bv rm : Int32) : Int32 := if mRaiC σ nbx bv rm = 0 then mRaiV σ (cx bv.toNatClampNeg) rm else 0
def mRaiU (σ : Nat → Nat → Int32) (np nbx : Nat) (rho ord sx cx : Nat → Nat) (bv rm : Int32) : Nat → Nat → Int32 := if mRaiC σ nbx bv rm = 0 then mBoxU (gSt σ 0 0 0) rho ord sx cx np bv.toNatClampNeg else gSt σ 0 0 (mRaiC σ nbx bv rm)
def mPalC (σ : Nat → Nat → Int32) (lm : Int32) : Int32 := if σ 24 0 = 0 then 1 else if mIn lm 1 1000000 = 0 then 2 else 0
def mPal (own : Nat → Int32) (lm : Int32) : Nat → Int32 × Int32
  | 0 => (0, 0)
  | b + 1 => if (mPal own lm b).1 ≤ 0 then ((mPal own lm b).1 + 1, own b) else if lm < (mPal own lm b).2 + own b then ((mPal own lm b).1 + 1, own b) else ((mPal own lm b).1 + 0, (mPal own lm b).2 + own b)
def mPalR (σ : Nat → Nat → Int32) (np nbx : Nat) (rho sx : Nat → Nat) (lm : Int32) : Int32 := if mPalC σ lm = 0 then (mPal (fun b => mGrams (mSets (gSt σ 0 0 0) rho np).1 (nI (sx b)) np) lm nbx).1 else 0
def mPalU (σ : Nat → Nat → Int32) (np : Nat) (rho : Nat → Nat) (lm : Int32) : Nat → Nat → Int32 := if mPalC σ lm = 0 then (mSets (gSt σ 0 0 0) rho np).1 else gSt σ 0 0 (mPalC σ lm)
def mLy (τ : Nat → Nat → Int32) (j : Nat) : Nat → Int32
  | 0 => 0
  | k + 1 => if mBelow τ k j = 0 then mLy τ j k else mLy τ j k + 1
def mLz (τ : Nat → Nat → Int32) (j : Nat) : Nat → Int32
  | 0 => 0
  | k + 1 => if mBelow τ k j = 0 then mLz τ j k else mLz τ j k + τ 19 k
def mAtC (σ : Nat → Nat → Int32) (np : Nat) (pt wh : Int32) : Int32 := if σ 24 0 = 0 then 1 else if mIn pt 0 (nI np - 1) = 0 then 2 else if mIn wh 0 3 = 0 then 2 else 0
def mAtV (τ : Nat → Nat → Int32) (q lp L bq : Nat) (wh : Int32) : Int32 := if ¬ wh = 0 then (if ¬ wh = 1 then (if ¬ wh = 2 then mLz τ lp L else τ 16 q) else mLy τ lp L) else nI bq
def mAtR (σ : Nat → Nat → Int32) (np : Nat) (rho ord sx cx Lf lpf : Nat → Nat) (pt wh : Int32) : Int32 := if mAtC σ np pt wh = 0 then mAtV (mBoxU (gSt σ 0 0 0) rho ord sx cx np (rho pt.toNatClampNeg)) pt.toNatClampNeg (lpf pt.toNatClampNeg) (Lf pt.toNatClampNeg) (rho pt.toNatClampNeg) wh else 0
def mAtU (σ : Nat → Nat → Int32) (np : Nat) (rho ord sx cx : Nat → Nat) (pt wh : Int32) : Nat → Nat → Int32 := if mAtC σ np pt wh = 0 then mBoxU (gSt σ 0 0 0) rho ord sx cx np (rho pt.toNatClampNeg) else gSt σ 0 0 (mAtC σ np pt wh)
def mAtOK (τ : Nat → Nat → Int32) (q L lp : Nat) : Prop := τ 17 0 = nI L ∧ L ≤ 8 ∧ τ 15 q = nI lp ∧ lp < 8 ∧ ∀ i, τ 22 i = 0 ∨ τ 22 i = 1

theorem gg_Md_148 (w0 : Cond) : GoodIn (w0 :: gBig) (wsV R_Md 148 R_Md y_Md_costOf (.code y_Md_costOf b_Md_costOf 4 (some .int) :: gBig)) := gGoodV (gIn k_829 (by decide +kernel)) (gIn k_831 (by decide +kernel)) (gInP (List.mem_of_getElem? (i := 23) (by decide +kernel)) (by decide +kernel)) (gIn k_9 (by decide +kernel)) (gIn k_832 (by decide +kernel))
theorem gg_Md_155 (w0 : Cond) : GoodIn (w0 :: gBig) (wsV R_Md 155 R_Md y_Md_packBox (.code y_Md_packBox b_Md_packBox 4 (some .int) :: gBig)) := gGoodV (gIn k_841 (by decide +kernel)) (gIn k_843 (by decide +kernel)) (gInP (List.mem_of_getElem? (i := 25) (by decide +kernel)) (by decide +kernel)) (gIn k_9 (by decide +kernel)) (gIn k_844 (by decide +kernel))
theorem gg_Md_161 (w0 : Cond) : GoodIn (w0 :: gBig) (wsV R_Md 161 R_Md y_Md_gramsOf (.code y_Md_gramsOf b_Md_gramsOf 4 (some .int) :: gBig)) := gGoodV (gIn k_853 (by decide +kernel)) (gIn k_855 (by decide +kernel)) (gInP (List.mem_of_getElem? (i := 27) (by decide +kernel)) (by decide +kernel)) (gIn k_9 (by decide +kernel)) (gIn k_856 (by decide +kernel))
set_option maxHeartbeats 4000000 in
set_option maxRecDepth 100000 in
theorem c_Md_cost (l : Launch) (D : va_G) (t : Nat → ClassId) (a : Nat → Nat) (σ : Nat → Nat → Int32) (np nbx : Nat) (rho sx cx : Nat → Nat) (hN : σ 8 0 = nI np) (hN8 : np ≤ 8) (hsh : ¬ σ 24 0 = 0 → mShOK (gSt σ 0 0 0) np nbx rho sx cx) : gMi l D t y_Md_cost b_Md_cost 1 (some .int) 1 [.ref (a 0)] (wMd t a σ) (wMd t a) (fun r u => r = mCostR σ np nbx rho sx ∧ u = mCostU σ np rho) := by
  intro A
  refine Met.ofW (cc := b_Md_cost) (maxL := 1) (ret := (some .int)) (by decide) rfl ?_
  intro p e s m args below meth c s₁ B hml hv
  obtain ⟨rfl, hK, hP, hD⟩ := hv
  have hx := B.exec
  have hb := B.bytes
  have hr := B.returns
  have hts := atoms_spec (ws := .code y_Md_cost b_Md_cost 1 (some .int) :: gBig) B.pre
  have hown : s.vm.findClass R_Md = some m.cls := findClass_of_methodNamed B.named
  have hlocks := B.notSynchronized
  have hS : va_S A s.heap s.heap [] := va_S.rf
  have hl := lv_entry ([.ref (a 0)]) (n := 1) (Nat.le_of_ble_eq_true rfl)
  rw [lg_entry_eq]
  generalize (lg_sl ([.ref (a 0)]) ++ List.replicate (1 - (lg_sl ([.ref (a 0)])).length) Slot.unset).toArray = ls at hl ⊢
  have hl : lv_has ls 1 [(0, .ref (a 0))] := hl
  show gGo l p e s m below meth c D t A 1 [.ref (a 0)] (wMd t a) (fun r u => r = mCostR σ np nbx rho sx ∧ u = mCostU σ np rho) s.heap [] (F0 m 0 ls [])
  refine lv_aload_n hx hb d_Md_cost_0 rfl (lv_at hl 0 rfl) ?_
  refine lv_aload_n hx hb d_Md_cost_1 rfl (lv_at hl 0 rfl) ?_
  refine va_get (D := D) (ci := 7) (v := .int (σ 24 0)) (C := R_Md) (T := F_Md) (N := 34) hx hb hts (fun w h => List.mem_cons_of_mem _ (i_Md w h)) hown hK.1 hP 0 (wMd_0 t a σ) rfl 24 (by decide) (hts (.fieldLink R_Md 108 "FlatBoxesModel" "hasShares" "Z") (List.mem_cons_of_mem _ (gIn k_690 (by decide +kernel)))) (fun _ h9 => h9) rfl d_Md_cost_2 ?_
  refine lv_if_eq (tgt := 12) hx hb d_Md_cost_5 (by decide) (fun c_1 => ?_) (fun c_1 => ?_)
  · 
    refine lv_iconst (v := 1) hx hb d_Md_cost_12 (by decide) ?_
    refine va_put (D := D) (ci := 7) (v := .int 1) (ty := .int) (C := R_Md) (T := F_Md) (N := 34) hx hb hts (fun w h => List.mem_cons_of_mem _ (i_Md w h)) t_Md t_Md_ok n_Md hown hK.1 hP hD hS 0 (wMd_0 t a σ) rfl 0 (by decide) (hts (.fieldLink R_Md 93 "FlatBoxesModel" "code" "I") (List.mem_cons_of_mem _ (gIn k_666 (by decide +kernel)))) (fun _ h9 => h9) rfl (by decide +kernel) rfl rfl (Nat.le_of_ble_eq_true rfl) d_Md_cost_13 (fun H locs hP hD hS => ?_)
    have hP : va_P D gCl (wMd t a (gSt σ 0 0 1)) H := hP
    have hD : va_D A (wMd t a (gSt σ 0 0 1)) := hD
    refine lv_aload_n hx hb d_Md_cost_16 rfl (lv_at hl 0 rfl) ?_
    refine va_get (D := D) (ci := 7) (v := .int ((gSt σ 0 0 1) 0 0)) (C := R_Md) (T := F_Md) (N := 34) hx hb hts (fun w h => List.mem_cons_of_mem _ (i_Md w h)) hown hK.1 hP 0 (wMd_0 t a (gSt σ 0 0 1)) rfl 0 (by decide) (hts (.fieldLink R_Md 93 "FlatBoxesModel" "code" "I") (List.mem_cons_of_mem _ (gIn k_666 (by decide +kernel)))) (fun _ h9 => h9) rfl d_Md_cost_17 ?_
    refine lv_topi (fun v_2 e_2 => ?_)
    obtain rfl : 1 = v_2 := (e_2.trans (rfl)).symm
    refine lv_if_le (tgt := 27) hx hb d_Md_cost_20 (by decide) (fun c_3 => ?_) (fun c_3 => ?_)
    · 
      exact absurd c_3 (by decide)
    · 
      refine lv_iconst (v := 0) hx hb d_Md_cost_23 (by decide) ?_
      refine lv_goto (tgt := 39) hx hb d_Md_cost_24 (by decide) ?_
      exact W.iret (v := 0) hx hb hr (fun U hU hW => ⟨⟨0, gSt σ 0 0 1, rfl, by exact ⟨by simp [mCostR, c_1, c_3], by simp [mCostU, c_1, c_3]⟩, by rw [hU]; exact hP, hD⟩, hS.F hU⟩) hS.2.2 d_Md_cost_39
  · 
    refine lv_iconst (v := 0) hx hb d_Md_cost_8 (by decide) ?_
    refine lv_goto (tgt := 13) hx hb d_Md_cost_9 (by decide) ?_
    refine va_put (D := D) (ci := 7) (v := .int 0) (ty := .int) (C := R_Md) (T := F_Md) (N := 34) hx hb hts (fun w h => List.mem_cons_of_mem _ (i_Md w h)) t_Md t_Md_ok n_Md hown hK.1 hP hD hS 0 (wMd_0 t a σ) rfl 0 (by decide) (hts (.fieldLink R_Md 93 "FlatBoxesModel" "code" "I") (List.mem_cons_of_mem _ (gIn k_666 (by decide +kernel)))) (fun _ h9 => h9) rfl (by decide +kernel) rfl rfl (Nat.le_of_ble_eq_true rfl) d_Md_cost_13 (fun H locs hP hD hS => ?_)
    have hP : va_P D gCl (wMd t a (gSt σ 0 0 0)) H := hP
    have hD : va_D A (wMd t a (gSt σ 0 0 0)) := hD
    refine lv_aload_n hx hb d_Md_cost_16 rfl (lv_at hl 0 rfl) ?_
    refine va_get (D := D) (ci := 7) (v := .int ((gSt σ 0 0 0) 0 0)) (C := R_Md) (T := F_Md) (N := 34) hx hb hts (fun w h => List.mem_cons_of_mem _ (i_Md w h)) hown hK.1 hP 0 (wMd_0 t a (gSt σ 0 0 0)) rfl 0 (by decide) (hts (.fieldLink R_Md 93 "FlatBoxesModel" "code" "I") (List.mem_cons_of_mem _ (gIn k_666 (by decide +kernel)))) (fun _ h9 => h9) rfl d_Md_cost_17 ?_
    refine lv_topi (fun v_4 e_4 => ?_)
    obtain rfl : 0 = v_4 := (e_4.trans (rfl)).symm
    refine lv_if_le (tgt := 27) hx hb d_Md_cost_20 (by decide) (fun c_5 => ?_) (fun c_5 => ?_)
    · 
      have hS1 := hsh c_1
      refine lv_aload_n hx hb d_Md_cost_27 rfl (lv_at hl 0 rfl) ?_
      refine lv_aload_n hx hb d_Md_cost_28 rfl (lv_at hl 0 rfl) ?_
      refine lv_aload_n hx hb d_Md_cost_29 rfl (lv_at hl 0 rfl) ?_
      refine va_get (D := D) (ci := 7) (v := .ref (a 26)) (C := R_Md) (T := F_Md) (N := 34) hx hb hts (fun w h => List.mem_cons_of_mem _ (i_Md w h)) hown hK.1 hP 0 (wMd_0 t a (gSt σ 0 0 0)) rfl 26 (by decide) (hts (.fieldLink R_Md 68 "FlatBoxesModel" "shares" "[I") (List.mem_cons_of_mem _ (gIn k_692 (by decide +kernel)))) (fun _ h9 => h9) rfl d_Md_cost_30 ?_
      refine g_vi (k := 1) (As := [.ref (a 26)]) (rest := [.ref (a 0)]) (own := R_Md) (C := R_Md) (index := 144) ⟨hx, hb, hml, hown, hts⟩ (c_Md_setsOf_s l D t a (gSt σ 0 0 0) np rho hN hN8 (fun q hq => ⟨(hS1.1 q hq).1, by have := (hS1.1 q hq).2; have := hS1.2.1; omega⟩)) (gg_Md_144 _) (by decide +kernel) ⟨Nat.le_of_ble_eq_true rfl, Nat.le_of_ble_eq_true rfl⟩ rfl (va_recv hK.1 hP (ci := 7) (q0 := 0) rfl (wMd_0 t a (gSt σ 0 0 0))) hK hP hD hS hl.1 rfl (Nat.le_of_ble_eq_true rfl) ⟨Nat.zero_le _, Nat.zero_le _⟩ d_Md_cost_33 (fun r_6 u_6 H locs q_6 hP hD hS => ?_)
      obtain ⟨rfl, hu_6⟩ := q_6
      rw [hu_6] at hP hD
      refine lv_topi (fun v_7 e_7 => ?_)
      obtain rfl : nI nbx = v_7 := (e_7.trans (by rw [hS1.2.2.2.2])).symm
      refine g_vi (k := 1) (As := [.int (nI nbx)]) (rest := []) (own := R_Md) (C := R_Md) (index := 148) ⟨hx, hb, hml, hown, hts⟩ (c_Md_costOf l D t a ((mSets (gSt σ 0 0 0) rho np).1) nbx hS1.2.1 sx (fun b hb => ⟨(hS1.2.2.2.1 b hb).1, (hS1.2.2.2.1 b hb).2.1⟩) (fun b hb => Or.inr ⟨cx b, (hS1.2.2.2.1 b hb).2.2.2, (congrFun (mSets_fix _ rho (by decide) np) _).trans (hS1.2.2.2.1 b hb).2.2.1⟩)) (gg_Md_148 _) (by decide +kernel) ⟨Nat.le_of_ble_eq_true rfl, Nat.le_of_ble_eq_true rfl⟩ rfl (va_recv hK.1 hP (ci := 7) (q0 := 0) rfl (wMd_0 t a ((mSets (gSt σ 0 0 0) rho np).1))) hK hP hD hS hl.1 rfl (Nat.le_of_ble_eq_true rfl) ⟨Nat.zero_le _, Nat.zero_le _⟩ d_Md_cost_36 (fun r_8 u_8 H locs q_8 hP hD hS => ?_)
      obtain ⟨rfl, hu_8⟩ := q_8
      rw [hu_8] at hP hD
      exact W.iret (v := mCost ((mSets (gSt σ 0 0 0) rho np).1) sx nbx 0 0) hx hb hr (fun U hU hW => ⟨⟨mCost ((mSets (gSt σ 0 0 0) rho np).1) sx nbx 0 0, (mSets (gSt σ 0 0 0) rho np).1, rfl, by exact ⟨by simp [mCostR, c_1, c_5], by simp [mCostU, c_1, c_5]⟩, by rw [hU]; exact hP, hD⟩, hS.F hU⟩) hS.2.2 d_Md_cost_39
    · 
      exact absurd c_5 (by decide)
set_option maxHeartbeats 4000000 in
set_option maxRecDepth 100000 in
theorem c_Md_raised (l : Launch) (D : va_G) (t : Nat → ClassId) (a : Nat → Nat) (σ : Nat → Nat → Int32) (bv rm : Int32) (ord : Nat → Nat) (np nbx : Nat) (rho sx cx : Nat → Nat) (hN : σ 8 0 = nI np) (hN8 : np ≤ 8) (hsh : ¬ σ 24 0 = 0 → mShOK (gSt σ 0 0 0) np nbx rho sx cx) (hord : ∀ k, k < np → ord k < np ∧ mBT (σ 11) np (nI k) np 0 = nI (ord k)) : gMi l D t y_Md_raised b_Md_raised 4 (some .boolean) 3 [.ref (a 0), .int bv, .int rm] (wMd t a σ) (wMd t a) (fun r u => r = mRaiR σ nbx cx bv rm ∧ u = mRaiU σ np nbx rho ord sx cx bv rm) := by
  intro A
  refine Met.ofW (cc := b_Md_raised) (maxL := 4) (ret := (some .boolean)) (by decide) rfl ?_
  intro p e s m args below meth c s₁ B hml hv
  obtain ⟨rfl, hK, hP, hD⟩ := hv
  have hx := B.exec
  have hb := B.bytes
  have hr := B.returns
  have hts := atoms_spec (ws := .code y_Md_raised b_Md_raised 4 (some .boolean) :: gBig) B.pre
  have hown : s.vm.findClass R_Md = some m.cls := findClass_of_methodNamed B.named
  have hlocks := B.notSynchronized
  have hS : va_S A s.heap s.heap [] := va_S.rf
  have hl := lv_entry ([.ref (a 0), .int bv, .int rm]) (n := 4) (Nat.le_of_ble_eq_true rfl)
  rw [lg_entry_eq]
  generalize (lg_sl ([.ref (a 0), .int bv, .int rm]) ++ List.replicate (4 - (lg_sl ([.ref (a 0), .int bv, .int rm])).length) Slot.unset).toArray = ls at hl ⊢
  have hl : lv_has ls 4 [(0, .ref (a 0)), (1, .int bv), (2, .int rm)] := hl
  show gGo l p e s m below meth c D t A 3 [.ref (a 0), .int bv, .int rm] (wMd t a) (fun r u => r = mRaiR σ nbx cx bv rm ∧ u = mRaiU σ np nbx rho ord sx cx bv rm) s.heap [] (F0 m 0 ls [])
  refine lv_aload_n hx hb d_Md_raised_0 rfl (lv_at hl 0 rfl) ?_
  refine lv_aload_n hx hb d_Md_raised_1 rfl (lv_at hl 0 rfl) ?_
  refine va_get (D := D) (ci := 7) (v := .int (σ 24 0)) (C := R_Md) (T := F_Md) (N := 34) hx hb hts (fun w h => List.mem_cons_of_mem _ (i_Md w h)) hown hK.1 hP 0 (wMd_0 t a σ) rfl 24 (by decide) (hts (.fieldLink R_Md 108 "FlatBoxesModel" "hasShares" "Z") (List.mem_cons_of_mem _ (gIn k_690 (by decide +kernel)))) (fun _ h9 => h9) rfl d_Md_raised_2 ?_
  refine lv_if_ne (tgt := 12) hx hb d_Md_raised_5 (by decide) (fun c_1 => ?_) (fun c_1 => ?_)
  · 
    refine lv_iload_n hx hb d_Md_raised_12 rfl (lv_at hl 1 rfl) ?_
    refine lv_iconst (v := 0) hx hb d_Md_raised_13 (by decide) ?_
    refine lv_aload_n hx hb d_Md_raised_14 rfl (lv_at hl 0 rfl) ?_
    refine va_get (D := D) (ci := 7) (v := .int (σ 25 0)) (C := R_Md) (T := F_Md) (N := 34) hx hb hts (fun w h => List.mem_cons_of_mem _ (i_Md w h)) hown hK.1 hP 0 (wMd_0 t a σ) rfl 25 (by decide) (hts (.fieldLink R_Md 141 "FlatBoxesModel" "boxes" "I") (List.mem_cons_of_mem _ (gIn k_691 (by decide +kernel)))) (fun _ h9 => h9) rfl d_Md_raised_15 ?_
    refine lv_topi (fun v_2 e_2 => ?_)
    obtain rfl : nI nbx = v_2 := (e_2.trans ((hsh c_1).2.2.1)).symm
    refine lv_iconst (v := 1) hx hb d_Md_raised_18 (by decide) ?_
    refine lv_isub hx hb d_Md_raised_19 ?_
    refine g_si (k := 3) (As := [.int bv, .int 0, .int ((nI nbx) - 1)]) (rest := [.ref (a 0)]) (own := R_Md) (index := 96) ⟨hx, hb, hml, hown, hts⟩ (c_Md_in l D t a σ bv 0 ((nI nbx) - 1)) (gg_Md_96 _) (by decide +kernel) ⟨Nat.le_of_ble_eq_true rfl, Nat.le_of_ble_eq_true rfl⟩ rfl hK hP hD hS hl.1 rfl (Nat.le_of_ble_eq_true rfl) ⟨Nat.zero_le _, Nat.zero_le _⟩ d_Md_raised_20 (fun r_3 u_3 H locs q_3 hP hD hS => ?_)
    obtain ⟨rfl, hu_3⟩ := q_3
    rw [hu_3] at hP hD
    refine lv_if_ne (tgt := 30) hx hb d_Md_raised_23 (by decide) (fun c_4 => ?_) (fun c_4 => ?_)
    · 
      refine lv_iload_n hx hb d_Md_raised_30 rfl (lv_at hl 2 rfl) ?_
      refine lv_iconst (v := 1) hx hb d_Md_raised_31 (by decide) ?_
      refine lv_sipush (v := 1000) hx hb d_Md_raised_32 (by decide) ?_
      refine g_si (k := 3) (As := [.int rm, .int 1, .int 1000]) (rest := [.ref (a 0)]) (own := R_Md) (index := 96) ⟨hx, hb, hml, hown, hts⟩ (c_Md_in l D t a σ rm 1 1000) (gg_Md_96 _) (by decide +kernel) ⟨Nat.le_of_ble_eq_true rfl, Nat.le_of_ble_eq_true rfl⟩ rfl hK hP hD hS hl.1 rfl (Nat.le_of_ble_eq_true rfl) ⟨Nat.zero_le _, Nat.zero_le _⟩ d_Md_raised_35 (fun r_5 u_5 H locs q_5 hP hD hS => ?_)
      obtain ⟨rfl, hu_5⟩ := q_5
      rw [hu_5] at hP hD
      refine lv_if_ne (tgt := 45) hx hb d_Md_raised_38 (by decide) (fun c_6 => ?_) (fun c_6 => ?_)
      · 
        refine lv_iconst (v := 0) hx hb d_Md_raised_45 (by decide) ?_
        refine va_put (D := D) (ci := 7) (v := .int 0) (ty := .int) (C := R_Md) (T := F_Md) (N := 34) hx hb hts (fun w h => List.mem_cons_of_mem _ (i_Md w h)) t_Md t_Md_ok n_Md hown hK.1 hP hD hS 0 (wMd_0 t a σ) rfl 0 (by decide) (hts (.fieldLink R_Md 93 "FlatBoxesModel" "code" "I") (List.mem_cons_of_mem _ (gIn k_666 (by decide +kernel)))) (fun _ h9 => h9) rfl (by decide +kernel) rfl rfl (Nat.le_of_ble_eq_true rfl) d_Md_raised_46 (fun H locs hP hD hS => ?_)
        have hP : va_P D gCl (wMd t a (gSt σ 0 0 0)) H := hP
        have hD : va_D A (wMd t a (gSt σ 0 0 0)) := hD
        refine lv_aload_n hx hb d_Md_raised_49 rfl (lv_at hl 0 rfl) ?_
        refine va_get (D := D) (ci := 7) (v := .int ((gSt σ 0 0 0) 0 0)) (C := R_Md) (T := F_Md) (N := 34) hx hb hts (fun w h => List.mem_cons_of_mem _ (i_Md w h)) hown hK.1 hP 0 (wMd_0 t a (gSt σ 0 0 0)) rfl 0 (by decide) (hts (.fieldLink R_Md 93 "FlatBoxesModel" "code" "I") (List.mem_cons_of_mem _ (gIn k_666 (by decide +kernel)))) (fun _ h9 => h9) rfl d_Md_raised_50 ?_
        refine lv_topi (fun v_7 e_7 => ?_)
        obtain rfl : 0 = v_7 := (e_7.trans (rfl)).symm
        refine lv_if_le (tgt := 58) hx hb d_Md_raised_53 (by decide) (fun c_8 => ?_) (fun c_8 => ?_)
        · 
          have hS1 := hsh c_1
          have hn8 := hS1.2.1
          obtain ⟨b, hb9, rfl⟩ := mIn_nat (n := nbx) (by omega) c_4
          have hS2 := hS1.2.2.2.1 b hb9
          have hc4 := hS2.2.2.2
          refine lv_aload_n hx hb d_Md_raised_58 rfl (lv_at hl 0 rfl) ?_
          refine lv_iload_n hx hb d_Md_raised_59 rfl (lv_at hl 1 rfl) ?_
          refine g_vi (k := 1) (As := [.int (nI b)]) (rest := []) (own := R_Md) (C := R_Md) (index := 155) ⟨hx, hb, hml, hown, hts⟩ (c_Md_packBox l D t a (gSt σ 0 0 0) b np (sx b) (cx b) rho ord hN hN8 (by omega) (fun q hq => ⟨(hS1.1 q hq).1, by have := (hS1.1 q hq).2; have := hS1.2.1; omega⟩) hS2.1 hS2.2.1 hS2.2.2.1 hS2.2.2.2 hord) (gg_Md_155 _) (by decide +kernel) ⟨Nat.le_of_ble_eq_true rfl, Nat.le_of_ble_eq_true rfl⟩ rfl (va_recv hK.1 hP (ci := 7) (q0 := 0) rfl (wMd_0 t a (gSt σ 0 0 0))) hK hP hD hS hl.1 rfl (Nat.le_of_ble_eq_true rfl) ⟨Nat.zero_le _, Nat.zero_le _⟩ d_Md_raised_60 (fun r_9 u_9 H locs q_9 hP hD hS => ?_)
          obtain ⟨rfl, hu_9⟩ := q_9
          rw [hu_9] at hP hD
          have hP : va_P D gCl (wMd t a (mBoxU (gSt σ 0 0 0) rho ord sx cx np b)) H := hP
          have hD : va_D A (wMd t a (mBoxU (gSt σ 0 0 0) rho ord sx cx np b)) := hD
          refine lv_istore_n (lv' := [(3, .int (nI (cx b))), (0, .ref (a 0)), (1, .int (nI b)), (2, .int rm)]) hx hb d_Md_raised_63 rfl hl (by decide) rfl (fun ls hl => ?_)
          refine lv_aload_n hx hb d_Md_raised_64 rfl (lv_at hl 1 rfl) ?_
          refine va_get (D := D) (ci := 7) (v := .ref (a 4)) (C := R_Md) (T := F_Md) (N := 34) hx hb hts (fun w h => List.mem_cons_of_mem _ (i_Md w h)) hown hK.1 hP 0 (wMd_0 t a (mBoxU (gSt σ 0 0 0) rho ord sx cx np b)) rfl 4 (by decide) (hts (.fieldLink R_Md 13 "FlatBoxesModel" "depths" "[I") (List.mem_cons_of_mem _ (gIn k_670 (by decide +kernel)))) (fun _ h9 => h9) rfl d_Md_raised_65 ?_
          refine lv_iload_n hx hb d_Md_raised_68 rfl (lv_at hl 0 rfl) ?_
          refine g_iald hx hb hK.1 hP 2 0 (wMd_4 t a (mBoxU (gSt σ 0 0 0) rho ord sx cx np b)) rfl (cx b) (rfl) (by omega) (by decide) d_Md_raised_69 ?_
          refine lv_topi (fun v_10 e_10 => ?_)
          obtain rfl : σ 4 (cx b) = v_10 := (e_10.trans (congrFun (mBoxU_fix (gSt σ 0 0 0) rho ord sx cx np b (by omega) (by decide)) _)).symm
          refine lv_aload_n hx hb d_Md_raised_70 rfl (lv_at hl 1 rfl) ?_
          refine va_get (D := D) (ci := 7) (v := .ref (a 4)) (C := R_Md) (T := F_Md) (N := 34) hx hb hts (fun w h => List.mem_cons_of_mem _ (i_Md w h)) hown hK.1 hP 0 (wMd_0 t a (mBoxU (gSt σ 0 0 0) rho ord sx cx np b)) rfl 4 (by decide) (hts (.fieldLink R_Md 13 "FlatBoxesModel" "depths" "[I") (List.mem_cons_of_mem _ (gIn k_670 (by decide +kernel)))) (fun _ h9 => h9) rfl d_Md_raised_71 ?_
          refine lv_iload_n hx hb d_Md_raised_74 rfl (lv_at hl 0 rfl) ?_
          refine g_iald hx hb hK.1 hP 2 0 (wMd_4 t a (mBoxU (gSt σ 0 0 0) rho ord sx cx np b)) rfl (cx b) (rfl) (by omega) (by decide) d_Md_raised_75 ?_
          refine lv_topi (fun v_11 e_11 => ?_)
          obtain rfl : σ 4 (cx b) = v_11 := (e_11.trans (congrFun (mBoxU_fix (gSt σ 0 0 0) rho ord sx cx np b (by omega) (by decide)) _)).symm
          refine lv_imul hx hb d_Md_raised_76 ?_
          refine lv_aload_n hx hb d_Md_raised_77 rfl (lv_at hl 1 rfl) ?_
          refine va_get (D := D) (ci := 7) (v := .ref (a 5)) (C := R_Md) (T := F_Md) (N := 34) hx hb hts (fun w h => List.mem_cons_of_mem _ (i_Md w h)) hown hK.1 hP 0 (wMd_0 t a (mBoxU (gSt σ 0 0 0) rho ord sx cx np b)) rfl 5 (by decide) (hts (.fieldLink R_Md 16 "FlatBoxesModel" "heights" "[I") (List.mem_cons_of_mem _ (gIn k_671 (by decide +kernel)))) (fun _ h9 => h9) rfl d_Md_raised_78 ?_
          refine lv_iload_n hx hb d_Md_raised_81 rfl (lv_at hl 0 rfl) ?_
          refine g_iald hx hb hK.1 hP 3 0 (wMd_5 t a (mBoxU (gSt σ 0 0 0) rho ord sx cx np b)) rfl (cx b) (rfl) (by omega) (by decide) d_Md_raised_82 ?_
          refine lv_topi (fun v_12 e_12 => ?_)
          obtain rfl : σ 5 (cx b) = v_12 := (e_12.trans (congrFun (mBoxU_fix (gSt σ 0 0 0) rho ord sx cx np b (by omega) (by decide)) _)).symm
          refine lv_aload_n hx hb d_Md_raised_83 rfl (lv_at hl 1 rfl) ?_
          refine va_get (D := D) (ci := 7) (v := .ref (a 5)) (C := R_Md) (T := F_Md) (N := 34) hx hb hts (fun w h => List.mem_cons_of_mem _ (i_Md w h)) hown hK.1 hP 0 (wMd_0 t a (mBoxU (gSt σ 0 0 0) rho ord sx cx np b)) rfl 5 (by decide) (hts (.fieldLink R_Md 16 "FlatBoxesModel" "heights" "[I") (List.mem_cons_of_mem _ (gIn k_671 (by decide +kernel)))) (fun _ h9 => h9) rfl d_Md_raised_84 ?_
          refine lv_iload_n hx hb d_Md_raised_87 rfl (lv_at hl 0 rfl) ?_
          refine g_iald hx hb hK.1 hP 3 0 (wMd_5 t a (mBoxU (gSt σ 0 0 0) rho ord sx cx np b)) rfl (cx b) (rfl) (by omega) (by decide) d_Md_raised_88 ?_
          refine lv_topi (fun v_13 e_13 => ?_)
          obtain rfl : σ 5 (cx b) = v_13 := (e_13.trans (congrFun (mBoxU_fix (gSt σ 0 0 0) rho ord sx cx np b (by omega) (by decide)) _)).symm
          refine lv_imul hx hb d_Md_raised_89 ?_
          refine lv_iadd hx hb d_Md_raised_90 ?_
          refine lv_iload_n hx hb d_Md_raised_91 rfl (lv_at hl 3 rfl) ?_
          refine lv_iload_n hx hb d_Md_raised_92 rfl (lv_at hl 3 rfl) ?_
          refine lv_imul hx hb d_Md_raised_93 ?_
          refine lv_icmp_gt (tgt := 101) hx hb d_Md_raised_94 (by decide) (fun c_14 => ?_) (fun c_14 => ?_)
          · 
            refine lv_iconst (v := 0) hx hb d_Md_raised_101 (by decide) ?_
            exact W.zret (v := 0) (ty := .boolean) hx hb hr (rfl) (fun U hU hW => ⟨⟨0, mBoxU (gSt σ 0 0 0) rho ord sx cx np b, rfl, by exact ⟨by simp [mRaiR, mRaiC, mRaiV, nI_clamp (show b < 2 ^ 31 by omega), c_1, c_4, c_6, c_8, c_14], by simp [mRaiU, mRaiC, nI_clamp (show b < 2 ^ 31 by omega), c_1, c_4, c_6, c_8, c_14]⟩, by rw [hU]; exact hP, hD⟩, hS.F hU⟩) hS.2.2 d_Md_raised_102
          · 
            refine lv_iconst (v := 1) hx hb d_Md_raised_97 (by decide) ?_
            refine lv_goto (tgt := 102) hx hb d_Md_raised_98 (by decide) ?_
            exact W.zret (v := 1) (ty := .boolean) hx hb hr (rfl) (fun U hU hW => ⟨⟨1, mBoxU (gSt σ 0 0 0) rho ord sx cx np b, rfl, by exact ⟨by simp [mRaiR, mRaiC, mRaiV, nI_clamp (show b < 2 ^ 31 by omega), c_1, c_4, c_6, c_8, c_14], by simp [mRaiU, mRaiC, nI_clamp (show b < 2 ^ 31 by omega), c_1, c_4, c_6, c_8, c_14]⟩, by rw [hU]; exact hP, hD⟩, hS.F hU⟩) hS.2.2 d_Md_raised_102
        · 
          exact absurd c_8 (by decide)
      · 
        refine lv_iconst (v := 3) hx hb d_Md_raised_41 (by decide) ?_
        refine lv_goto (tgt := 46) hx hb d_Md_raised_42 (by decide) ?_
        refine va_put (D := D) (ci := 7) (v := .int 3) (ty := .int) (C := R_Md) (T := F_Md) (N := 34) hx hb hts (fun w h => List.mem_cons_of_mem _ (i_Md w h)) t_Md t_Md_ok n_Md hown hK.1 hP hD hS 0 (wMd_0 t a σ) rfl 0 (by decide) (hts (.fieldLink R_Md 93 "FlatBoxesModel" "code" "I") (List.mem_cons_of_mem _ (gIn k_666 (by decide +kernel)))) (fun _ h9 => h9) rfl (by decide +kernel) rfl rfl (Nat.le_of_ble_eq_true rfl) d_Md_raised_46 (fun H locs hP hD hS => ?_)
        have hP : va_P D gCl (wMd t a (gSt σ 0 0 3)) H := hP
        have hD : va_D A (wMd t a (gSt σ 0 0 3)) := hD
        refine lv_aload_n hx hb d_Md_raised_49 rfl (lv_at hl 0 rfl) ?_
        refine va_get (D := D) (ci := 7) (v := .int ((gSt σ 0 0 3) 0 0)) (C := R_Md) (T := F_Md) (N := 34) hx hb hts (fun w h => List.mem_cons_of_mem _ (i_Md w h)) hown hK.1 hP 0 (wMd_0 t a (gSt σ 0 0 3)) rfl 0 (by decide) (hts (.fieldLink R_Md 93 "FlatBoxesModel" "code" "I") (List.mem_cons_of_mem _ (gIn k_666 (by decide +kernel)))) (fun _ h9 => h9) rfl d_Md_raised_50 ?_
        refine lv_topi (fun v_15 e_15 => ?_)
        obtain rfl : 3 = v_15 := (e_15.trans (rfl)).symm
        refine lv_if_le (tgt := 58) hx hb d_Md_raised_53 (by decide) (fun c_16 => ?_) (fun c_16 => ?_)
        · 
          exact absurd c_16 (by decide)
        · 
          refine lv_iconst (v := 0) hx hb d_Md_raised_56 (by decide) ?_
          exact W.zret (v := 0) (ty := .boolean) hx hb hr (rfl) (fun U hU hW => ⟨⟨0, gSt σ 0 0 3, rfl, by exact ⟨by simp [mRaiR, mRaiC, c_1, c_4, c_6, c_16], by simp [mRaiU, mRaiC, c_1, c_4, c_6, c_16]⟩, by rw [hU]; exact hP, hD⟩, hS.F hU⟩) hS.2.2 d_Md_raised_57
    · 
      refine lv_iconst (v := 2) hx hb d_Md_raised_26 (by decide) ?_
      refine lv_goto (tgt := 46) hx hb d_Md_raised_27 (by decide) ?_
      refine va_put (D := D) (ci := 7) (v := .int 2) (ty := .int) (C := R_Md) (T := F_Md) (N := 34) hx hb hts (fun w h => List.mem_cons_of_mem _ (i_Md w h)) t_Md t_Md_ok n_Md hown hK.1 hP hD hS 0 (wMd_0 t a σ) rfl 0 (by decide) (hts (.fieldLink R_Md 93 "FlatBoxesModel" "code" "I") (List.mem_cons_of_mem _ (gIn k_666 (by decide +kernel)))) (fun _ h9 => h9) rfl (by decide +kernel) rfl rfl (Nat.le_of_ble_eq_true rfl) d_Md_raised_46 (fun H locs hP hD hS => ?_)
      have hP : va_P D gCl (wMd t a (gSt σ 0 0 2)) H := hP
      have hD : va_D A (wMd t a (gSt σ 0 0 2)) := hD
      refine lv_aload_n hx hb d_Md_raised_49 rfl (lv_at hl 0 rfl) ?_
      refine va_get (D := D) (ci := 7) (v := .int ((gSt σ 0 0 2) 0 0)) (C := R_Md) (T := F_Md) (N := 34) hx hb hts (fun w h => List.mem_cons_of_mem _ (i_Md w h)) hown hK.1 hP 0 (wMd_0 t a (gSt σ 0 0 2)) rfl 0 (by decide) (hts (.fieldLink R_Md 93 "FlatBoxesModel" "code" "I") (List.mem_cons_of_mem _ (gIn k_666 (by decide +kernel)))) (fun _ h9 => h9) rfl d_Md_raised_50 ?_
      refine lv_topi (fun v_17 e_17 => ?_)
      obtain rfl : 2 = v_17 := (e_17.trans (rfl)).symm
      refine lv_if_le (tgt := 58) hx hb d_Md_raised_53 (by decide) (fun c_18 => ?_) (fun c_18 => ?_)
      · 
        exact absurd c_18 (by decide)
      · 
        refine lv_iconst (v := 0) hx hb d_Md_raised_56 (by decide) ?_
        exact W.zret (v := 0) (ty := .boolean) hx hb hr (rfl) (fun U hU hW => ⟨⟨0, gSt σ 0 0 2, rfl, by exact ⟨by simp [mRaiR, mRaiC, c_1, c_4, c_18], by simp [mRaiU, mRaiC, c_1, c_4, c_18]⟩, by rw [hU]; exact hP, hD⟩, hS.F hU⟩) hS.2.2 d_Md_raised_57
  · 
    refine lv_iconst (v := 1) hx hb d_Md_raised_8 (by decide) ?_
    refine lv_goto (tgt := 46) hx hb d_Md_raised_9 (by decide) ?_
    refine va_put (D := D) (ci := 7) (v := .int 1) (ty := .int) (C := R_Md) (T := F_Md) (N := 34) hx hb hts (fun w h => List.mem_cons_of_mem _ (i_Md w h)) t_Md t_Md_ok n_Md hown hK.1 hP hD hS 0 (wMd_0 t a σ) rfl 0 (by decide) (hts (.fieldLink R_Md 93 "FlatBoxesModel" "code" "I") (List.mem_cons_of_mem _ (gIn k_666 (by decide +kernel)))) (fun _ h9 => h9) rfl (by decide +kernel) rfl rfl (Nat.le_of_ble_eq_true rfl) d_Md_raised_46 (fun H locs hP hD hS => ?_)
    have hP : va_P D gCl (wMd t a (gSt σ 0 0 1)) H := hP
    have hD : va_D A (wMd t a (gSt σ 0 0 1)) := hD
    refine lv_aload_n hx hb d_Md_raised_49 rfl (lv_at hl 0 rfl) ?_
    refine va_get (D := D) (ci := 7) (v := .int ((gSt σ 0 0 1) 0 0)) (C := R_Md) (T := F_Md) (N := 34) hx hb hts (fun w h => List.mem_cons_of_mem _ (i_Md w h)) hown hK.1 hP 0 (wMd_0 t a (gSt σ 0 0 1)) rfl 0 (by decide) (hts (.fieldLink R_Md 93 "FlatBoxesModel" "code" "I") (List.mem_cons_of_mem _ (gIn k_666 (by decide +kernel)))) (fun _ h9 => h9) rfl d_Md_raised_50 ?_
    refine lv_topi (fun v_19 e_19 => ?_)
    obtain rfl : 1 = v_19 := (e_19.trans (rfl)).symm
    refine lv_if_le (tgt := 58) hx hb d_Md_raised_53 (by decide) (fun c_20 => ?_) (fun c_20 => ?_)
    · 
      exact absurd c_20 (by decide)
    · 
      refine lv_iconst (v := 0) hx hb d_Md_raised_56 (by decide) ?_
      exact W.zret (v := 0) (ty := .boolean) hx hb hr (rfl) (fun U hU hW => ⟨⟨0, gSt σ 0 0 1, rfl, by exact ⟨by simp [mRaiR, mRaiC, c_1, c_20], by simp [mRaiU, mRaiC, c_1, c_20]⟩, by rw [hU]; exact hP, hD⟩, hS.F hU⟩) hS.2.2 d_Md_raised_57
set_option maxHeartbeats 4000000 in
set_option maxRecDepth 100000 in
theorem c_Md_pallets (l : Launch) (D : va_G) (t : Nat → ClassId) (a : Nat → Nat) (σ : Nat → Nat → Int32) (lm : Int32) (np nbx : Nat) (rho sx cx : Nat → Nat) (hN : σ 8 0 = nI np) (hN8 : np ≤ 8) (hsh : ¬ σ 24 0 = 0 → mShOK (gSt σ 0 0 0) np nbx rho sx cx) : gMi l D t y_Md_pallets b_Md_pallets 8 (some .int) 2 [.ref (a 0), .int lm] (wMd t a σ) (wMd t a) (fun r u => r = mPalR σ np nbx rho sx lm ∧ u = mPalU σ np rho lm) := by
  intro A
  refine Met.ofW (cc := b_Md_pallets) (maxL := 8) (ret := (some .int)) (by decide) rfl ?_
  intro p e s m args below meth c s₁ B hml hv
  obtain ⟨rfl, hK, hP, hD⟩ := hv
  have hx := B.exec
  have hb := B.bytes
  have hr := B.returns
  have hts := atoms_spec (ws := .code y_Md_pallets b_Md_pallets 8 (some .int) :: gBig) B.pre
  have hown : s.vm.findClass R_Md = some m.cls := findClass_of_methodNamed B.named
  have hlocks := B.notSynchronized
  have hS : va_S A s.heap s.heap [] := va_S.rf
  have hl := lv_entry ([.ref (a 0), .int lm]) (n := 8) (Nat.le_of_ble_eq_true rfl)
  rw [lg_entry_eq]
  generalize (lg_sl ([.ref (a 0), .int lm]) ++ List.replicate (8 - (lg_sl ([.ref (a 0), .int lm])).length) Slot.unset).toArray = ls at hl ⊢
  have hl : lv_has ls 8 [(0, .ref (a 0)), (1, .int lm)] := hl
  show gGo l p e s m below meth c D t A 2 [.ref (a 0), .int lm] (wMd t a) (fun r u => r = mPalR σ np nbx rho sx lm ∧ u = mPalU σ np rho lm) s.heap [] (F0 m 0 ls [])
  have cut_58 : ∀ (n : Nat) (b : Nat) (m1 : Nat) (pn : Int32) (th : Int32) (τ : Nat → Nat → Int32) (H : Heap) (locs : List Loc) (ls : Array Slot), (b ≤ m1) → (m1 ≤ 8) → (m1 + 1 ≤ b + n) → (mPal (fun b => mGrams τ (nI (sx b)) np) lm b = (pn, th)) → (τ 8 0 = nI np) → (∀ b, b < m1 → τ 28 b = nI (sx b)) → (mPalU σ np rho lm = τ) → (mPalR σ np nbx rho sx lm = (mPal (fun b => mGrams τ (nI (sx b)) np) lm m1).1) → va_P D gCl (wMd t a τ) H → va_D A (wMd t a τ) → va_S A s.heap H locs → lv_has ls 8 [(0, .ref (a 0)), (1, .int lm), (2, .int pn), (3, .int th), (4, .int (nI m1)), (5, .int (nI b))] → gGo l p e s m below meth c D t A 2 [.ref (a 0), .int lm] (wMd t a) (fun r u => r = mPalR σ np nbx rho sx lm ∧ u = mPalU σ np rho lm) H locs (F0 m 58 ls []) := by
    intro n
    induction n with
    | zero =>
      intro b m1 pn th τ H locs ls hb1 hm8 hf hs h8 hsx hu hmain hP hD hS hl
      exact absurd hf (by omega)
    | succ n ih =>
      intro b m1 pn th τ H locs ls hb1 hm8 hf hs h8 hsx hu hmain hP hD hS hl
      refine lv_iload hx hb d_Md_pallets_58 (lv_at hl 5 rfl) ?_
      refine lv_iload hx hb d_Md_pallets_60 (lv_at hl 4 rfl) ?_
      refine lv_icmp_ge (tgt := 131) hx hb d_Md_pallets_62 (by decide) (fun c_1 => ?_) (fun c_1 => ?_)
      · 
        have h_1 : m1 ≤ b := (nI_leI (a := m1) (b := b) (by omega) (by omega)).mp c_1
        refine lv_iload_n hx hb d_Md_pallets_131 rfl (lv_at hl 2 rfl) ?_
        exact W.iret (v := pn) hx hb hr (fun U hU hW => ⟨⟨pn, τ, rfl, by obtain rfl : b = m1 := (by omega); exact ⟨by rw [hmain, hs], hu.symm⟩, by rw [hU]; exact hP, hD⟩, hS.F hU⟩) hS.2.2 d_Md_pallets_132
      · 
        have h_1 : ¬ m1 ≤ b := fun q9 => c_1 ((nI_leI (a := m1) (b := b) (by omega) (by omega)).mpr q9)
        refine lv_aload_n hx hb d_Md_pallets_65 rfl (lv_at hl 0 rfl) ?_
        refine lv_aload_n hx hb d_Md_pallets_66 rfl (lv_at hl 0 rfl) ?_
        refine va_get (D := D) (ci := 7) (v := .ref (a 28)) (C := R_Md) (T := F_Md) (N := 34) hx hb hts (fun w h => List.mem_cons_of_mem _ (i_Md w h)) hown hK.1 hP 0 (wMd_0 t a τ) rfl 28 (by decide) (hts (.fieldLink R_Md 74 "FlatBoxesModel" "sets" "[I") (List.mem_cons_of_mem _ (gIn k_694 (by decide +kernel)))) (fun _ h9 => h9) rfl d_Md_pallets_67 ?_
        refine lv_iload hx hb d_Md_pallets_70 (lv_at hl 5 rfl) ?_
        refine g_iald hx hb hK.1 hP 22 0 (wMd_28 t a τ) rfl b (rfl) (by omega) (by decide) d_Md_pallets_72 ?_
        refine lv_topi (fun v_2 e_2 => ?_)
        obtain rfl : nI (sx b) = v_2 := (e_2.trans (hsx b (by omega))).symm
        refine g_vi (k := 1) (As := [.int (nI (sx b))]) (rest := []) (own := R_Md) (C := R_Md) (index := 161) ⟨hx, hb, hml, hown, hts⟩ (c_Md_gramsOf l D t a τ (nI (sx b)) np (h8) (hN8)) (gg_Md_161 _) (by decide +kernel) ⟨Nat.le_of_ble_eq_true rfl, Nat.le_of_ble_eq_true rfl⟩ rfl (va_recv hK.1 hP (ci := 7) (q0 := 0) rfl (wMd_0 t a τ)) hK hP hD hS hl.1 rfl (Nat.le_of_ble_eq_true rfl) ⟨Nat.zero_le _, Nat.zero_le _⟩ d_Md_pallets_73 (fun r_3 u_3 H locs q_3 hP hD hS => ?_)
        obtain ⟨rfl, hu_3⟩ := q_3
        rw [hu_3] at hP hD
        refine lv_istore (lv' := [(6, .int (mGrams τ (nI (sx b)) np)), (0, .ref (a 0)), (1, .int lm), (2, .int pn), (3, .int th), (4, .int (nI m1)), (5, .int (nI b))]) hx hb d_Md_pallets_76 hl (by decide) rfl (fun ls hl => ?_)
        refine lv_iload_n hx hb d_Md_pallets_78 rfl (lv_at hl 3 rfl) ?_
        refine lv_if_le (tgt := 94) hx hb d_Md_pallets_79 (by decide) (fun c_4 => ?_) (fun c_4 => ?_)
        · 
          refine lv_iconst (v := 0) hx hb d_Md_pallets_94 (by decide) ?_
          refine lv_istore (lv' := [(7, .int 0), (6, .int (mGrams τ (nI (sx b)) np)), (0, .ref (a 0)), (1, .int lm), (2, .int pn), (3, .int th), (4, .int (nI m1)), (5, .int (nI b))]) hx hb d_Md_pallets_95 hl (by decide) rfl (fun ls hl => ?_)
          refine lv_iload hx hb d_Md_pallets_97 (lv_at hl 0 rfl) ?_
          refine lv_if_eq (tgt := 109) hx hb d_Md_pallets_99 (by decide) (fun c_5 => ?_) (fun c_5 => ?_)
          · 
            refine lv_iload hx hb d_Md_pallets_109 (lv_at hl 1 rfl) ?_
            refine lv_istore_n (lv' := [(3, .int (mGrams τ (nI (sx b)) np)), (7, .int 0), (6, .int (mGrams τ (nI (sx b)) np)), (0, .ref (a 0)), (1, .int lm), (2, .int pn), (4, .int (nI m1)), (5, .int (nI b))]) hx hb d_Md_pallets_111 rfl hl (by decide) rfl (fun ls hl => ?_)
            refine lv_iload_n hx hb d_Md_pallets_112 rfl (lv_at hl 5 rfl) ?_
            refine lv_iload hx hb d_Md_pallets_113 (lv_at hl 1 rfl) ?_
            refine lv_if_eq (tgt := 122) hx hb d_Md_pallets_115 (by decide) (fun c_6 => ?_) (fun c_6 => ?_)
            · 
              refine lv_iconst (v := 1) hx hb d_Md_pallets_122 (by decide) ?_
              refine lv_iadd hx hb d_Md_pallets_123 ?_
              refine lv_istore_n (lv' := [(2, .int (pn + 1)), (3, .int (mGrams τ (nI (sx b)) np)), (7, .int 0), (6, .int (mGrams τ (nI (sx b)) np)), (0, .ref (a 0)), (1, .int lm), (4, .int (nI m1)), (5, .int (nI b))]) hx hb d_Md_pallets_124 rfl hl (by decide) rfl (fun ls hl => ?_)
              refine lv_iinc (v := nI (b + 1)) (lv' := [(5, .int (nI (b + 1))), (2, .int (pn + 1)), (3, .int (mGrams τ (nI (sx b)) np)), (7, .int 0), (6, .int (mGrams τ (nI (sx b)) np)), (0, .ref (a 0)), (1, .int lm), (4, .int (nI m1))]) hx hb d_Md_pallets_125 hl (k := 7) rfl (nI_1 b) (by decide) rfl (fun ls hl => ?_)
              refine lv_goto (tgt := 58) hx hb d_Md_pallets_128 (by decide) ?_
              exact ih (b + 1) m1 (pn + 1) (mGrams τ (nI (sx b)) np) τ _ _ _ (by omega) (by omega) (by omega) (by simp [mPal, hs, c_1, h_1, c_4, c_5, c_6]) (h8) (hsx) (hu) (hmain) hP hD hS (lv_sub hl [5, 6, 1, 2, 7, 0] rfl)
            · 
              exact absurd c_6 (by decide)
          · 
            exact absurd c_5 (by decide)
        · 
          refine lv_iload_n hx hb d_Md_pallets_82 rfl (lv_at hl 4 rfl) ?_
          refine lv_iload hx hb d_Md_pallets_83 (lv_at hl 0 rfl) ?_
          refine lv_iadd hx hb d_Md_pallets_85 ?_
          refine lv_iload_n hx hb d_Md_pallets_86 rfl (lv_at hl 2 rfl) ?_
          refine lv_icmp_gt (tgt := 94) hx hb d_Md_pallets_87 (by decide) (fun c_7 => ?_) (fun c_7 => ?_)
          · 
            refine lv_iconst (v := 0) hx hb d_Md_pallets_94 (by decide) ?_
            refine lv_istore (lv' := [(7, .int 0), (6, .int (mGrams τ (nI (sx b)) np)), (0, .ref (a 0)), (1, .int lm), (2, .int pn), (3, .int th), (4, .int (nI m1)), (5, .int (nI b))]) hx hb d_Md_pallets_95 hl (by decide) rfl (fun ls hl => ?_)
            refine lv_iload hx hb d_Md_pallets_97 (lv_at hl 0 rfl) ?_
            refine lv_if_eq (tgt := 109) hx hb d_Md_pallets_99 (by decide) (fun c_8 => ?_) (fun c_8 => ?_)
            · 
              refine lv_iload hx hb d_Md_pallets_109 (lv_at hl 1 rfl) ?_
              refine lv_istore_n (lv' := [(3, .int (mGrams τ (nI (sx b)) np)), (7, .int 0), (6, .int (mGrams τ (nI (sx b)) np)), (0, .ref (a 0)), (1, .int lm), (2, .int pn), (4, .int (nI m1)), (5, .int (nI b))]) hx hb d_Md_pallets_111 rfl hl (by decide) rfl (fun ls hl => ?_)
              refine lv_iload_n hx hb d_Md_pallets_112 rfl (lv_at hl 5 rfl) ?_
              refine lv_iload hx hb d_Md_pallets_113 (lv_at hl 1 rfl) ?_
              refine lv_if_eq (tgt := 122) hx hb d_Md_pallets_115 (by decide) (fun c_9 => ?_) (fun c_9 => ?_)
              · 
                refine lv_iconst (v := 1) hx hb d_Md_pallets_122 (by decide) ?_
                refine lv_iadd hx hb d_Md_pallets_123 ?_
                refine lv_istore_n (lv' := [(2, .int (pn + 1)), (3, .int (mGrams τ (nI (sx b)) np)), (7, .int 0), (6, .int (mGrams τ (nI (sx b)) np)), (0, .ref (a 0)), (1, .int lm), (4, .int (nI m1)), (5, .int (nI b))]) hx hb d_Md_pallets_124 rfl hl (by decide) rfl (fun ls hl => ?_)
                refine lv_iinc (v := nI (b + 1)) (lv' := [(5, .int (nI (b + 1))), (2, .int (pn + 1)), (3, .int (mGrams τ (nI (sx b)) np)), (7, .int 0), (6, .int (mGrams τ (nI (sx b)) np)), (0, .ref (a 0)), (1, .int lm), (4, .int (nI m1))]) hx hb d_Md_pallets_125 hl (k := 7) rfl (nI_1 b) (by decide) rfl (fun ls hl => ?_)
                refine lv_goto (tgt := 58) hx hb d_Md_pallets_128 (by decide) ?_
                exact ih (b + 1) m1 (pn + 1) (mGrams τ (nI (sx b)) np) τ _ _ _ (by omega) (by omega) (by omega) (by simp [mPal, hs, c_1, h_1, c_4, c_7, c_8, c_9]) (h8) (hsx) (hu) (hmain) hP hD hS (lv_sub hl [5, 6, 1, 2, 7, 0] rfl)
              · 
                exact absurd c_9 (by decide)
            · 
              exact absurd c_8 (by decide)
          · 
            refine lv_iconst (v := 1) hx hb d_Md_pallets_90 (by decide) ?_
            refine lv_goto (tgt := 95) hx hb d_Md_pallets_91 (by decide) ?_
            refine lv_istore (lv' := [(7, .int 1), (6, .int (mGrams τ (nI (sx b)) np)), (0, .ref (a 0)), (1, .int lm), (2, .int pn), (3, .int th), (4, .int (nI m1)), (5, .int (nI b))]) hx hb d_Md_pallets_95 hl (by decide) rfl (fun ls hl => ?_)
            refine lv_iload hx hb d_Md_pallets_97 (lv_at hl 0 rfl) ?_
            refine lv_if_eq (tgt := 109) hx hb d_Md_pallets_99 (by decide) (fun c_10 => ?_) (fun c_10 => ?_)
            · 
              exact absurd c_10 (by decide)
            · 
              refine lv_iload_n hx hb d_Md_pallets_102 rfl (lv_at hl 5 rfl) ?_
              refine lv_iload hx hb d_Md_pallets_103 (lv_at hl 1 rfl) ?_
              refine lv_iadd hx hb d_Md_pallets_105 ?_
              refine lv_goto (tgt := 111) hx hb d_Md_pallets_106 (by decide) ?_
              refine lv_istore_n (lv' := [(3, .int (th + (mGrams τ (nI (sx b)) np))), (7, .int 1), (6, .int (mGrams τ (nI (sx b)) np)), (0, .ref (a 0)), (1, .int lm), (2, .int pn), (4, .int (nI m1)), (5, .int (nI b))]) hx hb d_Md_pallets_111 rfl hl (by decide) rfl (fun ls hl => ?_)
              refine lv_iload_n hx hb d_Md_pallets_112 rfl (lv_at hl 5 rfl) ?_
              refine lv_iload hx hb d_Md_pallets_113 (lv_at hl 1 rfl) ?_
              refine lv_if_eq (tgt := 122) hx hb d_Md_pallets_115 (by decide) (fun c_11 => ?_) (fun c_11 => ?_)
              · 
                exact absurd c_11 (by decide)
              · 
                refine lv_iconst (v := 0) hx hb d_Md_pallets_118 (by decide) ?_
                refine lv_goto (tgt := 123) hx hb d_Md_pallets_119 (by decide) ?_
                refine lv_iadd hx hb d_Md_pallets_123 ?_
                refine lv_istore_n (lv' := [(2, .int (pn + 0)), (3, .int (th + (mGrams τ (nI (sx b)) np))), (7, .int 1), (6, .int (mGrams τ (nI (sx b)) np)), (0, .ref (a 0)), (1, .int lm), (4, .int (nI m1)), (5, .int (nI b))]) hx hb d_Md_pallets_124 rfl hl (by decide) rfl (fun ls hl => ?_)
                refine lv_iinc (v := nI (b + 1)) (lv' := [(5, .int (nI (b + 1))), (2, .int (pn + 0)), (3, .int (th + (mGrams τ (nI (sx b)) np))), (7, .int 1), (6, .int (mGrams τ (nI (sx b)) np)), (0, .ref (a 0)), (1, .int lm), (4, .int (nI m1))]) hx hb d_Md_pallets_125 hl (k := 7) rfl (nI_1 b) (by decide) rfl (fun ls hl => ?_)
                refine lv_goto (tgt := 58) hx hb d_Md_pallets_128 (by decide) ?_
                exact ih (b + 1) m1 (pn + 0) (th + (mGrams τ (nI (sx b)) np)) τ _ _ _ (by omega) (by omega) (by omega) (by simp [mPal, hs, c_1, h_1, c_4, c_7, c_10, c_11]) (h8) (hsx) (hu) (hmain) hP hD hS (lv_sub hl [5, 6, 1, 2, 7, 0] rfl)
  refine lv_aload_n hx hb d_Md_pallets_0 rfl (lv_at hl 0 rfl) ?_
  refine lv_aload_n hx hb d_Md_pallets_1 rfl (lv_at hl 0 rfl) ?_
  refine va_get (D := D) (ci := 7) (v := .int (σ 24 0)) (C := R_Md) (T := F_Md) (N := 34) hx hb hts (fun w h => List.mem_cons_of_mem _ (i_Md w h)) hown hK.1 hP 0 (wMd_0 t a σ) rfl 24 (by decide) (hts (.fieldLink R_Md 108 "FlatBoxesModel" "hasShares" "Z") (List.mem_cons_of_mem _ (gIn k_690 (by decide +kernel)))) (fun _ h9 => h9) rfl d_Md_pallets_2 ?_
  refine lv_if_ne (tgt := 12) hx hb d_Md_pallets_5 (by decide) (fun c_12 => ?_) (fun c_12 => ?_)
  · 
    refine lv_iload_n hx hb d_Md_pallets_12 rfl (lv_at hl 1 rfl) ?_
    refine lv_iconst (v := 1) hx hb d_Md_pallets_13 (by decide) ?_
    refine lv_ldc hx hb hown (hts (.constant R_Md 170 1000000) (List.mem_cons_of_mem _ (gIn k_888 (by decide +kernel)))) d_Md_pallets_14 ?_
    refine g_si (k := 3) (As := [.int lm, .int 1, .int 1000000]) (rest := [.ref (a 0)]) (own := R_Md) (index := 96) ⟨hx, hb, hml, hown, hts⟩ (c_Md_in l D t a σ lm 1 1000000) (gg_Md_96 _) (by decide +kernel) ⟨Nat.le_of_ble_eq_true rfl, Nat.le_of_ble_eq_true rfl⟩ rfl hK hP hD hS hl.1 rfl (Nat.le_of_ble_eq_true rfl) ⟨Nat.zero_le _, Nat.zero_le _⟩ d_Md_pallets_16 (fun r_13 u_13 H locs q_13 hP hD hS => ?_)
    obtain ⟨rfl, hu_13⟩ := q_13
    rw [hu_13] at hP hD
    refine lv_if_ne (tgt := 26) hx hb d_Md_pallets_19 (by decide) (fun c_14 => ?_) (fun c_14 => ?_)
    · 
      refine lv_iconst (v := 0) hx hb d_Md_pallets_26 (by decide) ?_
      refine va_put (D := D) (ci := 7) (v := .int 0) (ty := .int) (C := R_Md) (T := F_Md) (N := 34) hx hb hts (fun w h => List.mem_cons_of_mem _ (i_Md w h)) t_Md t_Md_ok n_Md hown hK.1 hP hD hS 0 (wMd_0 t a σ) rfl 0 (by decide) (hts (.fieldLink R_Md 93 "FlatBoxesModel" "code" "I") (List.mem_cons_of_mem _ (gIn k_666 (by decide +kernel)))) (fun _ h9 => h9) rfl (by decide +kernel) rfl rfl (Nat.le_of_ble_eq_true rfl) d_Md_pallets_27 (fun H locs hP hD hS => ?_)
      have hP : va_P D gCl (wMd t a (gSt σ 0 0 0)) H := hP
      have hD : va_D A (wMd t a (gSt σ 0 0 0)) := hD
      refine lv_iconst (v := 0) hx hb d_Md_pallets_30 (by decide) ?_
      refine lv_istore_n (lv' := [(2, .int 0), (0, .ref (a 0)), (1, .int lm)]) hx hb d_Md_pallets_31 rfl hl (by decide) rfl (fun ls hl => ?_)
      refine lv_iconst (v := 0) hx hb d_Md_pallets_32 (by decide) ?_
      refine lv_istore_n (lv' := [(3, .int 0), (2, .int 0), (0, .ref (a 0)), (1, .int lm)]) hx hb d_Md_pallets_33 rfl hl (by decide) rfl (fun ls hl => ?_)
      refine lv_aload_n hx hb d_Md_pallets_34 rfl (lv_at hl 2 rfl) ?_
      refine va_get (D := D) (ci := 7) (v := .int ((gSt σ 0 0 0) 0 0)) (C := R_Md) (T := F_Md) (N := 34) hx hb hts (fun w h => List.mem_cons_of_mem _ (i_Md w h)) hown hK.1 hP 0 (wMd_0 t a (gSt σ 0 0 0)) rfl 0 (by decide) (hts (.fieldLink R_Md 93 "FlatBoxesModel" "code" "I") (List.mem_cons_of_mem _ (gIn k_666 (by decide +kernel)))) (fun _ h9 => h9) rfl d_Md_pallets_35 ?_
      refine lv_topi (fun v_15 e_15 => ?_)
      obtain rfl : 0 = v_15 := (e_15.trans (rfl)).symm
      refine lv_if_le (tgt := 45) hx hb d_Md_pallets_38 (by decide) (fun c_16 => ?_) (fun c_16 => ?_)
      · 
        have hS1 := hsh c_12
        have hn8 := hS1.2.1
        refine lv_aload_n hx hb d_Md_pallets_45 rfl (lv_at hl 2 rfl) ?_
        refine lv_aload_n hx hb d_Md_pallets_46 rfl (lv_at hl 2 rfl) ?_
        refine va_get (D := D) (ci := 7) (v := .ref (a 26)) (C := R_Md) (T := F_Md) (N := 34) hx hb hts (fun w h => List.mem_cons_of_mem _ (i_Md w h)) hown hK.1 hP 0 (wMd_0 t a (gSt σ 0 0 0)) rfl 26 (by decide) (hts (.fieldLink R_Md 68 "FlatBoxesModel" "shares" "[I") (List.mem_cons_of_mem _ (gIn k_692 (by decide +kernel)))) (fun _ h9 => h9) rfl d_Md_pallets_47 ?_
        refine g_vi (k := 1) (As := [.ref (a 26)]) (rest := []) (own := R_Md) (C := R_Md) (index := 144) ⟨hx, hb, hml, hown, hts⟩ (c_Md_setsOf_s l D t a (gSt σ 0 0 0) np rho hN hN8 (fun q hq => ⟨(hS1.1 q hq).1, by have := (hS1.1 q hq).2; have := hS1.2.1; omega⟩)) (gg_Md_144 _) (by decide +kernel) ⟨Nat.le_of_ble_eq_true rfl, Nat.le_of_ble_eq_true rfl⟩ rfl (va_recv hK.1 hP (ci := 7) (q0 := 0) rfl (wMd_0 t a (gSt σ 0 0 0))) hK hP hD hS hl.1 rfl (Nat.le_of_ble_eq_true rfl) ⟨Nat.zero_le _, Nat.zero_le _⟩ d_Md_pallets_50 (fun r_17 u_17 H locs q_17 hP hD hS => ?_)
        obtain ⟨rfl, hu_17⟩ := q_17
        rw [hu_17] at hP hD
        refine lv_topi (fun v_18 e_18 => ?_)
        obtain rfl : nI nbx = v_18 := (e_18.trans (by rw [hS1.2.2.2.2])).symm
        refine lv_istore (lv' := [(4, .int (nI nbx)), (3, .int 0), (2, .int 0), (0, .ref (a 0)), (1, .int lm)]) hx hb d_Md_pallets_53 hl (by decide) rfl (fun ls hl => ?_)
        refine lv_iconst (v := 0) hx hb d_Md_pallets_55 (by decide) ?_
        refine lv_istore (lv' := [(5, .int 0), (4, .int (nI nbx)), (3, .int 0), (2, .int 0), (0, .ref (a 0)), (1, .int lm)]) hx hb d_Md_pallets_56 hl (by decide) rfl (fun ls hl => ?_)
        exact cut_58 (nbx + 1) 0 nbx 0 0 ((mSets (gSt σ 0 0 0) rho np).1) _ _ _ (by omega) (by omega) (by omega) (rfl) (by first | exact hN | exact (congrFun (mSets_fix (gSt σ 0 0 0) rho (by decide) np) 0).trans hN) (by first | exact fun b hb => absurd hb (Nat.not_lt_zero b) | exact fun b hb => (hS1.2.2.2.1 b hb).1) (by simp [mPalU, mPalC, c_12, c_14, c_16]) (by simp [mPalR, mPalC, mPal, c_12, c_14, c_16]) hP hD hS (lv_sub hl [4, 5, 3, 2, 1, 0] rfl)
      · 
        exact absurd c_16 (by decide)
    · 
      refine lv_iconst (v := 2) hx hb d_Md_pallets_22 (by decide) ?_
      refine lv_goto (tgt := 27) hx hb d_Md_pallets_23 (by decide) ?_
      refine va_put (D := D) (ci := 7) (v := .int 2) (ty := .int) (C := R_Md) (T := F_Md) (N := 34) hx hb hts (fun w h => List.mem_cons_of_mem _ (i_Md w h)) t_Md t_Md_ok n_Md hown hK.1 hP hD hS 0 (wMd_0 t a σ) rfl 0 (by decide) (hts (.fieldLink R_Md 93 "FlatBoxesModel" "code" "I") (List.mem_cons_of_mem _ (gIn k_666 (by decide +kernel)))) (fun _ h9 => h9) rfl (by decide +kernel) rfl rfl (Nat.le_of_ble_eq_true rfl) d_Md_pallets_27 (fun H locs hP hD hS => ?_)
      have hP : va_P D gCl (wMd t a (gSt σ 0 0 2)) H := hP
      have hD : va_D A (wMd t a (gSt σ 0 0 2)) := hD
      refine lv_iconst (v := 0) hx hb d_Md_pallets_30 (by decide) ?_
      refine lv_istore_n (lv' := [(2, .int 0), (0, .ref (a 0)), (1, .int lm)]) hx hb d_Md_pallets_31 rfl hl (by decide) rfl (fun ls hl => ?_)
      refine lv_iconst (v := 0) hx hb d_Md_pallets_32 (by decide) ?_
      refine lv_istore_n (lv' := [(3, .int 0), (2, .int 0), (0, .ref (a 0)), (1, .int lm)]) hx hb d_Md_pallets_33 rfl hl (by decide) rfl (fun ls hl => ?_)
      refine lv_aload_n hx hb d_Md_pallets_34 rfl (lv_at hl 2 rfl) ?_
      refine va_get (D := D) (ci := 7) (v := .int ((gSt σ 0 0 2) 0 0)) (C := R_Md) (T := F_Md) (N := 34) hx hb hts (fun w h => List.mem_cons_of_mem _ (i_Md w h)) hown hK.1 hP 0 (wMd_0 t a (gSt σ 0 0 2)) rfl 0 (by decide) (hts (.fieldLink R_Md 93 "FlatBoxesModel" "code" "I") (List.mem_cons_of_mem _ (gIn k_666 (by decide +kernel)))) (fun _ h9 => h9) rfl d_Md_pallets_35 ?_
      refine lv_topi (fun v_19 e_19 => ?_)
      obtain rfl : 2 = v_19 := (e_19.trans (rfl)).symm
      refine lv_if_le (tgt := 45) hx hb d_Md_pallets_38 (by decide) (fun c_20 => ?_) (fun c_20 => ?_)
      · 
        exact absurd c_20 (by decide)
      · 
        refine lv_iconst (v := 0) hx hb d_Md_pallets_41 (by decide) ?_
        refine lv_goto (tgt := 53) hx hb d_Md_pallets_42 (by decide) ?_
        refine lv_istore (lv' := [(4, .int 0), (3, .int 0), (2, .int 0), (0, .ref (a 0)), (1, .int lm)]) hx hb d_Md_pallets_53 hl (by decide) rfl (fun ls hl => ?_)
        refine lv_iconst (v := 0) hx hb d_Md_pallets_55 (by decide) ?_
        refine lv_istore (lv' := [(5, .int 0), (4, .int 0), (3, .int 0), (2, .int 0), (0, .ref (a 0)), (1, .int lm)]) hx hb d_Md_pallets_56 hl (by decide) rfl (fun ls hl => ?_)
        exact cut_58 (0 + 1) 0 0 0 0 (gSt σ 0 0 2) _ _ _ (by omega) (by omega) (by omega) (rfl) (by first | exact hN | exact (congrFun (mSets_fix (gSt σ 0 0 0) rho (by decide) np) 0).trans hN) (by first | exact fun b hb => absurd hb (Nat.not_lt_zero b) | exact fun b hb => (hS1.2.2.2.1 b hb).1) (by simp [mPalU, mPalC, c_12, c_14, c_20]) (by simp [mPalR, mPalC, mPal, c_12, c_14, c_20]) hP hD hS (lv_sub hl [4, 5, 3, 2, 1, 0] rfl)
  · 
    refine lv_iconst (v := 1) hx hb d_Md_pallets_8 (by decide) ?_
    refine lv_goto (tgt := 27) hx hb d_Md_pallets_9 (by decide) ?_
    refine va_put (D := D) (ci := 7) (v := .int 1) (ty := .int) (C := R_Md) (T := F_Md) (N := 34) hx hb hts (fun w h => List.mem_cons_of_mem _ (i_Md w h)) t_Md t_Md_ok n_Md hown hK.1 hP hD hS 0 (wMd_0 t a σ) rfl 0 (by decide) (hts (.fieldLink R_Md 93 "FlatBoxesModel" "code" "I") (List.mem_cons_of_mem _ (gIn k_666 (by decide +kernel)))) (fun _ h9 => h9) rfl (by decide +kernel) rfl rfl (Nat.le_of_ble_eq_true rfl) d_Md_pallets_27 (fun H locs hP hD hS => ?_)
    have hP : va_P D gCl (wMd t a (gSt σ 0 0 1)) H := hP
    have hD : va_D A (wMd t a (gSt σ 0 0 1)) := hD
    refine lv_iconst (v := 0) hx hb d_Md_pallets_30 (by decide) ?_
    refine lv_istore_n (lv' := [(2, .int 0), (0, .ref (a 0)), (1, .int lm)]) hx hb d_Md_pallets_31 rfl hl (by decide) rfl (fun ls hl => ?_)
    refine lv_iconst (v := 0) hx hb d_Md_pallets_32 (by decide) ?_
    refine lv_istore_n (lv' := [(3, .int 0), (2, .int 0), (0, .ref (a 0)), (1, .int lm)]) hx hb d_Md_pallets_33 rfl hl (by decide) rfl (fun ls hl => ?_)
    refine lv_aload_n hx hb d_Md_pallets_34 rfl (lv_at hl 2 rfl) ?_
    refine va_get (D := D) (ci := 7) (v := .int ((gSt σ 0 0 1) 0 0)) (C := R_Md) (T := F_Md) (N := 34) hx hb hts (fun w h => List.mem_cons_of_mem _ (i_Md w h)) hown hK.1 hP 0 (wMd_0 t a (gSt σ 0 0 1)) rfl 0 (by decide) (hts (.fieldLink R_Md 93 "FlatBoxesModel" "code" "I") (List.mem_cons_of_mem _ (gIn k_666 (by decide +kernel)))) (fun _ h9 => h9) rfl d_Md_pallets_35 ?_
    refine lv_topi (fun v_21 e_21 => ?_)
    obtain rfl : 1 = v_21 := (e_21.trans (rfl)).symm
    refine lv_if_le (tgt := 45) hx hb d_Md_pallets_38 (by decide) (fun c_22 => ?_) (fun c_22 => ?_)
    · 
      exact absurd c_22 (by decide)
    · 
      refine lv_iconst (v := 0) hx hb d_Md_pallets_41 (by decide) ?_
      refine lv_goto (tgt := 53) hx hb d_Md_pallets_42 (by decide) ?_
      refine lv_istore (lv' := [(4, .int 0), (3, .int 0), (2, .int 0), (0, .ref (a 0)), (1, .int lm)]) hx hb d_Md_pallets_53 hl (by decide) rfl (fun ls hl => ?_)
      refine lv_iconst (v := 0) hx hb d_Md_pallets_55 (by decide) ?_
      refine lv_istore (lv' := [(5, .int 0), (4, .int 0), (3, .int 0), (2, .int 0), (0, .ref (a 0)), (1, .int lm)]) hx hb d_Md_pallets_56 hl (by decide) rfl (fun ls hl => ?_)
      exact cut_58 (0 + 1) 0 0 0 0 (gSt σ 0 0 1) _ _ _ (by omega) (by omega) (by omega) (rfl) (by first | exact hN | exact (congrFun (mSets_fix (gSt σ 0 0 0) rho (by decide) np) 0).trans hN) (by first | exact fun b hb => absurd hb (Nat.not_lt_zero b) | exact fun b hb => (hS1.2.2.2.1 b hb).1) (by simp [mPalU, mPalC, c_12, c_22]) (by simp [mPalR, mPalC, mPal, c_12, c_22]) hP hD hS (lv_sub hl [4, 5, 3, 2, 1, 0] rfl)
