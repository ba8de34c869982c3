def mRho (τ : Nat → Nat → Int32) (q : Nat) : Nat := (τ 27 q).toNatClampNeg
def mSx (τ : Nat → Nat → Int32) (b : Nat) : Nat := (τ 28 b).toNatClampNeg
def mCopy (τ : Nat → Nat → Int32) : Nat → (Nat → Nat → Int32)
  | 0 => τ
  | k + 1 => gSt (mCopy τ k) 26 k (mCopy τ k 27 k)
theorem mCopy_fix (τ : Nat → Nat → Int32) {i : Nat} (h : i ≠ 26) : ∀ k, mCopy τ k i = τ i
  | 0 => rfl
  | k + 1 => (gSt_ne _ _ _ _ h).trans (mCopy_fix τ h k)
def mZr (τ : Nat → Nat → Int32) : Nat → (Nat → Nat → Int32)
  | 0 => τ
  | k + 1 => gSt (mZr τ k) 27 k 0
def mAccB (lst sum nn bx : Int32) : Int32 := if sum < 0 then 0 else if lst < 0 then 1 else if sum < lst then 1 else if ¬ sum = lst then 0 else if bx ≤ nn then 0 else 1
def mTrySum (np : Nat) (τ : Nat → Nat → Int32) : Int32 := mCost (mSets τ (mRho τ) np).1 (mSx (mSets τ (mRho τ) np).1) (mSets τ (mRho τ) np).2 0 0
def mStep (np : Nat) (S : (Nat → Nat → Int32) × Int32) : (Nat → Nat → Int32) × Int32 := if mAccB S.2 (mTrySum np S.1) (nI (mSets S.1 (mRho S.1) np).2) ((mSets S.1 (mRho S.1) np).1 25 0) = 0 then ((mSets S.1 (mRho S.1) np).1, S.2) else (mCopy (gSt (mSets S.1 (mRho S.1) np).1 25 0 (nI (mSets S.1 (mRho S.1) np).2)) np, mTrySum np S.1)
def mIter (np : Nat) : Nat → (Nat → Nat → Int32) × Int32 → (Nat → Nat → Int32) × Int32
  | 0, S => S
  | n + 1, S => if (mNext (mStep np S).1 np np).2 = 0 then ((mNext (mStep np S).1 np np).1, (mStep np S).2) else mIter np n ((mNext (mStep np S).1 np np).1, (mStep np S).2)
def mPreI (np : Nat) (τ : Nat → Nat → Int32) : Prop := τ 8 0 = nI np ∧ (∀ q, q < np → τ 27 q = nI (mRho τ q) ∧ mRho τ q < 8) ∧ (mSets τ (mRho τ) np).2 ≤ 8 ∧ (∀ b, b < (mSets τ (mRho τ) np).2 → (mSets τ (mRho τ) np).1 28 b = nI (mSx (mSets τ (mRho τ) np).1 b) ∧ mSx (mSets τ (mRho τ) np).1 b < 256) ∧ (∀ b, b < (mSets τ (mRho τ) np).2 → (mSets τ (mRho τ) np).1 23 (mSx (mSets τ (mRho τ) np).1 b) < 0 ∨ ∃ c, c < 4 ∧ (mSets τ (mRho τ) np).1 23 (mSx (mSets τ (mRho τ) np).1 b) = nI c)
def mOK (np : Nat) : Nat → (Nat → Nat → Int32) × Int32 → Prop
  | 0, _ => False
  | n + 1, S => mPreI np S.1 ∧ (¬ (mNext (mStep np S).1 np np).2 = 0 → mOK np n ((mNext (mStep np S).1 np np).1, (mStep np S).2))
theorem mOK_pos {np k : Nat} {S : (Nat → Nat → Int32) × Int32} (h : mOK np k S) : ∃ j, k = j + 1 := by
  cases k with
  | zero => exact absurd h (by simp [mOK])
  | succ k => exact ⟨k, rfl⟩
theorem mNext01 (σ : Nat → Nat → Int32) (np : Nat) : ∀ d, (mNext σ np d).2 = 0 ∨ (mNext σ np d).2 = 1
  | 0 => Or.inl rfl
  | p + 1 => by
    unfold mNext
    split
    · exact Or.inl rfl
    · split
      · exact mNext01 σ np p
      · exact Or.inr rfl
theorem mIt_next {np k : Nat} {S S1 Z : (Nat → Nat → Int32) × Int32} (hs : mStep np S = S1) (hok : mOK np (k + 1) S) (hit : mIter np (k + 1) S = Z) :
    ((mNext S1.1 np np).2 = 0 ∧ ((mNext S1.1 np np).1, S1.2) = Z) ∨ ((mNext S1.1 np np).2 = 1 ∧ mOK np k ((mNext S1.1 np np).1, S1.2) ∧ mIter np k ((mNext S1.1 np np).1, S1.2) = Z) := by
  subst hs
  rcases mNext01 (mStep np S).1 np np with h | h
  · refine Or.inl ⟨h, ?_⟩
    rw [← hit]
    unfold mIter
    rw [if_pos h]
  · have hne : ¬ (mNext (mStep np S).1 np np).2 = 0 := by rw [h]; decide
    refine Or.inr ⟨h, hok.2 hne, ?_⟩
    rw [← hit]
    conv => rhs; unfold mIter
    rw [if_neg hne]
def mRun0 (σ : Nat → Nat → Int32) (ord : Nat → Nat) (nc np NN : Nat) : (Nat → Nat → Int32) × Int32 := (gSt (mZr (mFBs (gSt σ 0 0 0) ord nc np (NN - 1)) 8) 25 0 0, -1)
def mRunR (Z : (Nat → Nat → Int32) × Int32) : Int32 := if Z.2 < 0 then -1 else Z.1 25 0
def mRunU (Z : (Nat → Nat → Int32) × Int32) : Nat → Nat → Int32 := gSt Z.1 24 0 (if Z.2 < 0 then 0 else 1)

theorem gg_Md_151 (w0 : Cond) : GoodIn (w0 :: gBig) (wsV R_Md 151 R_Md y_Md_next (.code y_Md_next b_Md_next 4 (some .boolean) :: gBig)) := gGoodV (gIn k_833 (by decide +kernel)) (gIn k_835 (by decide +kernel)) (gInP (List.mem_of_getElem? (i := 24) (by decide +kernel)) (by decide +kernel)) (gIn k_9 (by decide +kernel)) (gIn k_836 (by decide +kernel))
theorem gg_Md_138 (w0 : Cond) : GoodIn (w0 :: gBig) (wsV R_Md 138 R_Md y_Md_findBoxes (.code y_Md_findBoxes b_Md_findBoxes 4 none :: gBig)) := gGoodV (gIn k_821 (by decide +kernel)) (gIn k_823 (by decide +kernel)) (gInP (List.mem_of_getElem? (i := 21) (by decide +kernel)) (by decide +kernel)) (gIn k_9 (by decide +kernel)) (gIn k_824 (by decide +kernel))
set_option maxHeartbeats 4000000 in
set_option maxRecDepth 100000 in
theorem c_Md_run (l : Launch) (D : va_G) (t : Nat → ClassId) (a : Nat → Nat) (σ : Nat → Nat → Int32) (nc np NN NI : Nat) (ord : Nat → Nat) (hC : σ 2 0 = nI nc) (hC4 : nc ≤ 4) (hN : σ 8 0 = nI np) (hN8 : np ≤ 8) (hNN : (1 : Int32) <<< (nI np &&& 31) = nI NN) (hN1 : 1 ≤ NN) (hN2 : NN ≤ 256) (hord : ∀ k, k < np → ord k < np ∧ mBT (σ 11) np (nI k) np 0 = nI (ord k)) (hOK : mOK np NI (mRun0 σ ord nc np NN)) : gMi l D t y_Md_run b_Md_run 6 (some .int) 3 [.ref (a 0)] (wMd t a σ) (wMd t a) (fun r u => r = mRunR (mIter np NI (mRun0 σ ord nc np NN)) ∧ u = mRunU (mIter np NI (mRun0 σ ord nc np NN))) := by
  intro A
  refine Met.ofW (cc := b_Md_run) (maxL := 6) (ret := (some .int)) (by decide) rfl ?_
  intro p e s m args below meth c s₁ B hml hv
  obtain ⟨rfl, hK, hP, hD⟩ := hv
  have hx := B.exec
  have hb := B.bytes
  have hr := B.returns
  have hts := atoms_spec (ws := .code y_Md_run b_Md_run 6 (some .int) :: gBig) B.pre
  have hown : s.vm.findClass R_Md = some m.cls := findClass_of_methodNamed B.named
  have hlocks := B.notSynchronized
  have hS : va_S A s.heap s.heap [] := va_S.rf
  have hl := lv_entry ([.ref (a 0)]) (n := 6) (Nat.le_of_ble_eq_true rfl)
  rw [lg_entry_eq]
  generalize (lg_sl ([.ref (a 0)]) ++ List.replicate (6 - (lg_sl ([.ref (a 0)])).length) Slot.unset).toArray = ls at hl ⊢
  have hl : lv_has ls 6 [(0, .ref (a 0))] := hl
  show gGo l p e s m below meth c D t A 3 [.ref (a 0)] (wMd t a) (fun r u => r = mRunR (mIter np NI (mRun0 σ ord nc np NN)) ∧ u = mRunU (mIter np NI (mRun0 σ ord nc np NN))) s.heap [] (F0 m 0 ls [])
  have cut_99 : ∀ (n : Nat) (k : Nat) (lv : Int32) (τ0 : Nat → Nat → Int32) (τ : Nat → Nat → Int32) (H : Heap) (locs : List Loc) (ls : Array Slot), (k ≤ np) → (np + 1 ≤ k + n) → (mCopy τ0 k = τ) → (τ 8 0 = nI np) → (∀ (H : Heap) (locs : List Loc) (ls : Array Slot), va_P D gCl (wMd t a (mCopy τ0 np)) H → va_D A (wMd t a (mCopy τ0 np)) → va_S A s.heap H locs → lv_has ls 6 [(0, .ref (a 0)), (1, .int lv)] → gGo l p e s m below meth c D t A 3 [.ref (a 0)] (wMd t a) (fun r u => r = mRunR (mIter np NI (mRun0 σ ord nc np NN)) ∧ u = mRunU (mIter np NI (mRun0 σ ord nc np NN))) H locs (F0 m 128 ls [])) → va_P D gCl (wMd t a τ) H → va_D A (wMd t a τ) → va_S A s.heap H locs → lv_has ls 6 [(0, .ref (a 0)), (1, .int lv), (5, .int (nI k))] → gGo l p e s m below meth c D t A 3 [.ref (a 0)] (wMd t a) (fun r u => r = mRunR (mIter np NI (mRun0 σ ord nc np NN)) ∧ u = mRunU (mIter np NI (mRun0 σ ord nc np NN))) H locs (F0 m 99 ls []) := by
    intro n
    induction n with
    | zero =>
      intro k lv τ0 τ H locs ls hk hf hs h8 hX hP hD hS hl
      exact absurd hf (by omega)
    | succ n ih =>
      intro k lv τ0 τ H locs ls hk hf hs h8 hX hP hD hS hl
      refine lv_iload hx hb d_Md_run_99 (lv_at hl 2 rfl) ?_
      refine lv_aload_n hx hb d_Md_run_101 rfl (lv_at hl 0 rfl) ?_
      refine va_get (D := D) (ci := 7) (v := .int (τ 8 0)) (C := R_Md) (T := F_Md) (N := 34) hx hb hts (fun w h => List.mem_cons_of_mem _ (i_Md w h)) hown hK.1 hP 0 (wMd_0 t a τ) rfl 8 (by decide) (hts (.fieldLink R_Md 113 "FlatBoxesModel" "parts" "I") (List.mem_cons_of_mem _ (gIn k_674 (by decide +kernel)))) (fun _ h9 => h9) rfl d_Md_run_102 ?_
      refine lv_topi (fun v_1 e_1 => ?_)
      obtain rfl : nI np = v_1 := (e_1.trans h8).symm
      refine lv_icmp_ge (tgt := 128) hx hb d_Md_run_105 (by decide) (fun c_2 => ?_) (fun c_2 => ?_)
      · 
        have h_2 : np ≤ k := (nI_leI (a := np) (b := k) (by omega) (by omega)).mp c_2
        obtain rfl : k = np := by omega
        subst hs
        exact hX _ _ _  hP hD hS (lv_sub hl [0, 1] rfl)
      · 
        have h_2 : ¬ np ≤ k := fun q9 => c_2 ((nI_leI (a := np) (b := k) (by omega) (by omega)).mpr q9)
        refine lv_aload_n hx hb d_Md_run_108 rfl (lv_at hl 0 rfl) ?_
        refine va_get (D := D) (ci := 7) (v := .ref (a 26)) (C := R_Md) (T := F_Md) (N := 34) hx hb hts (fun w h => List.mem_cons_of_mem _ (i_Md w h)) hown hK.1 hP 0 (wMd_0 t a τ) rfl 26 (by decide) (hts (.fieldLink R_Md 68 "FlatBoxesModel" "shares" "[I") (List.mem_cons_of_mem _ (gIn k_692 (by decide +kernel)))) (fun _ h9 => h9) rfl d_Md_run_109 ?_
        refine lv_iload hx hb d_Md_run_112 (lv_at hl 2 rfl) ?_
        refine lv_aload_n hx hb d_Md_run_114 rfl (lv_at hl 0 rfl) ?_
        refine va_get (D := D) (ci := 7) (v := .ref (a 27)) (C := R_Md) (T := F_Md) (N := 34) hx hb hts (fun w h => List.mem_cons_of_mem _ (i_Md w h)) hown hK.1 hP 0 (wMd_0 t a τ) rfl 27 (by decide) (hts (.fieldLink R_Md 71 "FlatBoxesModel" "trial" "[I") (List.mem_cons_of_mem _ (gIn k_693 (by decide +kernel)))) (fun _ h9 => h9) rfl d_Md_run_115 ?_
        refine lv_iload hx hb d_Md_run_118 (lv_at hl 2 rfl) ?_
        refine g_iald hx hb hK.1 hP 21 0 (wMd_27 t a τ) rfl k (rfl) (by omega) (by decide) d_Md_run_120 ?_
        refine g_iast hx hb hK.1 hP hD hS 20 0 (wMd_26 t a τ) rfl k (rfl) (by omega) (by decide) (w' := wMd t a (gSt τ 26 k (τ 27 k))) (sMd_26 t a τ k (τ 27 k)) d_Md_run_121 (fun H locs hP hD hS => ?_)
        refine lv_iinc (v := nI (k + 1)) (lv' := [(5, .int (nI (k + 1))), (0, .ref (a 0)), (1, .int lv)]) hx hb d_Md_run_122 hl (k := 2) rfl (nI_1 k) (by decide) rfl (fun ls hl => ?_)
        refine lv_goto (tgt := 99) hx hb d_Md_run_125 (by decide) ?_
        exact ih (k + 1) lv τ0 (gSt τ 26 k (τ 27 k)) _ _ _ (by omega) (by omega) (by rw [← hs]; rfl) (h8) hX hP hD hS (lv_sub hl [1, 2, 0] rfl)
  have cut_39 : ∀ (n : Nat) (k : Nat) (lst : Int32) (mr : Int32) (τ : Nat → Nat → Int32) (H : Heap) (locs : List Loc) (ls : Array Slot), (k + 1 ≤ n) → ((mr = 0 ∧ (τ, lst) = mIter np NI (mRun0 σ ord nc np NN)) ∨ (mr = 1 ∧ mOK np k (τ, lst) ∧ mIter np k (τ, lst) = mIter np NI (mRun0 σ ord nc np NN))) → va_P D gCl (wMd t a τ) H → va_D A (wMd t a τ) → va_S A s.heap H locs → lv_has ls 6 [(0, .ref (a 0)), (1, .int lst), (2, .int mr)] → gGo l p e s m below meth c D t A 3 [.ref (a 0)] (wMd t a) (fun r u => r = mRunR (mIter np NI (mRun0 σ ord nc np NN)) ∧ u = mRunU (mIter np NI (mRun0 σ ord nc np NN))) H locs (F0 m 39 ls []) := by
    intro n
    induction n with
    | zero =>
      intro k lst mr τ H locs ls hf hst hP hD hS hl
      exact absurd hf (by omega)
    | succ n ih =>
      intro k lst mr τ H locs ls hf hst hP hD hS hl
      refine lv_iload_n hx hb d_Md_run_39 rfl (lv_at hl 2 rfl) ?_
      refine lv_if_eq (tgt := 136) hx hb d_Md_run_40 (by decide) (fun c_3 => ?_) (fun c_3 => ?_)
      · 
        have hfin : (τ, lst) = mIter np NI (mRun0 σ ord nc np NN) := hst.elim (fun h => h.2) (fun h => absurd (c_3.symm.trans h.1) (by decide))
        refine lv_aload_n hx hb d_Md_run_136 rfl (lv_at hl 0 rfl) ?_
        refine lv_iload_n hx hb d_Md_run_137 rfl (lv_at hl 1 rfl) ?_
        refine lv_if_lt (tgt := 145) hx hb d_Md_run_138 (by decide) (fun c_4 => ?_) (fun c_4 => ?_)
        · 
          refine lv_iconst (v := 0) hx hb d_Md_run_145 (by decide) ?_
          refine va_put (D := D) (ci := 7) (v := .int 0) (ty := .boolean) (C := R_Md) (T := F_Md) (N := 34) hx hb hts (fun w h => List.mem_cons_of_mem _ (i_Md w h)) t_Md t_Md_ok n_Md hown hK.1 hP hD hS 0 (wMd_0 t a τ) rfl 24 (by decide) (hts (.fieldLink R_Md 108 "FlatBoxesModel" "hasShares" "Z") (List.mem_cons_of_mem _ (gIn k_690 (by decide +kernel)))) (fun _ h9 => h9) rfl (by decide +kernel) rfl rfl (Nat.le_of_ble_eq_true rfl) d_Md_run_146 (fun H locs hP hD hS => ?_)
          have hP : va_P D gCl (wMd t a (gSt τ 24 0 0)) H := hP
          have hD : va_D A (wMd t a (gSt τ 24 0 0)) := hD
          refine lv_aload_n hx hb d_Md_run_149 rfl (lv_at hl 0 rfl) ?_
          refine va_get (D := D) (ci := 7) (v := .int ((gSt τ 24 0 0) 24 0)) (C := R_Md) (T := F_Md) (N := 34) hx hb hts (fun w h => List.mem_cons_of_mem _ (i_Md w h)) hown hK.1 hP 0 (wMd_0 t a (gSt τ 24 0 0)) rfl 24 (by decide) (hts (.fieldLink R_Md 108 "FlatBoxesModel" "hasShares" "Z") (List.mem_cons_of_mem _ (gIn k_690 (by decide +kernel)))) (fun _ h9 => h9) rfl d_Md_run_150 ?_
          refine lv_topi (fun v_5 e_5 => ?_)
          obtain rfl : 0 = v_5 := (e_5.trans (rfl)).symm
          refine lv_if_eq (tgt := 163) hx hb d_Md_run_153 (by decide) (fun c_6 => ?_) (fun c_6 => ?_)
          · 
            refine lv_iconst (v := -1) hx hb d_Md_run_163 (by decide) ?_
            exact W.iret (v := -1) hx hb hr (fun U hU hW => ⟨⟨-1, gSt τ 24 0 0, rfl, by exact ⟨by rw [← hfin]; simp [mRunR, c_3, c_4, c_6], by rw [← hfin]; simp [mRunU, c_3, c_4, c_6]⟩, by rw [hU]; exact hP, hD⟩, hS.F hU⟩) hS.2.2 d_Md_run_164
          · 
            exact absurd c_6 (by decide)
        · 
          refine lv_iconst (v := 1) hx hb d_Md_run_141 (by decide) ?_
          refine lv_goto (tgt := 146) hx hb d_Md_run_142 (by decide) ?_
          refine va_put (D := D) (ci := 7) (v := .int 1) (ty := .boolean) (C := R_Md) (T := F_Md) (N := 34) hx hb hts (fun w h => List.mem_cons_of_mem _ (i_Md w h)) t_Md t_Md_ok n_Md hown hK.1 hP hD hS 0 (wMd_0 t a τ) rfl 24 (by decide) (hts (.fieldLink R_Md 108 "FlatBoxesModel" "hasShares" "Z") (List.mem_cons_of_mem _ (gIn k_690 (by decide +kernel)))) (fun _ h9 => h9) rfl (by decide +kernel) rfl rfl (Nat.le_of_ble_eq_true rfl) d_Md_run_146 (fun H locs hP hD hS => ?_)
          have hP : va_P D gCl (wMd t a (gSt τ 24 0 1)) H := hP
          have hD : va_D A (wMd t a (gSt τ 24 0 1)) := hD
          refine lv_aload_n hx hb d_Md_run_149 rfl (lv_at hl 0 rfl) ?_
          refine va_get (D := D) (ci := 7) (v := .int ((gSt τ 24 0 1) 24 0)) (C := R_Md) (T := F_Md) (N := 34) hx hb hts (fun w h => List.mem_cons_of_mem _ (i_Md w h)) hown hK.1 hP 0 (wMd_0 t a (gSt τ 24 0 1)) rfl 24 (by decide) (hts (.fieldLink R_Md 108 "FlatBoxesModel" "hasShares" "Z") (List.mem_cons_of_mem _ (gIn k_690 (by decide +kernel)))) (fun _ h9 => h9) rfl d_Md_run_150 ?_
          refine lv_topi (fun v_7 e_7 => ?_)
          obtain rfl : 1 = v_7 := (e_7.trans (rfl)).symm
          refine lv_if_eq (tgt := 163) hx hb d_Md_run_153 (by decide) (fun c_8 => ?_) (fun c_8 => ?_)
          · 
            exact absurd c_8 (by decide)
          · 
            refine lv_aload_n hx hb d_Md_run_156 rfl (lv_at hl 0 rfl) ?_
            refine va_get (D := D) (ci := 7) (v := .int ((gSt τ 24 0 1) 25 0)) (C := R_Md) (T := F_Md) (N := 34) hx hb hts (fun w h => List.mem_cons_of_mem _ (i_Md w h)) hown hK.1 hP 0 (wMd_0 t a (gSt τ 24 0 1)) rfl 25 (by decide) (hts (.fieldLink R_Md 141 "FlatBoxesModel" "boxes" "I") (List.mem_cons_of_mem _ (gIn k_691 (by decide +kernel)))) (fun _ h9 => h9) rfl d_Md_run_157 ?_
            refine lv_topi (fun v_9 e_9 => ?_)
            obtain rfl : τ 25 0 = v_9 := (e_9.trans (rfl)).symm
            refine lv_goto (tgt := 164) hx hb d_Md_run_160 (by decide) ?_
            exact W.iret (v := τ 25 0) hx hb hr (fun U hU hW => ⟨⟨τ 25 0, gSt τ 24 0 1, rfl, by exact ⟨by rw [← hfin]; simp [mRunR, c_3, c_4, c_8], by rw [← hfin]; simp [mRunU, c_3, c_4, c_8]⟩, by rw [hU]; exact hP, hD⟩, hS.F hU⟩) hS.2.2 d_Md_run_164
      · 
        have hst1 := hst.resolve_left (fun h => c_3 h.1)
        obtain ⟨k, rfl⟩ : ∃ k9, k = k9 + 1 := mOK_pos hst1.2.1
        obtain ⟨h8, hrow, hnn8, hsx, hbx⟩ := hst1.2.1.1
        refine lv_aload_n hx hb d_Md_run_43 rfl (lv_at hl 0 rfl) ?_
        refine lv_aload_n hx hb d_Md_run_44 rfl (lv_at hl 0 rfl) ?_
        refine va_get (D := D) (ci := 7) (v := .ref (a 27)) (C := R_Md) (T := F_Md) (N := 34) hx hb hts (fun w h => List.mem_cons_of_mem _ (i_Md w h)) hown hK.1 hP 0 (wMd_0 t a τ) rfl 27 (by decide) (hts (.fieldLink R_Md 71 "FlatBoxesModel" "trial" "[I") (List.mem_cons_of_mem _ (gIn k_693 (by decide +kernel)))) (fun _ h9 => h9) rfl d_Md_run_45 ?_
        refine g_vi (k := 1) (As := [.ref (a 27)]) (rest := []) (own := R_Md) (C := R_Md) (index := 144) ⟨hx, hb, hml, hown, hts⟩ (c_Md_setsOf_t l D t a τ np (mRho τ) h8 hN8 hrow) (gg_Md_144 _) (by decide +kernel) ⟨Nat.le_of_ble_eq_true rfl, Nat.le_of_ble_eq_true rfl⟩ rfl (va_recv hK.1 hP (ci := 7) (q0 := 0) rfl (wMd_0 t a τ)) hK hP hD hS hl.1 rfl (Nat.le_of_ble_eq_true rfl) ⟨Nat.zero_le _, Nat.zero_le _⟩ d_Md_run_48 (fun r_10 u_10 H locs q_10 hP hD hS => ?_)
        obtain ⟨rfl, hu_10⟩ := q_10
        rw [hu_10] at hP hD
        refine lv_istore_n (lv' := [(3, .int (nI (mSets τ (mRho τ) np).2)), (0, .ref (a 0)), (1, .int lst), (2, .int mr)]) hx hb d_Md_run_51 rfl hl (by decide) rfl (fun ls hl => ?_)
        refine lv_aload_n hx hb d_Md_run_52 rfl (lv_at hl 1 rfl) ?_
        refine lv_iload_n hx hb d_Md_run_53 rfl (lv_at hl 0 rfl) ?_
        refine g_vi (k := 1) (As := [.int (nI (mSets τ (mRho τ) np).2)]) (rest := []) (own := R_Md) (C := R_Md) (index := 148) ⟨hx, hb, hml, hown, hts⟩ (c_Md_costOf l D t a (mSets τ (mRho τ) np).1 (mSets τ (mRho τ) np).2 hnn8 (mSx (mSets τ (mRho τ) np).1) hsx hbx) (gg_Md_148 _) (by decide +kernel) ⟨Nat.le_of_ble_eq_true rfl, Nat.le_of_ble_eq_true rfl⟩ rfl (va_recv hK.1 hP (ci := 7) (q0 := 0) rfl (wMd_0 t a ((mSets τ (mRho τ) np).1))) hK hP hD hS hl.1 rfl (Nat.le_of_ble_eq_true rfl) ⟨Nat.zero_le _, Nat.zero_le _⟩ d_Md_run_54 (fun r_11 u_11 H locs q_11 hP hD hS => ?_)
        obtain ⟨hr_11, hu_11⟩ := q_11
        rw [hu_11] at hP hD
        obtain rfl : mTrySum np τ = r_11 := hr_11.symm
        refine lv_istore (lv' := [(4, .int (mTrySum np τ)), (3, .int (nI (mSets τ (mRho τ) np).2)), (0, .ref (a 0)), (1, .int lst), (2, .int mr)]) hx hb d_Md_run_57 hl (by decide) rfl (fun ls hl => ?_)
        refine lv_iload hx hb d_Md_run_59 (lv_at hl 0 rfl) ?_
        refine lv_if_lt (tgt := 128) hx hb d_Md_run_61 (by decide) (fun c_12 => ?_) (fun c_12 => ?_)
        · 
          have hstep : mStep np (τ, lst) = ((mSets τ (mRho τ) np).1, lst) := by simp [mStep, mAccB, c_3, c_12]
          have h8b : ((mSets τ (mRho τ) np).1) 8 0 = nI np := (congrFun (mSets_fix τ (mRho τ) (by decide) np) 0).trans h8
          refine lv_aload_n hx hb d_Md_run_128 rfl (lv_at hl 2 rfl) ?_
          refine g_vi (k := 0) (As := []) (rest := []) (own := R_Md) (C := R_Md) (index := 151) ⟨hx, hb, hml, hown, hts⟩ (c_Md_next l D t a ((mSets τ (mRho τ) np).1) np h8b hN8) (gg_Md_151 _) (by decide +kernel) ⟨Nat.le_of_ble_eq_true rfl, Nat.le_of_ble_eq_true rfl⟩ rfl (va_recv hK.1 hP (ci := 7) (q0 := 0) rfl (wMd_0 t a ((mSets τ (mRho τ) np).1))) hK hP hD hS hl.1 rfl (Nat.le_of_ble_eq_true rfl) ⟨Nat.zero_le _, Nat.zero_le _⟩ d_Md_run_129 (fun r_13 u_13 H locs q_13 hP hD hS => ?_)
          obtain ⟨rfl, hu_13⟩ := q_13
          rw [hu_13] at hP hD
          refine lv_istore_n (lv' := [(2, .int ((mNext ((mSets τ (mRho τ) np).1) np np).2)), (4, .int (mTrySum np τ)), (3, .int (nI (mSets τ (mRho τ) np).2)), (0, .ref (a 0)), (1, .int lst)]) hx hb d_Md_run_132 rfl hl (by decide) rfl (fun ls hl => ?_)
          refine lv_goto (tgt := 39) hx hb d_Md_run_133 (by decide) ?_
          exact ih k lst ((mNext ((mSets τ (mRho τ) np).1) np np).2) ((mNext ((mSets τ (mRho τ) np).1) np np).1) _ _ _ (by omega) (mIt_next hstep hst1.2.1 hst1.2.2) hP hD hS (lv_sub hl [3, 4, 0] rfl)
        · 
          refine lv_iload_n hx hb d_Md_run_64 rfl (lv_at hl 3 rfl) ?_
          refine lv_if_lt (tgt := 88) hx hb d_Md_run_65 (by decide) (fun c_14 => ?_) (fun c_14 => ?_)
          · 
            refine lv_iload hx hb d_Md_run_88 (lv_at hl 0 rfl) ?_
            refine lv_istore_n (lv' := [(1, .int (mTrySum np τ)), (4, .int (mTrySum np τ)), (3, .int (nI (mSets τ (mRho τ) np).2)), (0, .ref (a 0)), (2, .int mr)]) hx hb d_Md_run_90 rfl hl (by decide) rfl (fun ls hl => ?_)
            refine lv_aload_n hx hb d_Md_run_91 rfl (lv_at hl 3 rfl) ?_
            refine lv_iload_n hx hb d_Md_run_92 rfl (lv_at hl 2 rfl) ?_
            refine va_put (D := D) (ci := 7) (v := .int (nI (mSets τ (mRho τ) np).2)) (ty := .int) (C := R_Md) (T := F_Md) (N := 34) hx hb hts (fun w h => List.mem_cons_of_mem _ (i_Md w h)) t_Md t_Md_ok n_Md hown hK.1 hP hD hS 0 (wMd_0 t a ((mSets τ (mRho τ) np).1)) rfl 25 (by decide) (hts (.fieldLink R_Md 141 "FlatBoxesModel" "boxes" "I") (List.mem_cons_of_mem _ (gIn k_691 (by decide +kernel)))) (fun _ h9 => h9) rfl (by decide +kernel) rfl rfl (Nat.le_of_ble_eq_true rfl) d_Md_run_93 (fun H locs hP hD hS => ?_)
            have hP : va_P D gCl (wMd t a (gSt ((mSets τ (mRho τ) np).1) 25 0 (nI (mSets τ (mRho τ) np).2))) H := hP
            have hD : va_D A (wMd t a (gSt ((mSets τ (mRho τ) np).1) 25 0 (nI (mSets τ (mRho τ) np).2))) := hD
            refine lv_iconst (v := 0) hx hb d_Md_run_96 (by decide) ?_
            refine lv_istore (lv' := [(5, .int 0), (1, .int (mTrySum np τ)), (4, .int (mTrySum np τ)), (3, .int (nI (mSets τ (mRho τ) np).2)), (0, .ref (a 0)), (2, .int mr)]) hx hb d_Md_run_97 hl (by decide) rfl (fun ls hl => ?_)
            refine cut_99 (np + 1) 0 (mTrySum np τ) (gSt ((mSets τ (mRho τ) np).1) 25 0 (nI (mSets τ (mRho τ) np).2)) (gSt ((mSets τ (mRho τ) np).1) 25 0 (nI (mSets τ (mRho τ) np).2)) _ _ _ (by omega) (by omega) (rfl) ((congrFun (mSets_fix τ (mRho τ) (by decide) np) 0).trans h8) (fun H locs ls  hP hD hS hl => ?_) hP hD hS (lv_sub hl [4, 1, 0] rfl)
            have hstep : mStep np (τ, lst) = (mCopy (gSt ((mSets τ (mRho τ) np).1) 25 0 (nI (mSets τ (mRho τ) np).2)) np, mTrySum np τ) := by simp [mStep, mAccB, c_3, c_12, c_14]
            have h8b : (mCopy (gSt ((mSets τ (mRho τ) np).1) 25 0 (nI (mSets τ (mRho τ) np).2)) np) 8 0 = nI np := (congrFun (mCopy_fix _ (by decide) np) 0).trans ((congrFun (mSets_fix τ (mRho τ) (by decide) np) 0).trans h8)
            refine lv_aload_n hx hb d_Md_run_128 rfl (lv_at hl 0 rfl) ?_
            refine g_vi (k := 0) (As := []) (rest := []) (own := R_Md) (C := R_Md) (index := 151) ⟨hx, hb, hml, hown, hts⟩ (c_Md_next l D t a (mCopy (gSt ((mSets τ (mRho τ) np).1) 25 0 (nI (mSets τ (mRho τ) np).2)) np) np h8b hN8) (gg_Md_151 _) (by decide +kernel) ⟨Nat.le_of_ble_eq_true rfl, Nat.le_of_ble_eq_true rfl⟩ rfl (va_recv hK.1 hP (ci := 7) (q0 := 0) rfl (wMd_0 t a (mCopy (gSt ((mSets τ (mRho τ) np).1) 25 0 (nI (mSets τ (mRho τ) np).2)) np))) hK hP hD hS hl.1 rfl (Nat.le_of_ble_eq_true rfl) ⟨Nat.zero_le _, Nat.zero_le _⟩ d_Md_run_129 (fun r_15 u_15 H locs q_15 hP hD hS => ?_)
            obtain ⟨rfl, hu_15⟩ := q_15
            rw [hu_15] at hP hD
            refine lv_istore_n (lv' := [(2, .int ((mNext (mCopy (gSt ((mSets τ (mRho τ) np).1) 25 0 (nI (mSets τ (mRho τ) np).2)) np) np np).2)), (0, .ref (a 0)), (1, .int (mTrySum np τ))]) hx hb d_Md_run_132 rfl hl (by decide) rfl (fun ls hl => ?_)
            refine lv_goto (tgt := 39) hx hb d_Md_run_133 (by decide) ?_
            exact ih k (mTrySum np τ) ((mNext (mCopy (gSt ((mSets τ (mRho τ) np).1) 25 0 (nI (mSets τ (mRho τ) np).2)) np) np np).2) ((mNext (mCopy (gSt ((mSets τ (mRho τ) np).1) 25 0 (nI (mSets τ (mRho τ) np).2)) np) np np).1) _ _ _ (by omega) (mIt_next hstep hst1.2.1 hst1.2.2) hP hD hS (lv_sub hl [1, 2, 0] rfl)
          · 
            refine lv_iload hx hb d_Md_run_68 (lv_at hl 0 rfl) ?_
            refine lv_iload_n hx hb d_Md_run_70 rfl (lv_at hl 3 rfl) ?_
            refine lv_icmp_lt (tgt := 88) hx hb d_Md_run_71 (by decide) (fun c_16 => ?_) (fun c_16 => ?_)
            · 
              refine lv_iload hx hb d_Md_run_88 (lv_at hl 0 rfl) ?_
              refine lv_istore_n (lv' := [(1, .int (mTrySum np τ)), (4, .int (mTrySum np τ)), (3, .int (nI (mSets τ (mRho τ) np).2)), (0, .ref (a 0)), (2, .int mr)]) hx hb d_Md_run_90 rfl hl (by decide) rfl (fun ls hl => ?_)
              refine lv_aload_n hx hb d_Md_run_91 rfl (lv_at hl 3 rfl) ?_
              refine lv_iload_n hx hb d_Md_run_92 rfl (lv_at hl 2 rfl) ?_
              refine va_put (D := D) (ci := 7) (v := .int (nI (mSets τ (mRho τ) np).2)) (ty := .int) (C := R_Md) (T := F_Md) (N := 34) hx hb hts (fun w h => List.mem_cons_of_mem _ (i_Md w h)) t_Md t_Md_ok n_Md hown hK.1 hP hD hS 0 (wMd_0 t a ((mSets τ (mRho τ) np).1)) rfl 25 (by decide) (hts (.fieldLink R_Md 141 "FlatBoxesModel" "boxes" "I") (List.mem_cons_of_mem _ (gIn k_691 (by decide +kernel)))) (fun _ h9 => h9) rfl (by decide +kernel) rfl rfl (Nat.le_of_ble_eq_true rfl) d_Md_run_93 (fun H locs hP hD hS => ?_)
              have hP : va_P D gCl (wMd t a (gSt ((mSets τ (mRho τ) np).1) 25 0 (nI (mSets τ (mRho τ) np).2))) H := hP
              have hD : va_D A (wMd t a (gSt ((mSets τ (mRho τ) np).1) 25 0 (nI (mSets τ (mRho τ) np).2))) := hD
              refine lv_iconst (v := 0) hx hb d_Md_run_96 (by decide) ?_
              refine lv_istore (lv' := [(5, .int 0), (1, .int (mTrySum np τ)), (4, .int (mTrySum np τ)), (3, .int (nI (mSets τ (mRho τ) np).2)), (0, .ref (a 0)), (2, .int mr)]) hx hb d_Md_run_97 hl (by decide) rfl (fun ls hl => ?_)
              refine cut_99 (np + 1) 0 (mTrySum np τ) (gSt ((mSets τ (mRho τ) np).1) 25 0 (nI (mSets τ (mRho τ) np).2)) (gSt ((mSets τ (mRho τ) np).1) 25 0 (nI (mSets τ (mRho τ) np).2)) _ _ _ (by omega) (by omega) (rfl) ((congrFun (mSets_fix τ (mRho τ) (by decide) np) 0).trans h8) (fun H locs ls  hP hD hS hl => ?_) hP hD hS (lv_sub hl [4, 1, 0] rfl)
              have hstep : mStep np (τ, lst) = (mCopy (gSt ((mSets τ (mRho τ) np).1) 25 0 (nI (mSets τ (mRho τ) np).2)) np, mTrySum np τ) := by simp [mStep, mAccB, c_3, c_12, c_14, c_16]
              have h8b : (mCopy (gSt ((mSets τ (mRho τ) np).1) 25 0 (nI (mSets τ (mRho τ) np).2)) np) 8 0 = nI np := (congrFun (mCopy_fix _ (by decide) np) 0).trans ((congrFun (mSets_fix τ (mRho τ) (by decide) np) 0).trans h8)
              refine lv_aload_n hx hb d_Md_run_128 rfl (lv_at hl 0 rfl) ?_
              refine g_vi (k := 0) (As := []) (rest := []) (own := R_Md) (C := R_Md) (index := 151) ⟨hx, hb, hml, hown, hts⟩ (c_Md_next l D t a (mCopy (gSt ((mSets τ (mRho τ) np).1) 25 0 (nI (mSets τ (mRho τ) np).2)) np) np h8b hN8) (gg_Md_151 _) (by decide +kernel) ⟨Nat.le_of_ble_eq_true rfl, Nat.le_of_ble_eq_true rfl⟩ rfl (va_recv hK.1 hP (ci := 7) (q0 := 0) rfl (wMd_0 t a (mCopy (gSt ((mSets τ (mRho τ) np).1) 25 0 (nI (mSets τ (mRho τ) np).2)) np))) hK hP hD hS hl.1 rfl (Nat.le_of_ble_eq_true rfl) ⟨Nat.zero_le _, Nat.zero_le _⟩ d_Md_run_129 (fun r_17 u_17 H locs q_17 hP hD hS => ?_)
              obtain ⟨rfl, hu_17⟩ := q_17
              rw [hu_17] at hP hD
              refine lv_istore_n (lv' := [(2, .int ((mNext (mCopy (gSt ((mSets τ (mRho τ) np).1) 25 0 (nI (mSets τ (mRho τ) np).2)) np) np np).2)), (0, .ref (a 0)), (1, .int (mTrySum np τ))]) hx hb d_Md_run_132 rfl hl (by decide) rfl (fun ls hl => ?_)
              refine lv_goto (tgt := 39) hx hb d_Md_run_133 (by decide) ?_
              exact ih k (mTrySum np τ) ((mNext (mCopy (gSt ((mSets τ (mRho τ) np).1) 25 0 (nI (mSets τ (mRho τ) np).2)) np) np np).2) ((mNext (mCopy (gSt ((mSets τ (mRho τ) np).1) 25 0 (nI (mSets τ (mRho τ) np).2)) np) np np).1) _ _ _ (by omega) (mIt_next hstep hst1.2.1 hst1.2.2) hP hD hS (lv_sub hl [1, 2, 0] rfl)
            · 
              refine lv_iload hx hb d_Md_run_74 (lv_at hl 0 rfl) ?_
              refine lv_iload_n hx hb d_Md_run_76 rfl (lv_at hl 3 rfl) ?_
              refine lv_icmp_ne (tgt := 128) hx hb d_Md_run_77 (by decide) (fun c_18 => ?_) (fun c_18 => ?_)
              · 
                have hstep : mStep np (τ, lst) = ((mSets τ (mRho τ) np).1, lst) := by simp [mStep, mAccB, c_3, c_12, c_14, c_16, c_18]
                have h8b : ((mSets τ (mRho τ) np).1) 8 0 = nI np := (congrFun (mSets_fix τ (mRho τ) (by decide) np) 0).trans h8
                refine lv_aload_n hx hb d_Md_run_128 rfl (lv_at hl 2 rfl) ?_
                refine g_vi (k := 0) (As := []) (rest := []) (own := R_Md) (C := R_Md) (index := 151) ⟨hx, hb, hml, hown, hts⟩ (c_Md_next l D t a ((mSets τ (mRho τ) np).1) np h8b hN8) (gg_Md_151 _) (by decide +kernel) ⟨Nat.le_of_ble_eq_true rfl, Nat.le_of_ble_eq_true rfl⟩ rfl (va_recv hK.1 hP (ci := 7) (q0 := 0) rfl (wMd_0 t a ((mSets τ (mRho τ) np).1))) hK hP hD hS hl.1 rfl (Nat.le_of_ble_eq_true rfl) ⟨Nat.zero_le _, Nat.zero_le _⟩ d_Md_run_129 (fun r_19 u_19 H locs q_19 hP hD hS => ?_)
                obtain ⟨rfl, hu_19⟩ := q_19
                rw [hu_19] at hP hD
                refine lv_istore_n (lv' := [(2, .int ((mNext ((mSets τ (mRho τ) np).1) np np).2)), (4, .int (mTrySum np τ)), (3, .int (nI (mSets τ (mRho τ) np).2)), (0, .ref (a 0)), (1, .int lst)]) hx hb d_Md_run_132 rfl hl (by decide) rfl (fun ls hl => ?_)
                refine lv_goto (tgt := 39) hx hb d_Md_run_133 (by decide) ?_
                exact ih k lst ((mNext ((mSets τ (mRho τ) np).1) np np).2) ((mNext ((mSets τ (mRho τ) np).1) np np).1) _ _ _ (by omega) (mIt_next hstep hst1.2.1 hst1.2.2) hP hD hS (lv_sub hl [3, 4, 0] rfl)
              · 
                refine lv_iload_n hx hb d_Md_run_80 rfl (lv_at hl 1 rfl) ?_
                refine lv_aload_n hx hb d_Md_run_81 rfl (lv_at hl 2 rfl) ?_
                refine va_get (D := D) (ci := 7) (v := .int (((mSets τ (mRho τ) np).1) 25 0)) (C := R_Md) (T := F_Md) (N := 34) hx hb hts (fun w h => List.mem_cons_of_mem _ (i_Md w h)) hown hK.1 hP 0 (wMd_0 t a ((mSets τ (mRho τ) np).1)) rfl 25 (by decide) (hts (.fieldLink R_Md 141 "FlatBoxesModel" "boxes" "I") (List.mem_cons_of_mem _ (gIn k_691 (by decide +kernel)))) (fun _ h9 => h9) rfl d_Md_run_82 ?_
                refine lv_icmp_ge (tgt := 128) hx hb d_Md_run_85 (by decide) (fun c_20 => ?_) (fun c_20 => ?_)
                · 
                  have hstep : mStep np (τ, lst) = ((mSets τ (mRho τ) np).1, lst) := by simp [mStep, mAccB, c_3, c_12, c_14, c_16, c_18, c_20]
                  have h8b : ((mSets τ (mRho τ) np).1) 8 0 = nI np := (congrFun (mSets_fix τ (mRho τ) (by decide) np) 0).trans h8
                  refine lv_aload_n hx hb d_Md_run_128 rfl (lv_at hl 2 rfl) ?_
                  refine g_vi (k := 0) (As := []) (rest := []) (own := R_Md) (C := R_Md) (index := 151) ⟨hx, hb, hml, hown, hts⟩ (c_Md_next l D t a ((mSets τ (mRho τ) np).1) np h8b hN8) (gg_Md_151 _) (by decide +kernel) ⟨Nat.le_of_ble_eq_true rfl, Nat.le_of_ble_eq_true rfl⟩ rfl (va_recv hK.1 hP (ci := 7) (q0 := 0) rfl (wMd_0 t a ((mSets τ (mRho τ) np).1))) hK hP hD hS hl.1 rfl (Nat.le_of_ble_eq_true rfl) ⟨Nat.zero_le _, Nat.zero_le _⟩ d_Md_run_129 (fun r_21 u_21 H locs q_21 hP hD hS => ?_)
                  obtain ⟨rfl, hu_21⟩ := q_21
                  rw [hu_21] at hP hD
                  refine lv_istore_n (lv' := [(2, .int ((mNext ((mSets τ (mRho τ) np).1) np np).2)), (4, .int (mTrySum np τ)), (3, .int (nI (mSets τ (mRho τ) np).2)), (0, .ref (a 0)), (1, .int lst)]) hx hb d_Md_run_132 rfl hl (by decide) rfl (fun ls hl => ?_)
                  refine lv_goto (tgt := 39) hx hb d_Md_run_133 (by decide) ?_
                  exact ih k lst ((mNext ((mSets τ (mRho τ) np).1) np np).2) ((mNext ((mSets τ (mRho τ) np).1) np np).1) _ _ _ (by omega) (mIt_next hstep hst1.2.1 hst1.2.2) hP hD hS (lv_sub hl [3, 4, 0] rfl)
                · 
                  refine lv_iload hx hb d_Md_run_88 (lv_at hl 0 rfl) ?_
                  refine lv_istore_n (lv' := [(1, .int (mTrySum np τ)), (4, .int (mTrySum np τ)), (3, .int (nI (mSets τ (mRho τ) np).2)), (0, .ref (a 0)), (2, .int mr)]) hx hb d_Md_run_90 rfl hl (by decide) rfl (fun ls hl => ?_)
                  refine lv_aload_n hx hb d_Md_run_91 rfl (lv_at hl 3 rfl) ?_
                  refine lv_iload_n hx hb d_Md_run_92 rfl (lv_at hl 2 rfl) ?_
                  refine va_put (D := D) (ci := 7) (v := .int (nI (mSets τ (mRho τ) np).2)) (ty := .int) (C := R_Md) (T := F_Md) (N := 34) hx hb hts (fun w h => List.mem_cons_of_mem _ (i_Md w h)) t_Md t_Md_ok n_Md hown hK.1 hP hD hS 0 (wMd_0 t a ((mSets τ (mRho τ) np).1)) rfl 25 (by decide) (hts (.fieldLink R_Md 141 "FlatBoxesModel" "boxes" "I") (List.mem_cons_of_mem _ (gIn k_691 (by decide +kernel)))) (fun _ h9 => h9) rfl (by decide +kernel) rfl rfl (Nat.le_of_ble_eq_true rfl) d_Md_run_93 (fun H locs hP hD hS => ?_)
                  have hP : va_P D gCl (wMd t a (gSt ((mSets τ (mRho τ) np).1) 25 0 (nI (mSets τ (mRho τ) np).2))) H := hP
                  have hD : va_D A (wMd t a (gSt ((mSets τ (mRho τ) np).1) 25 0 (nI (mSets τ (mRho τ) np).2))) := hD
                  refine lv_iconst (v := 0) hx hb d_Md_run_96 (by decide) ?_
                  refine lv_istore (lv' := [(5, .int 0), (1, .int (mTrySum np τ)), (4, .int (mTrySum np τ)), (3, .int (nI (mSets τ (mRho τ) np).2)), (0, .ref (a 0)), (2, .int mr)]) hx hb d_Md_run_97 hl (by decide) rfl (fun ls hl => ?_)
                  refine cut_99 (np + 1) 0 (mTrySum np τ) (gSt ((mSets τ (mRho τ) np).1) 25 0 (nI (mSets τ (mRho τ) np).2)) (gSt ((mSets τ (mRho τ) np).1) 25 0 (nI (mSets τ (mRho τ) np).2)) _ _ _ (by omega) (by omega) (rfl) ((congrFun (mSets_fix τ (mRho τ) (by decide) np) 0).trans h8) (fun H locs ls  hP hD hS hl => ?_) hP hD hS (lv_sub hl [4, 1, 0] rfl)
                  have hstep : mStep np (τ, lst) = (mCopy (gSt ((mSets τ (mRho τ) np).1) 25 0 (nI (mSets τ (mRho τ) np).2)) np, mTrySum np τ) := by simp [mStep, mAccB, c_3, c_12, c_14, c_16, c_18, c_20]
                  have h8b : (mCopy (gSt ((mSets τ (mRho τ) np).1) 25 0 (nI (mSets τ (mRho τ) np).2)) np) 8 0 = nI np := (congrFun (mCopy_fix _ (by decide) np) 0).trans ((congrFun (mSets_fix τ (mRho τ) (by decide) np) 0).trans h8)
                  refine lv_aload_n hx hb d_Md_run_128 rfl (lv_at hl 0 rfl) ?_
                  refine g_vi (k := 0) (As := []) (rest := []) (own := R_Md) (C := R_Md) (index := 151) ⟨hx, hb, hml, hown, hts⟩ (c_Md_next l D t a (mCopy (gSt ((mSets τ (mRho τ) np).1) 25 0 (nI (mSets τ (mRho τ) np).2)) np) np h8b hN8) (gg_Md_151 _) (by decide +kernel) ⟨Nat.le_of_ble_eq_true rfl, Nat.le_of_ble_eq_true rfl⟩ rfl (va_recv hK.1 hP (ci := 7) (q0 := 0) rfl (wMd_0 t a (mCopy (gSt ((mSets τ (mRho τ) np).1) 25 0 (nI (mSets τ (mRho τ) np).2)) np))) hK hP hD hS hl.1 rfl (Nat.le_of_ble_eq_true rfl) ⟨Nat.zero_le _, Nat.zero_le _⟩ d_Md_run_129 (fun r_22 u_22 H locs q_22 hP hD hS => ?_)
                  obtain ⟨rfl, hu_22⟩ := q_22
                  rw [hu_22] at hP hD
                  refine lv_istore_n (lv' := [(2, .int ((mNext (mCopy (gSt ((mSets τ (mRho τ) np).1) 25 0 (nI (mSets τ (mRho τ) np).2)) np) np np).2)), (0, .ref (a 0)), (1, .int (mTrySum np τ))]) hx hb d_Md_run_132 rfl hl (by decide) rfl (fun ls hl => ?_)
                  refine lv_goto (tgt := 39) hx hb d_Md_run_133 (by decide) ?_
                  exact ih k (mTrySum np τ) ((mNext (mCopy (gSt ((mSets τ (mRho τ) np).1) 25 0 (nI (mSets τ (mRho τ) np).2)) np) np np).2) ((mNext (mCopy (gSt ((mSets τ (mRho τ) np).1) 25 0 (nI (mSets τ (mRho τ) np).2)) np) np np).1) _ _ _ (by omega) (mIt_next hstep hst1.2.1 hst1.2.2) hP hD hS (lv_sub hl [1, 2, 0] rfl)
  have cut_11 : ∀ (n : Nat) (k : Nat) (τ : Nat → Nat → Int32) (H : Heap) (locs : List Loc) (ls : Array Slot), (k ≤ 8) → (9 ≤ k + n) → (mZr (mFBs (gSt σ 0 0 0) ord nc np (NN - 1)) k = τ) → va_P D gCl (wMd t a τ) H → va_D A (wMd t a τ) → va_S A s.heap H locs → lv_has ls 6 [(0, .ref (a 0)), (1, .int (nI k))] → gGo l p e s m below meth c D t A 3 [.ref (a 0)] (wMd t a) (fun r u => r = mRunR (mIter np NI (mRun0 σ ord nc np NN)) ∧ u = mRunU (mIter np NI (mRun0 σ ord nc np NN))) H locs (F0 m 11 ls []) := by
    intro n
    induction n with
    | zero =>
      intro k τ H locs ls hk hf hs hP hD hS hl
      exact absurd hf (by omega)
    | succ n ih =>
      intro k τ H locs ls hk hf hs hP hD hS hl
      refine lv_iload_n hx hb d_Md_run_11 rfl (lv_at hl 1 rfl) ?_
      refine lv_bipush (v := 8) hx hb d_Md_run_12 (by decide) ?_
      refine lv_icmp_ge (tgt := 30) hx hb d_Md_run_14 (by decide) (fun c_23 => ?_) (fun c_23 => ?_)
      · 
        have h_23 : 8 ≤ k := (nI_leI (a := 8) (b := k) (by omega) (by omega)).mp c_23
        refine lv_iconst (v := -1) hx hb d_Md_run_30 (by decide) ?_
        refine lv_istore_n (lv' := [(1, .int (-1)), (0, .ref (a 0))]) hx hb d_Md_run_31 rfl hl (by decide) rfl (fun ls hl => ?_)
        refine lv_aload_n hx hb d_Md_run_32 rfl (lv_at hl 1 rfl) ?_
        refine lv_iconst (v := 0) hx hb d_Md_run_33 (by decide) ?_
        refine va_put (D := D) (ci := 7) (v := .int 0) (ty := .int) (C := R_Md) (T := F_Md) (N := 34) hx hb hts (fun w h => List.mem_cons_of_mem _ (i_Md w h)) t_Md t_Md_ok n_Md hown hK.1 hP hD hS 0 (wMd_0 t a τ) rfl 25 (by decide) (hts (.fieldLink R_Md 141 "FlatBoxesModel" "boxes" "I") (List.mem_cons_of_mem _ (gIn k_691 (by decide +kernel)))) (fun _ h9 => h9) rfl (by decide +kernel) rfl rfl (Nat.le_of_ble_eq_true rfl) d_Md_run_34 (fun H locs hP hD hS => ?_)
        have hP : va_P D gCl (wMd t a (gSt τ 25 0 0)) H := hP
        have hD : va_D A (wMd t a (gSt τ 25 0 0)) := hD
        refine lv_iconst (v := 1) hx hb d_Md_run_37 (by decide) ?_
        refine lv_istore_n (lv' := [(2, .int 1), (1, .int (-1)), (0, .ref (a 0))]) hx hb d_Md_run_38 rfl hl (by decide) rfl (fun ls hl => ?_)
        exact cut_39 (NI + 1) NI (-1) 1 (gSt τ 25 0 0) _ _ _ (by omega) (by subst hs; obtain rfl : k = 8 := (by omega); exact Or.inr ⟨rfl, hOK, rfl⟩) hP hD hS (lv_sub hl [2, 1, 0] rfl)
      · 
        have h_23 : ¬ 8 ≤ k := fun q9 => c_23 ((nI_leI (a := 8) (b := k) (by omega) (by omega)).mpr q9)
        refine lv_aload_n hx hb d_Md_run_17 rfl (lv_at hl 0 rfl) ?_
        refine va_get (D := D) (ci := 7) (v := .ref (a 27)) (C := R_Md) (T := F_Md) (N := 34) hx hb hts (fun w h => List.mem_cons_of_mem _ (i_Md w h)) hown hK.1 hP 0 (wMd_0 t a τ) rfl 27 (by decide) (hts (.fieldLink R_Md 71 "FlatBoxesModel" "trial" "[I") (List.mem_cons_of_mem _ (gIn k_693 (by decide +kernel)))) (fun _ h9 => h9) rfl d_Md_run_18 ?_
        refine lv_iload_n hx hb d_Md_run_21 rfl (lv_at hl 1 rfl) ?_
        refine lv_iconst (v := 0) hx hb d_Md_run_22 (by decide) ?_
        refine g_iast hx hb hK.1 hP hD hS 21 0 (wMd_27 t a τ) rfl k (rfl) (by omega) (by decide) (w' := wMd t a (gSt τ 27 k 0)) (sMd_27 t a τ k 0) d_Md_run_23 (fun H locs hP hD hS => ?_)
        refine lv_iinc (v := nI (k + 1)) (lv' := [(1, .int (nI (k + 1))), (0, .ref (a 0))]) hx hb d_Md_run_24 hl (k := 1) rfl (nI_1 k) (by decide) rfl (fun ls hl => ?_)
        refine lv_goto (tgt := 11) hx hb d_Md_run_27 (by decide) ?_
        exact ih (k + 1) (gSt τ 27 k 0) _ _ _ (by omega) (by omega) (by rw [← hs]; rfl) hP hD hS (lv_sub hl [1, 0] rfl)
  refine lv_aload_n hx hb d_Md_run_0 rfl (lv_at hl 0 rfl) ?_
  refine lv_iconst (v := 0) hx hb d_Md_run_1 (by decide) ?_
  refine va_put (D := D) (ci := 7) (v := .int 0) (ty := .int) (C := R_Md) (T := F_Md) (N := 34) hx hb hts (fun w h => List.mem_cons_of_mem _ (i_Md w h)) t_Md t_Md_ok n_Md hown hK.1 hP hD hS 0 (wMd_0 t a σ) rfl 0 (by decide) (hts (.fieldLink R_Md 93 "FlatBoxesModel" "code" "I") (List.mem_cons_of_mem _ (gIn k_666 (by decide +kernel)))) (fun _ h9 => h9) rfl (by decide +kernel) rfl rfl (Nat.le_of_ble_eq_true rfl) d_Md_run_2 (fun H locs hP hD hS => ?_)
  have hP : va_P D gCl (wMd t a (gSt σ 0 0 0)) H := hP
  have hD : va_D A (wMd t a (gSt σ 0 0 0)) := hD
  refine lv_aload_n hx hb d_Md_run_5 rfl (lv_at hl 0 rfl) ?_
  refine g_vv (k := 0) (As := []) (rest := []) (own := R_Md) (C := R_Md) (index := 138) ⟨hx, hb, hml, hown, hts⟩ (c_Md_findBoxes l D t a (gSt σ 0 0 0) nc np NN ord hC hC4 hN hN8 hNN hN1 hN2 hord) (gg_Md_138 _) (by decide +kernel) ⟨Nat.le_of_ble_eq_true rfl, Nat.le_of_ble_eq_true rfl⟩ rfl (va_recv hK.1 hP (ci := 7) (q0 := 0) rfl (wMd_0 t a (gSt σ 0 0 0))) hK hP hD hS hl.1 rfl (Nat.le_of_ble_eq_true rfl) ⟨Nat.zero_le _, Nat.zero_le _⟩ d_Md_run_6 (fun u_24 H locs q_24 hP hD hS => ?_)
  have hu_24 : u_24 = _ := q_24
  rw [hu_24] at hP hD
  refine lv_iconst (v := 0) hx hb d_Md_run_9 (by decide) ?_
  refine lv_istore_n (lv' := [(1, .int 0), (0, .ref (a 0))]) hx hb d_Md_run_10 rfl hl (by decide) rfl (fun ls hl => ?_)
  exact cut_11 (9) 0 (mFBs (gSt σ 0 0 0) ord nc np (NN - 1)) _ _ _ (by omega) (by omega) (rfl) hP hD hS (lv_sub hl [1, 0] rfl)
