def mZero (σ : Nat → Nat → Int32) : Nat → (Nat → Nat → Int32)
  | 0 => σ
  | k + 1 => gSt (mZero σ k) 28 k 0
theorem mZero_fix (σ : Nat → Nat → Int32) {i : Nat} (h : i ≠ 28) : ∀ k, mZero σ k i = σ i
  | 0 => rfl
  | k + 1 => (gSt_ne _ _ _ _ h).trans (mZero_fix σ h k)
def mSets (σ : Nat → Nat → Int32) (rho : Nat → Nat) : Nat → (Nat → Nat → Int32) × Nat
  | 0 => (mZero σ 8, 0)
  | q + 1 => (gSt (mSets σ rho q).1 28 (rho q) ((mSets σ rho q).1 28 (rho q) ||| ((1 : Int32) <<< (nI q &&& 31))), if rho q < (mSets σ rho q).2 then (mSets σ rho q).2 else rho q + 1)
def mCost (σ : Nat → Nat → Int32) (sx : Nat → Nat) : Nat → Nat → Int32 → Int32
  | 0, _, acc => acc
  | d + 1, b, acc => if 0 ≤ σ 23 (sx b) then mCost σ sx d (b + 1) (acc + σ 6 (σ 23 (sx b)).toNatClampNeg) else -1


set_option maxHeartbeats 4000000 in
set_option maxRecDepth 100000 in
theorem c_Md_setsOf_t (l : Launch) (D : va_G) (t : Nat → ClassId) (a : Nat → Nat) (σ : Nat → Nat → Int32) (np : Nat) (rho : Nat → Nat) (hN : σ 8 0 = nI np) (hN8 : np ≤ 8) (hrow : ∀ q, q < np → σ 27 q = nI (rho q) ∧ rho q < 8) : gMi l D t y_Md_setsOf b_Md_setsOf 4 (some .int) 0 [.ref (a 0), .ref (a 27)] (wMd t a σ) (wMd t a) (fun r u => r = nI (mSets σ rho np).2 ∧ u = (mSets σ rho np).1) := by
  intro A
  refine Met.ofW (cc := b_Md_setsOf) (maxL := 4) (ret := (some .int)) (by decide) rfl ?_
  intro p e s m args below meth c s₁ B hml hv
  obtain ⟨rfl, hK, hP, hD⟩ := hv
  have hx := B.exec
  have hb := B.bytes
  have hr := B.returns
  have hts := atoms_spec (ws := .code y_Md_setsOf b_Md_setsOf 4 (some .int) :: gBig) B.pre
  have hown : s.vm.findClass R_Md = some m.cls := findClass_of_methodNamed B.named
  have hlocks := B.notSynchronized
  have hS : va_S A s.heap s.heap [] := va_S.rf
  have hl := lv_entry ([.ref (a 0), .ref (a 27)]) (n := 4) (Nat.le_of_ble_eq_true rfl)
  rw [lg_entry_eq]
  generalize (lg_sl ([.ref (a 0), .ref (a 27)]) ++ List.replicate (4 - (lg_sl ([.ref (a 0), .ref (a 27)])).length) Slot.unset).toArray = ls at hl ⊢
  have hl : lv_has ls 4 [(0, .ref (a 0)), (1, .ref (a 27))] := hl
  show gGo l p e s m below meth c D t A 0 [.ref (a 0), .ref (a 27)] (wMd t a) (fun r u => r = nI (mSets σ rho np).2 ∧ u = (mSets σ rho np).1) s.heap [] (F0 m 0 ls [])
  have cut_25 : ∀ (n : Nat) (q : Nat) (nn : Nat) (τ : Nat → Nat → Int32) (H : Heap) (locs : List Loc) (ls : Array Slot), (q ≤ np) → (np + 1 ≤ q + n) → (mSets σ rho q = (τ, nn)) → (nn ≤ 8) → (∀ i, i ≠ 28 → τ i = σ i) → va_P D gCl (wMd t a τ) H → va_D A (wMd t a τ) → va_S A s.heap H locs → lv_has ls 4 [(0, .ref (a 0)), (1, .ref (a 27)), (2, .int (nI nn)), (3, .int (nI q))] → gGo l p e s m below meth c D t A 0 [.ref (a 0), .ref (a 27)] (wMd t a) (fun r u => r = nI (mSets σ rho np).2 ∧ u = (mSets σ rho np).1) H locs (F0 m 25 ls []) := by
    intro n
    induction n with
    | zero =>
      intro q nn τ H locs ls hq hf hs hnn hfix hP hD hS hl
      exact absurd hf (by omega)
    | succ n ih =>
      intro q nn τ H locs ls hq hf hs hnn hfix hP hD hS hl
      refine lv_iload_n hx hb d_Md_setsOf_25 rfl (lv_at hl 3 rfl) ?_
      refine lv_aload_n hx hb d_Md_setsOf_26 rfl (lv_at hl 0 rfl) ?_
      refine va_get (D := D) (ci := 7) (v := .int (τ 8 0)) (C := R_Md) (T := F_Md) (N := 34) hx hb hts (fun w h => List.mem_cons_of_mem _ (i_Md w h)) hown hK.1 hP 0 (wMd_0 t a τ) rfl 8 (by decide) (hts (.fieldLink R_Md 113 "FlatBoxesModel" "parts" "I") (List.mem_cons_of_mem _ (gIn k_674 (by decide +kernel)))) (fun _ h9 => h9) rfl d_Md_setsOf_27 ?_
      refine lv_topi (fun v_1 e_1 => ?_)
      obtain rfl : v_1 = nI np := e_1.trans ((congrFun (hfix 8 (by decide)) 0).trans hN)
      refine lv_icmp_ge (tgt := 70) hx hb d_Md_setsOf_30 (by decide) (fun c_2 => ?_) (fun c_2 => ?_)
      · 
        have h_2 : np ≤ q := (nI_leI (a := np) (b := q) (by omega) (by omega)).mp c_2
        refine lv_iload_n hx hb d_Md_setsOf_70 rfl (lv_at hl 2 rfl) ?_
        exact W.iret (v := nI nn) hx hb hr (fun U hU hW => ⟨⟨nI nn, τ, rfl, by obtain rfl : q = np := (by omega); exact ⟨by rw [hs], by rw [hs]⟩, by rw [hU]; exact hP, hD⟩, hS.F hU⟩) hS.2.2 d_Md_setsOf_71
      · 
        have h_2 : ¬ np ≤ q := fun q9 => c_2 ((nI_leI (a := np) (b := q) (by omega) (by omega)).mpr q9)
        refine lv_aload_n hx hb d_Md_setsOf_33 rfl (lv_at hl 0 rfl) ?_
        refine va_get (D := D) (ci := 7) (v := .ref (a 28)) (C := R_Md) (T := F_Md) (N := 34) hx hb hts (fun w h => List.mem_cons_of_mem _ (i_Md w h)) hown hK.1 hP 0 (wMd_0 t a τ) rfl 28 (by decide) (hts (.fieldLink R_Md 74 "FlatBoxesModel" "sets" "[I") (List.mem_cons_of_mem _ (gIn k_694 (by decide +kernel)))) (fun _ h9 => h9) rfl d_Md_setsOf_34 ?_
        refine lv_aload_n hx hb d_Md_setsOf_37 rfl (lv_at hl 1 rfl) ?_
        refine lv_iload_n hx hb d_Md_setsOf_38 rfl (lv_at hl 3 rfl) ?_
        refine g_iald hx hb hK.1 hP 21 0 (wMd_27 t a τ) rfl q (rfl) (by omega) (by decide) d_Md_setsOf_39 ?_
        refine lv_topi (fun v_3 e_3 => ?_)
        obtain rfl : v_3 = nI (rho q) := e_3.trans ((congrFun (hfix 27 (by decide)) q).trans (hrow q (by omega)).1)
        have hr8 := (hrow q (by omega)).2
        refine lv_dup2_11 hx hb d_Md_setsOf_40 rfl rfl ?_
        refine g_iald hx hb hK.1 hP 22 0 (wMd_28 t a τ) rfl (rho q) (rfl) (by omega) (by decide) d_Md_setsOf_41 ?_
        refine lv_iconst (v := 1) hx hb d_Md_setsOf_42 (by decide) ?_
        refine lv_iload_n hx hb d_Md_setsOf_43 rfl (lv_at hl 3 rfl) ?_
        refine lv_ishl hx hb d_Md_setsOf_44 ?_
        refine lv_ior hx hb d_Md_setsOf_45 ?_
        refine g_iast hx hb hK.1 hP hD hS 22 0 (wMd_28 t a τ) rfl (rho q) (rfl) (by omega) (by decide) (w' := wMd t a (gSt τ 28 (rho q) ((τ 28 (rho q)) ||| (1 <<< ((nI q) &&& 31))))) (sMd_28 t a τ (rho q) ((τ 28 (rho q)) ||| (1 <<< ((nI q) &&& 31)))) d_Md_setsOf_46 (fun H locs hP hD hS => ?_)
        refine lv_aload_n hx hb d_Md_setsOf_47 rfl (lv_at hl 1 rfl) ?_
        refine lv_iload_n hx hb d_Md_setsOf_48 rfl (lv_at hl 3 rfl) ?_
        refine g_iald hx hb hK.1 hP 21 0 (wMd_27 t a (gSt τ 28 (rho q) ((τ 28 (rho q)) ||| (1 <<< ((nI q) &&& 31))))) rfl q (rfl) (by omega) (by decide) d_Md_setsOf_49 ?_
        refine lv_topi (fun v_4 e_4 => ?_)
        obtain rfl : v_4 = nI (rho q) := e_4.trans ((congrFun (hfix 27 (by decide)) q).trans (hrow q (by omega)).1)
        refine lv_iload_n hx hb d_Md_setsOf_50 rfl (lv_at hl 2 rfl) ?_
        refine lv_icmp_lt (tgt := 62) hx hb d_Md_setsOf_51 (by decide) (fun c_5 => ?_) (fun c_5 => ?_)
        · 
          have h_5 : rho q < nn := (nI_ltI (a := rho q) (b := nn) (by omega) (by omega)).mp c_5
          refine lv_iload_n hx hb d_Md_setsOf_62 rfl (lv_at hl 2 rfl) ?_
          refine lv_istore_n (lv' := [(2, .int (nI nn)), (0, .ref (a 0)), (1, .ref (a 27)), (3, .int (nI q))]) hx hb d_Md_setsOf_63 rfl hl (by decide) rfl (fun ls hl => ?_)
          refine lv_iinc (v := nI (q + 1)) (lv' := [(3, .int (nI (q + 1))), (2, .int (nI nn)), (0, .ref (a 0)), (1, .ref (a 27))]) hx hb d_Md_setsOf_64 hl (k := 3) rfl (nI_1 q) (by decide) rfl (fun ls hl => ?_)
          refine lv_goto (tgt := 25) hx hb d_Md_setsOf_67 (by decide) ?_
          exact ih (q + 1) nn (gSt τ 28 (rho q) ((τ 28 (rho q)) ||| (1 <<< ((nI q) &&& 31)))) _ _ _ (by omega) (by omega) (by simp [mSets, hs, c_2, h_2, c_5, h_5]) (by omega) (fun i hi => (gSt_ne _ _ _ _ hi).trans (hfix i hi)) hP hD hS (lv_sub hl [2, 3, 1, 0] rfl)
        · 
          have h_5 : ¬ rho q < nn := fun q9 => c_5 ((nI_ltI (a := rho q) (b := nn) (by omega) (by omega)).mpr q9)
          refine lv_aload_n hx hb d_Md_setsOf_54 rfl (lv_at hl 1 rfl) ?_
          refine lv_iload_n hx hb d_Md_setsOf_55 rfl (lv_at hl 3 rfl) ?_
          refine g_iald hx hb hK.1 hP 21 0 (wMd_27 t a (gSt τ 28 (rho q) ((τ 28 (rho q)) ||| (1 <<< ((nI q) &&& 31))))) rfl q (rfl) (by omega) (by decide) d_Md_setsOf_56 ?_
          refine lv_topi (fun v_6 e_6 => ?_)
          obtain rfl : v_6 = nI (rho q) := e_6.trans ((congrFun (hfix 27 (by decide)) q).trans (hrow q (by omega)).1)
          refine lv_iconst (v := 1) hx hb d_Md_setsOf_57 (by decide) ?_
          refine lv_iadd hx hb d_Md_setsOf_58 ?_
          refine lv_topi (fun v_7 e_7 => ?_)
          obtain rfl : v_7 = nI (rho q + 1) := e_7.trans (nI_1 _)
          refine lv_goto (tgt := 63) hx hb d_Md_setsOf_59 (by decide) ?_
          refine lv_istore_n (lv' := [(2, .int (nI (rho q + 1))), (0, .ref (a 0)), (1, .ref (a 27)), (3, .int (nI q))]) hx hb d_Md_setsOf_63 rfl hl (by decide) rfl (fun ls hl => ?_)
          refine lv_iinc (v := nI (q + 1)) (lv' := [(3, .int (nI (q + 1))), (2, .int (nI (rho q + 1))), (0, .ref (a 0)), (1, .ref (a 27))]) hx hb d_Md_setsOf_64 hl (k := 3) rfl (nI_1 q) (by decide) rfl (fun ls hl => ?_)
          refine lv_goto (tgt := 25) hx hb d_Md_setsOf_67 (by decide) ?_
          exact ih (q + 1) (rho q + 1) (gSt τ 28 (rho q) ((τ 28 (rho q)) ||| (1 <<< ((nI q) &&& 31)))) _ _ _ (by omega) (by omega) (by simp [mSets, hs, c_2, h_2, c_5, h_5]) (by omega) (fun i hi => (gSt_ne _ _ _ _ hi).trans (hfix i hi)) hP hD hS (lv_sub hl [2, 3, 1, 0] rfl)
  have cut_4 : ∀ (n : Nat) (k : Nat) (τ : Nat → Nat → Int32) (H : Heap) (locs : List Loc) (ls : Array Slot), (k ≤ 8) → (9 ≤ k + n) → (mZero σ k = τ) → va_P D gCl (wMd t a τ) H → va_D A (wMd t a τ) → va_S A s.heap H locs → lv_has ls 4 [(0, .ref (a 0)), (1, .ref (a 27)), (2, .int 0), (3, .int (nI k))] → gGo l p e s m below meth c D t A 0 [.ref (a 0), .ref (a 27)] (wMd t a) (fun r u => r = nI (mSets σ rho np).2 ∧ u = (mSets σ rho np).1) H locs (F0 m 4 ls []) := by
    intro n
    induction n with
    | zero =>
      intro k τ H locs ls hk hf hs hP hD hS hl
      exact absurd hf (by omega)
    | succ n ih =>
      intro k τ H locs ls hk hf hs hP hD hS hl
      refine lv_iload_n hx hb d_Md_setsOf_4 rfl (lv_at hl 3 rfl) ?_
      refine lv_bipush (v := 8) hx hb d_Md_setsOf_5 (by decide) ?_
      refine lv_icmp_ge (tgt := 23) hx hb d_Md_setsOf_7 (by decide) (fun c_8 => ?_) (fun c_8 => ?_)
      · 
        have h_8 : 8 ≤ k := (nI_leI (a := 8) (b := k) (by omega) (by omega)).mp c_8
        refine lv_iconst (v := 0) hx hb d_Md_setsOf_23 (by decide) ?_
        refine lv_istore_n (lv' := [(3, .int 0), (0, .ref (a 0)), (1, .ref (a 27)), (2, .int 0)]) hx hb d_Md_setsOf_24 rfl hl (by decide) rfl (fun ls hl => ?_)
        exact cut_25 (np + 1) 0 0 τ _ _ _ (by omega) (by omega) (by obtain rfl : k = 8 := (by omega); rw [← hs]; rfl) (by omega) (fun i hi => by rw [← hs]; exact mZero_fix σ hi k) hP hD hS (lv_sub hl [1, 2, 3, 0] rfl)
      · 
        have h_8 : ¬ 8 ≤ k := fun q9 => c_8 ((nI_leI (a := 8) (b := k) (by omega) (by omega)).mpr q9)
        refine lv_aload_n hx hb d_Md_setsOf_10 rfl (lv_at hl 0 rfl) ?_
        refine va_get (D := D) (ci := 7) (v := .ref (a 28)) (C := R_Md) (T := F_Md) (N := 34) hx hb hts (fun w h => List.mem_cons_of_mem _ (i_Md w h)) hown hK.1 hP 0 (wMd_0 t a τ) rfl 28 (by decide) (hts (.fieldLink R_Md 74 "FlatBoxesModel" "sets" "[I") (List.mem_cons_of_mem _ (gIn k_694 (by decide +kernel)))) (fun _ h9 => h9) rfl d_Md_setsOf_11 ?_
        refine lv_iload_n hx hb d_Md_setsOf_14 rfl (lv_at hl 3 rfl) ?_
        refine lv_iconst (v := 0) hx hb d_Md_setsOf_15 (by decide) ?_
        refine g_iast hx hb hK.1 hP hD hS 22 0 (wMd_28 t a τ) rfl k (rfl) (by omega) (by decide) (w' := wMd t a (gSt τ 28 k 0)) (sMd_28 t a τ k 0) d_Md_setsOf_16 (fun H locs hP hD hS => ?_)
        refine lv_iinc (v := nI (k + 1)) (lv' := [(3, .int (nI (k + 1))), (0, .ref (a 0)), (1, .ref (a 27)), (2, .int 0)]) hx hb d_Md_setsOf_17 hl (k := 3) rfl (nI_1 k) (by decide) rfl (fun ls hl => ?_)
        refine lv_goto (tgt := 4) hx hb d_Md_setsOf_20 (by decide) ?_
        exact ih (k + 1) (gSt τ 28 k 0) _ _ _ (by omega) (by omega) (by rw [← hs]; rfl) hP hD hS (lv_sub hl [1, 2, 3, 0] rfl)
  refine lv_iconst (v := 0) hx hb d_Md_setsOf_0 (by decide) ?_
  refine lv_istore_n (lv' := [(2, .int 0), (0, .ref (a 0)), (1, .ref (a 27))]) hx hb d_Md_setsOf_1 rfl hl (by decide) rfl (fun ls hl => ?_)
  refine lv_iconst (v := 0) hx hb d_Md_setsOf_2 (by decide) ?_
  refine lv_istore_n (lv' := [(3, .int 0), (2, .int 0), (0, .ref (a 0)), (1, .ref (a 27))]) hx hb d_Md_setsOf_3 rfl hl (by decide) rfl (fun ls hl => ?_)
  exact cut_4 (9) 0 σ _ _ _ (by omega) (by omega) (rfl) hP hD hS (lv_sub hl [2, 3, 1, 0] rfl)
set_option maxHeartbeats 4000000 in
set_option maxRecDepth 100000 in
theorem c_Md_setsOf_s (l : Launch) (D : va_G) (t : Nat → ClassId) (a : Nat → Nat) (σ : Nat → Nat → Int32) (np : Nat) (rho : Nat → Nat) (hN : σ 8 0 = nI np) (hN8 : np ≤ 8) (hrow : ∀ q, q < np → σ 26 q = nI (rho q) ∧ rho q < 8) : gMi l D t y_Md_setsOf b_Md_setsOf 4 (some .int) 0 [.ref (a 0), .ref (a 26)] (wMd t a σ) (wMd t a) (fun r u => r = nI (mSets σ rho np).2 ∧ u = (mSets σ rho np).1) := by
  intro A
  refine Met.ofW (cc := b_Md_setsOf) (maxL := 4) (ret := (some .int)) (by decide) rfl ?_
  intro p e s m args below meth c s₁ B hml hv
  obtain ⟨rfl, hK, hP, hD⟩ := hv
  have hx := B.exec
  have hb := B.bytes
  have hr := B.returns
  have hts := atoms_spec (ws := .code y_Md_setsOf b_Md_setsOf 4 (some .int) :: gBig) B.pre
  have hown : s.vm.findClass R_Md = some m.cls := findClass_of_methodNamed B.named
  have hlocks := B.notSynchronized
  have hS : va_S A s.heap s.heap [] := va_S.rf
  have hl := lv_entry ([.ref (a 0), .ref (a 26)]) (n := 4) (Nat.le_of_ble_eq_true rfl)
  rw [lg_entry_eq]
  generalize (lg_sl ([.ref (a 0), .ref (a 26)]) ++ List.replicate (4 - (lg_sl ([.ref (a 0), .ref (a 26)])).length) Slot.unset).toArray = ls at hl ⊢
  have hl : lv_has ls 4 [(0, .ref (a 0)), (1, .ref (a 26))] := hl
  show gGo l p e s m below meth c D t A 0 [.ref (a 0), .ref (a 26)] (wMd t a) (fun r u => r = nI (mSets σ rho np).2 ∧ u = (mSets σ rho np).1) s.heap [] (F0 m 0 ls [])
  have cut_25 : ∀ (n : Nat) (q : Nat) (nn : Nat) (τ : Nat → Nat → Int32) (H : Heap) (locs : List Loc) (ls : Array Slot), (q ≤ np) → (np + 1 ≤ q + n) → (mSets σ rho q = (τ, nn)) → (nn ≤ 8) → (∀ i, i ≠ 28 → τ i = σ i) → va_P D gCl (wMd t a τ) H → va_D A (wMd t a τ) → va_S A s.heap H locs → lv_has ls 4 [(0, .ref (a 0)), (1, .ref (a 26)), (2, .int (nI nn)), (3, .int (nI q))] → gGo l p e s m below meth c D t A 0 [.ref (a 0), .ref (a 26)] (wMd t a) (fun r u => r = nI (mSets σ rho np).2 ∧ u = (mSets σ rho np).1) H locs (F0 m 25 ls []) := by
    intro n
    induction n with
    | zero =>
      intro q nn τ H locs ls hq hf hs hnn hfix hP hD hS hl
      exact absurd hf (by omega)
    | succ n ih =>
      intro q nn τ H locs ls hq hf hs hnn hfix hP hD hS hl
      refine lv_iload_n hx hb d_Md_setsOf_25 rfl (lv_at hl 3 rfl) ?_
      refine lv_aload_n hx hb d_Md_setsOf_26 rfl (lv_at hl 0 rfl) ?_
      refine va_get (D := D) (ci := 7) (v := .int (τ 8 0)) (C := R_Md) (T := F_Md) (N := 34) hx hb hts (fun w h => List.mem_cons_of_mem _ (i_Md w h)) hown hK.1 hP 0 (wMd_0 t a τ) rfl 8 (by decide) (hts (.fieldLink R_Md 113 "FlatBoxesModel" "parts" "I") (List.mem_cons_of_mem _ (gIn k_674 (by decide +kernel)))) (fun _ h9 => h9) rfl d_Md_setsOf_27 ?_
      refine lv_topi (fun v_1 e_1 => ?_)
      obtain rfl : v_1 = nI np := e_1.trans ((congrFun (hfix 8 (by decide)) 0).trans hN)
      refine lv_icmp_ge (tgt := 70) hx hb d_Md_setsOf_30 (by decide) (fun c_2 => ?_) (fun c_2 => ?_)
      · 
        have h_2 : np ≤ q := (nI_leI (a := np) (b := q) (by omega) (by omega)).mp c_2
        refine lv_iload_n hx hb d_Md_setsOf_70 rfl (lv_at hl 2 rfl) ?_
        exact W.iret (v := nI nn) hx hb hr (fun U hU hW => ⟨⟨nI nn, τ, rfl, by obtain rfl : q = np := (by omega); exact ⟨by rw [hs], by rw [hs]⟩, by rw [hU]; exact hP, hD⟩, hS.F hU⟩) hS.2.2 d_Md_setsOf_71
      · 
        have h_2 : ¬ np ≤ q := fun q9 => c_2 ((nI_leI (a := np) (b := q) (by omega) (by omega)).mpr q9)
        refine lv_aload_n hx hb d_Md_setsOf_33 rfl (lv_at hl 0 rfl) ?_
        refine va_get (D := D) (ci := 7) (v := .ref (a 28)) (C := R_Md) (T := F_Md) (N := 34) hx hb hts (fun w h => List.mem_cons_of_mem _ (i_Md w h)) hown hK.1 hP 0 (wMd_0 t a τ) rfl 28 (by decide) (hts (.fieldLink R_Md 74 "FlatBoxesModel" "sets" "[I") (List.mem_cons_of_mem _ (gIn k_694 (by decide +kernel)))) (fun _ h9 => h9) rfl d_Md_setsOf_34 ?_
        refine lv_aload_n hx hb d_Md_setsOf_37 rfl (lv_at hl 1 rfl) ?_
        refine lv_iload_n hx hb d_Md_setsOf_38 rfl (lv_at hl 3 rfl) ?_
        refine g_iald hx hb hK.1 hP 20 0 (wMd_26 t a τ) rfl q (rfl) (by omega) (by decide) d_Md_setsOf_39 ?_
        refine lv_topi (fun v_3 e_3 => ?_)
        obtain rfl : v_3 = nI (rho q) := e_3.trans ((congrFun (hfix 26 (by decide)) q).trans (hrow q (by omega)).1)
        have hr8 := (hrow q (by omega)).2
        refine lv_dup2_11 hx hb d_Md_setsOf_40 rfl rfl ?_
        refine g_iald hx hb hK.1 hP 22 0 (wMd_28 t a τ) rfl (rho q) (rfl) (by omega) (by decide) d_Md_setsOf_41 ?_
        refine lv_iconst (v := 1) hx hb d_Md_setsOf_42 (by decide) ?_
        refine lv_iload_n hx hb d_Md_setsOf_43 rfl (lv_at hl 3 rfl) ?_
        refine lv_ishl hx hb d_Md_setsOf_44 ?_
        refine lv_ior hx hb d_Md_setsOf_45 ?_
        refine g_iast hx hb hK.1 hP hD hS 22 0 (wMd_28 t a τ) rfl (rho q) (rfl) (by omega) (by decide) (w' := wMd t a (gSt τ 28 (rho q) ((τ 28 (rho q)) ||| (1 <<< ((nI q) &&& 31))))) (sMd_28 t a τ (rho q) ((τ 28 (rho q)) ||| (1 <<< ((nI q) &&& 31)))) d_Md_setsOf_46 (fun H locs hP hD hS => ?_)
        refine lv_aload_n hx hb d_Md_setsOf_47 rfl (lv_at hl 1 rfl) ?_
        refine lv_iload_n hx hb d_Md_setsOf_48 rfl (lv_at hl 3 rfl) ?_
        refine g_iald hx hb hK.1 hP 20 0 (wMd_26 t a (gSt τ 28 (rho q) ((τ 28 (rho q)) ||| (1 <<< ((nI q) &&& 31))))) rfl q (rfl) (by omega) (by decide) d_Md_setsOf_49 ?_
        refine lv_topi (fun v_4 e_4 => ?_)
        obtain rfl : v_4 = nI (rho q) := e_4.trans ((congrFun (hfix 26 (by decide)) q).trans (hrow q (by omega)).1)
        refine lv_iload_n hx hb d_Md_setsOf_50 rfl (lv_at hl 2 rfl) ?_
        refine lv_icmp_lt (tgt := 62) hx hb d_Md_setsOf_51 (by decide) (fun c_5 => ?_) (fun c_5 => ?_)
        · 
          have h_5 : rho q < nn := (nI_ltI (a := rho q) (b := nn) (by omega) (by omega)).mp c_5
          refine lv_iload_n hx hb d_Md_setsOf_62 rfl (lv_at hl 2 rfl) ?_
          refine lv_istore_n (lv' := [(2, .int (nI nn)), (0, .ref (a 0)), (1, .ref (a 26)), (3, .int (nI q))]) hx hb d_Md_setsOf_63 rfl hl (by decide) rfl (fun ls hl => ?_)
          refine lv_iinc (v := nI (q + 1)) (lv' := [(3, .int (nI (q + 1))), (2, .int (nI nn)), (0, .ref (a 0)), (1, .ref (a 26))]) hx hb d_Md_setsOf_64 hl (k := 3) rfl (nI_1 q) (by decide) rfl (fun ls hl => ?_)
          refine lv_goto (tgt := 25) hx hb d_Md_setsOf_67 (by decide) ?_
          exact ih (q + 1) nn (gSt τ 28 (rho q) ((τ 28 (rho q)) ||| (1 <<< ((nI q) &&& 31)))) _ _ _ (by omega) (by omega) (by simp [mSets, hs, c_2, h_2, c_5, h_5]) (by omega) (fun i hi => (gSt_ne _ _ _ _ hi).trans (hfix i hi)) hP hD hS (lv_sub hl [2, 3, 1, 0] rfl)
        · 
          have h_5 : ¬ rho q < nn := fun q9 => c_5 ((nI_ltI (a := rho q) (b := nn) (by omega) (by omega)).mpr q9)
          refine lv_aload_n hx hb d_Md_setsOf_54 rfl (lv_at hl 1 rfl) ?_
          refine lv_iload_n hx hb d_Md_setsOf_55 rfl (lv_at hl 3 rfl) ?_
          refine g_iald hx hb hK.1 hP 20 0 (wMd_26 t a (gSt τ 28 (rho q) ((τ 28 (rho q)) ||| (1 <<< ((nI q) &&& 31))))) rfl q (rfl) (by omega) (by decide) d_Md_setsOf_56 ?_
          refine lv_topi (fun v_6 e_6 => ?_)
          obtain rfl : v_6 = nI (rho q) := e_6.trans ((congrFun (hfix 26 (by decide)) q).trans (hrow q (by omega)).1)
          refine lv_iconst (v := 1) hx hb d_Md_setsOf_57 (by decide) ?_
          refine lv_iadd hx hb d_Md_setsOf_58 ?_
          refine lv_topi (fun v_7 e_7 => ?_)
          obtain rfl : v_7 = nI (rho q + 1) := e_7.trans (nI_1 _)
          refine lv_goto (tgt := 63) hx hb d_Md_setsOf_59 (by decide) ?_
          refine lv_istore_n (lv' := [(2, .int (nI (rho q + 1))), (0, .ref (a 0)), (1, .ref (a 26)), (3, .int (nI q))]) hx hb d_Md_setsOf_63 rfl hl (by decide) rfl (fun ls hl => ?_)
          refine lv_iinc (v := nI (q + 1)) (lv' := [(3, .int (nI (q + 1))), (2, .int (nI (rho q + 1))), (0, .ref (a 0)), (1, .ref (a 26))]) hx hb d_Md_setsOf_64 hl (k := 3) rfl (nI_1 q) (by decide) rfl (fun ls hl => ?_)
          refine lv_goto (tgt := 25) hx hb d_Md_setsOf_67 (by decide) ?_
          exact ih (q + 1) (rho q + 1) (gSt τ 28 (rho q) ((τ 28 (rho q)) ||| (1 <<< ((nI q) &&& 31)))) _ _ _ (by omega) (by omega) (by simp [mSets, hs, c_2, h_2, c_5, h_5]) (by omega) (fun i hi => (gSt_ne _ _ _ _ hi).trans (hfix i hi)) hP hD hS (lv_sub hl [2, 3, 1, 0] rfl)
  have cut_4 : ∀ (n : Nat) (k : Nat) (τ : Nat → Nat → Int32) (H : Heap) (locs : List Loc) (ls : Array Slot), (k ≤ 8) → (9 ≤ k + n) → (mZero σ k = τ) → va_P D gCl (wMd t a τ) H → va_D A (wMd t a τ) → va_S A s.heap H locs → lv_has ls 4 [(0, .ref (a 0)), (1, .ref (a 26)), (2, .int 0), (3, .int (nI k))] → gGo l p e s m below meth c D t A 0 [.ref (a 0), .ref (a 26)] (wMd t a) (fun r u => r = nI (mSets σ rho np).2 ∧ u = (mSets σ rho np).1) H locs (F0 m 4 ls []) := by
    intro n
    induction n with
    | zero =>
      intro k τ H locs ls hk hf hs hP hD hS hl
      exact absurd hf (by omega)
    | succ n ih =>
      intro k τ H locs ls hk hf hs hP hD hS hl
      refine lv_iload_n hx hb d_Md_setsOf_4 rfl (lv_at hl 3 rfl) ?_
      refine lv_bipush (v := 8) hx hb d_Md_setsOf_5 (by decide) ?_
      refine lv_icmp_ge (tgt := 23) hx hb d_Md_setsOf_7 (by decide) (fun c_8 => ?_) (fun c_8 => ?_)
      · 
        have h_8 : 8 ≤ k := (nI_leI (a := 8) (b := k) (by omega) (by omega)).mp c_8
        refine lv_iconst (v := 0) hx hb d_Md_setsOf_23 (by decide) ?_
        refine lv_istore_n (lv' := [(3, .int 0), (0, .ref (a 0)), (1, .ref (a 26)), (2, .int 0)]) hx hb d_Md_setsOf_24 rfl hl (by decide) rfl (fun ls hl => ?_)
        exact cut_25 (np + 1) 0 0 τ _ _ _ (by omega) (by omega) (by obtain rfl : k = 8 := (by omega); rw [← hs]; rfl) (by omega) (fun i hi => by rw [← hs]; exact mZero_fix σ hi k) hP hD hS (lv_sub hl [1, 2, 3, 0] rfl)
      · 
        have h_8 : ¬ 8 ≤ k := fun q9 => c_8 ((nI_leI (a := 8) (b := k) (by omega) (by omega)).mpr q9)
        refine lv_aload_n hx hb d_Md_setsOf_10 rfl (lv_at hl 0 rfl) ?_
        refine va_get (D := D) (ci := 7) (v := .ref (a 28)) (C := R_Md) (T := F_Md) (N := 34) hx hb hts (fun w h => List.mem_cons_of_mem _ (i_Md w h)) hown hK.1 hP 0 (wMd_0 t a τ) rfl 28 (by decide) (hts (.fieldLink R_Md 74 "FlatBoxesModel" "sets" "[I") (List.mem_cons_of_mem _ (gIn k_694 (by decide +kernel)))) (fun _ h9 => h9) rfl d_Md_setsOf_11 ?_
        refine lv_iload_n hx hb d_Md_setsOf_14 rfl (lv_at hl 3 rfl) ?_
        refine lv_iconst (v := 0) hx hb d_Md_setsOf_15 (by decide) ?_
        refine g_iast hx hb hK.1 hP hD hS 22 0 (wMd_28 t a τ) rfl k (rfl) (by omega) (by decide) (w' := wMd t a (gSt τ 28 k 0)) (sMd_28 t a τ k 0) d_Md_setsOf_16 (fun H locs hP hD hS => ?_)
        refine lv_iinc (v := nI (k + 1)) (lv' := [(3, .int (nI (k + 1))), (0, .ref (a 0)), (1, .ref (a 26)), (2, .int 0)]) hx hb d_Md_setsOf_17 hl (k := 3) rfl (nI_1 k) (by decide) rfl (fun ls hl => ?_)
        refine lv_goto (tgt := 4) hx hb d_Md_setsOf_20 (by decide) ?_
        exact ih (k + 1) (gSt τ 28 k 0) _ _ _ (by omega) (by omega) (by rw [← hs]; rfl) hP hD hS (lv_sub hl [1, 2, 3, 0] rfl)
  refine lv_iconst (v := 0) hx hb d_Md_setsOf_0 (by decide) ?_
  refine lv_istore_n (lv' := [(2, .int 0), (0, .ref (a 0)), (1, .ref (a 26))]) hx hb d_Md_setsOf_1 rfl hl (by decide) rfl (fun ls hl => ?_)
  refine lv_iconst (v := 0) hx hb d_Md_setsOf_2 (by decide) ?_
  refine lv_istore_n (lv' := [(3, .int 0), (2, .int 0), (0, .ref (a 0)), (1, .ref (a 26))]) hx hb d_Md_setsOf_3 rfl hl (by decide) rfl (fun ls hl => ?_)
  exact cut_4 (9) 0 σ _ _ _ (by omega) (by omega) (rfl) hP hD hS (lv_sub hl [2, 3, 1, 0] rfl)
set_option maxHeartbeats 4000000 in
set_option maxRecDepth 100000 in
theorem c_Md_costOf (l : Launch) (D : va_G) (t : Nat → ClassId) (a : Nat → Nat) (σ : Nat → Nat → Int32) (mm : Nat) (hm : mm ≤ 8) (sx : Nat → Nat) (hsx : ∀ b, b < mm → σ 28 b = nI (sx b) ∧ sx b < 256) (hbx : ∀ b, b < mm → σ 23 (sx b) < 0 ∨ ∃ c, c < 4 ∧ σ 23 (sx b) = nI c) : gMi l D t y_Md_costOf b_Md_costOf 4 (some .int) 0 [.ref (a 0), .int (nI mm)] (wMd t a σ) (wMd t a) (fun r u => r = mCost σ sx mm 0 0 ∧ u = σ) := by
  intro A
  refine Met.ofW (cc := b_Md_costOf) (maxL := 4) (ret := (some .int)) (by decide) rfl ?_
  intro p e s m args below meth c s₁ B hml hv
  obtain ⟨rfl, hK, hP, hD⟩ := hv
  have hx := B.exec
  have hb := B.bytes
  have hr := B.returns
  have hts := atoms_spec (ws := .code y_Md_costOf b_Md_costOf 4 (some .int) :: gBig) B.pre
  have hown : s.vm.findClass R_Md = some m.cls := findClass_of_methodNamed B.named
  have hlocks := B.notSynchronized
  have hS : va_S A s.heap s.heap [] := va_S.rf
  have hl := lv_entry ([.ref (a 0), .int (nI mm)]) (n := 4) (Nat.le_of_ble_eq_true rfl)
  rw [lg_entry_eq]
  generalize (lg_sl ([.ref (a 0), .int (nI mm)]) ++ List.replicate (4 - (lg_sl ([.ref (a 0), .int (nI mm)])).length) Slot.unset).toArray = ls at hl ⊢
  have hl : lv_has ls 4 [(0, .ref (a 0)), (1, .int (nI mm))] := hl
  show gGo l p e s m below meth c D t A 0 [.ref (a 0), .int (nI mm)] (wMd t a) (fun r u => r = mCost σ sx mm 0 0 ∧ u = σ) s.heap [] (F0 m 0 ls [])
  have cut_4 : ∀ (n : Nat) (d : Nat) (b : Nat) (acc : Int32) (H : Heap) (locs : List Loc) (ls : Array Slot), (b + d = mm) → (d + 1 ≤ n) → (mCost σ sx mm 0 0 = mCost σ sx d b acc) → va_P D gCl (wMd t a σ) H → va_D A (wMd t a σ) → va_S A s.heap H locs → lv_has ls 4 [(0, .ref (a 0)), (1, .int (nI mm)), (2, .int acc), (3, .int (nI b))] → gGo l p e s m below meth c D t A 0 [.ref (a 0), .int (nI mm)] (wMd t a) (fun r u => r = mCost σ sx mm 0 0 ∧ u = σ) H locs (F0 m 4 ls []) := by
    intro n
    induction n with
    | zero =>
      intro d b acc H locs ls hd hf hs hP hD hS hl
      exact absurd hf (by omega)
    | succ n ih =>
      intro d b acc H locs ls hd hf hs hP hD hS hl
      refine lv_iload_n hx hb d_Md_costOf_4 rfl (lv_at hl 3 rfl) ?_
      refine lv_iload_n hx hb d_Md_costOf_5 rfl (lv_at hl 1 rfl) ?_
      refine lv_icmp_ge (tgt := 50) hx hb d_Md_costOf_6 (by decide) (fun c_1 => ?_) (fun c_1 => ?_)
      · 
        have h_1 : mm ≤ b := (nI_leI (a := mm) (b := b) (by omega) (by omega)).mp c_1
        refine lv_iload_n hx hb d_Md_costOf_50 rfl (lv_at hl 2 rfl) ?_
        exact W.iret (v := acc) hx hb hr (fun U hU hW => ⟨⟨acc, σ, rfl, by exact ⟨by rw [hs]; obtain rfl : d = 0 := (by omega); rfl, rfl⟩, by rw [hU]; exact hP, hD⟩, hS.F hU⟩) hS.2.2 d_Md_costOf_51
      · 
        have h_1 : ¬ mm ≤ b := fun q9 => c_1 ((nI_leI (a := mm) (b := b) (by omega) (by omega)).mpr q9)
        obtain ⟨d, rfl⟩ : ∃ d9, d = d9 + 1 := ⟨d - 1, by omega⟩
        refine lv_aload_n hx hb d_Md_costOf_9 rfl (lv_at hl 0 rfl) ?_
        refine va_get (D := D) (ci := 7) (v := .ref (a 23)) (C := R_Md) (T := F_Md) (N := 34) hx hb hts (fun w h => List.mem_cons_of_mem _ (i_Md w h)) hown hK.1 hP 0 (wMd_0 t a σ) rfl 23 (by decide) (hts (.fieldLink R_Md 65 "FlatBoxesModel" "boxOf" "[I") (List.mem_cons_of_mem _ (gIn k_689 (by decide +kernel)))) (fun _ h9 => h9) rfl d_Md_costOf_10 ?_
        refine lv_aload_n hx hb d_Md_costOf_13 rfl (lv_at hl 0 rfl) ?_
        refine va_get (D := D) (ci := 7) (v := .ref (a 28)) (C := R_Md) (T := F_Md) (N := 34) hx hb hts (fun w h => List.mem_cons_of_mem _ (i_Md w h)) hown hK.1 hP 0 (wMd_0 t a σ) rfl 28 (by decide) (hts (.fieldLink R_Md 74 "FlatBoxesModel" "sets" "[I") (List.mem_cons_of_mem _ (gIn k_694 (by decide +kernel)))) (fun _ h9 => h9) rfl d_Md_costOf_14 ?_
        refine lv_iload_n hx hb d_Md_costOf_17 rfl (lv_at hl 3 rfl) ?_
        refine g_iald hx hb hK.1 hP 22 0 (wMd_28 t a σ) rfl b (rfl) (by omega) (by decide) d_Md_costOf_18 ?_
        refine lv_topi (fun v_2 e_2 => ?_)
        obtain rfl : v_2 = nI (sx b) := e_2.trans ((hsx b (by omega)).1)
        have h256 := (hsx b (by omega)).2
        refine g_iald hx hb hK.1 hP 19 0 (wMd_23 t a σ) rfl (sx b) (rfl) (by omega) (by decide) d_Md_costOf_19 ?_
        refine lv_if_ge (tgt := 25) hx hb d_Md_costOf_20 (by decide) (fun c_3 => ?_) (fun c_3 => ?_)
        · 
          obtain ⟨c1, hc1, hc2⟩ := (hbx b (by omega)).resolve_left (fun h9 => absurd c_3 (Int32.not_le.mpr h9))
          refine lv_iload_n hx hb d_Md_costOf_25 rfl (lv_at hl 2 rfl) ?_
          refine lv_aload_n hx hb d_Md_costOf_26 rfl (lv_at hl 0 rfl) ?_
          refine va_get (D := D) (ci := 7) (v := .ref (a 6)) (C := R_Md) (T := F_Md) (N := 34) hx hb hts (fun w h => List.mem_cons_of_mem _ (i_Md w h)) hown hK.1 hP 0 (wMd_0 t a σ) rfl 6 (by decide) (hts (.fieldLink R_Md 19 "FlatBoxesModel" "cents" "[I") (List.mem_cons_of_mem _ (gIn k_672 (by decide +kernel)))) (fun _ h9 => h9) rfl d_Md_costOf_27 ?_
          refine lv_aload_n hx hb d_Md_costOf_30 rfl (lv_at hl 0 rfl) ?_
          refine va_get (D := D) (ci := 7) (v := .ref (a 23)) (C := R_Md) (T := F_Md) (N := 34) hx hb hts (fun w h => List.mem_cons_of_mem _ (i_Md w h)) hown hK.1 hP 0 (wMd_0 t a σ) rfl 23 (by decide) (hts (.fieldLink R_Md 65 "FlatBoxesModel" "boxOf" "[I") (List.mem_cons_of_mem _ (gIn k_689 (by decide +kernel)))) (fun _ h9 => h9) rfl d_Md_costOf_31 ?_
          refine lv_aload_n hx hb d_Md_costOf_34 rfl (lv_at hl 0 rfl) ?_
          refine va_get (D := D) (ci := 7) (v := .ref (a 28)) (C := R_Md) (T := F_Md) (N := 34) hx hb hts (fun w h => List.mem_cons_of_mem _ (i_Md w h)) hown hK.1 hP 0 (wMd_0 t a σ) rfl 28 (by decide) (hts (.fieldLink R_Md 74 "FlatBoxesModel" "sets" "[I") (List.mem_cons_of_mem _ (gIn k_694 (by decide +kernel)))) (fun _ h9 => h9) rfl d_Md_costOf_35 ?_
          refine lv_iload_n hx hb d_Md_costOf_38 rfl (lv_at hl 3 rfl) ?_
          refine g_iald hx hb hK.1 hP 22 0 (wMd_28 t a σ) rfl b (rfl) (by omega) (by decide) d_Md_costOf_39 ?_
          refine lv_topi (fun v_4 e_4 => ?_)
          obtain rfl : v_4 = nI (sx b) := e_4.trans ((hsx b (by omega)).1)
          refine g_iald hx hb hK.1 hP 19 0 (wMd_23 t a σ) rfl (sx b) (rfl) (by omega) (by decide) d_Md_costOf_40 ?_
          refine lv_topi (fun v_5 e_5 => ?_)
          obtain rfl : v_5 = nI c1 := e_5.trans (hc2)
          refine g_iald hx hb hK.1 hP 4 0 (wMd_6 t a σ) rfl c1 (rfl) (by omega) (by decide) d_Md_costOf_41 ?_
          refine lv_iadd hx hb d_Md_costOf_42 ?_
          refine lv_istore_n (lv' := [(2, .int (acc + (σ 6 c1))), (0, .ref (a 0)), (1, .int (nI mm)), (3, .int (nI b))]) hx hb d_Md_costOf_43 rfl hl (by decide) rfl (fun ls hl => ?_)
          refine lv_iinc (v := nI (b + 1)) (lv' := [(3, .int (nI (b + 1))), (2, .int (acc + (σ 6 c1))), (0, .ref (a 0)), (1, .int (nI mm))]) hx hb d_Md_costOf_44 hl (k := 3) rfl (nI_1 b) (by decide) rfl (fun ls hl => ?_)
          refine lv_goto (tgt := 4) hx hb d_Md_costOf_47 (by decide) ?_
          exact ih d (b + 1) (acc + (σ 6 c1)) _ _ _ (by omega) (by omega) (by rw [hs]; simp [mCost, hc2, nI_pos' (show c1 < 2 ^ 31 by omega), nI_clamp (show c1 < 2 ^ 31 by omega)]) hP hD hS (lv_sub hl [2, 3, 1, 0] rfl)
        · 
          refine lv_iconst (v := -1) hx hb d_Md_costOf_23 (by decide) ?_
          exact W.iret (v := -1) hx hb hr (fun U hU hW => ⟨⟨-1, σ, rfl, by exact ⟨by rw [hs]; simp [mCost, c_1, h_1, c_3], rfl⟩, by rw [hU]; exact hP, hD⟩, hS.F hU⟩) hS.2.2 d_Md_costOf_24
  refine lv_iconst (v := 0) hx hb d_Md_costOf_0 (by decide) ?_
  refine lv_istore_n (lv' := [(2, .int 0), (0, .ref (a 0)), (1, .int (nI mm))]) hx hb d_Md_costOf_1 rfl hl (by decide) rfl (fun ls hl => ?_)
  refine lv_iconst (v := 0) hx hb d_Md_costOf_2 (by decide) ?_
  refine lv_istore_n (lv' := [(3, .int 0), (2, .int 0), (0, .ref (a 0)), (1, .int (nI mm))]) hx hb d_Md_costOf_3 rfl hl (by decide) rfl (fun ls hl => ?_)
  exact cut_4 (mm + 1) mm 0 0 _ _ _ (by omega) (by omega) (rfl) hP hD hS (lv_sub hl [2, 3, 1, 0] rfl)
