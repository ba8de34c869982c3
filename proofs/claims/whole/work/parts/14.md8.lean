def mMost (f : Nat → Int32) : Nat → Int32
  | 0 => 0
  | q + 1 => if f q ≤ mMost f q then mMost f q else f q
def mZt (σ : Nat → Nat → Int32) (p : Nat) : Nat → (Nat → Nat → Int32)
  | 0 => σ
  | k + 1 => gSt (mZt σ p k) 27 (p + 1 + k) 0
def mNext (σ : Nat → Nat → Int32) (np : Nat) : Nat → (Nat → Nat → Int32) × Int32
  | 0 => (σ, 0)
  | p + 1 => if p = 0 then (σ, 0) else if mMost (σ 27) p < σ 27 p then mNext σ np p else (mZt (gSt σ 27 p (σ 27 p + 1)) p (np - (p + 1)), 1)
theorem gDle : ∀ d, d < 9 → (nI d - 1 ≤ 0 ↔ d ≤ 1) := by decide
theorem gM1 (x : Int32) : x + Int32.ofInt (-1) = x - 1 := by rw [Int32.sub_eq_add_neg]; rfl


set_option maxHeartbeats 4000000 in
set_option maxRecDepth 100000 in
theorem c_Md_next (l : Launch) (D : va_G) (t : Nat → ClassId) (a : Nat → Nat) (σ : Nat → Nat → Int32) (np : Nat) (hN : σ 8 0 = nI np) (hN8 : np ≤ 8) : gMi l D t y_Md_next b_Md_next 4 (some .boolean) 0 [.ref (a 0)] (wMd t a σ) (wMd t a) (fun r u => r = (mNext σ np np).2 ∧ u = (mNext σ np np).1) := by
  intro A
  refine Met.ofW (cc := b_Md_next) (maxL := 4) (ret := (some .boolean)) (by decide) rfl ?_
  intro p e s m args below meth c s₁ B hml hv
  obtain ⟨rfl, hK, hP, hD⟩ := hv
  have hx := B.exec
  have hb := B.bytes
  have hr := B.returns
  have hts := atoms_spec (ws := .code y_Md_next b_Md_next 4 (some .boolean) :: gBig) B.pre
  have hown : s.vm.findClass R_Md = some m.cls := findClass_of_methodNamed B.named
  have hlocks := B.notSynchronized
  have hS : va_S A s.heap s.heap [] := va_S.rf
  have hl := lv_entry ([.ref (a 0)]) (n := 4) (Nat.le_of_ble_eq_true rfl)
  rw [lg_entry_eq]
  generalize (lg_sl ([.ref (a 0)]) ++ List.replicate (4 - (lg_sl ([.ref (a 0)])).length) Slot.unset).toArray = ls at hl ⊢
  have hl : lv_has ls 4 [(0, .ref (a 0))] := hl
  show gGo l p e s m below meth c D t A 0 [.ref (a 0)] (wMd t a) (fun r u => r = (mNext σ np np).2 ∧ u = (mNext σ np np).1) s.heap [] (F0 m 0 ls [])
  have cut_71 : ∀ (n : Nat) (p9 : Nat) (k : Nat) (τ0 : Nat → Nat → Int32) (τ : Nat → Nat → Int32) (H : Heap) (locs : List Loc) (ls : Array Slot), (p9 + 1 + k ≤ np) → (np + 1 ≤ p9 + 1 + k + n) → (mZt τ0 p9 k = τ) → (τ 8 0 = nI np) → (mNext σ np np = (mZt τ0 p9 (np - (p9 + 1)), 1)) → va_P D gCl (wMd t a τ) H → va_D A (wMd t a τ) → va_S A s.heap H locs → lv_has ls 4 [(0, .ref (a 0)), (3, .int (nI (p9 + 1 + k)))] → gGo l p e s m below meth c D t A 0 [.ref (a 0)] (wMd t a) (fun r u => r = (mNext σ np np).2 ∧ u = (mNext σ np np).1) H locs (F0 m 71 ls []) := by
    intro n
    induction n with
    | zero =>
      intro p9 k τ0 τ H locs ls hk hf hs2 h8 hmain hP hD hS hl
      exact absurd hf (by omega)
    | succ n ih =>
      intro p9 k τ0 τ H locs ls hk hf hs2 h8 hmain hP hD hS hl
      refine lv_iload_n hx hb d_Md_next_71 rfl (lv_at hl 1 rfl) ?_
      refine lv_aload_n hx hb d_Md_next_72 rfl (lv_at hl 0 rfl) ?_
      refine va_get (D := D) (ci := 7) (v := .int (τ 8 0)) (C := R_Md) (T := F_Md) (N := 34) hx hb hts (fun w h => List.mem_cons_of_mem _ (i_Md w h)) hown hK.1 hP 0 (wMd_0 t a τ) rfl 8 (by decide) (hts (.fieldLink R_Md 113 "FlatBoxesModel" "parts" "I") (List.mem_cons_of_mem _ (gIn k_674 (by decide +kernel)))) (fun _ h9 => h9) rfl d_Md_next_73 ?_
      refine lv_topi (fun v_1 e_1 => ?_)
      obtain rfl : v_1 = nI np := e_1.trans (h8)
      refine lv_icmp_ge (tgt := 92) hx hb d_Md_next_76 (by decide) (fun c_2 => ?_) (fun c_2 => ?_)
      · 
        have h_2 : np ≤ p9 + 1 + k := (nI_leI (a := np) (b := p9 + 1 + k) (by omega) (by omega)).mp c_2
        refine lv_iconst (v := 1) hx hb d_Md_next_92 (by decide) ?_
        exact W.zret (v := 1) (ty := .boolean) hx hb hr (rfl) (fun U hU hW => ⟨⟨1, τ, rfl, by exact ⟨by rw [hmain], by rw [hmain, ← hs2]; congr 1; omega⟩, by rw [hU]; exact hP, hD⟩, hS.F hU⟩) hS.2.2 d_Md_next_93
      · 
        have h_2 : ¬ np ≤ p9 + 1 + k := fun q9 => c_2 ((nI_leI (a := np) (b := p9 + 1 + k) (by omega) (by omega)).mpr q9)
        refine lv_aload_n hx hb d_Md_next_79 rfl (lv_at hl 0 rfl) ?_
        refine va_get (D := D) (ci := 7) (v := .ref (a 27)) (C := R_Md) (T := F_Md) (N := 34) hx hb hts (fun w h => List.mem_cons_of_mem _ (i_Md w h)) hown hK.1 hP 0 (wMd_0 t a τ) rfl 27 (by decide) (hts (.fieldLink R_Md 71 "FlatBoxesModel" "trial" "[I") (List.mem_cons_of_mem _ (gIn k_693 (by decide +kernel)))) (fun _ h9 => h9) rfl d_Md_next_80 ?_
        refine lv_iload_n hx hb d_Md_next_83 rfl (lv_at hl 1 rfl) ?_
        refine lv_iconst (v := 0) hx hb d_Md_next_84 (by decide) ?_
        refine g_iast hx hb hK.1 hP hD hS 21 0 (wMd_27 t a τ) rfl (p9 + 1 + k) (rfl) (by omega) (by decide) (w' := wMd t a (gSt τ 27 (p9 + 1 + k) 0)) (sMd_27 t a τ (p9 + 1 + k) 0) d_Md_next_85 (fun H locs hP hD hS => ?_)
        refine lv_iinc (v := nI (p9 + 1 + (k + 1))) (lv' := [(3, .int (nI (p9 + 1 + (k + 1)))), (0, .ref (a 0))]) hx hb d_Md_next_86 hl (k := 1) rfl (nI_1 _) (by decide) rfl (fun ls hl => ?_)
        refine lv_goto (tgt := 71) hx hb d_Md_next_89 (by decide) ?_
        exact ih p9 (k + 1) τ0 (gSt τ 27 (p9 + 1 + k) 0) _ _ _ (by omega) (by omega) (by rw [← hs2]; rfl) (h8) (hmain) hP hD hS (lv_sub hl [1, 0] rfl)
  have cut_15 : ∀ (n : Nat) (p9 : Nat) (r : Nat) (mo : Int32) (H : Heap) (locs : List Loc) (ls : Array Slot), (r ≤ p9) → (p9 < 8) → (p9 + 1 ≤ r + n) → (mo = mMost (σ 27) r) → (∀ (H : Heap) (locs : List Loc) (ls : Array Slot), va_P D gCl (wMd t a σ) H → va_D A (wMd t a σ) → va_S A s.heap H locs → lv_has ls 4 [(0, .ref (a 0)), (1, .int (nI (p9 + 1) - 1)), (2, .int (mMost (σ 27) p9))] → gGo l p e s m below meth c D t A 0 [.ref (a 0)] (wMd t a) (fun r u => r = (mNext σ np np).2 ∧ u = (mNext σ np np).1) H locs (F0 m 47 ls [])) → va_P D gCl (wMd t a σ) H → va_D A (wMd t a σ) → va_S A s.heap H locs → lv_has ls 4 [(0, .ref (a 0)), (1, .int (nI (p9 + 1) - 1)), (2, .int mo), (3, .int (nI r))] → gGo l p e s m below meth c D t A 0 [.ref (a 0)] (wMd t a) (fun r u => r = (mNext σ np np).2 ∧ u = (mNext σ np np).1) H locs (F0 m 15 ls []) := by
    intro n
    induction n with
    | zero =>
      intro p9 r mo H locs ls hr1 hp8 hf hmo hX hP hD hS hl
      exact absurd hf (by omega)
    | succ n ih =>
      intro p9 r mo H locs ls hr1 hp8 hf hmo hX hP hD hS hl
      refine lv_iload_n hx hb d_Md_next_15 rfl (lv_at hl 3 rfl) ?_
      refine lv_iload_n hx hb d_Md_next_16 rfl (lv_at hl 1 rfl) ?_
      refine lv_topi (fun v_3 e_3 => ?_)
      obtain rfl : v_3 = nI p9 := e_3.trans (nI_pred p9)
      refine lv_icmp_ge (tgt := 47) hx hb d_Md_next_17 (by decide) (fun c_4 => ?_) (fun c_4 => ?_)
      · 
        have h_4 : p9 ≤ r := (nI_leI (a := p9) (b := r) (by omega) (by omega)).mp c_4
        obtain rfl : r = p9 := by omega
        subst hmo
        exact hX _ _ _  hP hD hS (lv_sub hl [0, 1, 2] rfl)
      · 
        have h_4 : ¬ p9 ≤ r := fun q9 => c_4 ((nI_leI (a := p9) (b := r) (by omega) (by omega)).mpr q9)
        refine lv_aload_n hx hb d_Md_next_20 rfl (lv_at hl 0 rfl) ?_
        refine va_get (D := D) (ci := 7) (v := .ref (a 27)) (C := R_Md) (T := F_Md) (N := 34) hx hb hts (fun w h => List.mem_cons_of_mem _ (i_Md w h)) hown hK.1 hP 0 (wMd_0 t a σ) rfl 27 (by decide) (hts (.fieldLink R_Md 71 "FlatBoxesModel" "trial" "[I") (List.mem_cons_of_mem _ (gIn k_693 (by decide +kernel)))) (fun _ h9 => h9) rfl d_Md_next_21 ?_
        refine lv_iload_n hx hb d_Md_next_24 rfl (lv_at hl 3 rfl) ?_
        refine g_iald hx hb hK.1 hP 21 0 (wMd_27 t a σ) rfl r (rfl) (by omega) (by decide) d_Md_next_25 ?_
        refine lv_iload_n hx hb d_Md_next_26 rfl (lv_at hl 2 rfl) ?_
        refine lv_icmp_le (tgt := 39) hx hb d_Md_next_27 (by decide) (fun c_5 => ?_) (fun c_5 => ?_)
        · 
          refine lv_iload_n hx hb d_Md_next_39 rfl (lv_at hl 2 rfl) ?_
          refine lv_istore_n (lv' := [(2, .int mo), (0, .ref (a 0)), (1, .int (nI (p9 + 1) - 1)), (3, .int (nI r))]) hx hb d_Md_next_40 rfl hl (by decide) rfl (fun ls hl => ?_)
          refine lv_iinc (v := nI (r + 1)) (lv' := [(3, .int (nI (r + 1))), (2, .int mo), (0, .ref (a 0)), (1, .int (nI (p9 + 1) - 1))]) hx hb d_Md_next_41 hl (k := 3) rfl (nI_1 r) (by decide) rfl (fun ls hl => ?_)
          refine lv_goto (tgt := 15) hx hb d_Md_next_44 (by decide) ?_
          exact ih p9 (r + 1) mo _ _ _ (by omega) (by omega) (by omega) (by first | (rw [hmo]; simp [mMost, ← hmo, c_4, h_4, c_5]; done) | (subst hmo; simp [mMost, c_4, h_4, c_5])) hX hP hD hS (lv_sub hl [2, 3, 1, 0] rfl)
        · 
          refine lv_aload_n hx hb d_Md_next_30 rfl (lv_at hl 0 rfl) ?_
          refine va_get (D := D) (ci := 7) (v := .ref (a 27)) (C := R_Md) (T := F_Md) (N := 34) hx hb hts (fun w h => List.mem_cons_of_mem _ (i_Md w h)) hown hK.1 hP 0 (wMd_0 t a σ) rfl 27 (by decide) (hts (.fieldLink R_Md 71 "FlatBoxesModel" "trial" "[I") (List.mem_cons_of_mem _ (gIn k_693 (by decide +kernel)))) (fun _ h9 => h9) rfl d_Md_next_31 ?_
          refine lv_iload_n hx hb d_Md_next_34 rfl (lv_at hl 3 rfl) ?_
          refine g_iald hx hb hK.1 hP 21 0 (wMd_27 t a σ) rfl r (rfl) (by omega) (by decide) d_Md_next_35 ?_
          refine lv_goto (tgt := 40) hx hb d_Md_next_36 (by decide) ?_
          refine lv_istore_n (lv' := [(2, .int (σ 27 r)), (0, .ref (a 0)), (1, .int (nI (p9 + 1) - 1)), (3, .int (nI r))]) hx hb d_Md_next_40 rfl hl (by decide) rfl (fun ls hl => ?_)
          refine lv_iinc (v := nI (r + 1)) (lv' := [(3, .int (nI (r + 1))), (2, .int (σ 27 r)), (0, .ref (a 0)), (1, .int (nI (p9 + 1) - 1))]) hx hb d_Md_next_41 hl (k := 3) rfl (nI_1 r) (by decide) rfl (fun ls hl => ?_)
          refine lv_goto (tgt := 15) hx hb d_Md_next_44 (by decide) ?_
          exact ih p9 (r + 1) (σ 27 r) _ _ _ (by omega) (by omega) (by omega) (by first | (rw [hmo]; simp [mMost, ← hmo, c_4, h_4, c_5]; done) | (subst hmo; simp [mMost, c_4, h_4, c_5])) hX hP hD hS (lv_sub hl [2, 3, 1, 0] rfl)
  have cut_7 : ∀ (n : Nat) (d : Nat) (H : Heap) (locs : List Loc) (ls : Array Slot), (d ≤ np) → (d + 1 ≤ n) → (mNext σ np np = mNext σ np d) → va_P D gCl (wMd t a σ) H → va_D A (wMd t a σ) → va_S A s.heap H locs → lv_has ls 4 [(0, .ref (a 0)), (1, .int (nI d - 1))] → gGo l p e s m below meth c D t A 0 [.ref (a 0)] (wMd t a) (fun r u => r = (mNext σ np np).2 ∧ u = (mNext σ np np).1) H locs (F0 m 7 ls []) := by
    intro n
    induction n with
    | zero =>
      intro d H locs ls hd hf hs hP hD hS hl
      exact absurd hf (by omega)
    | succ n ih =>
      intro d H locs ls hd hf hs hP hD hS hl
      refine lv_iload_n hx hb d_Md_next_7 rfl (lv_at hl 1 rfl) ?_
      refine lv_if_le (tgt := 100) hx hb d_Md_next_8 (by decide) (fun c_6 => ?_) (fun c_6 => ?_)
      · 
        have hd1 : d ≤ 1 := (gDle d (by omega)).mp c_6
        refine lv_iconst (v := 0) hx hb d_Md_next_100 (by decide) ?_
        exact W.zret (v := 0) (ty := .boolean) hx hb hr (rfl) (fun U hU hW => ⟨⟨0, σ, rfl, by rcases (show d = 0 ∨ d = 1 by omega) with rfl | rfl <;> exact ⟨by rw [hs]; rfl, by rw [hs]; rfl⟩, by rw [hU]; exact hP, hD⟩, hS.F hU⟩) hS.2.2 d_Md_next_101
      · 
        have hd1 : ¬ d ≤ 1 := fun q9 => c_6 ((gDle d (by omega)).mpr q9)
        obtain ⟨p9, rfl⟩ : ∃ p9, d = p9 + 1 := ⟨d - 1, by omega⟩
        refine lv_iconst (v := 0) hx hb d_Md_next_11 (by decide) ?_
        refine lv_istore_n (lv' := [(2, .int 0), (0, .ref (a 0)), (1, .int (nI (p9 + 1) - 1))]) hx hb d_Md_next_12 rfl hl (by decide) rfl (fun ls hl => ?_)
        refine lv_iconst (v := 0) hx hb d_Md_next_13 (by decide) ?_
        refine lv_istore_n (lv' := [(3, .int 0), (2, .int 0), (0, .ref (a 0)), (1, .int (nI (p9 + 1) - 1))]) hx hb d_Md_next_14 rfl hl (by decide) rfl (fun ls hl => ?_)
        refine cut_15 (p9 + 1) p9 0 0 _ _ _ (by omega) (by omega) (by omega) (rfl) (fun H locs ls  hP hD hS hl => ?_) hP hD hS (lv_sub hl [2, 3, 1, 0] rfl)
        refine lv_aload_n hx hb d_Md_next_47 rfl (lv_at hl 0 rfl) ?_
        refine va_get (D := D) (ci := 7) (v := .ref (a 27)) (C := R_Md) (T := F_Md) (N := 34) hx hb hts (fun w h => List.mem_cons_of_mem _ (i_Md w h)) hown hK.1 hP 0 (wMd_0 t a σ) rfl 27 (by decide) (hts (.fieldLink R_Md 71 "FlatBoxesModel" "trial" "[I") (List.mem_cons_of_mem _ (gIn k_693 (by decide +kernel)))) (fun _ h9 => h9) rfl d_Md_next_48 ?_
        refine lv_iload_n hx hb d_Md_next_51 rfl (lv_at hl 1 rfl) ?_
        refine lv_topi (fun v_7 e_7 => ?_)
        obtain rfl : v_7 = nI p9 := e_7.trans (nI_pred p9)
        refine g_iald hx hb hK.1 hP 21 0 (wMd_27 t a σ) rfl p9 (rfl) (by omega) (by decide) d_Md_next_52 ?_
        refine lv_iload_n hx hb d_Md_next_53 rfl (lv_at hl 2 rfl) ?_
        refine lv_icmp_gt (tgt := 94) hx hb d_Md_next_54 (by decide) (fun c_8 => ?_) (fun c_8 => ?_)
        · 
          refine lv_iinc (v := nI p9 - 1) (lv' := [(1, .int (nI p9 - 1)), (0, .ref (a 0)), (2, .int (mMost (σ 27) p9))]) hx hb d_Md_next_94 hl (k := 1) rfl (by rw [nI_pred]; exact gM1 _) (by decide) rfl (fun ls hl => ?_)
          refine lv_goto (tgt := 7) hx hb d_Md_next_97 (by decide) ?_
          exact ih p9 _ _ _ (by omega) (by omega) (by rw [hs]; simp [mNext, (show ¬ p9 = 0 by omega), c_6, c_8]) hP hD hS (lv_sub hl [1, 0] rfl)
        · 
          refine lv_aload_n hx hb d_Md_next_57 rfl (lv_at hl 0 rfl) ?_
          refine va_get (D := D) (ci := 7) (v := .ref (a 27)) (C := R_Md) (T := F_Md) (N := 34) hx hb hts (fun w h => List.mem_cons_of_mem _ (i_Md w h)) hown hK.1 hP 0 (wMd_0 t a σ) rfl 27 (by decide) (hts (.fieldLink R_Md 71 "FlatBoxesModel" "trial" "[I") (List.mem_cons_of_mem _ (gIn k_693 (by decide +kernel)))) (fun _ h9 => h9) rfl d_Md_next_58 ?_
          refine lv_iload_n hx hb d_Md_next_61 rfl (lv_at hl 1 rfl) ?_
          refine lv_topi (fun v_9 e_9 => ?_)
          obtain rfl : v_9 = nI p9 := e_9.trans (nI_pred p9)
          refine lv_dup2_11 hx hb d_Md_next_62 rfl rfl ?_
          refine g_iald hx hb hK.1 hP 21 0 (wMd_27 t a σ) rfl p9 (rfl) (by omega) (by decide) d_Md_next_63 ?_
          refine lv_iconst (v := 1) hx hb d_Md_next_64 (by decide) ?_
          refine lv_iadd hx hb d_Md_next_65 ?_
          refine g_iast hx hb hK.1 hP hD hS 21 0 (wMd_27 t a σ) rfl p9 (rfl) (by omega) (by decide) (w' := wMd t a (gSt σ 27 p9 ((σ 27 p9) + 1))) (sMd_27 t a σ p9 ((σ 27 p9) + 1)) d_Md_next_66 (fun H locs hP hD hS => ?_)
          refine lv_iload_n hx hb d_Md_next_67 rfl (lv_at hl 1 rfl) ?_
          refine lv_topi (fun v_10 e_10 => ?_)
          obtain rfl : v_10 = nI p9 := e_10.trans (nI_pred p9)
          refine lv_iconst (v := 1) hx hb d_Md_next_68 (by decide) ?_
          refine lv_iadd hx hb d_Md_next_69 ?_
          refine lv_topi (fun v_11 e_11 => ?_)
          obtain rfl : v_11 = nI (p9 + 1) := e_11.trans (nI_1 _)
          refine lv_istore_n (lv' := [(3, .int (nI (p9 + 1))), (0, .ref (a 0)), (1, .int (nI (p9 + 1) - 1)), (2, .int (mMost (σ 27) p9))]) hx hb d_Md_next_70 rfl hl (by decide) rfl (fun ls hl => ?_)
          exact cut_71 (np + 1) p9 0 (gSt σ 27 p9 ((σ 27 p9) + 1)) (gSt σ 27 p9 ((σ 27 p9) + 1)) _ _ _ (by omega) (by omega) (rfl) (hN) (by rw [hs]; simp [mNext, (show ¬ p9 = 0 by omega), c_6, c_8]) hP hD hS (lv_sub hl [1, 0] rfl)
  refine lv_aload_n hx hb d_Md_next_0 rfl (lv_at hl 0 rfl) ?_
  refine va_get (D := D) (ci := 7) (v := .int (σ 8 0)) (C := R_Md) (T := F_Md) (N := 34) hx hb hts (fun w h => List.mem_cons_of_mem _ (i_Md w h)) hown hK.1 hP 0 (wMd_0 t a σ) rfl 8 (by decide) (hts (.fieldLink R_Md 113 "FlatBoxesModel" "parts" "I") (List.mem_cons_of_mem _ (gIn k_674 (by decide +kernel)))) (fun _ h9 => h9) rfl d_Md_next_1 ?_
  refine lv_topi (fun v_12 e_12 => ?_)
  obtain rfl : v_12 = nI np := e_12.trans hN
  refine lv_iconst (v := 1) hx hb d_Md_next_4 (by decide) ?_
  refine lv_isub hx hb d_Md_next_5 ?_
  refine lv_istore_n (lv' := [(1, .int ((nI np) - 1)), (0, .ref (a 0))]) hx hb d_Md_next_6 rfl hl (by decide) rfl (fun ls hl => ?_)
  exact cut_7 (np + 1) np _ _ _ (by omega) (by omega) (rfl) hP hD hS (lv_sub hl [1, 0] rfl)
