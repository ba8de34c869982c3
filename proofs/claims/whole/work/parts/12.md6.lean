theorem mFB_fix (σ : Nat → Nat → Int32) (ord : Nat → Nat) (set : Int32) (np : Nat) {i : Nat} (h : i < 15 ∨ 22 < i) : ∀ c, (mFB σ ord set np c).1 i = σ i
  | 0 => rfl
  | c + 1 => (mPk_fix _ _ _ _ h _).trans (mFB_fix σ ord set np h c)


set_option maxHeartbeats 4000000 in
set_option maxRecDepth 100000 in
theorem c_Md_findBoxes (l : Launch) (D : va_G) (t : Nat → ClassId) (a : Nat → Nat) (σ : Nat → Nat → Int32) (nc np NN : Nat) (ord : Nat → Nat) (hC : σ 2 0 = nI nc) (hC4 : nc ≤ 4) (hN : σ 8 0 = nI np) (hN8 : np ≤ 8) (hNN : (1 : Int32) <<< (nI np &&& 31) = nI NN) (hN1 : 1 ≤ NN) (hN2 : NN ≤ 256) (hord : ∀ k, k < np → ord k < np ∧ mBT (σ 11) np (nI k) np 0 = nI (ord k)) : gMv l D t y_Md_findBoxes b_Md_findBoxes 4 2 [.ref (a 0)] (wMd t a σ) (wMd t a) (fun u => u = mFBs σ ord nc np (NN - 1)) := by
  intro A
  refine Met.ofW (cc := b_Md_findBoxes) (maxL := 4) (ret := none) (by decide) rfl ?_
  intro p e s m args below meth c s₁ B hml hv
  obtain ⟨rfl, hK, hP, hD⟩ := hv
  have hx := B.exec
  have hb := B.bytes
  have hr := B.returns
  have hts := atoms_spec (ws := .code y_Md_findBoxes b_Md_findBoxes 4 none :: gBig) B.pre
  have hown : s.vm.findClass R_Md = some m.cls := findClass_of_methodNamed B.named
  have hlocks := B.notSynchronized
  have hS : va_S A s.heap s.heap [] := va_S.rf
  have hl := lv_entry ([.ref (a 0)]) (n := 4) (Nat.le_of_ble_eq_true rfl)
  rw [lg_entry_eq]
  generalize (lg_sl ([.ref (a 0)]) ++ List.replicate (4 - (lg_sl ([.ref (a 0)])).length) Slot.unset).toArray = ls at hl ⊢
  have hl : lv_has ls 4 [(0, .ref (a 0))] := hl
  show gGov l p e s m below meth c D t A 2 [.ref (a 0)] (wMd t a) (fun u => u = mFBs σ ord nc np (NN - 1)) s.heap [] (F0 m 0 ls [])
  have cut_16 : ∀ (n : Nat) (c1 : Nat) (sv : Int32) (best : Int32) (τ0 : Nat → Nat → Int32) (τ : Nat → Nat → Int32) (H : Heap) (locs : List Loc) (ls : Array Slot), (c1 ≤ nc) → (nc + 1 ≤ c1 + n) → (mFB τ0 ord sv np c1 = (τ, best)) → (best < 0 ∨ ∃ b, b < c1 ∧ best = nI b) → (∀ i, (i < 15 ∨ 22 < i) → τ i = τ0 i) → (τ0 2 0 = nI nc) → (τ0 8 0 = nI np) → (τ0 11 = σ 11) → (∀ (H : Heap) (locs : List Loc) (ls : Array Slot), va_P D gCl (wMd t a ((mFB τ0 ord sv np nc).1)) H → va_D A (wMd t a ((mFB τ0 ord sv np nc).1)) → va_S A s.heap H locs → lv_has ls 4 [(0, .ref (a 0)), (1, .int sv), (2, .int ((mFB τ0 ord sv np nc).2))] → gGov l p e s m below meth c D t A 2 [.ref (a 0)] (wMd t a) (fun u => u = mFBs σ ord nc np (NN - 1)) H locs (F0 m 64 ls [])) → va_P D gCl (wMd t a τ) H → va_D A (wMd t a τ) → va_S A s.heap H locs → lv_has ls 4 [(0, .ref (a 0)), (1, .int sv), (2, .int best), (3, .int (nI c1))] → gGov l p e s m below meth c D t A 2 [.ref (a 0)] (wMd t a) (fun u => u = mFBs σ ord nc np (NN - 1)) H locs (F0 m 16 ls []) := by
    intro n
    induction n with
    | zero =>
      intro c1 sv best τ0 τ H locs ls hc1 hf hs hbst hfix h02 h08 h011 hX hP hD hS hl
      exact absurd hf (by omega)
    | succ n ih =>
      intro c1 sv best τ0 τ H locs ls hc1 hf hs hbst hfix h02 h08 h011 hX hP hD hS hl
      refine lv_iload_n hx hb d_Md_findBoxes_16 rfl (lv_at hl 3 rfl) ?_
      refine lv_aload_n hx hb d_Md_findBoxes_17 rfl (lv_at hl 0 rfl) ?_
      refine va_get (D := D) (ci := 7) (v := .int (τ 2 0)) (C := R_Md) (T := F_Md) (N := 34) hx hb hts (fun w h => List.mem_cons_of_mem _ (i_Md w h)) hown hK.1 hP 0 (wMd_0 t a τ) rfl 2 (by decide) (hts (.fieldLink R_Md 105 "FlatBoxesModel" "cartons" "I") (List.mem_cons_of_mem _ (gIn k_668 (by decide +kernel)))) (fun _ h9 => h9) rfl d_Md_findBoxes_18 ?_
      refine lv_topi (fun v_1 e_1 => ?_)
      obtain rfl : v_1 = nI nc := e_1.trans ((congrFun (hfix 2 (by omega)) 0).trans h02)
      refine lv_icmp_ge (tgt := 64) hx hb d_Md_findBoxes_21 (by decide) (fun c_2 => ?_) (fun c_2 => ?_)
      · 
        have h_2 : nc ≤ c1 := (nI_leI (a := nc) (b := c1) (by omega) (by omega)).mp c_2
        obtain rfl : c1 = nc := by omega
        obtain rfl : τ = (mFB τ0 ord sv np c1).1 := by rw [hs]
        obtain rfl : best = (mFB τ0 ord sv np c1).2 := by rw [hs]
        exact hX _ _ _  hP hD hS (lv_sub hl [0, 1, 2] rfl)
      · 
        have h_2 : ¬ nc ≤ c1 := fun q9 => c_2 ((nI_leI (a := nc) (b := c1) (by omega) (by omega)).mpr q9)
        refine lv_aload_n hx hb d_Md_findBoxes_24 rfl (lv_at hl 0 rfl) ?_
        refine lv_iload_n hx hb d_Md_findBoxes_25 rfl (lv_at hl 1 rfl) ?_
        refine lv_iload_n hx hb d_Md_findBoxes_26 rfl (lv_at hl 3 rfl) ?_
        refine g_vi (k := 2) (As := [.int sv, .int (nI c1)]) (rest := []) (own := R_Md) (C := R_Md) (index := 135) ⟨hx, hb, hml, hown, hts⟩ (c_Md_pack l D t a τ sv c1 np ord ((congrFun (hfix 8 (by omega)) 0).trans h08) hN8 (by omega) (fun k hk => by rw [hfix 11 (by omega), h011]; exact hord k hk)) (gg_Md_135 _) (by decide +kernel) ⟨Nat.le_of_ble_eq_true rfl, Nat.le_of_ble_eq_true rfl⟩ rfl (va_recv hK.1 hP (ci := 7) (q0 := 0) rfl (wMd_0 t a τ)) hK hP hD hS hl.1 rfl (Nat.le_of_ble_eq_true rfl) ⟨Nat.zero_le _, Nat.zero_le _⟩ d_Md_findBoxes_27 (fun r_3 u_3 H locs q_3 hP hD hS => ?_)
        obtain ⟨rfl, hu_3⟩ := q_3
        rw [hu_3] at hP hD
        have h6 : (mPk τ ord sv c1 np).1 6 = τ0 6 := (mPk_fix _ _ _ _ (by omega) _).trans (hfix 6 (by omega))
        refine lv_if_eq (tgt := 56) hx hb d_Md_findBoxes_30 (by decide) (fun c_4 => ?_) (fun c_4 => ?_)
        · 
          refine lv_iload_n hx hb d_Md_findBoxes_56 rfl (lv_at hl 2 rfl) ?_
          refine lv_istore_n (lv' := [(2, .int best), (0, .ref (a 0)), (1, .int sv), (3, .int (nI c1))]) hx hb d_Md_findBoxes_57 rfl hl (by decide) rfl (fun ls hl => ?_)
          refine lv_iinc (v := nI (c1 + 1)) (lv' := [(3, .int (nI (c1 + 1))), (2, .int best), (0, .ref (a 0)), (1, .int sv)]) hx hb d_Md_findBoxes_58 hl (k := 3) rfl (nI_1 c1) (by decide) rfl (fun ls hl => ?_)
          refine lv_goto (tgt := 16) hx hb d_Md_findBoxes_61 (by decide) ?_
          exact ih (c1 + 1) sv best τ0 ((mPk τ ord sv c1 np).1) _ _ _ (by omega) (by omega) (by first | (simp [mFB, hs, c_2, h_2, c_4]; done) | (simp [mFB, hs, hb2, nI_clamp (show b < 2 ^ 31 by omega), c_2, h_2, c_4]; rw [hb2] at *; simp_all; done) | (have hb3 : best.toNatClampNeg = b := (by rw [hb2]; exact nI_clamp (by omega)); simp [mFB, hs, hb3, c_2, h_2, c_4]; done)) (by first | exact Or.inr ⟨c1, by omega, rfl⟩ | exact hbst.imp id (fun ⟨b, h1, h2⟩ => ⟨b, by omega, h2⟩)) (fun i hi => (mPk_fix _ _ _ _ hi _).trans (hfix i hi)) (h02) (h08) (h011) hX hP hD hS (lv_sub hl [2, 3, 1, 0] rfl)
        · 
          refine lv_iload_n hx hb d_Md_findBoxes_33 rfl (lv_at hl 2 rfl) ?_
          refine lv_if_lt (tgt := 52) hx hb d_Md_findBoxes_34 (by decide) (fun c_5 => ?_) (fun c_5 => ?_)
          · 
            refine lv_iload_n hx hb d_Md_findBoxes_52 rfl (lv_at hl 3 rfl) ?_
            refine lv_goto (tgt := 57) hx hb d_Md_findBoxes_53 (by decide) ?_
            refine lv_istore_n (lv' := [(2, .int (nI c1)), (0, .ref (a 0)), (1, .int sv), (3, .int (nI c1))]) hx hb d_Md_findBoxes_57 rfl hl (by decide) rfl (fun ls hl => ?_)
            refine lv_iinc (v := nI (c1 + 1)) (lv' := [(3, .int (nI (c1 + 1))), (2, .int (nI c1)), (0, .ref (a 0)), (1, .int sv)]) hx hb d_Md_findBoxes_58 hl (k := 3) rfl (nI_1 c1) (by decide) rfl (fun ls hl => ?_)
            refine lv_goto (tgt := 16) hx hb d_Md_findBoxes_61 (by decide) ?_
            exact ih (c1 + 1) sv (nI c1) τ0 ((mPk τ ord sv c1 np).1) _ _ _ (by omega) (by omega) (by first | (simp [mFB, hs, c_2, h_2, c_4, c_5]; done) | (simp [mFB, hs, hb2, nI_clamp (show b < 2 ^ 31 by omega), c_2, h_2, c_4, c_5]; rw [hb2] at *; simp_all; done) | (have hb3 : best.toNatClampNeg = b := (by rw [hb2]; exact nI_clamp (by omega)); simp [mFB, hs, hb3, c_2, h_2, c_4, c_5]; done)) (by first | exact Or.inr ⟨c1, by omega, rfl⟩ | exact hbst.imp id (fun ⟨b, h1, h2⟩ => ⟨b, by omega, h2⟩)) (fun i hi => (mPk_fix _ _ _ _ hi _).trans (hfix i hi)) (h02) (h08) (h011) hX hP hD hS (lv_sub hl [2, 3, 1, 0] rfl)
          · 
            obtain ⟨b, hb1, hb2⟩ := hbst.resolve_left c_5
            refine lv_aload_n hx hb d_Md_findBoxes_37 rfl (lv_at hl 0 rfl) ?_
            refine va_get (D := D) (ci := 7) (v := .ref (a 6)) (C := R_Md) (T := F_Md) (N := 34) hx hb hts (fun w h => List.mem_cons_of_mem _ (i_Md w h)) hown hK.1 hP 0 (wMd_0 t a ((mPk τ ord sv c1 np).1)) rfl 6 (by decide) (hts (.fieldLink R_Md 19 "FlatBoxesModel" "cents" "[I") (List.mem_cons_of_mem _ (gIn k_672 (by decide +kernel)))) (fun _ h9 => h9) rfl d_Md_findBoxes_38 ?_
            refine lv_iload_n hx hb d_Md_findBoxes_41 rfl (lv_at hl 3 rfl) ?_
            refine g_iald hx hb hK.1 hP 4 0 (wMd_6 t a ((mPk τ ord sv c1 np).1)) rfl c1 (rfl) (by omega) (by decide) d_Md_findBoxes_42 ?_
            refine lv_topi (fun v_6 e_6 => ?_)
            obtain rfl : v_6 = τ0 6 c1 := e_6.trans (congrFun h6 c1)
            refine lv_aload_n hx hb d_Md_findBoxes_43 rfl (lv_at hl 0 rfl) ?_
            refine va_get (D := D) (ci := 7) (v := .ref (a 6)) (C := R_Md) (T := F_Md) (N := 34) hx hb hts (fun w h => List.mem_cons_of_mem _ (i_Md w h)) hown hK.1 hP 0 (wMd_0 t a ((mPk τ ord sv c1 np).1)) rfl 6 (by decide) (hts (.fieldLink R_Md 19 "FlatBoxesModel" "cents" "[I") (List.mem_cons_of_mem _ (gIn k_672 (by decide +kernel)))) (fun _ h9 => h9) rfl d_Md_findBoxes_44 ?_
            refine lv_iload_n hx hb d_Md_findBoxes_47 rfl (lv_at hl 2 rfl) ?_
            refine g_iald hx hb hK.1 hP 4 0 (wMd_6 t a ((mPk τ ord sv c1 np).1)) rfl b (hb2) (by omega) (by decide) d_Md_findBoxes_48 ?_
            refine lv_topi (fun v_7 e_7 => ?_)
            obtain rfl : v_7 = τ0 6 b := e_7.trans (congrFun h6 b)
            refine lv_icmp_ge (tgt := 56) hx hb d_Md_findBoxes_49 (by decide) (fun c_8 => ?_) (fun c_8 => ?_)
            · 
              refine lv_iload_n hx hb d_Md_findBoxes_56 rfl (lv_at hl 2 rfl) ?_
              refine lv_istore_n (lv' := [(2, .int best), (0, .ref (a 0)), (1, .int sv), (3, .int (nI c1))]) hx hb d_Md_findBoxes_57 rfl hl (by decide) rfl (fun ls hl => ?_)
              refine lv_iinc (v := nI (c1 + 1)) (lv' := [(3, .int (nI (c1 + 1))), (2, .int best), (0, .ref (a 0)), (1, .int sv)]) hx hb d_Md_findBoxes_58 hl (k := 3) rfl (nI_1 c1) (by decide) rfl (fun ls hl => ?_)
              refine lv_goto (tgt := 16) hx hb d_Md_findBoxes_61 (by decide) ?_
              exact ih (c1 + 1) sv best τ0 ((mPk τ ord sv c1 np).1) _ _ _ (by omega) (by omega) (by first | (simp [mFB, hs, c_2, h_2, c_4, c_5, c_8]; done) | (simp [mFB, hs, hb2, nI_clamp (show b < 2 ^ 31 by omega), c_2, h_2, c_4, c_5, c_8]; rw [hb2] at *; simp_all; done) | (have hb3 : best.toNatClampNeg = b := (by rw [hb2]; exact nI_clamp (by omega)); simp [mFB, hs, hb3, c_2, h_2, c_4, c_5, c_8]; done)) (by first | exact Or.inr ⟨c1, by omega, rfl⟩ | exact hbst.imp id (fun ⟨b, h1, h2⟩ => ⟨b, by omega, h2⟩)) (fun i hi => (mPk_fix _ _ _ _ hi _).trans (hfix i hi)) (h02) (h08) (h011) hX hP hD hS (lv_sub hl [2, 3, 1, 0] rfl)
            · 
              refine lv_iload_n hx hb d_Md_findBoxes_52 rfl (lv_at hl 3 rfl) ?_
              refine lv_goto (tgt := 57) hx hb d_Md_findBoxes_53 (by decide) ?_
              refine lv_istore_n (lv' := [(2, .int (nI c1)), (0, .ref (a 0)), (1, .int sv), (3, .int (nI c1))]) hx hb d_Md_findBoxes_57 rfl hl (by decide) rfl (fun ls hl => ?_)
              refine lv_iinc (v := nI (c1 + 1)) (lv' := [(3, .int (nI (c1 + 1))), (2, .int (nI c1)), (0, .ref (a 0)), (1, .int sv)]) hx hb d_Md_findBoxes_58 hl (k := 3) rfl (nI_1 c1) (by decide) rfl (fun ls hl => ?_)
              refine lv_goto (tgt := 16) hx hb d_Md_findBoxes_61 (by decide) ?_
              exact ih (c1 + 1) sv (nI c1) τ0 ((mPk τ ord sv c1 np).1) _ _ _ (by omega) (by omega) (by first | (simp [mFB, hs, c_2, h_2, c_4, c_5, c_8]; done) | (simp [mFB, hs, hb2, nI_clamp (show b < 2 ^ 31 by omega), c_2, h_2, c_4, c_5, c_8]; rw [hb2] at *; simp_all; done) | (have hb3 : best.toNatClampNeg = b := (by rw [hb2]; exact nI_clamp (by omega)); simp [mFB, hs, hb3, c_2, h_2, c_4, c_5, c_8]; done)) (by first | exact Or.inr ⟨c1, by omega, rfl⟩ | exact hbst.imp id (fun ⟨b, h1, h2⟩ => ⟨b, by omega, h2⟩)) (fun i hi => (mPk_fix _ _ _ _ hi _).trans (hfix i hi)) (h02) (h08) (h011) hX hP hD hS (lv_sub hl [2, 3, 1, 0] rfl)
  have cut_2 : ∀ (n : Nat) (j : Nat) (τ : Nat → Nat → Int32) (H : Heap) (locs : List Loc) (ls : Array Slot), (j + 1 ≤ NN) → (NN ≤ j + n) → (mFBs σ ord nc np j = τ) → (∀ i, (i < 15 ∨ 23 < i) → τ i = σ i) → va_P D gCl (wMd t a τ) H → va_D A (wMd t a τ) → va_S A s.heap H locs → lv_has ls 4 [(0, .ref (a 0)), (1, .int (nI (j + 1)))] → gGov l p e s m below meth c D t A 2 [.ref (a 0)] (wMd t a) (fun u => u = mFBs σ ord nc np (NN - 1)) H locs (F0 m 2 ls []) := by
    intro n
    induction n with
    | zero =>
      intro j τ H locs ls hj hf hs hfix hP hD hS hl
      exact absurd hf (by omega)
    | succ n ih =>
      intro j τ H locs ls hj hf hs hfix hP hD hS hl
      refine lv_iload_n hx hb d_Md_findBoxes_2 rfl (lv_at hl 1 rfl) ?_
      refine lv_iconst (v := 1) hx hb d_Md_findBoxes_3 (by decide) ?_
      refine lv_aload_n hx hb d_Md_findBoxes_4 rfl (lv_at hl 0 rfl) ?_
      refine va_get (D := D) (ci := 7) (v := .int (τ 8 0)) (C := R_Md) (T := F_Md) (N := 34) hx hb hts (fun w h => List.mem_cons_of_mem _ (i_Md w h)) hown hK.1 hP 0 (wMd_0 t a τ) rfl 8 (by decide) (hts (.fieldLink R_Md 113 "FlatBoxesModel" "parts" "I") (List.mem_cons_of_mem _ (gIn k_674 (by decide +kernel)))) (fun _ h9 => h9) rfl d_Md_findBoxes_5 ?_
      refine lv_topi (fun v_9 e_9 => ?_)
      obtain rfl : v_9 = nI np := e_9.trans ((congrFun (hfix 8 (by omega)) 0).trans hN)
      refine lv_ishl hx hb d_Md_findBoxes_8 ?_
      refine lv_topi (fun v_10 e_10 => ?_)
      obtain rfl : v_10 = nI NN := e_10.trans (hNN)
      refine lv_icmp_ge (tgt := 77) hx hb d_Md_findBoxes_9 (by decide) (fun c_11 => ?_) (fun c_11 => ?_)
      · 
        have h_11 : NN ≤ j + 1 := (nI_leI (a := NN) (b := j + 1) (by omega) (by omega)).mp c_11
        exact W.vret hx hb hr (fun U hU hW => ⟨⟨τ, rfl, by obtain rfl : j = NN - 1 := (by omega); exact hs.symm, by rw [hU]; exact hP, hD⟩, hS.F hU⟩) hS.2.2 d_Md_findBoxes_77
      · 
        have h_11 : ¬ NN ≤ j + 1 := fun q9 => c_11 ((nI_leI (a := NN) (b := j + 1) (by omega) (by omega)).mpr q9)
        refine lv_iconst (v := -1) hx hb d_Md_findBoxes_12 (by decide) ?_
        refine lv_istore_n (lv' := [(2, .int (-1)), (0, .ref (a 0)), (1, .int (nI (j + 1)))]) hx hb d_Md_findBoxes_13 rfl hl (by decide) rfl (fun ls hl => ?_)
        refine lv_iconst (v := 0) hx hb d_Md_findBoxes_14 (by decide) ?_
        refine lv_istore_n (lv' := [(3, .int 0), (2, .int (-1)), (0, .ref (a 0)), (1, .int (nI (j + 1)))]) hx hb d_Md_findBoxes_15 rfl hl (by decide) rfl (fun ls hl => ?_)
        refine cut_16 (nc + 1) 0 (nI (j + 1)) (-1) τ τ _ _ _ (by omega) (by omega) (rfl) (Or.inl (by decide)) (fun i hi => rfl) (((congrFun (hfix 2 (by omega)) 0).trans hC)) (((congrFun (hfix 8 (by omega)) 0).trans hN)) (hfix 11 (by omega)) (fun H locs ls  hP hD hS hl => ?_) hP hD hS (lv_sub hl [2, 3, 1, 0] rfl)
        refine lv_aload_n hx hb d_Md_findBoxes_64 rfl (lv_at hl 0 rfl) ?_
        refine va_get (D := D) (ci := 7) (v := .ref (a 23)) (C := R_Md) (T := F_Md) (N := 34) hx hb hts (fun w h => List.mem_cons_of_mem _ (i_Md w h)) hown hK.1 hP 0 (wMd_0 t a ((mFB τ ord (nI (j + 1)) np nc).1)) rfl 23 (by decide) (hts (.fieldLink R_Md 65 "FlatBoxesModel" "boxOf" "[I") (List.mem_cons_of_mem _ (gIn k_689 (by decide +kernel)))) (fun _ h9 => h9) rfl d_Md_findBoxes_65 ?_
        refine lv_iload_n hx hb d_Md_findBoxes_68 rfl (lv_at hl 1 rfl) ?_
        refine lv_iload_n hx hb d_Md_findBoxes_69 rfl (lv_at hl 2 rfl) ?_
        refine g_iast hx hb hK.1 hP hD hS 19 0 (wMd_23 t a ((mFB τ ord (nI (j + 1)) np nc).1)) rfl (j + 1) (rfl) (by omega) (by decide) (w' := wMd t a (gSt ((mFB τ ord (nI (j + 1)) np nc).1) 23 (j + 1) ((mFB τ ord (nI (j + 1)) np nc).2))) (sMd_23 t a ((mFB τ ord (nI (j + 1)) np nc).1) (j + 1) ((mFB τ ord (nI (j + 1)) np nc).2)) d_Md_findBoxes_70 (fun H locs hP hD hS => ?_)
        refine lv_iinc (v := nI (j + 1 + 1)) (lv' := [(1, .int (nI (j + 1 + 1))), (0, .ref (a 0)), (2, .int ((mFB τ ord (nI (j + 1)) np nc).2))]) hx hb d_Md_findBoxes_71 hl (k := 1) rfl (nI_1 (j + 1)) (by decide) rfl (fun ls hl => ?_)
        refine lv_goto (tgt := 2) hx hb d_Md_findBoxes_74 (by decide) ?_
        exact ih (j + 1) (gSt ((mFB τ ord (nI (j + 1)) np nc).1) 23 (j + 1) ((mFB τ ord (nI (j + 1)) np nc).2)) _ _ _ (by omega) (by omega) (by rw [← hs]; rfl) (fun i hi => (gSt_ne _ _ _ _ (by omega)).trans ((mFB_fix _ _ _ _ (by omega) _).trans (hfix i hi))) hP hD hS (lv_sub hl [1, 0] rfl)
  refine lv_iconst (v := 1) hx hb d_Md_findBoxes_0 (by decide) ?_
  refine lv_istore_n (lv' := [(1, .int 1), (0, .ref (a 0))]) hx hb d_Md_findBoxes_1 rfl hl (by decide) rfl (fun ls hl => ?_)
  exact cut_2 (NN) 0 σ _ _ _ (by omega) (by omega) (rfl) (fun i hi => rfl) hP hD hS (lv_sub hl [1, 0] rfl)
