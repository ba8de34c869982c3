theorem gg_Md_131 (w0 : Cond) : GoodIn (w0 :: gBig) (wsV R_Md 131 R_Md y_Md_highOf (.code y_Md_highOf b_Md_highOf 3 (some .int) :: gBig)) := gGoodV (gIn k_813 (by decide +kernel)) (gIn k_815 (by decide +kernel)) (gInP (List.mem_of_getElem? (i := 20) (by decide +kernel)) (by decide +kernel)) (gIn k_9 (by decide +kernel)) (gIn k_816 (by decide +kernel))
theorem gg_Md_119 (w0 : Cond) : GoodIn (w0 :: gBig) (wsV R_Md 119 R_Md y_Md_byThickness (.code y_Md_byThickness b_Md_byThickness 5 (some .int) :: gBig)) := gGoodV (gIn k_801 (by decide +kernel)) (gIn k_803 (by decide +kernel)) (gInP (List.mem_of_getElem? (i := 17) (by decide +kernel)) (by decide +kernel)) (gIn k_9 (by decide +kernel)) (gIn k_804 (by decide +kernel))
theorem gg_Md_127 (w0 : Cond) : GoodIn (w0 :: gBig) (wsV R_Md 127 R_Md y_Md_place (.code y_Md_place b_Md_place 4 none :: gBig)) := gGoodV (gIn k_809 (by decide +kernel)) (gIn k_811 (by decide +kernel)) (gInP (List.mem_of_getElem? (i := 19) (by decide +kernel)) (by decide +kernel)) (gIn k_9 (by decide +kernel)) (gIn k_812 (by decide +kernel))
set_option maxHeartbeats 4000000 in
set_option maxRecDepth 100000 in
theorem c_Md_pack (l : Launch) (D : va_G) (t : Nat → ClassId) (a : Nat → Nat) (σ : Nat → Nat → Int32) (set : Int32) (cc np : Nat) (ord : Nat → Nat) (hN : σ 8 0 = nI np) (hN8 : np ≤ 8) (hc : cc < 4) (hord : ∀ k, k < np → ord k < np ∧ mBT (σ 11) np (nI k) np 0 = nI (ord k)) : gMi l D t y_Md_pack b_Md_pack 7 (some .boolean) 1 [.ref (a 0), .int set, .int (nI cc)] (wMd t a σ) (wMd t a) (fun r u => r = mPackR (mPk σ ord set cc np) cc ∧ u = (mPk σ ord set cc np).1) := by
  intro A
  refine Met.ofW (cc := b_Md_pack) (maxL := 7) (ret := (some .boolean)) (by decide) rfl ?_
  intro p e s m args below meth c s₁ B hml hv
  obtain ⟨rfl, hK, hP, hD⟩ := hv
  have hx := B.exec
  have hb := B.bytes
  have hr := B.returns
  have hts := atoms_spec (ws := .code y_Md_pack b_Md_pack 7 (some .boolean) :: gBig) B.pre
  have hown : s.vm.findClass R_Md = some m.cls := findClass_of_methodNamed B.named
  have hlocks := B.notSynchronized
  have hS : va_S A s.heap s.heap [] := va_S.rf
  have hl := lv_entry ([.ref (a 0), .int set, .int (nI cc)]) (n := 7) (Nat.le_of_ble_eq_true rfl)
  rw [lg_entry_eq]
  generalize (lg_sl ([.ref (a 0), .int set, .int (nI cc)]) ++ List.replicate (7 - (lg_sl ([.ref (a 0), .int set, .int (nI cc)])).length) Slot.unset).toArray = ls at hl ⊢
  have hl : lv_has ls 7 [(0, .ref (a 0)), (1, .int set), (2, .int (nI cc))] := hl
  show gGo l p e s m below meth c D t A 1 [.ref (a 0), .int set, .int (nI cc)] (wMd t a) (fun r u => r = mPackR (mPk σ ord set cc np) cc ∧ u = (mPk σ ord set cc np).1) s.heap [] (F0 m 0 ls [])
  have cut_113 : ∀ (n : Nat) (r : Nat) (bk : Int32) (τ : Nat → Nat → Int32) (f : Int32) (w : Int32) (L : Nat) (H : Heap) (locs : List Loc) (ls : Array Slot), (r ≤ L) → (L + 1 ≤ r + n) → (bk = mCnt (τ 22) r) → (mPk σ ord set cc np = (τ, f, w)) → (τ 17 0 = nI L) → (L ≤ 8) → va_P D gCl (wMd t a τ) H → va_D A (wMd t a τ) → va_S A s.heap H locs → lv_has ls 7 [(0, .ref (a 0)), (1, .int set), (2, .int (nI cc)), (3, .int f), (4, .int w), (5, .int bk), (6, .int (nI r))] → gGo l p e s m below meth c D t A 1 [.ref (a 0), .int set, .int (nI cc)] (wMd t a) (fun r u => r = mPackR (mPk σ ord set cc np) cc ∧ u = (mPk σ ord set cc np).1) H locs (F0 m 113 ls []) := by
    intro n
    induction n with
    | zero =>
      intro r bk τ f w L H locs ls hr1 hf hb1 hs hL1 hL8 hP hD hS hl
      exact absurd hf (by omega)
    | succ n ih =>
      intro r bk τ f w L H locs ls hr1 hf hb1 hs hL1 hL8 hP hD hS hl
      refine lv_iload hx hb d_Md_pack_113 (lv_at hl 6 rfl) ?_
      refine lv_aload_n hx hb d_Md_pack_115 rfl (lv_at hl 0 rfl) ?_
      refine va_get (D := D) (ci := 7) (v := .int (τ 17 0)) (C := R_Md) (T := F_Md) (N := 34) hx hb hts (fun w h => List.mem_cons_of_mem _ (i_Md w h)) hown hK.1 hP 0 (wMd_0 t a τ) rfl 17 (by decide) (hts (.fieldLink R_Md 116 "FlatBoxesModel" "layers" "I") (List.mem_cons_of_mem _ (gIn k_683 (by decide +kernel)))) (fun _ h9 => h9) rfl d_Md_pack_116 ?_
      refine lv_topi (fun v_1 e_1 => ?_)
      obtain rfl : v_1 = nI L := e_1.trans hL1
      refine lv_icmp_ge (tgt := 148) hx hb d_Md_pack_119 (by decide) (fun c_2 => ?_) (fun c_2 => ?_)
      · 
        have h_2 : L ≤ r := (nI_leI (a := L) (b := r) (by omega) (by omega)).mp c_2
        refine lv_iload_n hx hb d_Md_pack_148 rfl (lv_at hl 3 rfl) ?_
        refine lv_if_eq (tgt := 186) hx hb d_Md_pack_149 (by decide) (fun c_3 => ?_) (fun c_3 => ?_)
        · 
          refine lv_iconst (v := 0) hx hb d_Md_pack_186 (by decide) ?_
          exact W.zret (v := 0) (ty := .boolean) hx hb hr (rfl) (fun U hU hW => ⟨⟨0, τ, rfl, by refine ⟨?_, by rw [hs]⟩; rw [hs]; unfold mPackR; dsimp only; rw [mLn_eq hL1 hL8]; obtain rfl : r = L := (by omega); subst hb1; simp [c_2, h_2, c_3], by rw [hU]; exact hP, hD⟩, hS.F hU⟩) hS.2.2 d_Md_pack_187
        · 
          refine lv_aload_n hx hb d_Md_pack_152 rfl (lv_at hl 0 rfl) ?_
          refine g_vi (k := 0) (As := []) (rest := []) (own := R_Md) (C := R_Md) (index := 131) ⟨hx, hb, hml, hown, hts⟩ (c_Md_highOf l D t a τ L hL1 hL8) (gg_Md_131 _) (by decide +kernel) ⟨Nat.le_of_ble_eq_true rfl, Nat.le_of_ble_eq_true rfl⟩ rfl (va_recv hK.1 hP (ci := 7) (q0 := 0) rfl (wMd_0 t a τ)) hK hP hD hS hl.1 rfl (Nat.le_of_ble_eq_true rfl) ⟨Nat.zero_le _, Nat.zero_le _⟩ d_Md_pack_153 (fun r_4 u_4 H locs q_4 hP hD hS => ?_)
          obtain ⟨rfl, hu_4⟩ := q_4
          rw [hu_4] at hP hD
          refine lv_aload_n hx hb d_Md_pack_156 rfl (lv_at hl 0 rfl) ?_
          refine va_get (D := D) (ci := 7) (v := .ref (a 5)) (C := R_Md) (T := F_Md) (N := 34) hx hb hts (fun w h => List.mem_cons_of_mem _ (i_Md w h)) hown hK.1 hP 0 (wMd_0 t a τ) rfl 5 (by decide) (hts (.fieldLink R_Md 16 "FlatBoxesModel" "heights" "[I") (List.mem_cons_of_mem _ (gIn k_671 (by decide +kernel)))) (fun _ h9 => h9) rfl d_Md_pack_157 ?_
          refine lv_iload_n hx hb d_Md_pack_160 rfl (lv_at hl 2 rfl) ?_
          refine g_iald hx hb hK.1 hP 3 0 (wMd_5 t a τ) rfl cc (rfl) (by omega) (by decide) d_Md_pack_161 ?_
          refine lv_icmp_gt (tgt := 186) hx hb d_Md_pack_162 (by decide) (fun c_5 => ?_) (fun c_5 => ?_)
          · 
            refine lv_iconst (v := 0) hx hb d_Md_pack_186 (by decide) ?_
            exact W.zret (v := 0) (ty := .boolean) hx hb hr (rfl) (fun U hU hW => ⟨⟨0, τ, rfl, by refine ⟨?_, by rw [hs]⟩; rw [hs]; unfold mPackR; dsimp only; rw [mLn_eq hL1 hL8]; obtain rfl : r = L := (by omega); subst hb1; simp [c_2, h_2, c_3, c_5], by rw [hU]; exact hP, hD⟩, hS.F hU⟩) hS.2.2 d_Md_pack_187
          · 
            refine lv_iload hx hb d_Md_pack_165 (lv_at hl 4 rfl) ?_
            refine lv_aload_n hx hb d_Md_pack_167 rfl (lv_at hl 0 rfl) ?_
            refine va_get (D := D) (ci := 7) (v := .ref (a 7)) (C := R_Md) (T := F_Md) (N := 34) hx hb hts (fun w h => List.mem_cons_of_mem _ (i_Md w h)) hown hK.1 hP 0 (wMd_0 t a τ) rfl 7 (by decide) (hts (.fieldLink R_Md 22 "FlatBoxesModel" "bears" "[I") (List.mem_cons_of_mem _ (gIn k_673 (by decide +kernel)))) (fun _ h9 => h9) rfl d_Md_pack_168 ?_
            refine lv_iload_n hx hb d_Md_pack_171 rfl (lv_at hl 2 rfl) ?_
            refine g_iald hx hb hK.1 hP 5 0 (wMd_7 t a τ) rfl cc (rfl) (by omega) (by decide) d_Md_pack_172 ?_
            refine lv_icmp_gt (tgt := 186) hx hb d_Md_pack_173 (by decide) (fun c_6 => ?_) (fun c_6 => ?_)
            · 
              refine lv_iconst (v := 0) hx hb d_Md_pack_186 (by decide) ?_
              exact W.zret (v := 0) (ty := .boolean) hx hb hr (rfl) (fun U hU hW => ⟨⟨0, τ, rfl, by refine ⟨?_, by rw [hs]⟩; rw [hs]; unfold mPackR; dsimp only; rw [mLn_eq hL1 hL8]; obtain rfl : r = L := (by omega); subst hb1; simp [c_2, h_2, c_3, c_5, c_6], by rw [hU]; exact hP, hD⟩, hS.F hU⟩) hS.2.2 d_Md_pack_187
            · 
              refine lv_iload hx hb d_Md_pack_176 (lv_at hl 5 rfl) ?_
              refine lv_iconst (v := 2) hx hb d_Md_pack_178 (by decide) ?_
              refine lv_icmp_ge (tgt := 186) hx hb d_Md_pack_179 (by decide) (fun c_7 => ?_) (fun c_7 => ?_)
              · 
                refine lv_iconst (v := 0) hx hb d_Md_pack_186 (by decide) ?_
                exact W.zret (v := 0) (ty := .boolean) hx hb hr (rfl) (fun U hU hW => ⟨⟨0, τ, rfl, by refine ⟨?_, by rw [hs]⟩; rw [hs]; unfold mPackR; dsimp only; rw [mLn_eq hL1 hL8]; obtain rfl : r = L := (by omega); subst hb1; simp [c_2, h_2, c_3, c_5, c_6, c_7], by rw [hU]; exact hP, hD⟩, hS.F hU⟩) hS.2.2 d_Md_pack_187
              · 
                refine lv_iconst (v := 1) hx hb d_Md_pack_182 (by decide) ?_
                refine lv_goto (tgt := 187) hx hb d_Md_pack_183 (by decide) ?_
                exact W.zret (v := 1) (ty := .boolean) hx hb hr (rfl) (fun U hU hW => ⟨⟨1, τ, rfl, by refine ⟨?_, by rw [hs]⟩; rw [hs]; unfold mPackR; dsimp only; rw [mLn_eq hL1 hL8]; obtain rfl : r = L := (by omega); subst hb1; simp [c_2, h_2, c_3, c_5, c_6, c_7], by rw [hU]; exact hP, hD⟩, hS.F hU⟩) hS.2.2 d_Md_pack_187
      · 
        have h_2 : ¬ L ≤ r := fun q9 => c_2 ((nI_leI (a := L) (b := r) (by omega) (by omega)).mpr q9)
        refine lv_iload hx hb d_Md_pack_122 (lv_at hl 5 rfl) ?_
        refine lv_aload_n hx hb d_Md_pack_124 rfl (lv_at hl 0 rfl) ?_
        refine va_get (D := D) (ci := 7) (v := .ref (a 22)) (C := R_Md) (T := F_Md) (N := 34) hx hb hts (fun w h => List.mem_cons_of_mem _ (i_Md w h)) hown hK.1 hP 0 (wMd_0 t a τ) rfl 22 (by decide) (hts (.fieldLink R_Md 62 "FlatBoxesModel" "breaks" "[Z") (List.mem_cons_of_mem _ (gIn k_688 (by decide +kernel)))) (fun _ h9 => h9) rfl d_Md_pack_125 ?_
        refine lv_iload hx hb d_Md_pack_128 (lv_at hl 6 rfl) ?_
        refine g_zald hx hb hK.1 hP 18 1 (wMd_22 t a τ) rfl r (rfl) (by omega) (by decide) d_Md_pack_130 ?_
        refine lv_if_eq (tgt := 138) hx hb d_Md_pack_131 (by decide) (fun c_8 => ?_) (fun c_8 => ?_)
        · 
          refine lv_iconst (v := 0) hx hb d_Md_pack_138 (by decide) ?_
          refine lv_iadd hx hb d_Md_pack_139 ?_
          refine lv_istore (lv' := [(5, .int (bk + 0)), (0, .ref (a 0)), (1, .int set), (2, .int (nI cc)), (3, .int f), (4, .int w), (6, .int (nI r))]) hx hb d_Md_pack_140 hl (by decide) rfl (fun ls hl => ?_)
          refine lv_iinc (v := nI (r + 1)) (lv' := [(6, .int (nI (r + 1))), (5, .int (bk + 0)), (0, .ref (a 0)), (1, .int set), (2, .int (nI cc)), (3, .int f), (4, .int w)]) hx hb d_Md_pack_142 hl (k := 6) rfl (nI_1 r) (by decide) rfl (fun ls hl => ?_)
          refine lv_goto (tgt := 113) hx hb d_Md_pack_145 (by decide) ?_
          exact ih (r + 1) (bk + 0) τ f w L _ _ _ (by omega) (by omega) (by rw [hb1]; simp [mCnt, c_2, h_2, c_8]) (hs) (hL1) (by omega) hP hD hS (lv_sub hl [2, 3, 4, 5, 6, 1, 0] rfl)
        · 
          refine lv_iconst (v := 1) hx hb d_Md_pack_134 (by decide) ?_
          refine lv_goto (tgt := 139) hx hb d_Md_pack_135 (by decide) ?_
          refine lv_iadd hx hb d_Md_pack_139 ?_
          refine lv_istore (lv' := [(5, .int (bk + 1)), (0, .ref (a 0)), (1, .int set), (2, .int (nI cc)), (3, .int f), (4, .int w), (6, .int (nI r))]) hx hb d_Md_pack_140 hl (by decide) rfl (fun ls hl => ?_)
          refine lv_iinc (v := nI (r + 1)) (lv' := [(6, .int (nI (r + 1))), (5, .int (bk + 1)), (0, .ref (a 0)), (1, .int set), (2, .int (nI cc)), (3, .int f), (4, .int w)]) hx hb d_Md_pack_142 hl (k := 6) rfl (nI_1 r) (by decide) rfl (fun ls hl => ?_)
          refine lv_goto (tgt := 113) hx hb d_Md_pack_145 (by decide) ?_
          exact ih (r + 1) (bk + 1) τ f w L _ _ _ (by omega) (by omega) (by rw [hb1]; simp [mCnt, c_2, h_2, c_8]) (hs) (hL1) (by omega) hP hD hS (lv_sub hl [2, 3, 4, 5, 6, 1, 0] rfl)
  have cut_13 : ∀ (n : Nat) (k : Nat) (τ : Nat → Nat → Int32) (f : Int32) (w : Int32) (L : Nat) (H : Heap) (locs : List Loc) (ls : Array Slot), (k ≤ np) → (np + 1 ≤ k + n) → (mPk σ ord set cc k = (τ, f, w)) → (τ 17 0 = nI L) → (L ≤ k) → (∀ i, (i < 15 ∨ 22 < i) → τ i = σ i) → va_P D gCl (wMd t a τ) H → va_D A (wMd t a τ) → va_S A s.heap H locs → lv_has ls 7 [(0, .ref (a 0)), (1, .int set), (2, .int (nI cc)), (3, .int f), (4, .int w), (5, .int (nI k))] → gGo l p e s m below meth c D t A 1 [.ref (a 0), .int set, .int (nI cc)] (wMd t a) (fun r u => r = mPackR (mPk σ ord set cc np) cc ∧ u = (mPk σ ord set cc np).1) H locs (F0 m 13 ls []) := by
    intro n
    induction n with
    | zero =>
      intro k τ f w L H locs ls hk hf hs hL1 hLk hfix hP hD hS hl
      exact absurd hf (by omega)
    | succ n ih =>
      intro k τ f w L H locs ls hk hf hs hL1 hLk hfix hP hD hS hl
      refine lv_iload hx hb d_Md_pack_13 (lv_at hl 5 rfl) ?_
      refine lv_aload_n hx hb d_Md_pack_15 rfl (lv_at hl 0 rfl) ?_
      refine va_get (D := D) (ci := 7) (v := .int (τ 8 0)) (C := R_Md) (T := F_Md) (N := 34) hx hb hts (fun w h => List.mem_cons_of_mem _ (i_Md w h)) hown hK.1 hP 0 (wMd_0 t a τ) rfl 8 (by decide) (hts (.fieldLink R_Md 113 "FlatBoxesModel" "parts" "I") (List.mem_cons_of_mem _ (gIn k_674 (by decide +kernel)))) (fun _ h9 => h9) rfl d_Md_pack_16 ?_
      refine lv_topi (fun v_9 e_9 => ?_)
      obtain rfl : v_9 = nI np := e_9.trans ((congrFun (hfix 8 (by omega)) 0).trans hN)
      refine lv_icmp_ge (tgt := 107) hx hb d_Md_pack_19 (by decide) (fun c_10 => ?_) (fun c_10 => ?_)
      · 
        have h_10 : np ≤ k := (nI_leI (a := np) (b := k) (by omega) (by omega)).mp c_10
        refine lv_iconst (v := 0) hx hb d_Md_pack_107 (by decide) ?_
        refine lv_istore (lv' := [(5, .int 0), (0, .ref (a 0)), (1, .int set), (2, .int (nI cc)), (3, .int f), (4, .int w)]) hx hb d_Md_pack_108 hl (by decide) rfl (fun ls hl => ?_)
        refine lv_iconst (v := 0) hx hb d_Md_pack_110 (by decide) ?_
        refine lv_istore (lv' := [(6, .int 0), (5, .int 0), (0, .ref (a 0)), (1, .int set), (2, .int (nI cc)), (3, .int f), (4, .int w)]) hx hb d_Md_pack_111 hl (by decide) rfl (fun ls hl => ?_)
        exact cut_113 (L + 1) 0 0 τ f w L _ _ _ (by omega) (by omega) (rfl) (by obtain rfl : k = np := (by omega); exact hs) (hL1) (by omega) hP hD hS (lv_sub hl [2, 3, 4, 5, 6, 1, 0] rfl)
      · 
        have h_10 : ¬ np ≤ k := fun q9 => c_10 ((nI_leI (a := np) (b := k) (by omega) (by omega)).mpr q9)
        refine lv_aload_n hx hb d_Md_pack_22 rfl (lv_at hl 0 rfl) ?_
        refine lv_iload hx hb d_Md_pack_23 (lv_at hl 5 rfl) ?_
        refine g_vi (k := 1) (As := [.int (nI k)]) (rest := []) (own := R_Md) (C := R_Md) (index := 119) ⟨hx, hb, hml, hown, hts⟩ (c_Md_byThickness l D t a τ (nI k) np ((congrFun (hfix 8 (by omega)) 0).trans hN) hN8) (gg_Md_119 _) (by decide +kernel) ⟨Nat.le_of_ble_eq_true rfl, Nat.le_of_ble_eq_true rfl⟩ rfl (va_recv hK.1 hP (ci := 7) (q0 := 0) rfl (wMd_0 t a τ)) hK hP hD hS hl.1 rfl (Nat.le_of_ble_eq_true rfl) ⟨Nat.zero_le _, Nat.zero_le _⟩ d_Md_pack_25 (fun r_11 u_11 H locs q_11 hP hD hS => ?_)
        obtain ⟨hr_11, hu_11⟩ := q_11
        rw [hu_11] at hP hD
        obtain rfl : r_11 = nI (ord k) := hr_11.trans (by rw [hfix 11 (by omega)]; exact (hord k (by omega)).2)
        have ho_11 : ord k < np := (hord k (by omega)).1
        refine lv_istore (lv' := [(6, .int (nI (ord k))), (0, .ref (a 0)), (1, .int set), (2, .int (nI cc)), (3, .int f), (4, .int w), (5, .int (nI k))]) hx hb d_Md_pack_28 hl (by decide) rfl (fun ls hl => ?_)
        refine lv_aload_n hx hb d_Md_pack_30 rfl (lv_at hl 1 rfl) ?_
        refine lv_iload_n hx hb d_Md_pack_31 rfl (lv_at hl 2 rfl) ?_
        refine lv_iload hx hb d_Md_pack_32 (lv_at hl 0 rfl) ?_
        refine g_vi (k := 2) (As := [.int set, .int (nI (ord k))]) (rest := []) (own := R_Md) (C := R_Md) (index := 123) ⟨hx, hb, hml, hown, hts⟩ (c_Md_has l D t a τ set (nI (ord k))) (gg_Md_123 _) (by decide +kernel) ⟨Nat.le_of_ble_eq_true rfl, Nat.le_of_ble_eq_true rfl⟩ rfl (va_recv hK.1 hP (ci := 7) (q0 := 0) rfl (wMd_0 t a τ)) hK hP hD hS hl.1 rfl (Nat.le_of_ble_eq_true rfl) ⟨Nat.zero_le _, Nat.zero_le _⟩ d_Md_pack_34 (fun r_12 u_12 H locs q_12 hP hD hS => ?_)
        obtain ⟨rfl, hu_12⟩ := q_12
        rw [hu_12] at hP hD
        refine lv_if_eq (tgt := 101) hx hb d_Md_pack_37 (by decide) (fun c_13 => ?_) (fun c_13 => ?_)
        · 
          refine lv_iinc (v := nI (k + 1)) (lv' := [(5, .int (nI (k + 1))), (6, .int (nI (ord k))), (0, .ref (a 0)), (1, .int set), (2, .int (nI cc)), (3, .int f), (4, .int w)]) hx hb d_Md_pack_101 hl (k := 6) rfl (nI_1 k) (by decide) rfl (fun ls hl => ?_)
          refine lv_goto (tgt := 13) hx hb d_Md_pack_104 (by decide) ?_
          exact ih (k + 1) τ f w L _ _ _ (by omega) (by omega) (by first | (simp [mPk, hs, mFit, hL1, nI_clamp (show L < 2 ^ 31 by omega), c_10, h_10, c_13]; done) | (simp [mPk, hs, c_10, h_10, c_13]; done)) (by first | exact hL1 | exact mPlace_L hL1) (by first | omega | (have := mNewL_le τ (ord k) cc L; omega)) (by first | exact hfix | exact fun i hi => (mPlace_fix _ _ _ _ hi).trans (hfix i hi)) hP hD hS (lv_sub hl [2, 3, 4, 5, 6, 0] rfl)
        · 
          refine lv_iload_n hx hb d_Md_pack_40 rfl (lv_at hl 4 rfl) ?_
          refine lv_if_eq (tgt := 80) hx hb d_Md_pack_41 (by decide) (fun c_14 => ?_) (fun c_14 => ?_)
          · 
            refine lv_iconst (v := 0) hx hb d_Md_pack_80 (by decide) ?_
            refine lv_istore_n (lv' := [(3, .int 0), (6, .int (nI (ord k))), (0, .ref (a 0)), (1, .int set), (2, .int (nI cc)), (4, .int w), (5, .int (nI k))]) hx hb d_Md_pack_81 rfl hl (by decide) rfl (fun ls hl => ?_)
            refine lv_iload hx hb d_Md_pack_82 (lv_at hl 5 rfl) ?_
            refine lv_aload_n hx hb d_Md_pack_84 rfl (lv_at hl 2 rfl) ?_
            refine va_get (D := D) (ci := 7) (v := .ref (a 12)) (C := R_Md) (T := F_Md) (N := 34) hx hb hts (fun w h => List.mem_cons_of_mem _ (i_Md w h)) hown hK.1 hP 0 (wMd_0 t a τ) rfl 12 (by decide) (hts (.fieldLink R_Md 34 "FlatBoxesModel" "grams" "[I") (List.mem_cons_of_mem _ (gIn k_678 (by decide +kernel)))) (fun _ h9 => h9) rfl d_Md_pack_85 ?_
            refine lv_iload hx hb d_Md_pack_88 (lv_at hl 1 rfl) ?_
            refine g_iald hx hb hK.1 hP 9 0 (wMd_12 t a τ) rfl (ord k) (rfl) (by omega) (by decide) d_Md_pack_90 ?_
            refine lv_iadd hx hb d_Md_pack_91 ?_
            refine lv_istore (lv' := [(4, .int (w + (τ 12 (ord k)))), (3, .int 0), (6, .int (nI (ord k))), (0, .ref (a 0)), (1, .int set), (2, .int (nI cc)), (5, .int (nI k))]) hx hb d_Md_pack_92 hl (by decide) rfl (fun ls hl => ?_)
            refine lv_aload_n hx hb d_Md_pack_94 rfl (lv_at hl 3 rfl) ?_
            refine lv_iload hx hb d_Md_pack_95 (lv_at hl 2 rfl) ?_
            refine lv_iload_n hx hb d_Md_pack_97 rfl (lv_at hl 5 rfl) ?_
            refine g_vv (k := 2) (As := [.int (nI (ord k)), .int (nI cc)]) (rest := []) (own := R_Md) (C := R_Md) (index := 127) ⟨hx, hb, hml, hown, hts⟩ (c_Md_place l D t a τ (ord k) cc L hL1 (by omega) (by omega) hc) (gg_Md_127 _) (by decide +kernel) ⟨Nat.le_of_ble_eq_true rfl, Nat.le_of_ble_eq_true rfl⟩ rfl (va_recv hK.1 hP (ci := 7) (q0 := 0) rfl (wMd_0 t a τ)) hK hP hD hS hl.1 rfl (Nat.le_of_ble_eq_true rfl) ⟨Nat.zero_le _, Nat.zero_le _⟩ d_Md_pack_98 (fun u_15 H locs q_15 hP hD hS => ?_)
            have hu_15 : u_15 = _ := q_15
            rw [hu_15] at hP hD
            refine lv_iinc (v := nI (k + 1)) (lv' := [(5, .int (nI (k + 1))), (4, .int (w + (τ 12 (ord k)))), (3, .int 0), (6, .int (nI (ord k))), (0, .ref (a 0)), (1, .int set), (2, .int (nI cc))]) hx hb d_Md_pack_101 hl (k := 6) rfl (nI_1 k) (by decide) rfl (fun ls hl => ?_)
            refine lv_goto (tgt := 13) hx hb d_Md_pack_104 (by decide) ?_
            exact ih (k + 1) (mPlace τ (ord k) cc L) 0 (w + (τ 12 (ord k))) (mNewL τ (ord k) cc L) _ _ _ (by omega) (by omega) (by first | (simp [mPk, hs, mFit, hL1, nI_clamp (show L < 2 ^ 31 by omega), c_10, h_10, c_13, c_14]; done) | (simp [mPk, hs, c_10, h_10, c_13, c_14]; done)) (by first | exact hL1 | exact mPlace_L hL1) (by first | omega | (have := mNewL_le τ (ord k) cc L; omega)) (by first | exact hfix | exact fun i hi => (mPlace_fix _ _ _ _ hi).trans (hfix i hi)) hP hD hS (lv_sub hl [4, 5, 6, 2, 1, 0] rfl)
          · 
            refine lv_aload_n hx hb d_Md_pack_44 rfl (lv_at hl 1 rfl) ?_
            refine va_get (D := D) (ci := 7) (v := .ref (a 9)) (C := R_Md) (T := F_Md) (N := 34) hx hb hts (fun w h => List.mem_cons_of_mem _ (i_Md w h)) hown hK.1 hP 0 (wMd_0 t a τ) rfl 9 (by decide) (hts (.fieldLink R_Md 25 "FlatBoxesModel" "wides" "[I") (List.mem_cons_of_mem _ (gIn k_675 (by decide +kernel)))) (fun _ h9 => h9) rfl d_Md_pack_45 ?_
            refine lv_iload hx hb d_Md_pack_48 (lv_at hl 0 rfl) ?_
            refine g_iald hx hb hK.1 hP 6 0 (wMd_9 t a τ) rfl (ord k) (rfl) (by omega) (by decide) d_Md_pack_50 ?_
            refine lv_aload_n hx hb d_Md_pack_51 rfl (lv_at hl 1 rfl) ?_
            refine va_get (D := D) (ci := 7) (v := .ref (a 3)) (C := R_Md) (T := F_Md) (N := 34) hx hb hts (fun w h => List.mem_cons_of_mem _ (i_Md w h)) hown hK.1 hP 0 (wMd_0 t a τ) rfl 3 (by decide) (hts (.fieldLink R_Md 7 "FlatBoxesModel" "widths" "[I") (List.mem_cons_of_mem _ (gIn k_669 (by decide +kernel)))) (fun _ h9 => h9) rfl d_Md_pack_52 ?_
            refine lv_iload_n hx hb d_Md_pack_55 rfl (lv_at hl 3 rfl) ?_
            refine g_iald hx hb hK.1 hP 1 0 (wMd_3 t a τ) rfl cc (rfl) (by omega) (by decide) d_Md_pack_56 ?_
            refine lv_icmp_gt (tgt := 80) hx hb d_Md_pack_57 (by decide) (fun c_16 => ?_) (fun c_16 => ?_)
            · 
              refine lv_iconst (v := 0) hx hb d_Md_pack_80 (by decide) ?_
              refine lv_istore_n (lv' := [(3, .int 0), (6, .int (nI (ord k))), (0, .ref (a 0)), (1, .int set), (2, .int (nI cc)), (4, .int w), (5, .int (nI k))]) hx hb d_Md_pack_81 rfl hl (by decide) rfl (fun ls hl => ?_)
              refine lv_iload hx hb d_Md_pack_82 (lv_at hl 5 rfl) ?_
              refine lv_aload_n hx hb d_Md_pack_84 rfl (lv_at hl 2 rfl) ?_
              refine va_get (D := D) (ci := 7) (v := .ref (a 12)) (C := R_Md) (T := F_Md) (N := 34) hx hb hts (fun w h => List.mem_cons_of_mem _ (i_Md w h)) hown hK.1 hP 0 (wMd_0 t a τ) rfl 12 (by decide) (hts (.fieldLink R_Md 34 "FlatBoxesModel" "grams" "[I") (List.mem_cons_of_mem _ (gIn k_678 (by decide +kernel)))) (fun _ h9 => h9) rfl d_Md_pack_85 ?_
              refine lv_iload hx hb d_Md_pack_88 (lv_at hl 1 rfl) ?_
              refine g_iald hx hb hK.1 hP 9 0 (wMd_12 t a τ) rfl (ord k) (rfl) (by omega) (by decide) d_Md_pack_90 ?_
              refine lv_iadd hx hb d_Md_pack_91 ?_
              refine lv_istore (lv' := [(4, .int (w + (τ 12 (ord k)))), (3, .int 0), (6, .int (nI (ord k))), (0, .ref (a 0)), (1, .int set), (2, .int (nI cc)), (5, .int (nI k))]) hx hb d_Md_pack_92 hl (by decide) rfl (fun ls hl => ?_)
              refine lv_aload_n hx hb d_Md_pack_94 rfl (lv_at hl 3 rfl) ?_
              refine lv_iload hx hb d_Md_pack_95 (lv_at hl 2 rfl) ?_
              refine lv_iload_n hx hb d_Md_pack_97 rfl (lv_at hl 5 rfl) ?_
              refine g_vv (k := 2) (As := [.int (nI (ord k)), .int (nI cc)]) (rest := []) (own := R_Md) (C := R_Md) (index := 127) ⟨hx, hb, hml, hown, hts⟩ (c_Md_place l D t a τ (ord k) cc L hL1 (by omega) (by omega) hc) (gg_Md_127 _) (by decide +kernel) ⟨Nat.le_of_ble_eq_true rfl, Nat.le_of_ble_eq_true rfl⟩ rfl (va_recv hK.1 hP (ci := 7) (q0 := 0) rfl (wMd_0 t a τ)) hK hP hD hS hl.1 rfl (Nat.le_of_ble_eq_true rfl) ⟨Nat.zero_le _, Nat.zero_le _⟩ d_Md_pack_98 (fun u_17 H locs q_17 hP hD hS => ?_)
              have hu_17 : u_17 = _ := q_17
              rw [hu_17] at hP hD
              refine lv_iinc (v := nI (k + 1)) (lv' := [(5, .int (nI (k + 1))), (4, .int (w + (τ 12 (ord k)))), (3, .int 0), (6, .int (nI (ord k))), (0, .ref (a 0)), (1, .int set), (2, .int (nI cc))]) hx hb d_Md_pack_101 hl (k := 6) rfl (nI_1 k) (by decide) rfl (fun ls hl => ?_)
              refine lv_goto (tgt := 13) hx hb d_Md_pack_104 (by decide) ?_
              exact ih (k + 1) (mPlace τ (ord k) cc L) 0 (w + (τ 12 (ord k))) (mNewL τ (ord k) cc L) _ _ _ (by omega) (by omega) (by first | (simp [mPk, hs, mFit, hL1, nI_clamp (show L < 2 ^ 31 by omega), c_10, h_10, c_13, c_14, c_16]; done) | (simp [mPk, hs, c_10, h_10, c_13, c_14, c_16]; done)) (by first | exact hL1 | exact mPlace_L hL1) (by first | omega | (have := mNewL_le τ (ord k) cc L; omega)) (by first | exact hfix | exact fun i hi => (mPlace_fix _ _ _ _ hi).trans (hfix i hi)) hP hD hS (lv_sub hl [4, 5, 6, 2, 1, 0] rfl)
            · 
              refine lv_aload_n hx hb d_Md_pack_60 rfl (lv_at hl 1 rfl) ?_
              refine va_get (D := D) (ci := 7) (v := .ref (a 10)) (C := R_Md) (T := F_Md) (N := 34) hx hb hts (fun w h => List.mem_cons_of_mem _ (i_Md w h)) hown hK.1 hP 0 (wMd_0 t a τ) rfl 10 (by decide) (hts (.fieldLink R_Md 28 "FlatBoxesModel" "deeps" "[I") (List.mem_cons_of_mem _ (gIn k_676 (by decide +kernel)))) (fun _ h9 => h9) rfl d_Md_pack_61 ?_
              refine lv_iload hx hb d_Md_pack_64 (lv_at hl 0 rfl) ?_
              refine g_iald hx hb hK.1 hP 7 0 (wMd_10 t a τ) rfl (ord k) (rfl) (by omega) (by decide) d_Md_pack_66 ?_
              refine lv_aload_n hx hb d_Md_pack_67 rfl (lv_at hl 1 rfl) ?_
              refine va_get (D := D) (ci := 7) (v := .ref (a 4)) (C := R_Md) (T := F_Md) (N := 34) hx hb hts (fun w h => List.mem_cons_of_mem _ (i_Md w h)) hown hK.1 hP 0 (wMd_0 t a τ) rfl 4 (by decide) (hts (.fieldLink R_Md 13 "FlatBoxesModel" "depths" "[I") (List.mem_cons_of_mem _ (gIn k_670 (by decide +kernel)))) (fun _ h9 => h9) rfl d_Md_pack_68 ?_
              refine lv_iload_n hx hb d_Md_pack_71 rfl (lv_at hl 3 rfl) ?_
              refine g_iald hx hb hK.1 hP 2 0 (wMd_4 t a τ) rfl cc (rfl) (by omega) (by decide) d_Md_pack_72 ?_
              refine lv_icmp_gt (tgt := 80) hx hb d_Md_pack_73 (by decide) (fun c_18 => ?_) (fun c_18 => ?_)
              · 
                refine lv_iconst (v := 0) hx hb d_Md_pack_80 (by decide) ?_
                refine lv_istore_n (lv' := [(3, .int 0), (6, .int (nI (ord k))), (0, .ref (a 0)), (1, .int set), (2, .int (nI cc)), (4, .int w), (5, .int (nI k))]) hx hb d_Md_pack_81 rfl hl (by decide) rfl (fun ls hl => ?_)
                refine lv_iload hx hb d_Md_pack_82 (lv_at hl 5 rfl) ?_
                refine lv_aload_n hx hb d_Md_pack_84 rfl (lv_at hl 2 rfl) ?_
                refine va_get (D := D) (ci := 7) (v := .ref (a 12)) (C := R_Md) (T := F_Md) (N := 34) hx hb hts (fun w h => List.mem_cons_of_mem _ (i_Md w h)) hown hK.1 hP 0 (wMd_0 t a τ) rfl 12 (by decide) (hts (.fieldLink R_Md 34 "FlatBoxesModel" "grams" "[I") (List.mem_cons_of_mem _ (gIn k_678 (by decide +kernel)))) (fun _ h9 => h9) rfl d_Md_pack_85 ?_
                refine lv_iload hx hb d_Md_pack_88 (lv_at hl 1 rfl) ?_
                refine g_iald hx hb hK.1 hP 9 0 (wMd_12 t a τ) rfl (ord k) (rfl) (by omega) (by decide) d_Md_pack_90 ?_
                refine lv_iadd hx hb d_Md_pack_91 ?_
                refine lv_istore (lv' := [(4, .int (w + (τ 12 (ord k)))), (3, .int 0), (6, .int (nI (ord k))), (0, .ref (a 0)), (1, .int set), (2, .int (nI cc)), (5, .int (nI k))]) hx hb d_Md_pack_92 hl (by decide) rfl (fun ls hl => ?_)
                refine lv_aload_n hx hb d_Md_pack_94 rfl (lv_at hl 3 rfl) ?_
                refine lv_iload hx hb d_Md_pack_95 (lv_at hl 2 rfl) ?_
                refine lv_iload_n hx hb d_Md_pack_97 rfl (lv_at hl 5 rfl) ?_
                refine g_vv (k := 2) (As := [.int (nI (ord k)), .int (nI cc)]) (rest := []) (own := R_Md) (C := R_Md) (index := 127) ⟨hx, hb, hml, hown, hts⟩ (c_Md_place l D t a τ (ord k) cc L hL1 (by omega) (by omega) hc) (gg_Md_127 _) (by decide +kernel) ⟨Nat.le_of_ble_eq_true rfl, Nat.le_of_ble_eq_true rfl⟩ rfl (va_recv hK.1 hP (ci := 7) (q0 := 0) rfl (wMd_0 t a τ)) hK hP hD hS hl.1 rfl (Nat.le_of_ble_eq_true rfl) ⟨Nat.zero_le _, Nat.zero_le _⟩ d_Md_pack_98 (fun u_19 H locs q_19 hP hD hS => ?_)
                have hu_19 : u_19 = _ := q_19
                rw [hu_19] at hP hD
                refine lv_iinc (v := nI (k + 1)) (lv' := [(5, .int (nI (k + 1))), (4, .int (w + (τ 12 (ord k)))), (3, .int 0), (6, .int (nI (ord k))), (0, .ref (a 0)), (1, .int set), (2, .int (nI cc))]) hx hb d_Md_pack_101 hl (k := 6) rfl (nI_1 k) (by decide) rfl (fun ls hl => ?_)
                refine lv_goto (tgt := 13) hx hb d_Md_pack_104 (by decide) ?_
                exact ih (k + 1) (mPlace τ (ord k) cc L) 0 (w + (τ 12 (ord k))) (mNewL τ (ord k) cc L) _ _ _ (by omega) (by omega) (by first | (simp [mPk, hs, mFit, hL1, nI_clamp (show L < 2 ^ 31 by omega), c_10, h_10, c_13, c_14, c_16, c_18]; done) | (simp [mPk, hs, c_10, h_10, c_13, c_14, c_16, c_18]; done)) (by first | exact hL1 | exact mPlace_L hL1) (by first | omega | (have := mNewL_le τ (ord k) cc L; omega)) (by first | exact hfix | exact fun i hi => (mPlace_fix _ _ _ _ hi).trans (hfix i hi)) hP hD hS (lv_sub hl [4, 5, 6, 2, 1, 0] rfl)
              · 
                refine lv_iconst (v := 1) hx hb d_Md_pack_76 (by decide) ?_
                refine lv_goto (tgt := 81) hx hb d_Md_pack_77 (by decide) ?_
                refine lv_istore_n (lv' := [(3, .int 1), (6, .int (nI (ord k))), (0, .ref (a 0)), (1, .int set), (2, .int (nI cc)), (4, .int w), (5, .int (nI k))]) hx hb d_Md_pack_81 rfl hl (by decide) rfl (fun ls hl => ?_)
                refine lv_iload hx hb d_Md_pack_82 (lv_at hl 5 rfl) ?_
                refine lv_aload_n hx hb d_Md_pack_84 rfl (lv_at hl 2 rfl) ?_
                refine va_get (D := D) (ci := 7) (v := .ref (a 12)) (C := R_Md) (T := F_Md) (N := 34) hx hb hts (fun w h => List.mem_cons_of_mem _ (i_Md w h)) hown hK.1 hP 0 (wMd_0 t a τ) rfl 12 (by decide) (hts (.fieldLink R_Md 34 "FlatBoxesModel" "grams" "[I") (List.mem_cons_of_mem _ (gIn k_678 (by decide +kernel)))) (fun _ h9 => h9) rfl d_Md_pack_85 ?_
                refine lv_iload hx hb d_Md_pack_88 (lv_at hl 1 rfl) ?_
                refine g_iald hx hb hK.1 hP 9 0 (wMd_12 t a τ) rfl (ord k) (rfl) (by omega) (by decide) d_Md_pack_90 ?_
                refine lv_iadd hx hb d_Md_pack_91 ?_
                refine lv_istore (lv' := [(4, .int (w + (τ 12 (ord k)))), (3, .int 1), (6, .int (nI (ord k))), (0, .ref (a 0)), (1, .int set), (2, .int (nI cc)), (5, .int (nI k))]) hx hb d_Md_pack_92 hl (by decide) rfl (fun ls hl => ?_)
                refine lv_aload_n hx hb d_Md_pack_94 rfl (lv_at hl 3 rfl) ?_
                refine lv_iload hx hb d_Md_pack_95 (lv_at hl 2 rfl) ?_
                refine lv_iload_n hx hb d_Md_pack_97 rfl (lv_at hl 5 rfl) ?_
                refine g_vv (k := 2) (As := [.int (nI (ord k)), .int (nI cc)]) (rest := []) (own := R_Md) (C := R_Md) (index := 127) ⟨hx, hb, hml, hown, hts⟩ (c_Md_place l D t a τ (ord k) cc L hL1 (by omega) (by omega) hc) (gg_Md_127 _) (by decide +kernel) ⟨Nat.le_of_ble_eq_true rfl, Nat.le_of_ble_eq_true rfl⟩ rfl (va_recv hK.1 hP (ci := 7) (q0 := 0) rfl (wMd_0 t a τ)) hK hP hD hS hl.1 rfl (Nat.le_of_ble_eq_true rfl) ⟨Nat.zero_le _, Nat.zero_le _⟩ d_Md_pack_98 (fun u_20 H locs q_20 hP hD hS => ?_)
                have hu_20 : u_20 = _ := q_20
                rw [hu_20] at hP hD
                refine lv_iinc (v := nI (k + 1)) (lv' := [(5, .int (nI (k + 1))), (4, .int (w + (τ 12 (ord k)))), (3, .int 1), (6, .int (nI (ord k))), (0, .ref (a 0)), (1, .int set), (2, .int (nI cc))]) hx hb d_Md_pack_101 hl (k := 6) rfl (nI_1 k) (by decide) rfl (fun ls hl => ?_)
                refine lv_goto (tgt := 13) hx hb d_Md_pack_104 (by decide) ?_
                exact ih (k + 1) (mPlace τ (ord k) cc L) 1 (w + (τ 12 (ord k))) (mNewL τ (ord k) cc L) _ _ _ (by omega) (by omega) (by first | (simp [mPk, hs, mFit, hL1, nI_clamp (show L < 2 ^ 31 by omega), c_10, h_10, c_13, c_14, c_16, c_18]; done) | (simp [mPk, hs, c_10, h_10, c_13, c_14, c_16, c_18]; done)) (by first | exact hL1 | exact mPlace_L hL1) (by first | omega | (have := mNewL_le τ (ord k) cc L; omega)) (by first | exact hfix | exact fun i hi => (mPlace_fix _ _ _ _ hi).trans (hfix i hi)) hP hD hS (lv_sub hl [4, 5, 6, 2, 1, 0] rfl)
  refine lv_aload_n hx hb d_Md_pack_0 rfl (lv_at hl 0 rfl) ?_
  refine lv_iconst (v := 0) hx hb d_Md_pack_1 (by decide) ?_
  refine va_put (D := D) (ci := 7) (v := .int 0) (ty := .int) (C := R_Md) (T := F_Md) (N := 34) hx hb hts (fun w h => List.mem_cons_of_mem _ (i_Md w h)) t_Md t_Md_ok n_Md hown hK.1 hP hD hS 0 (wMd_0 t a σ) rfl 17 (by decide) (hts (.fieldLink R_Md 116 "FlatBoxesModel" "layers" "I") (List.mem_cons_of_mem _ (gIn k_683 (by decide +kernel)))) (fun _ h9 => h9) rfl (by decide +kernel) rfl rfl (Nat.le_of_ble_eq_true rfl) d_Md_pack_2 (fun H locs hP hD hS => ?_)
  have hP : va_P D gCl (wMd t a (gSt σ 17 0 0)) H := hP
  have hD : va_D A (wMd t a (gSt σ 17 0 0)) := hD
  refine lv_iconst (v := 1) hx hb d_Md_pack_5 (by decide) ?_
  refine lv_istore_n (lv' := [(3, .int 1), (0, .ref (a 0)), (1, .int set), (2, .int (nI cc))]) hx hb d_Md_pack_6 rfl hl (by decide) rfl (fun ls hl => ?_)
  refine lv_iconst (v := 0) hx hb d_Md_pack_7 (by decide) ?_
  refine lv_istore (lv' := [(4, .int 0), (3, .int 1), (0, .ref (a 0)), (1, .int set), (2, .int (nI cc))]) hx hb d_Md_pack_8 hl (by decide) rfl (fun ls hl => ?_)
  refine lv_iconst (v := 0) hx hb d_Md_pack_10 (by decide) ?_
  refine lv_istore (lv' := [(5, .int 0), (4, .int 0), (3, .int 1), (0, .ref (a 0)), (1, .int set), (2, .int (nI cc))]) hx hb d_Md_pack_11 hl (by decide) rfl (fun ls hl => ?_)
  exact cut_13 (np + 1) 0 (gSt σ 17 0 0) 1 0 0 _ _ _ (by omega) (by omega) (rfl) (rfl) (by omega) (fun i hi => gSt_ne _ _ _ _ (by omega)) hP hD hS (lv_sub hl [3, 4, 5, 2, 1, 0] rfl)
