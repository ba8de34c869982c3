def mBoxN (τ : Nat → Nat → Int32) (bv : Int32) : Nat → Int32
  | 0 => 0
  | k + 1 => mBoxN τ bv k + (if τ 26 k = bv then 1 else 0)
def mBxC (σ : Nat → Nat → Int32) (nbx : Nat) (bv wh : Int32) : Int32 := if σ 24 0 = 0 then 1 else if mIn bv 0 (nI nbx - 1) = 0 then 2 else if mIn wh 0 4 = 0 then 2 else 0
def mBxV (τ : Nat → Nat → Int32) (np b c1 s1 L : Nat) (wh : Int32) : Int32 := if ¬ wh = 0 then (if ¬ wh = 1 then (if ¬ wh = 2 then (if ¬ wh = 3 then mSum (τ 19) L else nI L) else mGrams τ (nI s1) np) else mBoxN τ (nI b) np) else nI c1
def mBxR (σ : Nat → Nat → Int32) (np nbx : Nat) (rho ord sx cx Lb : Nat → Nat) (bv wh : Int32) : Int32 := if mBxC σ nbx bv wh = 0 then mBxV (mBoxU (gSt σ 0 0 0) rho ord sx cx np bv.toNatClampNeg) np bv.toNatClampNeg (cx bv.toNatClampNeg) (sx bv.toNatClampNeg) (Lb bv.toNatClampNeg) wh else 0
def mBxU (σ : Nat → Nat → Int32) (np nbx : Nat) (rho ord sx cx : Nat → Nat) (bv wh : Int32) : Nat → Nat → Int32 := if mBxC σ nbx bv wh = 0 then mBoxU (gSt σ 0 0 0) rho ord sx cx np bv.toNatClampNeg else gSt σ 0 0 (mBxC σ nbx bv wh)

theorem gg_Md_158 (w0 : Cond) : GoodIn (w0 :: gBig) (wsV R_Md 158 R_Md y_Md_isBelow (.code y_Md_isBelow b_Md_isBelow 3 (some .boolean) :: gBig)) := gGoodV (gIn k_845 (by decide +kernel)) (gIn k_847 (by decide +kernel)) (gInP (List.mem_of_getElem? (i := 26) (by decide +kernel)) (by decide +kernel)) (gIn k_9 (by decide +kernel)) (gIn k_848 (by decide +kernel))
set_option maxHeartbeats 4000000 in
set_option maxRecDepth 100000 in
theorem c_Md_at (l : Launch) (D : va_G) (t : Nat → ClassId) (a : Nat → Nat) (σ : Nat → Nat → Int32) (pt wh : Int32) (ord Lf lpf : Nat → Nat) (np nbx : Nat) (rho sx cx : Nat → Nat) (hN : σ 8 0 = nI np) (hN8 : np ≤ 8) (hsh : ¬ σ 24 0 = 0 → mShOK (gSt σ 0 0 0) np nbx rho sx cx) (hord : ∀ k, k < np → ord k < np ∧ mBT (σ 11) np (nI k) np 0 = nI (ord k)) (hat : ¬ σ 24 0 = 0 → ∀ q, q < np → mAtOK (mBoxU (gSt σ 0 0 0) rho ord sx cx np (rho q)) q (Lf q) (lpf q)) : gMi l D t y_Md_at b_Md_at 6 (some .int) 3 [.ref (a 0), .int pt, .int wh] (wMd t a σ) (wMd t a) (fun r u => r = mAtR σ np rho ord sx cx Lf lpf pt wh ∧ u = mAtU σ np rho ord sx cx pt wh) := by
  intro A
  refine Met.ofW (cc := b_Md_at) (maxL := 6) (ret := (some .int)) (by decide) rfl ?_
  intro p e s m args below meth c s₁ B hml hv
  obtain ⟨rfl, hK, hP, hD⟩ := hv
  have hx := B.exec
  have hb := B.bytes
  have hr := B.returns
  have hts := atoms_spec (ws := .code y_Md_at b_Md_at 6 (some .int) :: gBig) B.pre
  have hown : s.vm.findClass R_Md = some m.cls := findClass_of_methodNamed B.named
  have hlocks := B.notSynchronized
  have hS : va_S A s.heap s.heap [] := va_S.rf
  have hl := lv_entry ([.ref (a 0), .int pt, .int wh]) (n := 6) (Nat.le_of_ble_eq_true rfl)
  rw [lg_entry_eq]
  generalize (lg_sl ([.ref (a 0), .int pt, .int wh]) ++ List.replicate (6 - (lg_sl ([.ref (a 0), .int pt, .int wh])).length) Slot.unset).toArray = ls at hl ⊢
  have hl : lv_has ls 6 [(0, .ref (a 0)), (1, .int pt), (2, .int wh)] := hl
  show gGo l p e s m below meth c D t A 3 [.ref (a 0), .int pt, .int wh] (wMd t a) (fun r u => r = mAtR σ np rho ord sx cx Lf lpf pt wh ∧ u = mAtU σ np rho ord sx cx pt wh) s.heap [] (F0 m 0 ls [])
  have cut_71 : ∀ (n : Nat) (q : Nat) (k : Nat) (ly : Int32) (z : Int32) (H : Heap) (locs : List Loc) (ls : Array Slot), (q < np) → (k ≤ Lf q) → (Lf q + 1 ≤ k + n) → (ly = mLy (mBoxU (gSt σ 0 0 0) rho ord sx cx np (rho q)) (lpf q) k) → (z = mLz (mBoxU (gSt σ 0 0 0) rho ord sx cx np (rho q)) (lpf q) k) → (pt = nI q) → (mAtC σ np pt wh = 0) → ((mBoxU (gSt σ 0 0 0) rho ord sx cx np (rho q)) 17 0 = nI (Lf q)) → (Lf q ≤ 8) → ((mBoxU (gSt σ 0 0 0) rho ord sx cx np (rho q)) 15 q = nI (lpf q)) → (lpf q < 8) → (∀ i, (mBoxU (gSt σ 0 0 0) rho ord sx cx np (rho q)) 22 i = 0 ∨ (mBoxU (gSt σ 0 0 0) rho ord sx cx np (rho q)) 22 i = 1) → ((mBoxU (gSt σ 0 0 0) rho ord sx cx np (rho q)) 26 q = nI (rho q)) → va_P D gCl (wMd t a (mBoxU (gSt σ 0 0 0) rho ord sx cx np (rho q))) H → va_D A (wMd t a (mBoxU (gSt σ 0 0 0) rho ord sx cx np (rho q))) → va_S A s.heap H locs → lv_has ls 6 [(0, .ref (a 0)), (1, .int (nI q)), (2, .int wh), (3, .int ly), (4, .int z), (5, .int (nI k))] → gGo l p e s m below meth c D t A 3 [.ref (a 0), .int pt, .int wh] (wMd t a) (fun r u => r = mAtR σ np rho ord sx cx Lf lpf pt wh ∧ u = mAtU σ np rho ord sx cx pt wh) H locs (F0 m 71 ls []) := by
    intro n
    induction n with
    | zero =>
      intro q k ly z H locs ls hq hk hf hly hz hpt hcd hL1 hL8 hlp hlp8 h22 hrq hP hD hS hl
      exact absurd hf (by omega)
    | succ n ih =>
      intro q k ly z H locs ls hq hk hf hly hz hpt hcd hL1 hL8 hlp hlp8 h22 hrq hP hD hS hl
      refine lv_iload hx hb d_Md_at_71 (lv_at hl 5 rfl) ?_
      refine lv_aload_n hx hb d_Md_at_73 rfl (lv_at hl 0 rfl) ?_
      refine va_get (D := D) (ci := 7) (v := .int ((mBoxU (gSt σ 0 0 0) rho ord sx cx np (rho q)) 17 0)) (C := R_Md) (T := F_Md) (N := 34) hx hb hts (fun w h => List.mem_cons_of_mem _ (i_Md w h)) hown hK.1 hP 0 (wMd_0 t a (mBoxU (gSt σ 0 0 0) rho ord sx cx np (rho q))) rfl 17 (by decide) (hts (.fieldLink R_Md 116 "FlatBoxesModel" "layers" "I") (List.mem_cons_of_mem _ (gIn k_683 (by decide +kernel)))) (fun _ h9 => h9) rfl d_Md_at_74 ?_
      refine lv_topi (fun v_1 e_1 => ?_)
      obtain rfl : nI (Lf q) = v_1 := (e_1.trans (hL1)).symm
      refine lv_icmp_ge (tgt := 116) hx hb d_Md_at_77 (by decide) (fun c_2 => ?_) (fun c_2 => ?_)
      · 
        have h_2 : Lf q ≤ k := (nI_leI (a := Lf q) (b := k) (by omega) (by omega)).mp c_2
        refine lv_iload_n hx hb d_Md_at_116 rfl (lv_at hl 2 rfl) ?_
        refine lv_if_ne (tgt := 129) hx hb d_Md_at_117 (by decide) (fun c_3 => ?_) (fun c_3 => ?_)
        · 
          refine lv_iload_n hx hb d_Md_at_129 rfl (lv_at hl 2 rfl) ?_
          refine lv_iconst (v := 1) hx hb d_Md_at_130 (by decide) ?_
          refine lv_icmp_ne (tgt := 138) hx hb d_Md_at_131 (by decide) (fun c_4 => ?_) (fun c_4 => ?_)
          · 
            refine lv_iload_n hx hb d_Md_at_138 rfl (lv_at hl 2 rfl) ?_
            refine lv_iconst (v := 2) hx hb d_Md_at_139 (by decide) ?_
            refine lv_icmp_ne (tgt := 152) hx hb d_Md_at_140 (by decide) (fun c_5 => ?_) (fun c_5 => ?_)
            · 
              refine lv_iload hx hb d_Md_at_152 (lv_at hl 4 rfl) ?_
              exact W.iret (v := z) hx hb hr (fun U hU hW => ⟨⟨z, mBoxU (gSt σ 0 0 0) rho ord sx cx np (rho q), rfl, by obtain rfl : k = Lf q := (by omega); subst hly hz; exact ⟨by rw [mAtR, if_pos hcd, hpt, nI_clamp (by omega)]; simp [mAtV, c_2, h_2, c_3, c_4, c_5], by rw [mAtU, if_pos hcd, hpt, nI_clamp (by omega)]⟩, by rw [hU]; exact hP, hD⟩, hS.F hU⟩) hS.2.2 d_Md_at_154
            · 
              refine lv_aload_n hx hb d_Md_at_143 rfl (lv_at hl 0 rfl) ?_
              refine va_get (D := D) (ci := 7) (v := .ref (a 16)) (C := R_Md) (T := F_Md) (N := 34) hx hb hts (fun w h => List.mem_cons_of_mem _ (i_Md w h)) hown hK.1 hP 0 (wMd_0 t a (mBoxU (gSt σ 0 0 0) rho ord sx cx np (rho q))) rfl 16 (by decide) (hts (.fieldLink R_Md 47 "FlatBoxesModel" "begins" "[I") (List.mem_cons_of_mem _ (gIn k_682 (by decide +kernel)))) (fun _ h9 => h9) rfl d_Md_at_144 ?_
              refine lv_iload_n hx hb d_Md_at_147 rfl (lv_at hl 1 rfl) ?_
              refine g_iald hx hb hK.1 hP 13 0 (wMd_16 t a (mBoxU (gSt σ 0 0 0) rho ord sx cx np (rho q))) rfl q (rfl) (by omega) (by decide) d_Md_at_148 ?_
              refine lv_goto (tgt := 154) hx hb d_Md_at_149 (by decide) ?_
              exact W.iret (v := (mBoxU (gSt σ 0 0 0) rho ord sx cx np (rho q)) 16 q) hx hb hr (fun U hU hW => ⟨⟨(mBoxU (gSt σ 0 0 0) rho ord sx cx np (rho q)) 16 q, mBoxU (gSt σ 0 0 0) rho ord sx cx np (rho q), rfl, by obtain rfl : k = Lf q := (by omega); subst hly hz; exact ⟨by rw [mAtR, if_pos hcd, hpt, nI_clamp (by omega)]; simp [mAtV, c_2, h_2, c_3, c_4, c_5], by rw [mAtU, if_pos hcd, hpt, nI_clamp (by omega)]⟩, by rw [hU]; exact hP, hD⟩, hS.F hU⟩) hS.2.2 d_Md_at_154
          · 
            refine lv_iload_n hx hb d_Md_at_134 rfl (lv_at hl 3 rfl) ?_
            refine lv_goto (tgt := 154) hx hb d_Md_at_135 (by decide) ?_
            exact W.iret (v := ly) hx hb hr (fun U hU hW => ⟨⟨ly, mBoxU (gSt σ 0 0 0) rho ord sx cx np (rho q), rfl, by obtain rfl : k = Lf q := (by omega); subst hly hz; exact ⟨by rw [mAtR, if_pos hcd, hpt, nI_clamp (by omega)]; simp [mAtV, c_2, h_2, c_3, c_4], by rw [mAtU, if_pos hcd, hpt, nI_clamp (by omega)]⟩, by rw [hU]; exact hP, hD⟩, hS.F hU⟩) hS.2.2 d_Md_at_154
        · 
          refine lv_aload_n hx hb d_Md_at_120 rfl (lv_at hl 0 rfl) ?_
          refine va_get (D := D) (ci := 7) (v := .ref (a 26)) (C := R_Md) (T := F_Md) (N := 34) hx hb hts (fun w h => List.mem_cons_of_mem _ (i_Md w h)) hown hK.1 hP 0 (wMd_0 t a (mBoxU (gSt σ 0 0 0) rho ord sx cx np (rho q))) rfl 26 (by decide) (hts (.fieldLink R_Md 68 "FlatBoxesModel" "shares" "[I") (List.mem_cons_of_mem _ (gIn k_692 (by decide +kernel)))) (fun _ h9 => h9) rfl d_Md_at_121 ?_
          refine lv_iload_n hx hb d_Md_at_124 rfl (lv_at hl 1 rfl) ?_
          refine g_iald hx hb hK.1 hP 20 0 (wMd_26 t a (mBoxU (gSt σ 0 0 0) rho ord sx cx np (rho q))) rfl q (rfl) (by omega) (by decide) d_Md_at_125 ?_
          refine lv_topi (fun v_6 e_6 => ?_)
          obtain rfl : nI (rho q) = v_6 := (e_6.trans (hrq)).symm
          refine lv_goto (tgt := 154) hx hb d_Md_at_126 (by decide) ?_
          exact W.iret (v := nI (rho q)) hx hb hr (fun U hU hW => ⟨⟨nI (rho q), mBoxU (gSt σ 0 0 0) rho ord sx cx np (rho q), rfl, by obtain rfl : k = Lf q := (by omega); subst hly hz; exact ⟨by rw [mAtR, if_pos hcd, hpt, nI_clamp (by omega)]; simp [mAtV, c_2, h_2, c_3], by rw [mAtU, if_pos hcd, hpt, nI_clamp (by omega)]⟩, by rw [hU]; exact hP, hD⟩, hS.F hU⟩) hS.2.2 d_Md_at_154
      · 
        have h_2 : ¬ Lf q ≤ k := fun q9 => c_2 ((nI_leI (a := Lf q) (b := k) (by omega) (by omega)).mpr q9)
        refine lv_aload_n hx hb d_Md_at_80 rfl (lv_at hl 0 rfl) ?_
        refine lv_iload hx hb d_Md_at_81 (lv_at hl 5 rfl) ?_
        refine lv_aload_n hx hb d_Md_at_83 rfl (lv_at hl 0 rfl) ?_
        refine va_get (D := D) (ci := 7) (v := .ref (a 15)) (C := R_Md) (T := F_Md) (N := 34) hx hb hts (fun w h => List.mem_cons_of_mem _ (i_Md w h)) hown hK.1 hP 0 (wMd_0 t a (mBoxU (gSt σ 0 0 0) rho ord sx cx np (rho q))) rfl 15 (by decide) (hts (.fieldLink R_Md 44 "FlatBoxesModel" "layerOf" "[I") (List.mem_cons_of_mem _ (gIn k_681 (by decide +kernel)))) (fun _ h9 => h9) rfl d_Md_at_84 ?_
        refine lv_iload_n hx hb d_Md_at_87 rfl (lv_at hl 1 rfl) ?_
        refine g_iald hx hb hK.1 hP 12 0 (wMd_15 t a (mBoxU (gSt σ 0 0 0) rho ord sx cx np (rho q))) rfl q (rfl) (by omega) (by decide) d_Md_at_88 ?_
        refine lv_topi (fun v_7 e_7 => ?_)
        obtain rfl : nI (lpf q) = v_7 := (e_7.trans (hlp)).symm
        refine g_vi (k := 2) (As := [.int (nI k), .int (nI (lpf q))]) (rest := []) (own := R_Md) (C := R_Md) (index := 158) ⟨hx, hb, hml, hown, hts⟩ (c_Md_isBelow l D t a (mBoxU (gSt σ 0 0 0) rho ord sx cx np (rho q)) k (lpf q) (by omega) (by omega) h22) (gg_Md_158 _) (by decide +kernel) ⟨Nat.le_of_ble_eq_true rfl, Nat.le_of_ble_eq_true rfl⟩ rfl (va_recv hK.1 hP (ci := 7) (q0 := 0) rfl (wMd_0 t a (mBoxU (gSt σ 0 0 0) rho ord sx cx np (rho q)))) hK hP hD hS hl.1 rfl (Nat.le_of_ble_eq_true rfl) ⟨Nat.zero_le _, Nat.zero_le _⟩ d_Md_at_89 (fun r_8 u_8 H locs q_8 hP hD hS => ?_)
        obtain ⟨rfl, hu_8⟩ := q_8
        rw [hu_8] at hP hD
        refine lv_if_eq (tgt := 110) hx hb d_Md_at_92 (by decide) (fun c_9 => ?_) (fun c_9 => ?_)
        · 
          refine lv_iinc (v := nI (k + 1)) (lv' := [(5, .int (nI (k + 1))), (0, .ref (a 0)), (1, .int (nI q)), (2, .int wh), (3, .int ly), (4, .int z)]) hx hb d_Md_at_110 hl (k := 5) rfl (nI_1 k) (by decide) rfl (fun ls hl => ?_)
          refine lv_goto (tgt := 71) hx hb d_Md_at_113 (by decide) ?_
          exact ih q (k + 1) ly z _ _ _ (by omega) (by omega) (by omega) (by rw [hly]; simp [mLy, c_2, h_2, c_9]) (by rw [hz]; simp [mLz, c_2, h_2, c_9]) (hpt) (hcd) (hL1) (hL8) (hlp) (hlp8) (h22) (hrq) hP hD hS (lv_sub hl [1, 2, 3, 4, 5, 0] rfl)
        · 
          refine lv_iinc (v := ly + 1) (lv' := [(3, .int (ly + 1)), (0, .ref (a 0)), (1, .int (nI q)), (2, .int wh), (4, .int z), (5, .int (nI k))]) hx hb d_Md_at_95 hl (k := 3) rfl (rfl) (by decide) rfl (fun ls hl => ?_)
          refine lv_iload hx hb d_Md_at_98 (lv_at hl 4 rfl) ?_
          refine lv_aload_n hx hb d_Md_at_100 rfl (lv_at hl 1 rfl) ?_
          refine va_get (D := D) (ci := 7) (v := .ref (a 19)) (C := R_Md) (T := F_Md) (N := 34) hx hb hts (fun w h => List.mem_cons_of_mem _ (i_Md w h)) hown hK.1 hP 0 (wMd_0 t a (mBoxU (gSt σ 0 0 0) rho ord sx cx np (rho q))) rfl 19 (by decide) (hts (.fieldLink R_Md 53 "FlatBoxesModel" "highs" "[I") (List.mem_cons_of_mem _ (gIn k_685 (by decide +kernel)))) (fun _ h9 => h9) rfl d_Md_at_101 ?_
          refine lv_iload hx hb d_Md_at_104 (lv_at hl 5 rfl) ?_
          refine g_iald hx hb hK.1 hP 15 0 (wMd_19 t a (mBoxU (gSt σ 0 0 0) rho ord sx cx np (rho q))) rfl k (rfl) (by omega) (by decide) d_Md_at_106 ?_
          refine lv_iadd hx hb d_Md_at_107 ?_
          refine lv_istore (lv' := [(4, .int (z + ((mBoxU (gSt σ 0 0 0) rho ord sx cx np (rho q)) 19 k))), (3, .int (ly + 1)), (0, .ref (a 0)), (1, .int (nI q)), (2, .int wh), (5, .int (nI k))]) hx hb d_Md_at_108 hl (by decide) rfl (fun ls hl => ?_)
          refine lv_iinc (v := nI (k + 1)) (lv' := [(5, .int (nI (k + 1))), (4, .int (z + ((mBoxU (gSt σ 0 0 0) rho ord sx cx np (rho q)) 19 k))), (3, .int (ly + 1)), (0, .ref (a 0)), (1, .int (nI q)), (2, .int wh)]) hx hb d_Md_at_110 hl (k := 5) rfl (nI_1 k) (by decide) rfl (fun ls hl => ?_)
          refine lv_goto (tgt := 71) hx hb d_Md_at_113 (by decide) ?_
          exact ih q (k + 1) (ly + 1) (z + ((mBoxU (gSt σ 0 0 0) rho ord sx cx np (rho q)) 19 k)) _ _ _ (by omega) (by omega) (by omega) (by rw [hly]; simp [mLy, c_2, h_2, c_9]) (by rw [hz]; simp [mLz, c_2, h_2, c_9]) (hpt) (hcd) (hL1) (hL8) (hlp) (hlp8) (h22) (hrq) hP hD hS (lv_sub hl [3, 4, 5, 2, 1, 0] rfl)
  refine lv_aload_n hx hb d_Md_at_0 rfl (lv_at hl 0 rfl) ?_
  refine lv_aload_n hx hb d_Md_at_1 rfl (lv_at hl 0 rfl) ?_
  refine va_get (D := D) (ci := 7) (v := .int (σ 24 0)) (C := R_Md) (T := F_Md) (N := 34) hx hb hts (fun w h => List.mem_cons_of_mem _ (i_Md w h)) hown hK.1 hP 0 (wMd_0 t a σ) rfl 24 (by decide) (hts (.fieldLink R_Md 108 "FlatBoxesModel" "hasShares" "Z") (List.mem_cons_of_mem _ (gIn k_690 (by decide +kernel)))) (fun _ h9 => h9) rfl d_Md_at_2 ?_
  refine lv_if_ne (tgt := 12) hx hb d_Md_at_5 (by decide) (fun c_10 => ?_) (fun c_10 => ?_)
  · 
    refine lv_iload_n hx hb d_Md_at_12 rfl (lv_at hl 1 rfl) ?_
    refine lv_iconst (v := 0) hx hb d_Md_at_13 (by decide) ?_
    refine lv_aload_n hx hb d_Md_at_14 rfl (lv_at hl 0 rfl) ?_
    refine va_get (D := D) (ci := 7) (v := .int (σ 8 0)) (C := R_Md) (T := F_Md) (N := 34) hx hb hts (fun w h => List.mem_cons_of_mem _ (i_Md w h)) hown hK.1 hP 0 (wMd_0 t a σ) rfl 8 (by decide) (hts (.fieldLink R_Md 113 "FlatBoxesModel" "parts" "I") (List.mem_cons_of_mem _ (gIn k_674 (by decide +kernel)))) (fun _ h9 => h9) rfl d_Md_at_15 ?_
    refine lv_topi (fun v_11 e_11 => ?_)
    obtain rfl : nI np = v_11 := (e_11.trans hN).symm
    refine lv_iconst (v := 1) hx hb d_Md_at_18 (by decide) ?_
    refine lv_isub hx hb d_Md_at_19 ?_
    refine g_si (k := 3) (As := [.int pt, .int 0, .int ((nI np) - 1)]) (rest := [.ref (a 0)]) (own := R_Md) (index := 96) ⟨hx, hb, hml, hown, hts⟩ (c_Md_in l D t a σ pt 0 ((nI np) - 1)) (gg_Md_96 _) (by decide +kernel) ⟨Nat.le_of_ble_eq_true rfl, Nat.le_of_ble_eq_true rfl⟩ rfl hK hP hD hS hl.1 rfl (Nat.le_of_ble_eq_true rfl) ⟨Nat.zero_le _, Nat.zero_le _⟩ d_Md_at_20 (fun r_12 u_12 H locs q_12 hP hD hS => ?_)
    obtain ⟨rfl, hu_12⟩ := q_12
    rw [hu_12] at hP hD
    refine lv_if_eq (tgt := 35) hx hb d_Md_at_23 (by decide) (fun c_13 => ?_) (fun c_13 => ?_)
    · 
      refine lv_iconst (v := 2) hx hb d_Md_at_35 (by decide) ?_
      refine lv_goto (tgt := 40) hx hb d_Md_at_36 (by decide) ?_
      refine va_put (D := D) (ci := 7) (v := .int 2) (ty := .int) (C := R_Md) (T := F_Md) (N := 34) hx hb hts (fun w h => List.mem_cons_of_mem _ (i_Md w h)) t_Md t_Md_ok n_Md hown hK.1 hP hD hS 0 (wMd_0 t a σ) rfl 0 (by decide) (hts (.fieldLink R_Md 93 "FlatBoxesModel" "code" "I") (List.mem_cons_of_mem _ (gIn k_666 (by decide +kernel)))) (fun _ h9 => h9) rfl (by decide +kernel) rfl rfl (Nat.le_of_ble_eq_true rfl) d_Md_at_40 (fun H locs hP hD hS => ?_)
      have hP : va_P D gCl (wMd t a (gSt σ 0 0 2)) H := hP
      have hD : va_D A (wMd t a (gSt σ 0 0 2)) := hD
      refine lv_aload_n hx hb d_Md_at_43 rfl (lv_at hl 0 rfl) ?_
      refine va_get (D := D) (ci := 7) (v := .int ((gSt σ 0 0 2) 0 0)) (C := R_Md) (T := F_Md) (N := 34) hx hb hts (fun w h => List.mem_cons_of_mem _ (i_Md w h)) hown hK.1 hP 0 (wMd_0 t a (gSt σ 0 0 2)) rfl 0 (by decide) (hts (.fieldLink R_Md 93 "FlatBoxesModel" "code" "I") (List.mem_cons_of_mem _ (gIn k_666 (by decide +kernel)))) (fun _ h9 => h9) rfl d_Md_at_44 ?_
      refine lv_topi (fun v_14 e_14 => ?_)
      obtain rfl : 2 = v_14 := (e_14.trans (rfl)).symm
      refine lv_if_le (tgt := 52) hx hb d_Md_at_47 (by decide) (fun c_15 => ?_) (fun c_15 => ?_)
      · 
        exact absurd c_15 (by decide)
      · 
        refine lv_iconst (v := 0) hx hb d_Md_at_50 (by decide) ?_
        exact W.iret (v := 0) hx hb hr (fun U hU hW => ⟨⟨0, gSt σ 0 0 2, rfl, by exact ⟨by simp [mAtR, mAtC, c_10, c_13, c_15], by simp [mAtU, mAtC, c_10, c_13, c_15]⟩, by rw [hU]; exact hP, hD⟩, hS.F hU⟩) hS.2.2 d_Md_at_51
    · 
      refine lv_iload_n hx hb d_Md_at_26 rfl (lv_at hl 2 rfl) ?_
      refine lv_iconst (v := 0) hx hb d_Md_at_27 (by decide) ?_
      refine lv_iconst (v := 3) hx hb d_Md_at_28 (by decide) ?_
      refine g_si (k := 3) (As := [.int wh, .int 0, .int 3]) (rest := [.ref (a 0)]) (own := R_Md) (index := 96) ⟨hx, hb, hml, hown, hts⟩ (c_Md_in l D t a σ wh 0 3) (gg_Md_96 _) (by decide +kernel) ⟨Nat.le_of_ble_eq_true rfl, Nat.le_of_ble_eq_true rfl⟩ rfl hK hP hD hS hl.1 rfl (Nat.le_of_ble_eq_true rfl) ⟨Nat.zero_le _, Nat.zero_le _⟩ d_Md_at_29 (fun r_16 u_16 H locs q_16 hP hD hS => ?_)
      obtain ⟨rfl, hu_16⟩ := q_16
      rw [hu_16] at hP hD
      refine lv_if_ne (tgt := 39) hx hb d_Md_at_32 (by decide) (fun c_17 => ?_) (fun c_17 => ?_)
      · 
        refine lv_iconst (v := 0) hx hb d_Md_at_39 (by decide) ?_
        refine va_put (D := D) (ci := 7) (v := .int 0) (ty := .int) (C := R_Md) (T := F_Md) (N := 34) hx hb hts (fun w h => List.mem_cons_of_mem _ (i_Md w h)) t_Md t_Md_ok n_Md hown hK.1 hP hD hS 0 (wMd_0 t a σ) rfl 0 (by decide) (hts (.fieldLink R_Md 93 "FlatBoxesModel" "code" "I") (List.mem_cons_of_mem _ (gIn k_666 (by decide +kernel)))) (fun _ h9 => h9) rfl (by decide +kernel) rfl rfl (Nat.le_of_ble_eq_true rfl) d_Md_at_40 (fun H locs hP hD hS => ?_)
        have hP : va_P D gCl (wMd t a (gSt σ 0 0 0)) H := hP
        have hD : va_D A (wMd t a (gSt σ 0 0 0)) := hD
        refine lv_aload_n hx hb d_Md_at_43 rfl (lv_at hl 0 rfl) ?_
        refine va_get (D := D) (ci := 7) (v := .int ((gSt σ 0 0 0) 0 0)) (C := R_Md) (T := F_Md) (N := 34) hx hb hts (fun w h => List.mem_cons_of_mem _ (i_Md w h)) hown hK.1 hP 0 (wMd_0 t a (gSt σ 0 0 0)) rfl 0 (by decide) (hts (.fieldLink R_Md 93 "FlatBoxesModel" "code" "I") (List.mem_cons_of_mem _ (gIn k_666 (by decide +kernel)))) (fun _ h9 => h9) rfl d_Md_at_44 ?_
        refine lv_topi (fun v_18 e_18 => ?_)
        obtain rfl : 0 = v_18 := (e_18.trans (rfl)).symm
        refine lv_if_le (tgt := 52) hx hb d_Md_at_47 (by decide) (fun c_19 => ?_) (fun c_19 => ?_)
        · 
          have hcd : mAtC σ np pt wh = 0 := by simp [mAtC, c_10, c_13, c_17, c_19]
          have hS1 := hsh c_10
          have hn8 := hS1.2.1
          obtain ⟨q, hq, rfl⟩ := mIn_nat (n := np) (by omega) c_13
          have hrn := (hS1.1 q hq).2
          have hS2 := hS1.2.2.2.1 (rho q) hrn
          have hA9 := hat c_10 q hq
          obtain ⟨hL1, hL8, hlp, hlp8, h22⟩ := hA9
          refine lv_aload_n hx hb d_Md_at_52 rfl (lv_at hl 0 rfl) ?_
          refine lv_aload_n hx hb d_Md_at_53 rfl (lv_at hl 0 rfl) ?_
          refine va_get (D := D) (ci := 7) (v := .ref (a 26)) (C := R_Md) (T := F_Md) (N := 34) hx hb hts (fun w h => List.mem_cons_of_mem _ (i_Md w h)) hown hK.1 hP 0 (wMd_0 t a (gSt σ 0 0 0)) rfl 26 (by decide) (hts (.fieldLink R_Md 68 "FlatBoxesModel" "shares" "[I") (List.mem_cons_of_mem _ (gIn k_692 (by decide +kernel)))) (fun _ h9 => h9) rfl d_Md_at_54 ?_
          refine lv_iload_n hx hb d_Md_at_57 rfl (lv_at hl 1 rfl) ?_
          refine g_iald hx hb hK.1 hP 20 0 (wMd_26 t a (gSt σ 0 0 0)) rfl q (rfl) (by omega) (by decide) d_Md_at_58 ?_
          refine lv_topi (fun v_20 e_20 => ?_)
          obtain rfl : nI (rho q) = v_20 := (e_20.trans ((hS1.1 q hq).1)).symm
          refine g_vi (k := 1) (As := [.int (nI (rho q))]) (rest := []) (own := R_Md) (C := R_Md) (index := 155) ⟨hx, hb, hml, hown, hts⟩ (c_Md_packBox l D t a (gSt σ 0 0 0) (rho q) np (sx (rho q)) (cx (rho q)) rho ord hN hN8 (by omega) (fun q hq => ⟨(hS1.1 q hq).1, by have := (hS1.1 q hq).2; have := hS1.2.1; omega⟩) hS2.1 hS2.2.1 hS2.2.2.1 hS2.2.2.2 hord) (gg_Md_155 _) (by decide +kernel) ⟨Nat.le_of_ble_eq_true rfl, Nat.le_of_ble_eq_true rfl⟩ rfl (va_recv hK.1 hP (ci := 7) (q0 := 0) rfl (wMd_0 t a (gSt σ 0 0 0))) hK hP hD hS hl.1 rfl (Nat.le_of_ble_eq_true rfl) ⟨Nat.zero_le _, Nat.zero_le _⟩ d_Md_at_59 (fun r_21 u_21 H locs q_21 hP hD hS => ?_)
          obtain ⟨rfl, hu_21⟩ := q_21
          rw [hu_21] at hP hD
          have hP : va_P D gCl (wMd t a (mBoxU (gSt σ 0 0 0) rho ord sx cx np (rho q))) H := hP
          have hD : va_D A (wMd t a (mBoxU (gSt σ 0 0 0) rho ord sx cx np (rho q))) := hD
          refine lv_pop hx hb d_Md_at_62 rfl ?_
          refine lv_iconst (v := 0) hx hb d_Md_at_63 (by decide) ?_
          refine lv_istore_n (lv' := [(3, .int 0), (0, .ref (a 0)), (1, .int (nI q)), (2, .int wh)]) hx hb d_Md_at_64 rfl hl (by decide) rfl (fun ls hl => ?_)
          refine lv_iconst (v := 0) hx hb d_Md_at_65 (by decide) ?_
          refine lv_istore (lv' := [(4, .int 0), (3, .int 0), (0, .ref (a 0)), (1, .int (nI q)), (2, .int wh)]) hx hb d_Md_at_66 hl (by decide) rfl (fun ls hl => ?_)
          refine lv_iconst (v := 0) hx hb d_Md_at_68 (by decide) ?_
          refine lv_istore (lv' := [(5, .int 0), (4, .int 0), (3, .int 0), (0, .ref (a 0)), (1, .int (nI q)), (2, .int wh)]) hx hb d_Md_at_69 hl (by decide) rfl (fun ls hl => ?_)
          exact cut_71 (Lf q + 1) q 0 0 0 _ _ _ (by omega) (by omega) (by omega) (rfl) (rfl) (rfl) (hcd) (hL1) (hL8) (hlp) (hlp8) (h22) ((congrFun (mBoxU_fix (gSt σ 0 0 0) rho ord sx cx np (rho q) (by omega) (by decide)) q).trans (hS1.1 q hq).1) hP hD hS (lv_sub hl [3, 4, 5, 2, 1, 0] rfl)
        · 
          exact absurd c_19 (by decide)
      · 
        refine lv_iconst (v := 2) hx hb d_Md_at_35 (by decide) ?_
        refine lv_goto (tgt := 40) hx hb d_Md_at_36 (by decide) ?_
        refine va_put (D := D) (ci := 7) (v := .int 2) (ty := .int) (C := R_Md) (T := F_Md) (N := 34) hx hb hts (fun w h => List.mem_cons_of_mem _ (i_Md w h)) t_Md t_Md_ok n_Md hown hK.1 hP hD hS 0 (wMd_0 t a σ) rfl 0 (by decide) (hts (.fieldLink R_Md 93 "FlatBoxesModel" "code" "I") (List.mem_cons_of_mem _ (gIn k_666 (by decide +kernel)))) (fun _ h9 => h9) rfl (by decide +kernel) rfl rfl (Nat.le_of_ble_eq_true rfl) d_Md_at_40 (fun H locs hP hD hS => ?_)
        have hP : va_P D gCl (wMd t a (gSt σ 0 0 2)) H := hP
        have hD : va_D A (wMd t a (gSt σ 0 0 2)) := hD
        refine lv_aload_n hx hb d_Md_at_43 rfl (lv_at hl 0 rfl) ?_
        refine va_get (D := D) (ci := 7) (v := .int ((gSt σ 0 0 2) 0 0)) (C := R_Md) (T := F_Md) (N := 34) hx hb hts (fun w h => List.mem_cons_of_mem _ (i_Md w h)) hown hK.1 hP 0 (wMd_0 t a (gSt σ 0 0 2)) rfl 0 (by decide) (hts (.fieldLink R_Md 93 "FlatBoxesModel" "code" "I") (List.mem_cons_of_mem _ (gIn k_666 (by decide +kernel)))) (fun _ h9 => h9) rfl d_Md_at_44 ?_
        refine lv_topi (fun v_22 e_22 => ?_)
        obtain rfl : 2 = v_22 := (e_22.trans (rfl)).symm
        refine lv_if_le (tgt := 52) hx hb d_Md_at_47 (by decide) (fun c_23 => ?_) (fun c_23 => ?_)
        · 
          exact absurd c_23 (by decide)
        · 
          refine lv_iconst (v := 0) hx hb d_Md_at_50 (by decide) ?_
          exact W.iret (v := 0) hx hb hr (fun U hU hW => ⟨⟨0, gSt σ 0 0 2, rfl, by exact ⟨by simp [mAtR, mAtC, c_10, c_13, c_17, c_23], by simp [mAtU, mAtC, c_10, c_13, c_17, c_23]⟩, by rw [hU]; exact hP, hD⟩, hS.F hU⟩) hS.2.2 d_Md_at_51
  · 
    refine lv_iconst (v := 1) hx hb d_Md_at_8 (by decide) ?_
    refine lv_goto (tgt := 40) hx hb d_Md_at_9 (by decide) ?_
    refine va_put (D := D) (ci := 7) (v := .int 1) (ty := .int) (C := R_Md) (T := F_Md) (N := 34) hx hb hts (fun w h => List.mem_cons_of_mem _ (i_Md w h)) t_Md t_Md_ok n_Md hown hK.1 hP hD hS 0 (wMd_0 t a σ) rfl 0 (by decide) (hts (.fieldLink R_Md 93 "FlatBoxesModel" "code" "I") (List.mem_cons_of_mem _ (gIn k_666 (by decide +kernel)))) (fun _ h9 => h9) rfl (by decide +kernel) rfl rfl (Nat.le_of_ble_eq_true rfl) d_Md_at_40 (fun H locs hP hD hS => ?_)
    have hP : va_P D gCl (wMd t a (gSt σ 0 0 1)) H := hP
    have hD : va_D A (wMd t a (gSt σ 0 0 1)) := hD
    refine lv_aload_n hx hb d_Md_at_43 rfl (lv_at hl 0 rfl) ?_
    refine va_get (D := D) (ci := 7) (v := .int ((gSt σ 0 0 1) 0 0)) (C := R_Md) (T := F_Md) (N := 34) hx hb hts (fun w h => List.mem_cons_of_mem _ (i_Md w h)) hown hK.1 hP 0 (wMd_0 t a (gSt σ 0 0 1)) rfl 0 (by decide) (hts (.fieldLink R_Md 93 "FlatBoxesModel" "code" "I") (List.mem_cons_of_mem _ (gIn k_666 (by decide +kernel)))) (fun _ h9 => h9) rfl d_Md_at_44 ?_
    refine lv_topi (fun v_24 e_24 => ?_)
    obtain rfl : 1 = v_24 := (e_24.trans (rfl)).symm
    refine lv_if_le (tgt := 52) hx hb d_Md_at_47 (by decide) (fun c_25 => ?_) (fun c_25 => ?_)
    · 
      exact absurd c_25 (by decide)
    · 
      refine lv_iconst (v := 0) hx hb d_Md_at_50 (by decide) ?_
      exact W.iret (v := 0) hx hb hr (fun U hU hW => ⟨⟨0, gSt σ 0 0 1, rfl, by exact ⟨by simp [mAtR, mAtC, c_10, c_25], by simp [mAtU, mAtC, c_10, c_25]⟩, by rw [hU]; exact hP, hD⟩, hS.F hU⟩) hS.2.2 d_Md_at_51
set_option maxHeartbeats 4000000 in
set_option maxRecDepth 100000 in
theorem c_Md_box (l : Launch) (D : va_G) (t : Nat → ClassId) (a : Nat → Nat) (σ : Nat → Nat → Int32) (bv wh : Int32) (ord Lb : Nat → Nat) (np nbx : Nat) (rho sx cx : Nat → Nat) (hN : σ 8 0 = nI np) (hN8 : np ≤ 8) (hsh : ¬ σ 24 0 = 0 → mShOK (gSt σ 0 0 0) np nbx rho sx cx) (hord : ∀ k, k < np → ord k < np ∧ mBT (σ 11) np (nI k) np 0 = nI (ord k)) (hat : ¬ σ 24 0 = 0 → ∀ b, b < nbx → (mBoxU (gSt σ 0 0 0) rho ord sx cx np b) 17 0 = nI (Lb b) ∧ Lb b ≤ 8) : gMi l D t y_Md_box b_Md_box 6 (some .int) 3 [.ref (a 0), .int bv, .int wh] (wMd t a σ) (wMd t a) (fun r u => r = mBxR σ np nbx rho ord sx cx Lb bv wh ∧ u = mBxU σ np nbx rho ord sx cx bv wh) := by
  intro A
  refine Met.ofW (cc := b_Md_box) (maxL := 6) (ret := (some .int)) (by decide) rfl ?_
  intro p e s m args below meth c s₁ B hml hv
  obtain ⟨rfl, hK, hP, hD⟩ := hv
  have hx := B.exec
  have hb := B.bytes
  have hr := B.returns
  have hts := atoms_spec (ws := .code y_Md_box b_Md_box 6 (some .int) :: gBig) B.pre
  have hown : s.vm.findClass R_Md = some m.cls := findClass_of_methodNamed B.named
  have hlocks := B.notSynchronized
  have hS : va_S A s.heap s.heap [] := va_S.rf
  have hl := lv_entry ([.ref (a 0), .int bv, .int wh]) (n := 6) (Nat.le_of_ble_eq_true rfl)
  rw [lg_entry_eq]
  generalize (lg_sl ([.ref (a 0), .int bv, .int wh]) ++ List.replicate (6 - (lg_sl ([.ref (a 0), .int bv, .int wh])).length) Slot.unset).toArray = ls at hl ⊢
  have hl : lv_has ls 6 [(0, .ref (a 0)), (1, .int bv), (2, .int wh)] := hl
  show gGo l p e s m below meth c D t A 3 [.ref (a 0), .int bv, .int wh] (wMd t a) (fun r u => r = mBxR σ np nbx rho ord sx cx Lb bv wh ∧ u = mBxU σ np nbx rho ord sx cx bv wh) s.heap [] (F0 m 0 ls [])
  have cut_64 : ∀ (n : Nat) (b : Nat) (k : Nat) (nn : Int32) (H : Heap) (locs : List Loc) (ls : Array Slot), (b < 8) → (k ≤ np) → (np + 1 ≤ k + n) → (nn = mBoxN (mBoxU (gSt σ 0 0 0) rho ord sx cx np b) (nI b) k) → (bv = nI b) → (mBxC σ nbx bv wh = 0) → ((mBoxU (gSt σ 0 0 0) rho ord sx cx np b) 17 0 = nI (Lb b)) → (Lb b ≤ 8) → ((mBoxU (gSt σ 0 0 0) rho ord sx cx np b) 8 0 = nI np) → ((mBoxU (gSt σ 0 0 0) rho ord sx cx np b) 28 b = nI (sx b)) → va_P D gCl (wMd t a (mBoxU (gSt σ 0 0 0) rho ord sx cx np b)) H → va_D A (wMd t a (mBoxU (gSt σ 0 0 0) rho ord sx cx np b)) → va_S A s.heap H locs → lv_has ls 6 [(0, .ref (a 0)), (1, .int (nI b)), (2, .int wh), (3, .int (nI (cx b))), (4, .int nn), (5, .int (nI k))] → gGo l p e s m below meth c D t A 3 [.ref (a 0), .int bv, .int wh] (wMd t a) (fun r u => r = mBxR σ np nbx rho ord sx cx Lb bv wh ∧ u = mBxU σ np nbx rho ord sx cx bv wh) H locs (F0 m 64 ls []) := by
    intro n
    induction n with
    | zero =>
      intro b k nn H locs ls hb9 hk hf hnn hbv hcd hL1 hL8 h8 h28 hP hD hS hl
      exact absurd hf (by omega)
    | succ n ih =>
      intro b k nn H locs ls hb9 hk hf hnn hbv hcd hL1 hL8 h8 h28 hP hD hS hl
      refine lv_iload hx hb d_Md_box_64 (lv_at hl 5 rfl) ?_
      refine lv_aload_n hx hb d_Md_box_66 rfl (lv_at hl 0 rfl) ?_
      refine va_get (D := D) (ci := 7) (v := .int ((mBoxU (gSt σ 0 0 0) rho ord sx cx np b) 8 0)) (C := R_Md) (T := F_Md) (N := 34) hx hb hts (fun w h => List.mem_cons_of_mem _ (i_Md w h)) hown hK.1 hP 0 (wMd_0 t a (mBoxU (gSt σ 0 0 0) rho ord sx cx np b)) rfl 8 (by decide) (hts (.fieldLink R_Md 113 "FlatBoxesModel" "parts" "I") (List.mem_cons_of_mem _ (gIn k_674 (by decide +kernel)))) (fun _ h9 => h9) rfl d_Md_box_67 ?_
      refine lv_topi (fun v_1 e_1 => ?_)
      obtain rfl : nI np = v_1 := (e_1.trans (h8)).symm
      refine lv_icmp_ge (tgt := 100) hx hb d_Md_box_70 (by decide) (fun c_2 => ?_) (fun c_2 => ?_)
      · 
        have h_2 : np ≤ k := (nI_leI (a := np) (b := k) (by omega) (by omega)).mp c_2
        refine lv_iload_n hx hb d_Md_box_100 rfl (lv_at hl 2 rfl) ?_
        refine lv_if_ne (tgt := 108) hx hb d_Md_box_101 (by decide) (fun c_3 => ?_) (fun c_3 => ?_)
        · 
          refine lv_iload_n hx hb d_Md_box_108 rfl (lv_at hl 2 rfl) ?_
          refine lv_iconst (v := 1) hx hb d_Md_box_109 (by decide) ?_
          refine lv_icmp_ne (tgt := 118) hx hb d_Md_box_110 (by decide) (fun c_4 => ?_) (fun c_4 => ?_)
          · 
            refine lv_iload_n hx hb d_Md_box_118 rfl (lv_at hl 2 rfl) ?_
            refine lv_iconst (v := 2) hx hb d_Md_box_119 (by decide) ?_
            refine lv_icmp_ne (tgt := 136) hx hb d_Md_box_120 (by decide) (fun c_5 => ?_) (fun c_5 => ?_)
            · 
              refine lv_iload_n hx hb d_Md_box_136 rfl (lv_at hl 2 rfl) ?_
              refine lv_iconst (v := 3) hx hb d_Md_box_137 (by decide) ?_
              refine lv_icmp_ne (tgt := 148) hx hb d_Md_box_138 (by decide) (fun c_6 => ?_) (fun c_6 => ?_)
              · 
                refine lv_aload_n hx hb d_Md_box_148 rfl (lv_at hl 0 rfl) ?_
                refine g_vi (k := 0) (As := []) (rest := []) (own := R_Md) (C := R_Md) (index := 131) ⟨hx, hb, hml, hown, hts⟩ (c_Md_highOf l D t a (mBoxU (gSt σ 0 0 0) rho ord sx cx np b) (Lb b) hL1 hL8) (gg_Md_131 _) (by decide +kernel) ⟨Nat.le_of_ble_eq_true rfl, Nat.le_of_ble_eq_true rfl⟩ rfl (va_recv hK.1 hP (ci := 7) (q0 := 0) rfl (wMd_0 t a (mBoxU (gSt σ 0 0 0) rho ord sx cx np b))) hK hP hD hS hl.1 rfl (Nat.le_of_ble_eq_true rfl) ⟨Nat.zero_le _, Nat.zero_le _⟩ d_Md_box_149 (fun r_7 u_7 H locs q_7 hP hD hS => ?_)
                obtain ⟨rfl, hu_7⟩ := q_7
                rw [hu_7] at hP hD
                exact W.iret (v := mSum ((mBoxU (gSt σ 0 0 0) rho ord sx cx np b) 19) (Lb b)) hx hb hr (fun U hU hW => ⟨⟨mSum ((mBoxU (gSt σ 0 0 0) rho ord sx cx np b) 19) (Lb b), mBoxU (gSt σ 0 0 0) rho ord sx cx np b, rfl, by obtain rfl : k = np := (by omega); subst hnn; exact ⟨by rw [mBxR, if_pos hcd, hbv, nI_clamp (by omega)]; simp [mBxV, c_2, h_2, c_3, c_4, c_5, c_6], by rw [mBxU, if_pos hcd, hbv, nI_clamp (by omega)]⟩, by rw [hU]; exact hP, hD⟩, hS.F hU⟩) hS.2.2 d_Md_box_152
              · 
                refine lv_aload_n hx hb d_Md_box_141 rfl (lv_at hl 0 rfl) ?_
                refine va_get (D := D) (ci := 7) (v := .int ((mBoxU (gSt σ 0 0 0) rho ord sx cx np b) 17 0)) (C := R_Md) (T := F_Md) (N := 34) hx hb hts (fun w h => List.mem_cons_of_mem _ (i_Md w h)) hown hK.1 hP 0 (wMd_0 t a (mBoxU (gSt σ 0 0 0) rho ord sx cx np b)) rfl 17 (by decide) (hts (.fieldLink R_Md 116 "FlatBoxesModel" "layers" "I") (List.mem_cons_of_mem _ (gIn k_683 (by decide +kernel)))) (fun _ h9 => h9) rfl d_Md_box_142 ?_
                refine lv_topi (fun v_8 e_8 => ?_)
                obtain rfl : nI (Lb b) = v_8 := (e_8.trans (hL1)).symm
                refine lv_goto (tgt := 152) hx hb d_Md_box_145 (by decide) ?_
                exact W.iret (v := nI (Lb b)) hx hb hr (fun U hU hW => ⟨⟨nI (Lb b), mBoxU (gSt σ 0 0 0) rho ord sx cx np b, rfl, by obtain rfl : k = np := (by omega); subst hnn; exact ⟨by rw [mBxR, if_pos hcd, hbv, nI_clamp (by omega)]; simp [mBxV, c_2, h_2, c_3, c_4, c_5, c_6], by rw [mBxU, if_pos hcd, hbv, nI_clamp (by omega)]⟩, by rw [hU]; exact hP, hD⟩, hS.F hU⟩) hS.2.2 d_Md_box_152
            · 
              refine lv_aload_n hx hb d_Md_box_123 rfl (lv_at hl 0 rfl) ?_
              refine lv_aload_n hx hb d_Md_box_124 rfl (lv_at hl 0 rfl) ?_
              refine va_get (D := D) (ci := 7) (v := .ref (a 28)) (C := R_Md) (T := F_Md) (N := 34) hx hb hts (fun w h => List.mem_cons_of_mem _ (i_Md w h)) hown hK.1 hP 0 (wMd_0 t a (mBoxU (gSt σ 0 0 0) rho ord sx cx np b)) rfl 28 (by decide) (hts (.fieldLink R_Md 74 "FlatBoxesModel" "sets" "[I") (List.mem_cons_of_mem _ (gIn k_694 (by decide +kernel)))) (fun _ h9 => h9) rfl d_Md_box_125 ?_
              refine lv_iload_n hx hb d_Md_box_128 rfl (lv_at hl 1 rfl) ?_
              refine g_iald hx hb hK.1 hP 22 0 (wMd_28 t a (mBoxU (gSt σ 0 0 0) rho ord sx cx np b)) rfl b (rfl) (by omega) (by decide) d_Md_box_129 ?_
              refine lv_topi (fun v_9 e_9 => ?_)
              obtain rfl : nI (sx b) = v_9 := (e_9.trans (h28)).symm
              refine g_vi (k := 1) (As := [.int (nI (sx b))]) (rest := []) (own := R_Md) (C := R_Md) (index := 161) ⟨hx, hb, hml, hown, hts⟩ (c_Md_gramsOf l D t a (mBoxU (gSt σ 0 0 0) rho ord sx cx np b) (nI (sx b)) np (h8) (hN8)) (gg_Md_161 _) (by decide +kernel) ⟨Nat.le_of_ble_eq_true rfl, Nat.le_of_ble_eq_true rfl⟩ rfl (va_recv hK.1 hP (ci := 7) (q0 := 0) rfl (wMd_0 t a (mBoxU (gSt σ 0 0 0) rho ord sx cx np b))) hK hP hD hS hl.1 rfl (Nat.le_of_ble_eq_true rfl) ⟨Nat.zero_le _, Nat.zero_le _⟩ d_Md_box_130 (fun r_10 u_10 H locs q_10 hP hD hS => ?_)
              obtain ⟨rfl, hu_10⟩ := q_10
              rw [hu_10] at hP hD
              refine lv_goto (tgt := 152) hx hb d_Md_box_133 (by decide) ?_
              exact W.iret (v := mGrams (mBoxU (gSt σ 0 0 0) rho ord sx cx np b) (nI (sx b)) np) hx hb hr (fun U hU hW => ⟨⟨mGrams (mBoxU (gSt σ 0 0 0) rho ord sx cx np b) (nI (sx b)) np, mBoxU (gSt σ 0 0 0) rho ord sx cx np b, rfl, by obtain rfl : k = np := (by omega); subst hnn; exact ⟨by rw [mBxR, if_pos hcd, hbv, nI_clamp (by omega)]; simp [mBxV, c_2, h_2, c_3, c_4, c_5], by rw [mBxU, if_pos hcd, hbv, nI_clamp (by omega)]⟩, by rw [hU]; exact hP, hD⟩, hS.F hU⟩) hS.2.2 d_Md_box_152
          · 
            refine lv_iload hx hb d_Md_box_113 (lv_at hl 4 rfl) ?_
            refine lv_goto (tgt := 152) hx hb d_Md_box_115 (by decide) ?_
            exact W.iret (v := nn) hx hb hr (fun U hU hW => ⟨⟨nn, mBoxU (gSt σ 0 0 0) rho ord sx cx np b, rfl, by obtain rfl : k = np := (by omega); subst hnn; exact ⟨by rw [mBxR, if_pos hcd, hbv, nI_clamp (by omega)]; simp [mBxV, c_2, h_2, c_3, c_4], by rw [mBxU, if_pos hcd, hbv, nI_clamp (by omega)]⟩, by rw [hU]; exact hP, hD⟩, hS.F hU⟩) hS.2.2 d_Md_box_152
        · 
          refine lv_iload_n hx hb d_Md_box_104 rfl (lv_at hl 3 rfl) ?_
          refine lv_goto (tgt := 152) hx hb d_Md_box_105 (by decide) ?_
          exact W.iret (v := nI (cx b)) hx hb hr (fun U hU hW => ⟨⟨nI (cx b), mBoxU (gSt σ 0 0 0) rho ord sx cx np b, rfl, by obtain rfl : k = np := (by omega); subst hnn; exact ⟨by rw [mBxR, if_pos hcd, hbv, nI_clamp (by omega)]; simp [mBxV, c_2, h_2, c_3], by rw [mBxU, if_pos hcd, hbv, nI_clamp (by omega)]⟩, by rw [hU]; exact hP, hD⟩, hS.F hU⟩) hS.2.2 d_Md_box_152
      · 
        have h_2 : ¬ np ≤ k := fun q9 => c_2 ((nI_leI (a := np) (b := k) (by omega) (by omega)).mpr q9)
        refine lv_iload hx hb d_Md_box_73 (lv_at hl 4 rfl) ?_
        refine lv_aload_n hx hb d_Md_box_75 rfl (lv_at hl 0 rfl) ?_
        refine va_get (D := D) (ci := 7) (v := .ref (a 26)) (C := R_Md) (T := F_Md) (N := 34) hx hb hts (fun w h => List.mem_cons_of_mem _ (i_Md w h)) hown hK.1 hP 0 (wMd_0 t a (mBoxU (gSt σ 0 0 0) rho ord sx cx np b)) rfl 26 (by decide) (hts (.fieldLink R_Md 68 "FlatBoxesModel" "shares" "[I") (List.mem_cons_of_mem _ (gIn k_692 (by decide +kernel)))) (fun _ h9 => h9) rfl d_Md_box_76 ?_
        refine lv_iload hx hb d_Md_box_79 (lv_at hl 5 rfl) ?_
        refine g_iald hx hb hK.1 hP 20 0 (wMd_26 t a (mBoxU (gSt σ 0 0 0) rho ord sx cx np b)) rfl k (rfl) (by omega) (by decide) d_Md_box_81 ?_
        refine lv_iload_n hx hb d_Md_box_82 rfl (lv_at hl 1 rfl) ?_
        refine lv_icmp_ne (tgt := 90) hx hb d_Md_box_83 (by decide) (fun c_11 => ?_) (fun c_11 => ?_)
        · 
          refine lv_iconst (v := 0) hx hb d_Md_box_90 (by decide) ?_
          refine lv_iadd hx hb d_Md_box_91 ?_
          refine lv_istore (lv' := [(4, .int (nn + 0)), (0, .ref (a 0)), (1, .int (nI b)), (2, .int wh), (3, .int (nI (cx b))), (5, .int (nI k))]) hx hb d_Md_box_92 hl (by decide) rfl (fun ls hl => ?_)
          refine lv_iinc (v := nI (k + 1)) (lv' := [(5, .int (nI (k + 1))), (4, .int (nn + 0)), (0, .ref (a 0)), (1, .int (nI b)), (2, .int wh), (3, .int (nI (cx b)))]) hx hb d_Md_box_94 hl (k := 5) rfl (nI_1 k) (by decide) rfl (fun ls hl => ?_)
          refine lv_goto (tgt := 64) hx hb d_Md_box_97 (by decide) ?_
          exact ih b (k + 1) (nn + 0) _ _ _ (by omega) (by omega) (by omega) (by rw [hnn]; simp [mBoxN, c_2, h_2, c_11]) (hbv) (hcd) (hL1) (hL8) (h8) (h28) hP hD hS (lv_sub hl [2, 3, 4, 5, 1, 0] rfl)
        · 
          refine lv_iconst (v := 1) hx hb d_Md_box_86 (by decide) ?_
          refine lv_goto (tgt := 91) hx hb d_Md_box_87 (by decide) ?_
          refine lv_iadd hx hb d_Md_box_91 ?_
          refine lv_istore (lv' := [(4, .int (nn + 1)), (0, .ref (a 0)), (1, .int (nI b)), (2, .int wh), (3, .int (nI (cx b))), (5, .int (nI k))]) hx hb d_Md_box_92 hl (by decide) rfl (fun ls hl => ?_)
          refine lv_iinc (v := nI (k + 1)) (lv' := [(5, .int (nI (k + 1))), (4, .int (nn + 1)), (0, .ref (a 0)), (1, .int (nI b)), (2, .int wh), (3, .int (nI (cx b)))]) hx hb d_Md_box_94 hl (k := 5) rfl (nI_1 k) (by decide) rfl (fun ls hl => ?_)
          refine lv_goto (tgt := 64) hx hb d_Md_box_97 (by decide) ?_
          exact ih b (k + 1) (nn + 1) _ _ _ (by omega) (by omega) (by omega) (by rw [hnn]; simp [mBoxN, c_2, h_2, c_11]) (hbv) (hcd) (hL1) (hL8) (h8) (h28) hP hD hS (lv_sub hl [2, 3, 4, 5, 1, 0] rfl)
  refine lv_aload_n hx hb d_Md_box_0 rfl (lv_at hl 0 rfl) ?_
  refine lv_aload_n hx hb d_Md_box_1 rfl (lv_at hl 0 rfl) ?_
  refine va_get (D := D) (ci := 7) (v := .int (σ 24 0)) (C := R_Md) (T := F_Md) (N := 34) hx hb hts (fun w h => List.mem_cons_of_mem _ (i_Md w h)) hown hK.1 hP 0 (wMd_0 t a σ) rfl 24 (by decide) (hts (.fieldLink R_Md 108 "FlatBoxesModel" "hasShares" "Z") (List.mem_cons_of_mem _ (gIn k_690 (by decide +kernel)))) (fun _ h9 => h9) rfl d_Md_box_2 ?_
  refine lv_if_ne (tgt := 12) hx hb d_Md_box_5 (by decide) (fun c_12 => ?_) (fun c_12 => ?_)
  · 
    refine lv_iload_n hx hb d_Md_box_12 rfl (lv_at hl 1 rfl) ?_
    refine lv_iconst (v := 0) hx hb d_Md_box_13 (by decide) ?_
    refine lv_aload_n hx hb d_Md_box_14 rfl (lv_at hl 0 rfl) ?_
    refine va_get (D := D) (ci := 7) (v := .int (σ 25 0)) (C := R_Md) (T := F_Md) (N := 34) hx hb hts (fun w h => List.mem_cons_of_mem _ (i_Md w h)) hown hK.1 hP 0 (wMd_0 t a σ) rfl 25 (by decide) (hts (.fieldLink R_Md 141 "FlatBoxesModel" "boxes" "I") (List.mem_cons_of_mem _ (gIn k_691 (by decide +kernel)))) (fun _ h9 => h9) rfl d_Md_box_15 ?_
    refine lv_topi (fun v_13 e_13 => ?_)
    obtain rfl : nI nbx = v_13 := (e_13.trans ((hsh c_12).2.2.1)).symm
    refine lv_iconst (v := 1) hx hb d_Md_box_18 (by decide) ?_
    refine lv_isub hx hb d_Md_box_19 ?_
    refine g_si (k := 3) (As := [.int bv, .int 0, .int ((nI nbx) - 1)]) (rest := [.ref (a 0)]) (own := R_Md) (index := 96) ⟨hx, hb, hml, hown, hts⟩ (c_Md_in l D t a σ bv 0 ((nI nbx) - 1)) (gg_Md_96 _) (by decide +kernel) ⟨Nat.le_of_ble_eq_true rfl, Nat.le_of_ble_eq_true rfl⟩ rfl hK hP hD hS hl.1 rfl (Nat.le_of_ble_eq_true rfl) ⟨Nat.zero_le _, Nat.zero_le _⟩ d_Md_box_20 (fun r_14 u_14 H locs q_14 hP hD hS => ?_)
    obtain ⟨rfl, hu_14⟩ := q_14
    rw [hu_14] at hP hD
    refine lv_if_eq (tgt := 35) hx hb d_Md_box_23 (by decide) (fun c_15 => ?_) (fun c_15 => ?_)
    · 
      refine lv_iconst (v := 2) hx hb d_Md_box_35 (by decide) ?_
      refine lv_goto (tgt := 40) hx hb d_Md_box_36 (by decide) ?_
      refine va_put (D := D) (ci := 7) (v := .int 2) (ty := .int) (C := R_Md) (T := F_Md) (N := 34) hx hb hts (fun w h => List.mem_cons_of_mem _ (i_Md w h)) t_Md t_Md_ok n_Md hown hK.1 hP hD hS 0 (wMd_0 t a σ) rfl 0 (by decide) (hts (.fieldLink R_Md 93 "FlatBoxesModel" "code" "I") (List.mem_cons_of_mem _ (gIn k_666 (by decide +kernel)))) (fun _ h9 => h9) rfl (by decide +kernel) rfl rfl (Nat.le_of_ble_eq_true rfl) d_Md_box_40 (fun H locs hP hD hS => ?_)
      have hP : va_P D gCl (wMd t a (gSt σ 0 0 2)) H := hP
      have hD : va_D A (wMd t a (gSt σ 0 0 2)) := hD
      refine lv_aload_n hx hb d_Md_box_43 rfl (lv_at hl 0 rfl) ?_
      refine va_get (D := D) (ci := 7) (v := .int ((gSt σ 0 0 2) 0 0)) (C := R_Md) (T := F_Md) (N := 34) hx hb hts (fun w h => List.mem_cons_of_mem _ (i_Md w h)) hown hK.1 hP 0 (wMd_0 t a (gSt σ 0 0 2)) rfl 0 (by decide) (hts (.fieldLink R_Md 93 "FlatBoxesModel" "code" "I") (List.mem_cons_of_mem _ (gIn k_666 (by decide +kernel)))) (fun _ h9 => h9) rfl d_Md_box_44 ?_
      refine lv_topi (fun v_16 e_16 => ?_)
      obtain rfl : 2 = v_16 := (e_16.trans (rfl)).symm
      refine lv_if_le (tgt := 52) hx hb d_Md_box_47 (by decide) (fun c_17 => ?_) (fun c_17 => ?_)
      · 
        exact absurd c_17 (by decide)
      · 
        refine lv_iconst (v := 0) hx hb d_Md_box_50 (by decide) ?_
        exact W.iret (v := 0) hx hb hr (fun U hU hW => ⟨⟨0, gSt σ 0 0 2, rfl, by exact ⟨by simp [mBxR, mBxC, c_12, c_15, c_17], by simp [mBxU, mBxC, c_12, c_15, c_17]⟩, by rw [hU]; exact hP, hD⟩, hS.F hU⟩) hS.2.2 d_Md_box_51
    · 
      refine lv_iload_n hx hb d_Md_box_26 rfl (lv_at hl 2 rfl) ?_
      refine lv_iconst (v := 0) hx hb d_Md_box_27 (by decide) ?_
      refine lv_iconst (v := 4) hx hb d_Md_box_28 (by decide) ?_
      refine g_si (k := 3) (As := [.int wh, .int 0, .int 4]) (rest := [.ref (a 0)]) (own := R_Md) (index := 96) ⟨hx, hb, hml, hown, hts⟩ (c_Md_in l D t a σ wh 0 4) (gg_Md_96 _) (by decide +kernel) ⟨Nat.le_of_ble_eq_true rfl, Nat.le_of_ble_eq_true rfl⟩ rfl hK hP hD hS hl.1 rfl (Nat.le_of_ble_eq_true rfl) ⟨Nat.zero_le _, Nat.zero_le _⟩ d_Md_box_29 (fun r_18 u_18 H locs q_18 hP hD hS => ?_)
      obtain ⟨rfl, hu_18⟩ := q_18
      rw [hu_18] at hP hD
      refine lv_if_ne (tgt := 39) hx hb d_Md_box_32 (by decide) (fun c_19 => ?_) (fun c_19 => ?_)
      · 
        refine lv_iconst (v := 0) hx hb d_Md_box_39 (by decide) ?_
        refine va_put (D := D) (ci := 7) (v := .int 0) (ty := .int) (C := R_Md) (T := F_Md) (N := 34) hx hb hts (fun w h => List.mem_cons_of_mem _ (i_Md w h)) t_Md t_Md_ok n_Md hown hK.1 hP hD hS 0 (wMd_0 t a σ) rfl 0 (by decide) (hts (.fieldLink R_Md 93 "FlatBoxesModel" "code" "I") (List.mem_cons_of_mem _ (gIn k_666 (by decide +kernel)))) (fun _ h9 => h9) rfl (by decide +kernel) rfl rfl (Nat.le_of_ble_eq_true rfl) d_Md_box_40 (fun H locs hP hD hS => ?_)
        have hP : va_P D gCl (wMd t a (gSt σ 0 0 0)) H := hP
        have hD : va_D A (wMd t a (gSt σ 0 0 0)) := hD
        refine lv_aload_n hx hb d_Md_box_43 rfl (lv_at hl 0 rfl) ?_
        refine va_get (D := D) (ci := 7) (v := .int ((gSt σ 0 0 0) 0 0)) (C := R_Md) (T := F_Md) (N := 34) hx hb hts (fun w h => List.mem_cons_of_mem _ (i_Md w h)) hown hK.1 hP 0 (wMd_0 t a (gSt σ 0 0 0)) rfl 0 (by decide) (hts (.fieldLink R_Md 93 "FlatBoxesModel" "code" "I") (List.mem_cons_of_mem _ (gIn k_666 (by decide +kernel)))) (fun _ h9 => h9) rfl d_Md_box_44 ?_
        refine lv_topi (fun v_20 e_20 => ?_)
        obtain rfl : 0 = v_20 := (e_20.trans (rfl)).symm
        refine lv_if_le (tgt := 52) hx hb d_Md_box_47 (by decide) (fun c_21 => ?_) (fun c_21 => ?_)
        · 
          have hcd : mBxC σ nbx bv wh = 0 := by simp [mBxC, c_12, c_15, c_19, c_21]
          have hS1 := hsh c_12
          have hn8 := hS1.2.1
          obtain ⟨b, hb9, rfl⟩ := mIn_nat (n := nbx) (by omega) c_15
          have hS2 := hS1.2.2.2.1 b hb9
          obtain ⟨hL1, hL8⟩ := hat c_12 b hb9
          refine lv_aload_n hx hb d_Md_box_52 rfl (lv_at hl 0 rfl) ?_
          refine lv_iload_n hx hb d_Md_box_53 rfl (lv_at hl 1 rfl) ?_
          refine g_vi (k := 1) (As := [.int (nI b)]) (rest := []) (own := R_Md) (C := R_Md) (index := 155) ⟨hx, hb, hml, hown, hts⟩ (c_Md_packBox l D t a (gSt σ 0 0 0) b np (sx b) (cx b) rho ord hN hN8 (by omega) (fun q hq => ⟨(hS1.1 q hq).1, by have := (hS1.1 q hq).2; have := hS1.2.1; omega⟩) hS2.1 hS2.2.1 hS2.2.2.1 hS2.2.2.2 hord) (gg_Md_155 _) (by decide +kernel) ⟨Nat.le_of_ble_eq_true rfl, Nat.le_of_ble_eq_true rfl⟩ rfl (va_recv hK.1 hP (ci := 7) (q0 := 0) rfl (wMd_0 t a (gSt σ 0 0 0))) hK hP hD hS hl.1 rfl (Nat.le_of_ble_eq_true rfl) ⟨Nat.zero_le _, Nat.zero_le _⟩ d_Md_box_54 (fun r_22 u_22 H locs q_22 hP hD hS => ?_)
          obtain ⟨rfl, hu_22⟩ := q_22
          rw [hu_22] at hP hD
          have hP : va_P D gCl (wMd t a (mBoxU (gSt σ 0 0 0) rho ord sx cx np b)) H := hP
          have hD : va_D A (wMd t a (mBoxU (gSt σ 0 0 0) rho ord sx cx np b)) := hD
          refine lv_istore_n (lv' := [(3, .int (nI (cx b))), (0, .ref (a 0)), (1, .int (nI b)), (2, .int wh)]) hx hb d_Md_box_57 rfl hl (by decide) rfl (fun ls hl => ?_)
          refine lv_iconst (v := 0) hx hb d_Md_box_58 (by decide) ?_
          refine lv_istore (lv' := [(4, .int 0), (3, .int (nI (cx b))), (0, .ref (a 0)), (1, .int (nI b)), (2, .int wh)]) hx hb d_Md_box_59 hl (by decide) rfl (fun ls hl => ?_)
          refine lv_iconst (v := 0) hx hb d_Md_box_61 (by decide) ?_
          refine lv_istore (lv' := [(5, .int 0), (4, .int 0), (3, .int (nI (cx b))), (0, .ref (a 0)), (1, .int (nI b)), (2, .int wh)]) hx hb d_Md_box_62 hl (by decide) rfl (fun ls hl => ?_)
          exact cut_64 (np + 1) b 0 0 _ _ _ (by omega) (by omega) (by omega) (rfl) (rfl) (hcd) (hL1) (hL8) ((congrFun (mBoxU_fix (gSt σ 0 0 0) rho ord sx cx np b (by omega) (by decide)) 0).trans hN) ((congrFun (mPk_fix _ _ _ _ (by omega) _) b).trans hS2.1) hP hD hS (lv_sub hl [3, 4, 5, 2, 1, 0] rfl)
        · 
          exact absurd c_21 (by decide)
      · 
        refine lv_iconst (v := 2) hx hb d_Md_box_35 (by decide) ?_
        refine lv_goto (tgt := 40) hx hb d_Md_box_36 (by decide) ?_
        refine va_put (D := D) (ci := 7) (v := .int 2) (ty := .int) (C := R_Md) (T := F_Md) (N := 34) hx hb hts (fun w h => List.mem_cons_of_mem _ (i_Md w h)) t_Md t_Md_ok n_Md hown hK.1 hP hD hS 0 (wMd_0 t a σ) rfl 0 (by decide) (hts (.fieldLink R_Md 93 "FlatBoxesModel" "code" "I") (List.mem_cons_of_mem _ (gIn k_666 (by decide +kernel)))) (fun _ h9 => h9) rfl (by decide +kernel) rfl rfl (Nat.le_of_ble_eq_true rfl) d_Md_box_40 (fun H locs hP hD hS => ?_)
        have hP : va_P D gCl (wMd t a (gSt σ 0 0 2)) H := hP
        have hD : va_D A (wMd t a (gSt σ 0 0 2)) := hD
        refine lv_aload_n hx hb d_Md_box_43 rfl (lv_at hl 0 rfl) ?_
        refine va_get (D := D) (ci := 7) (v := .int ((gSt σ 0 0 2) 0 0)) (C := R_Md) (T := F_Md) (N := 34) hx hb hts (fun w h => List.mem_cons_of_mem _ (i_Md w h)) hown hK.1 hP 0 (wMd_0 t a (gSt σ 0 0 2)) rfl 0 (by decide) (hts (.fieldLink R_Md 93 "FlatBoxesModel" "code" "I") (List.mem_cons_of_mem _ (gIn k_666 (by decide +kernel)))) (fun _ h9 => h9) rfl d_Md_box_44 ?_
        refine lv_topi (fun v_23 e_23 => ?_)
        obtain rfl : 2 = v_23 := (e_23.trans (rfl)).symm
        refine lv_if_le (tgt := 52) hx hb d_Md_box_47 (by decide) (fun c_24 => ?_) (fun c_24 => ?_)
        · 
          exact absurd c_24 (by decide)
        · 
          refine lv_iconst (v := 0) hx hb d_Md_box_50 (by decide) ?_
          exact W.iret (v := 0) hx hb hr (fun U hU hW => ⟨⟨0, gSt σ 0 0 2, rfl, by exact ⟨by simp [mBxR, mBxC, c_12, c_15, c_19, c_24], by simp [mBxU, mBxC, c_12, c_15, c_19, c_24]⟩, by rw [hU]; exact hP, hD⟩, hS.F hU⟩) hS.2.2 d_Md_box_51
  · 
    refine lv_iconst (v := 1) hx hb d_Md_box_8 (by decide) ?_
    refine lv_goto (tgt := 40) hx hb d_Md_box_9 (by decide) ?_
    refine va_put (D := D) (ci := 7) (v := .int 1) (ty := .int) (C := R_Md) (T := F_Md) (N := 34) hx hb hts (fun w h => List.mem_cons_of_mem _ (i_Md w h)) t_Md t_Md_ok n_Md hown hK.1 hP hD hS 0 (wMd_0 t a σ) rfl 0 (by decide) (hts (.fieldLink R_Md 93 "FlatBoxesModel" "code" "I") (List.mem_cons_of_mem _ (gIn k_666 (by decide +kernel)))) (fun _ h9 => h9) rfl (by decide +kernel) rfl rfl (Nat.le_of_ble_eq_true rfl) d_Md_box_40 (fun H locs hP hD hS => ?_)
    have hP : va_P D gCl (wMd t a (gSt σ 0 0 1)) H := hP
    have hD : va_D A (wMd t a (gSt σ 0 0 1)) := hD
    refine lv_aload_n hx hb d_Md_box_43 rfl (lv_at hl 0 rfl) ?_
    refine va_get (D := D) (ci := 7) (v := .int ((gSt σ 0 0 1) 0 0)) (C := R_Md) (T := F_Md) (N := 34) hx hb hts (fun w h => List.mem_cons_of_mem _ (i_Md w h)) hown hK.1 hP 0 (wMd_0 t a (gSt σ 0 0 1)) rfl 0 (by decide) (hts (.fieldLink R_Md 93 "FlatBoxesModel" "code" "I") (List.mem_cons_of_mem _ (gIn k_666 (by decide +kernel)))) (fun _ h9 => h9) rfl d_Md_box_44 ?_
    refine lv_topi (fun v_25 e_25 => ?_)
    obtain rfl : 1 = v_25 := (e_25.trans (rfl)).symm
    refine lv_if_le (tgt := 52) hx hb d_Md_box_47 (by decide) (fun c_26 => ?_) (fun c_26 => ?_)
    · 
      exact absurd c_26 (by decide)
    · 
      refine lv_iconst (v := 0) hx hb d_Md_box_50 (by decide) ?_
      exact W.iret (v := 0) hx hb hr (fun U hU hW => ⟨⟨0, gSt σ 0 0 1, rfl, by exact ⟨by simp [mBxR, mBxC, c_12, c_26], by simp [mBxU, mBxC, c_12, c_26]⟩, by rw [hU]; exact hP, hD⟩, hS.F hU⟩) hS.2.2 d_Md_box_51
